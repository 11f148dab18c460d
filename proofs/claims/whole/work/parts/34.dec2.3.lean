theorem d_Rg_readBounds_61 : decode prog_5_method_5_code 61 = .ok (.dup, 1) := by decide +kernel
theorem d_Rg_readBounds_62 : decode prog_5_method_5_code 62 = .ok (.aload 4, 2) := by decide +kernel
theorem d_Rg_readBounds_64 : decode prog_5_method_5_code 64 = .ok (.invokespecial 29, 3) := by decide +kernel
theorem d_Rg_readBounds_67 : decode prog_5_method_5_code 67 = .ok (.astore 6, 2) := by decide +kernel
theorem d_Rg_readBounds_69 : decode prog_5_method_5_code 69 = .ok (.aload 5, 2) := by decide +kernel
theorem d_Rg_readBounds_71 : decode prog_5_method_5_code 71 = .ok (.invokevirtual 68, 3) := by decide +kernel
theorem d_Rg_readBounds_74 : decode prog_5_method_5_code 74 = .ok (.ifCond .eq 7, 3) := by decide +kernel
theorem d_Rg_readBounds_77 : decode prog_5_method_5_code 77 = .ok (.aconst_null, 1) := by decide +kernel
theorem d_Rg_readBounds_78 : decode prog_5_method_5_code 78 = .ok (.goto 12, 3) := by decide +kernel
theorem d_Rg_readBounds_81 : decode prog_5_method_5_code 81 = .ok (.new 24, 3) := by decide +kernel
theorem d_Rg_readBounds_84 : decode prog_5_method_5_code 84 = .ok (.dup, 1) := by decide +kernel
theorem d_Rg_readBounds_85 : decode prog_5_method_5_code 85 = .ok (.aload 5, 2) := by decide +kernel
theorem d_Rg_readBounds_87 : decode prog_5_method_5_code 87 = .ok (.invokespecial 29, 3) := by decide +kernel
theorem d_Rg_readBounds_90 : decode prog_5_method_5_code 90 = .ok (.astore 7, 2) := by decide +kernel
theorem d_Rg_readBounds_92 : decode prog_5_method_5_code 92 = .ok (.new 8, 3) := by decide +kernel
theorem d_Rg_readBounds_95 : decode prog_5_method_5_code 95 = .ok (.dup, 1) := by decide +kernel
theorem d_Rg_readBounds_96 : decode prog_5_method_5_code 96 = .ok (.aload 6, 2) := by decide +kernel
theorem d_Rg_readBounds_98 : decode prog_5_method_5_code 98 = .ok (.iload_n 1, 1) := by decide +kernel
theorem d_Rg_readBounds_99 : decode prog_5_method_5_code 99 = .ok (.aload 7, 2) := by decide +kernel
theorem d_Rg_readBounds_101 : decode prog_5_method_5_code 101 = .ok (.iload_n 2, 1) := by decide +kernel
theorem d_Rg_readBounds_102 : decode prog_5_method_5_code 102 = .ok (.invokespecial 32, 3) := by decide +kernel
theorem d_Rg_readBounds_105 : decode prog_5_method_5_code 105 = .ok (.areturn, 1) := by decide +kernel
theorem d_Rg_isBound_0 : decode prog_5_method_6_code 0 = .ok (.aload_n 0, 1) := by decide +kernel
theorem d_Rg_isBound_1 : decode prog_5_method_6_code 1 = .ok (.invokevirtual 68, 3) := by decide +kernel
theorem d_Rg_isBound_4 : decode prog_5_method_6_code 4 = .ok (.ifCond .ne 10, 3) := by decide +kernel
theorem d_Rg_isBound_7 : decode prog_5_method_6_code 7 = .ok (.aload_n 0, 1) := by decide +kernel
theorem d_Rg_isBound_8 : decode prog_5_method_6_code 8 = .ok (.invokestatic 23, 3) := by decide +kernel
theorem d_Rg_isBound_11 : decode prog_5_method_6_code 11 = .ok (.ifCond .eq 7, 3) := by decide +kernel
theorem d_Rg_isBound_14 : decode prog_5_method_6_code 14 = .ok (.iconst 1, 1) := by decide +kernel
theorem d_Rg_isBound_15 : decode prog_5_method_6_code 15 = .ok (.goto 4, 3) := by decide +kernel
theorem d_Rg_isBound_18 : decode prog_5_method_6_code 18 = .ok (.iconst 0, 1) := by decide +kernel
theorem d_Rg_isBound_19 : decode prog_5_method_6_code 19 = .ok (.ireturn, 1) := by decide +kernel
theorem d_Rg_readExact_0 : decode prog_5_method_4_code 0 = .ok (.aload_n 0, 1) := by decide +kernel
theorem d_Rg_readExact_1 : decode prog_5_method_4_code 1 = .ok (.invokestatic 23, 3) := by decide +kernel
theorem d_Rg_readExact_4 : decode prog_5_method_4_code 4 = .ok (.ifCond .ne 5, 3) := by decide +kernel
theorem d_Rg_readExact_7 : decode prog_5_method_4_code 7 = .ok (.aconst_null, 1) := by decide +kernel
theorem d_Rg_readExact_8 : decode prog_5_method_4_code 8 = .ok (.areturn, 1) := by decide +kernel
theorem d_Rg_readExact_9 : decode prog_5_method_4_code 9 = .ok (.new 24, 3) := by decide +kernel
theorem d_Rg_readExact_12 : decode prog_5_method_4_code 12 = .ok (.dup, 1) := by decide +kernel
theorem d_Rg_readExact_13 : decode prog_5_method_4_code 13 = .ok (.aload_n 0, 1) := by decide +kernel
theorem d_Rg_readExact_14 : decode prog_5_method_4_code 14 = .ok (.invokespecial 29, 3) := by decide +kernel
theorem d_Rg_readExact_17 : decode prog_5_method_4_code 17 = .ok (.astore_n 1, 1) := by decide +kernel
theorem d_Rg_readExact_18 : decode prog_5_method_4_code 18 = .ok (.new 8, 3) := by decide +kernel
theorem d_Rg_readExact_21 : decode prog_5_method_4_code 21 = .ok (.dup, 1) := by decide +kernel
theorem d_Rg_readExact_22 : decode prog_5_method_4_code 22 = .ok (.aload_n 1, 1) := by decide +kernel
theorem d_Rg_readExact_23 : decode prog_5_method_4_code 23 = .ok (.iconst 1, 1) := by decide +kernel
theorem d_Rg_readExact_24 : decode prog_5_method_4_code 24 = .ok (.aload_n 1, 1) := by decide +kernel
theorem d_Rg_readExact_25 : decode prog_5_method_4_code 25 = .ok (.iconst 1, 1) := by decide +kernel
theorem d_Rg_readExact_26 : decode prog_5_method_4_code 26 = .ok (.invokespecial 32, 3) := by decide +kernel
theorem d_Rg_readExact_29 : decode prog_5_method_4_code 29 = .ok (.areturn, 1) := by decide +kernel
theorem d_Rg_holds_0 : decode prog_5_method_3_code 0 = .ok (.aload_n 0, 1) := by decide +kernel
theorem d_Rg_holds_1 : decode prog_5_method_3_code 1 = .ok (.getfield 7, 3) := by decide +kernel
theorem d_Rg_holds_4 : decode prog_5_method_3_code 4 = .ok (.ifnull 28, 3) := by decide +kernel
theorem d_Rg_holds_7 : decode prog_5_method_3_code 7 = .ok (.aload_n 1, 1) := by decide +kernel
theorem d_Rg_holds_8 : decode prog_5_method_3_code 8 = .ok (.aload_n 0, 1) := by decide +kernel
theorem d_Rg_holds_9 : decode prog_5_method_3_code 9 = .ok (.getfield 7, 3) := by decide +kernel
theorem d_Rg_holds_12 : decode prog_5_method_3_code 12 = .ok (.invokevirtual 61, 3) := by decide +kernel
theorem d_Rg_holds_15 : decode prog_5_method_3_code 15 = .ok (.aload_n 0, 1) := by decide +kernel
theorem d_Rg_holds_16 : decode prog_5_method_3_code 16 = .ok (.getfield 13, 3) := by decide +kernel
theorem d_Rg_holds_19 : decode prog_5_method_3_code 19 = .ok (.ifCond .eq 7, 3) := by decide +kernel
theorem d_Rg_holds_22 : decode prog_5_method_3_code 22 = .ok (.iconst 0, 1) := by decide +kernel
theorem d_Rg_holds_23 : decode prog_5_method_3_code 23 = .ok (.goto 4, 3) := by decide +kernel
theorem d_Rg_holds_26 : decode prog_5_method_3_code 26 = .ok (.iconst 1, 1) := by decide +kernel
theorem d_Rg_holds_27 : decode prog_5_method_3_code 27 = .ok (.if_icmp .ge 5, 3) := by decide +kernel
theorem d_Rg_holds_30 : decode prog_5_method_3_code 30 = .ok (.iconst 0, 1) := by decide +kernel
theorem d_Rg_holds_31 : decode prog_5_method_3_code 31 = .ok (.ireturn, 1) := by decide +kernel
theorem d_Rg_holds_32 : decode prog_5_method_3_code 32 = .ok (.aload_n 0, 1) := by decide +kernel
theorem d_Rg_holds_33 : decode prog_5_method_3_code 33 = .ok (.getfield 17, 3) := by decide +kernel
theorem d_Rg_holds_36 : decode prog_5_method_3_code 36 = .ok (.ifnull 26, 3) := by decide +kernel
theorem d_Rg_holds_39 : decode prog_5_method_3_code 39 = .ok (.aload_n 1, 1) := by decide +kernel
theorem d_Rg_holds_40 : decode prog_5_method_3_code 40 = .ok (.aload_n 0, 1) := by decide +kernel
theorem d_Rg_holds_41 : decode prog_5_method_3_code 41 = .ok (.getfield 17, 3) := by decide +kernel
theorem d_Rg_holds_44 : decode prog_5_method_3_code 44 = .ok (.invokevirtual 61, 3) := by decide +kernel
theorem d_Rg_holds_47 : decode prog_5_method_3_code 47 = .ok (.aload_n 0, 1) := by decide +kernel
theorem d_Rg_holds_48 : decode prog_5_method_3_code 48 = .ok (.getfield 20, 3) := by decide +kernel
theorem d_Rg_holds_51 : decode prog_5_method_3_code 51 = .ok (.ifCond .eq 7, 3) := by decide +kernel
theorem d_Rg_holds_54 : decode prog_5_method_3_code 54 = .ok (.iconst 0, 1) := by decide +kernel
theorem d_Rg_holds_55 : decode prog_5_method_3_code 55 = .ok (.goto 4, 3) := by decide +kernel
theorem d_Rg_holds_58 : decode prog_5_method_3_code 58 = .ok (.iconst (-1), 1) := by decide +kernel
theorem d_Rg_holds_59 : decode prog_5_method_3_code 59 = .ok (.if_icmp .gt 7, 3) := by decide +kernel
theorem d_Rg_holds_62 : decode prog_5_method_3_code 62 = .ok (.iconst 1, 1) := by decide +kernel
theorem d_Rg_holds_63 : decode prog_5_method_3_code 63 = .ok (.goto 4, 3) := by decide +kernel
theorem d_Rg_holds_66 : decode prog_5_method_3_code 66 = .ok (.iconst 0, 1) := by decide +kernel
theorem d_Rg_holds_67 : decode prog_5_method_3_code 67 = .ok (.ireturn, 1) := by decide +kernel
theorem d_Nd_init_0 : decode prog_3_method_1_code 0 = .ok (.aload_n 0, 1) := by decide +kernel
theorem d_Nd_init_1 : decode prog_3_method_1_code 1 = .ok (.invokespecial 1, 3) := by decide +kernel
theorem d_Nd_init_4 : decode prog_3_method_1_code 4 = .ok (.aload_n 0, 1) := by decide +kernel
theorem d_Nd_init_5 : decode prog_3_method_1_code 5 = .ok (.iload_n 1, 1) := by decide +kernel
theorem d_Nd_init_6 : decode prog_3_method_1_code 6 = .ok (.putfield 7, 3) := by decide +kernel
theorem d_Nd_init_9 : decode prog_3_method_1_code 9 = .ok (.aload_n 0, 1) := by decide +kernel
theorem d_Nd_init_10 : decode prog_3_method_1_code 10 = .ok (.aload_n 2, 1) := by decide +kernel
theorem d_Nd_init_11 : decode prog_3_method_1_code 11 = .ok (.putfield 13, 3) := by decide +kernel
theorem d_Nd_init_14 : decode prog_3_method_1_code 14 = .ok (.aload_n 0, 1) := by decide +kernel
theorem d_Nd_init_15 : decode prog_3_method_1_code 15 = .ok (.iload_n 3, 1) := by decide +kernel
theorem d_Nd_init_16 : decode prog_3_method_1_code 16 = .ok (.putfield 17, 3) := by decide +kernel
theorem d_Nd_init_19 : decode prog_3_method_1_code 19 = .ok (.return_, 1) := by decide +kernel
theorem d_Ak_init_0 : decode prog_2_method_1_code 0 = .ok (.aload_n 0, 1) := by decide +kernel
theorem d_Ak_init_1 : decode prog_2_method_1_code 1 = .ok (.invokespecial 1, 3) := by decide +kernel
theorem d_Ak_init_4 : decode prog_2_method_1_code 4 = .ok (.aload_n 0, 1) := by decide +kernel
theorem d_Ak_init_5 : decode prog_2_method_1_code 5 = .ok (.iload_n 1, 1) := by decide +kernel
theorem d_Ak_init_6 : decode prog_2_method_1_code 6 = .ok (.putfield 7, 3) := by decide +kernel
theorem d_Ak_init_9 : decode prog_2_method_1_code 9 = .ok (.aload_n 0, 1) := by decide +kernel
theorem d_Ak_init_10 : decode prog_2_method_1_code 10 = .ok (.aload_n 2, 1) := by decide +kernel
theorem d_Ak_init_11 : decode prog_2_method_1_code 11 = .ok (.putfield 13, 3) := by decide +kernel
theorem d_Ak_init_14 : decode prog_2_method_1_code 14 = .ok (.return_, 1) := by decide +kernel
theorem d_St_length_0 : decode prog_17_method_54_code 0 = .ok (.aload_n 0, 1) := by decide +kernel
theorem d_St_length_1 : decode prog_17_method_54_code 1 = .ok (.getfield 9, 3) := by decide +kernel
theorem d_St_length_4 : decode prog_17_method_54_code 4 = .ok (.arraylength, 1) := by decide +kernel
theorem d_St_length_5 : decode prog_17_method_54_code 5 = .ok (.aload_n 0, 1) := by decide +kernel
theorem d_St_length_6 : decode prog_17_method_54_code 6 = .ok (.invokevirtual 335, 3) := by decide +kernel
theorem d_St_length_9 : decode prog_17_method_54_code 9 = .ok (.ishr, 1) := by decide +kernel
theorem d_St_length_10 : decode prog_17_method_54_code 10 = .ok (.ireturn, 1) := by decide +kernel
theorem d_St_coder_0 : decode prog_17_method_152_code 0 = .ok (.getstatic 38, 3) := by decide +kernel
theorem d_St_coder_3 : decode prog_17_method_152_code 3 = .ok (.ifCond .eq 10, 3) := by decide +kernel
theorem d_St_coder_6 : decode prog_17_method_152_code 6 = .ok (.aload_n 0, 1) := by decide +kernel
theorem d_St_coder_7 : decode prog_17_method_152_code 7 = .ok (.getfield 15, 3) := by decide +kernel
theorem d_St_coder_10 : decode prog_17_method_152_code 10 = .ok (.goto 4, 3) := by decide +kernel
theorem d_St_coder_13 : decode prog_17_method_152_code 13 = .ok (.iconst 1, 1) := by decide +kernel
theorem d_St_coder_14 : decode prog_17_method_152_code 14 = .ok (.ireturn, 1) := by decide +kernel
theorem d_St_charAt_0 : decode prog_17_method_56_code 0 = .ok (.aload_n 0, 1) := by decide +kernel
theorem d_St_charAt_1 : decode prog_17_method_56_code 1 = .ok (.invokevirtual 492, 3) := by decide +kernel
theorem d_St_charAt_4 : decode prog_17_method_56_code 4 = .ok (.ifCond .eq 12, 3) := by decide +kernel
theorem d_St_charAt_7 : decode prog_17_method_56_code 7 = .ok (.aload_n 0, 1) := by decide +kernel
theorem d_St_charAt_8 : decode prog_17_method_56_code 8 = .ok (.getfield 9, 3) := by decide +kernel
theorem d_St_charAt_11 : decode prog_17_method_56_code 11 = .ok (.iload_n 1, 1) := by decide +kernel
theorem d_St_charAt_12 : decode prog_17_method_56_code 12 = .ok (.invokestatic 495, 3) := by decide +kernel
theorem d_St_charAt_15 : decode prog_17_method_56_code 15 = .ok (.ireturn, 1) := by decide +kernel
theorem d_St_charAt_16 : decode prog_17_method_56_code 16 = .ok (.aload_n 0, 1) := by decide +kernel
theorem d_St_charAt_17 : decode prog_17_method_56_code 17 = .ok (.getfield 9, 3) := by decide +kernel
theorem d_St_charAt_20 : decode prog_17_method_56_code 20 = .ok (.iload_n 1, 1) := by decide +kernel
theorem d_St_charAt_21 : decode prog_17_method_56_code 21 = .ok (.invokestatic 498, 3) := by decide +kernel
theorem d_St_charAt_24 : decode prog_17_method_56_code 24 = .ok (.ireturn, 1) := by decide +kernel
theorem d_St_isLatin1_0 : decode prog_17_method_154_code 0 = .ok (.getstatic 38, 3) := by decide +kernel
theorem d_St_isLatin1_3 : decode prog_17_method_154_code 3 = .ok (.ifCond .eq 14, 3) := by decide +kernel
theorem d_St_isLatin1_6 : decode prog_17_method_154_code 6 = .ok (.aload_n 0, 1) := by decide +kernel
theorem d_St_isLatin1_7 : decode prog_17_method_154_code 7 = .ok (.getfield 15, 3) := by decide +kernel
theorem d_St_isLatin1_10 : decode prog_17_method_154_code 10 = .ok (.ifCond .ne 7, 3) := by decide +kernel
theorem d_St_isLatin1_13 : decode prog_17_method_154_code 13 = .ok (.iconst 1, 1) := by decide +kernel
theorem d_St_isLatin1_14 : decode prog_17_method_154_code 14 = .ok (.goto 4, 3) := by decide +kernel
theorem d_St_isLatin1_17 : decode prog_17_method_154_code 17 = .ok (.iconst 0, 1) := by decide +kernel
theorem d_St_isLatin1_18 : decode prog_17_method_154_code 18 = .ok (.ireturn, 1) := by decide +kernel
theorem d_St_checkIndex_0 : decode prog_17_method_155_code 0 = .ok (.iload_n 0, 1) := by decide +kernel
theorem d_St_checkIndex_1 : decode prog_17_method_155_code 1 = .ok (.iload_n 1, 1) := by decide +kernel
theorem d_St_checkIndex_2 : decode prog_17_method_155_code 2 = .ok (.getstatic 1053, 3) := by decide +kernel
theorem d_St_checkIndex_5 : decode prog_17_method_155_code 5 = .ok (.invokestatic 1059, 3) := by decide +kernel
theorem d_St_checkIndex_8 : decode prog_17_method_155_code 8 = .ok (.pop, 1) := by decide +kernel
theorem d_St_checkIndex_9 : decode prog_17_method_155_code 9 = .ok (.return_, 1) := by decide +kernel
theorem d_St_substring_0 : decode prog_17_method_92_code 0 = .ok (.aload_n 0, 1) := by decide +kernel
theorem d_St_substring_1 : decode prog_17_method_92_code 1 = .ok (.invokevirtual 505, 3) := by decide +kernel
theorem d_St_substring_4 : decode prog_17_method_92_code 4 = .ok (.istore_n 3, 1) := by decide +kernel
theorem d_St_substring_5 : decode prog_17_method_92_code 5 = .ok (.iload_n 1, 1) := by decide +kernel
theorem d_St_substring_6 : decode prog_17_method_92_code 6 = .ok (.iload_n 2, 1) := by decide +kernel
theorem d_St_substring_7 : decode prog_17_method_92_code 7 = .ok (.iload_n 3, 1) := by decide +kernel
theorem d_St_substring_8 : decode prog_17_method_92_code 8 = .ok (.invokestatic 521, 3) := by decide +kernel
theorem d_St_substring_11 : decode prog_17_method_92_code 11 = .ok (.iload_n 1, 1) := by decide +kernel
theorem d_St_substring_12 : decode prog_17_method_92_code 12 = .ok (.ifCond .ne 10, 3) := by decide +kernel
theorem d_St_substring_15 : decode prog_17_method_92_code 15 = .ok (.iload_n 2, 1) := by decide +kernel
theorem d_St_substring_16 : decode prog_17_method_92_code 16 = .ok (.iload_n 3, 1) := by decide +kernel
theorem d_St_substring_17 : decode prog_17_method_92_code 17 = .ok (.if_icmp .ne 5, 3) := by decide +kernel
theorem d_St_substring_20 : decode prog_17_method_92_code 20 = .ok (.aload_n 0, 1) := by decide +kernel
theorem d_St_substring_21 : decode prog_17_method_92_code 21 = .ok (.areturn, 1) := by decide +kernel
theorem d_St_substring_22 : decode prog_17_method_92_code 22 = .ok (.iload_n 2, 1) := by decide +kernel
theorem d_St_substring_23 : decode prog_17_method_92_code 23 = .ok (.iload_n 1, 1) := by decide +kernel
theorem d_St_substring_24 : decode prog_17_method_92_code 24 = .ok (.isub, 1) := by decide +kernel
theorem d_St_substring_25 : decode prog_17_method_92_code 25 = .ok (.istore 4, 2) := by decide +kernel
theorem d_St_substring_27 : decode prog_17_method_92_code 27 = .ok (.aload_n 0, 1) := by decide +kernel
theorem d_St_substring_28 : decode prog_17_method_92_code 28 = .ok (.invokevirtual 492, 3) := by decide +kernel
theorem d_St_substring_31 : decode prog_17_method_92_code 31 = .ok (.ifCond .eq 16, 3) := by decide +kernel
theorem d_St_substring_34 : decode prog_17_method_92_code 34 = .ok (.aload_n 0, 1) := by decide +kernel
theorem d_St_substring_35 : decode prog_17_method_92_code 35 = .ok (.getfield 9, 3) := by decide +kernel
theorem d_St_substring_38 : decode prog_17_method_92_code 38 = .ok (.iload_n 1, 1) := by decide +kernel
theorem d_St_substring_39 : decode prog_17_method_92_code 39 = .ok (.iload 4, 2) := by decide +kernel
theorem d_St_substring_41 : decode prog_17_method_92_code 41 = .ok (.invokestatic 685, 3) := by decide +kernel
theorem d_St_substring_44 : decode prog_17_method_92_code 44 = .ok (.goto 13, 3) := by decide +kernel
theorem d_St_substring_47 : decode prog_17_method_92_code 47 = .ok (.aload_n 0, 1) := by decide +kernel
theorem d_St_substring_48 : decode prog_17_method_92_code 48 = .ok (.getfield 9, 3) := by decide +kernel
theorem d_St_substring_51 : decode prog_17_method_92_code 51 = .ok (.iload_n 1, 1) := by decide +kernel
theorem d_St_substring_52 : decode prog_17_method_92_code 52 = .ok (.iload 4, 2) := by decide +kernel
theorem d_St_substring_54 : decode prog_17_method_92_code 54 = .ok (.invokestatic 689, 3) := by decide +kernel
theorem d_St_substring_57 : decode prog_17_method_92_code 57 = .ok (.areturn, 1) := by decide +kernel
theorem d_St_checkBoundsBeginEnd_0 : decode prog_17_method_158_code 0 = .ok (.iload_n 0, 1) := by decide +kernel
theorem d_St_checkBoundsBeginEnd_1 : decode prog_17_method_158_code 1 = .ok (.iload_n 1, 1) := by decide +kernel
theorem d_St_checkBoundsBeginEnd_2 : decode prog_17_method_158_code 2 = .ok (.iload_n 2, 1) := by decide +kernel
theorem d_St_checkBoundsBeginEnd_3 : decode prog_17_method_158_code 3 = .ok (.getstatic 1053, 3) := by decide +kernel
theorem d_St_checkBoundsBeginEnd_6 : decode prog_17_method_158_code 6 = .ok (.invokestatic 1062, 3) := by decide +kernel
theorem d_St_checkBoundsBeginEnd_9 : decode prog_17_method_158_code 9 = .ok (.pop, 1) := by decide +kernel
theorem d_St_checkBoundsBeginEnd_10 : decode prog_17_method_158_code 10 = .ok (.return_, 1) := by decide +kernel
theorem d_St_init_0 : decode prog_17_method_151_code 0 = .ok (.aload_n 0, 1) := by decide +kernel
theorem d_St_init_1 : decode prog_17_method_151_code 1 = .ok (.invokespecial 1, 3) := by decide +kernel
theorem d_St_init_4 : decode prog_17_method_151_code 4 = .ok (.aload_n 0, 1) := by decide +kernel
theorem d_St_init_5 : decode prog_17_method_151_code 5 = .ok (.aload_n 1, 1) := by decide +kernel
theorem d_St_init_6 : decode prog_17_method_151_code 6 = .ok (.putfield 9, 3) := by decide +kernel
theorem d_St_init_9 : decode prog_17_method_151_code 9 = .ok (.aload_n 0, 1) := by decide +kernel
theorem d_St_init_10 : decode prog_17_method_151_code 10 = .ok (.iload_n 2, 1) := by decide +kernel
theorem d_St_init_11 : decode prog_17_method_151_code 11 = .ok (.putfield 15, 3) := by decide +kernel
theorem d_St_init_14 : decode prog_17_method_151_code 14 = .ok (.return_, 1) := by decide +kernel
theorem d_St_checkBoundsOffCount_0 : decode prog_17_method_157_code 0 = .ok (.iload_n 0, 1) := by decide +kernel
theorem d_St_checkBoundsOffCount_1 : decode prog_17_method_157_code 1 = .ok (.iload_n 1, 1) := by decide +kernel
theorem d_St_checkBoundsOffCount_2 : decode prog_17_method_157_code 2 = .ok (.iload_n 2, 1) := by decide +kernel
theorem d_St_checkBoundsOffCount_3 : decode prog_17_method_157_code 3 = .ok (.getstatic 1053, 3) := by decide +kernel
theorem d_St_checkBoundsOffCount_6 : decode prog_17_method_157_code 6 = .ok (.invokestatic 1065, 3) := by decide +kernel
theorem d_St_checkBoundsOffCount_9 : decode prog_17_method_157_code 9 = .ok (.ireturn, 1) := by decide +kernel
theorem d_St_equals_0 : decode prog_17_method_66_code 0 = .ok (.aload_n 0, 1) := by decide +kernel
theorem d_St_equals_1 : decode prog_17_method_66_code 1 = .ok (.aload_n 1, 1) := by decide +kernel
theorem d_St_equals_2 : decode prog_17_method_66_code 2 = .ok (.if_acmp .ne 5, 3) := by decide +kernel
theorem d_St_equals_5 : decode prog_17_method_66_code 5 = .ok (.iconst 1, 1) := by decide +kernel
theorem d_St_equals_6 : decode prog_17_method_66_code 6 = .ok (.ireturn, 1) := by decide +kernel
theorem d_St_equals_7 : decode prog_17_method_66_code 7 = .ok (.aload_n 1, 1) := by decide +kernel
theorem d_St_equals_8 : decode prog_17_method_66_code 8 = .ok (.instanceof 10, 3) := by decide +kernel
theorem d_St_equals_11 : decode prog_17_method_66_code 11 = .ok (.ifCond .eq 43, 3) := by decide +kernel
theorem d_St_equals_14 : decode prog_17_method_66_code 14 = .ok (.aload_n 1, 1) := by decide +kernel
theorem d_St_equals_15 : decode prog_17_method_66_code 15 = .ok (.checkcast 10, 3) := by decide +kernel
theorem d_St_equals_18 : decode prog_17_method_66_code 18 = .ok (.astore_n 2, 1) := by decide +kernel
theorem d_St_equals_19 : decode prog_17_method_66_code 19 = .ok (.getstatic 38, 3) := by decide +kernel
theorem d_St_equals_22 : decode prog_17_method_66_code 22 = .ok (.ifCond .eq 14, 3) := by decide +kernel
theorem d_St_equals_25 : decode prog_17_method_66_code 25 = .ok (.aload_n 0, 1) := by decide +kernel
theorem d_St_equals_26 : decode prog_17_method_66_code 26 = .ok (.getfield 15, 3) := by decide +kernel
theorem d_St_equals_29 : decode prog_17_method_66_code 29 = .ok (.aload_n 2, 1) := by decide +kernel
theorem d_St_equals_30 : decode prog_17_method_66_code 30 = .ok (.getfield 15, 3) := by decide +kernel
theorem d_St_equals_33 : decode prog_17_method_66_code 33 = .ok (.if_icmp .ne 21, 3) := by decide +kernel
theorem d_St_equals_36 : decode prog_17_method_66_code 36 = .ok (.aload_n 0, 1) := by decide +kernel
theorem d_St_equals_37 : decode prog_17_method_66_code 37 = .ok (.getfield 9, 3) := by decide +kernel
theorem d_St_equals_40 : decode prog_17_method_66_code 40 = .ok (.aload_n 2, 1) := by decide +kernel
theorem d_St_equals_41 : decode prog_17_method_66_code 41 = .ok (.getfield 9, 3) := by decide +kernel
theorem d_St_equals_44 : decode prog_17_method_66_code 44 = .ok (.invokestatic 541, 3) := by decide +kernel
theorem d_St_equals_47 : decode prog_17_method_66_code 47 = .ok (.ifCond .eq 7, 3) := by decide +kernel
theorem d_St_equals_50 : decode prog_17_method_66_code 50 = .ok (.iconst 1, 1) := by decide +kernel
theorem d_St_equals_51 : decode prog_17_method_66_code 51 = .ok (.goto 4, 3) := by decide +kernel
theorem d_St_equals_54 : decode prog_17_method_66_code 54 = .ok (.iconst 0, 1) := by decide +kernel
theorem d_St_equals_55 : decode prog_17_method_66_code 55 = .ok (.ireturn, 1) := by decide +kernel
theorem d_St_init2_0 : decode prog_17_method_53_code 0 = .ok (.aload_n 0, 1) := by decide +kernel
theorem d_St_init2_1 : decode prog_17_method_53_code 1 = .ok (.aload_n 1, 1) := by decide +kernel
theorem d_St_init2_2 : decode prog_17_method_53_code 2 = .ok (.aconst_null, 1) := by decide +kernel
theorem d_St_init2_3 : decode prog_17_method_53_code 3 = .ok (.invokespecial 489, 3) := by decide +kernel
theorem d_St_init2_6 : decode prog_17_method_53_code 6 = .ok (.return_, 1) := by decide +kernel
theorem d_St_init3_0 : decode prog_17_method_150_code 0 = .ok (.aload_n 0, 1) := by decide +kernel
theorem d_St_init3_1 : decode prog_17_method_150_code 1 = .ok (.invokespecial 1, 3) := by decide +kernel
theorem d_St_init3_4 : decode prog_17_method_150_code 4 = .ok (.aload_n 1, 1) := by decide +kernel
theorem d_St_init3_5 : decode prog_17_method_150_code 5 = .ok (.invokevirtual 552, 3) := by decide +kernel
theorem d_St_init3_8 : decode prog_17_method_150_code 8 = .ok (.astore_n 3, 1) := by decide +kernel
theorem d_St_init3_9 : decode prog_17_method_150_code 9 = .ok (.aload_n 1, 1) := by decide +kernel
theorem d_St_init3_10 : decode prog_17_method_150_code 10 = .ok (.invokevirtual 549, 3) := by decide +kernel
theorem d_St_init3_13 : decode prog_17_method_150_code 13 = .ok (.istore 4, 2) := by decide +kernel
theorem d_St_init3_15 : decode prog_17_method_150_code 15 = .ok (.aload_n 1, 1) := by decide +kernel
theorem d_St_init3_16 : decode prog_17_method_150_code 16 = .ok (.invokevirtual 1047, 3) := by decide +kernel
theorem d_St_init3_19 : decode prog_17_method_150_code 19 = .ok (.ifCond .eq 22, 3) := by decide +kernel
theorem d_St_init3_22 : decode prog_17_method_150_code 22 = .ok (.aload_n 0, 1) := by decide +kernel
theorem d_St_init3_23 : decode prog_17_method_150_code 23 = .ok (.iconst 0, 1) := by decide +kernel
theorem d_St_init3_24 : decode prog_17_method_150_code 24 = .ok (.putfield 15, 3) := by decide +kernel
theorem d_St_init3_27 : decode prog_17_method_150_code 27 = .ok (.aload_n 0, 1) := by decide +kernel
theorem d_St_init3_28 : decode prog_17_method_150_code 28 = .ok (.aload_n 3, 1) := by decide +kernel
theorem d_St_init3_29 : decode prog_17_method_150_code 29 = .ok (.iconst 0, 1) := by decide +kernel
theorem d_St_init3_30 : decode prog_17_method_150_code 30 = .ok (.iload 4, 2) := by decide +kernel
theorem d_St_init3_32 : decode prog_17_method_150_code 32 = .ok (.invokestatic 54, 3) := by decide +kernel
theorem d_St_init3_35 : decode prog_17_method_150_code 35 = .ok (.putfield 9, 3) := by decide +kernel
theorem d_St_init3_38 : decode prog_17_method_150_code 38 = .ok (.goto 59, 3) := by decide +kernel
theorem d_St_init3_41 : decode prog_17_method_150_code 41 = .ok (.getstatic 38, 3) := by decide +kernel
theorem d_St_init3_44 : decode prog_17_method_150_code 44 = .ok (.ifCond .eq 35, 3) := by decide +kernel
theorem d_St_init3_47 : decode prog_17_method_150_code 47 = .ok (.aload_n 1, 1) := by decide +kernel
theorem d_St_init3_48 : decode prog_17_method_150_code 48 = .ok (.getfield 1048, 3) := by decide +kernel
theorem d_St_init3_51 : decode prog_17_method_150_code 51 = .ok (.ifCond .eq 28, 3) := by decide +kernel
theorem d_St_init3_54 : decode prog_17_method_150_code 54 = .ok (.aload_n 0, 1) := by decide +kernel
theorem d_St_init3_55 : decode prog_17_method_150_code 55 = .ok (.aload_n 3, 1) := by decide +kernel
theorem d_St_init3_56 : decode prog_17_method_150_code 56 = .ok (.iconst 0, 1) := by decide +kernel
theorem d_St_init3_57 : decode prog_17_method_150_code 57 = .ok (.iload 4, 2) := by decide +kernel
theorem d_St_init3_59 : decode prog_17_method_150_code 59 = .ok (.invokestatic 1051, 3) := by decide +kernel
theorem d_St_init3_62 : decode prog_17_method_150_code 62 = .ok (.putfield 9, 3) := by decide +kernel
theorem d_St_init3_65 : decode prog_17_method_150_code 65 = .ok (.aload_n 0, 1) := by decide +kernel
theorem d_St_init3_66 : decode prog_17_method_150_code 66 = .ok (.aload_n 0, 1) := by decide +kernel
theorem d_St_init3_67 : decode prog_17_method_150_code 67 = .ok (.getfield 9, 3) := by decide +kernel
theorem d_St_init3_70 : decode prog_17_method_150_code 70 = .ok (.iload 4, 2) := by decide +kernel
theorem d_St_init3_72 : decode prog_17_method_150_code 72 = .ok (.invokestatic 47, 3) := by decide +kernel
theorem d_St_init3_75 : decode prog_17_method_150_code 75 = .ok (.putfield 15, 3) := by decide +kernel
theorem d_St_init3_78 : decode prog_17_method_150_code 78 = .ok (.return_, 1) := by decide +kernel
theorem d_St_init3_79 : decode prog_17_method_150_code 79 = .ok (.aload_n 0, 1) := by decide +kernel
theorem d_St_init3_80 : decode prog_17_method_150_code 80 = .ok (.iconst 1, 1) := by decide +kernel
theorem d_St_init3_81 : decode prog_17_method_150_code 81 = .ok (.putfield 15, 3) := by decide +kernel
theorem d_St_init3_84 : decode prog_17_method_150_code 84 = .ok (.aload_n 0, 1) := by decide +kernel
theorem d_St_init3_85 : decode prog_17_method_150_code 85 = .ok (.aload_n 3, 1) := by decide +kernel
theorem d_St_init3_86 : decode prog_17_method_150_code 86 = .ok (.iconst 0, 1) := by decide +kernel
theorem d_St_init3_87 : decode prog_17_method_150_code 87 = .ok (.iload 4, 2) := by decide +kernel
theorem d_St_init3_89 : decode prog_17_method_150_code 89 = .ok (.iconst 1, 1) := by decide +kernel
theorem d_St_init3_90 : decode prog_17_method_150_code 90 = .ok (.ishl, 1) := by decide +kernel
theorem d_St_init3_91 : decode prog_17_method_150_code 91 = .ok (.invokestatic 54, 3) := by decide +kernel
theorem d_St_init3_94 : decode prog_17_method_150_code 94 = .ok (.putfield 9, 3) := by decide +kernel
theorem d_St_init3_97 : decode prog_17_method_150_code 97 = .ok (.return_, 1) := by decide +kernel
theorem d_St_isEmpty_0 : decode prog_17_method_55_code 0 = .ok (.aload_n 0, 1) := by decide +kernel
theorem d_St_isEmpty_1 : decode prog_17_method_55_code 1 = .ok (.getfield 9, 3) := by decide +kernel
theorem d_St_isEmpty_4 : decode prog_17_method_55_code 4 = .ok (.arraylength, 1) := by decide +kernel
theorem d_St_isEmpty_5 : decode prog_17_method_55_code 5 = .ok (.ifCond .ne 7, 3) := by decide +kernel
theorem d_St_isEmpty_8 : decode prog_17_method_55_code 8 = .ok (.iconst 1, 1) := by decide +kernel
theorem d_St_isEmpty_9 : decode prog_17_method_55_code 9 = .ok (.goto 4, 3) := by decide +kernel
theorem d_St_isEmpty_12 : decode prog_17_method_55_code 12 = .ok (.iconst 0, 1) := by decide +kernel
theorem d_St_isEmpty_13 : decode prog_17_method_55_code 13 = .ok (.ireturn, 1) := by decide +kernel
theorem d_St_indexOf_0 : decode prog_17_method_79_code 0 = .ok (.aload_n 0, 1) := by decide +kernel
theorem d_St_indexOf_1 : decode prog_17_method_79_code 1 = .ok (.iload_n 1, 1) := by decide +kernel
theorem d_St_indexOf_2 : decode prog_17_method_79_code 2 = .ok (.iconst 0, 1) := by decide +kernel
theorem d_St_indexOf_3 : decode prog_17_method_79_code 3 = .ok (.invokevirtual 633, 3) := by decide +kernel
theorem d_St_indexOf_6 : decode prog_17_method_79_code 6 = .ok (.ireturn, 1) := by decide +kernel
theorem d_St_indexOf2_0 : decode prog_17_method_80_code 0 = .ok (.aload_n 0, 1) := by decide +kernel
theorem d_St_indexOf2_1 : decode prog_17_method_80_code 1 = .ok (.invokevirtual 492, 3) := by decide +kernel
theorem d_St_indexOf2_4 : decode prog_17_method_80_code 4 = .ok (.ifCond .eq 19, 3) := by decide +kernel
theorem d_St_indexOf2_7 : decode prog_17_method_80_code 7 = .ok (.aload_n 0, 1) := by decide +kernel
theorem d_St_indexOf2_8 : decode prog_17_method_80_code 8 = .ok (.getfield 9, 3) := by decide +kernel
theorem d_St_indexOf2_11 : decode prog_17_method_80_code 11 = .ok (.iload_n 1, 1) := by decide +kernel
theorem d_St_indexOf2_12 : decode prog_17_method_80_code 12 = .ok (.iload_n 2, 1) := by decide +kernel
theorem d_St_indexOf2_13 : decode prog_17_method_80_code 13 = .ok (.aload_n 0, 1) := by decide +kernel
theorem d_St_indexOf2_14 : decode prog_17_method_80_code 14 = .ok (.invokevirtual 505, 3) := by decide +kernel
theorem d_St_indexOf2_17 : decode prog_17_method_80_code 17 = .ok (.invokestatic 637, 3) := by decide +kernel
theorem d_St_indexOf2_20 : decode prog_17_method_80_code 20 = .ok (.goto 16, 3) := by decide +kernel
theorem d_St_indexOf2_23 : decode prog_17_method_80_code 23 = .ok (.aload_n 0, 1) := by decide +kernel
theorem d_St_indexOf2_24 : decode prog_17_method_80_code 24 = .ok (.getfield 9, 3) := by decide +kernel
theorem d_St_indexOf2_27 : decode prog_17_method_80_code 27 = .ok (.iload_n 1, 1) := by decide +kernel
theorem d_St_indexOf2_28 : decode prog_17_method_80_code 28 = .ok (.iload_n 2, 1) := by decide +kernel
theorem d_St_indexOf2_29 : decode prog_17_method_80_code 29 = .ok (.aload_n 0, 1) := by decide +kernel
theorem d_St_indexOf2_30 : decode prog_17_method_80_code 30 = .ok (.invokevirtual 505, 3) := by decide +kernel
theorem d_St_indexOf2_33 : decode prog_17_method_80_code 33 = .ok (.invokestatic 640, 3) := by decide +kernel
theorem d_St_indexOf2_36 : decode prog_17_method_80_code 36 = .ok (.ireturn, 1) := by decide +kernel
theorem d_Sb_init_0 : decode prog_18_method_1_code 0 = .ok (.aload_n 0, 1) := by decide +kernel
theorem d_Sb_init_1 : decode prog_18_method_1_code 1 = .ok (.bipush 16, 2) := by decide +kernel
theorem d_Sb_init_3 : decode prog_18_method_1_code 3 = .ok (.invokespecial 1, 3) := by decide +kernel
theorem d_Sb_init_6 : decode prog_18_method_1_code 6 = .ok (.return_, 1) := by decide +kernel
theorem d_Sb_length_0 : decode prog_18_method_93_code 0 = .ok (.aload_n 0, 1) := by decide +kernel
theorem d_Sb_length_1 : decode prog_18_method_93_code 1 = .ok (.invokespecial 343, 3) := by decide +kernel
theorem d_Sb_length_4 : decode prog_18_method_93_code 4 = .ok (.ireturn, 1) := by decide +kernel
theorem d_Sb_append_0 : decode prog_18_method_14_code 0 = .ok (.aload_n 0, 1) := by decide +kernel
theorem d_Sb_append_1 : decode prog_18_method_14_code 1 = .ok (.iload_n 1, 1) := by decide +kernel
theorem d_Sb_append_2 : decode prog_18_method_14_code 2 = .ok (.invokespecial 50, 3) := by decide +kernel
theorem d_Sb_append_5 : decode prog_18_method_14_code 5 = .ok (.pop, 1) := by decide +kernel
theorem d_Sb_append_6 : decode prog_18_method_14_code 6 = .ok (.aload_n 0, 1) := by decide +kernel
theorem d_Sb_append_7 : decode prog_18_method_14_code 7 = .ok (.areturn, 1) := by decide +kernel
theorem d_Sb_setLength_0 : decode prog_18_method_89_code 0 = .ok (.aload_n 0, 1) := by decide +kernel
theorem d_Sb_setLength_1 : decode prog_18_method_89_code 1 = .ok (.iload_n 1, 1) := by decide +kernel
theorem d_Sb_setLength_2 : decode prog_18_method_89_code 2 = .ok (.invokespecial 333, 3) := by decide +kernel
theorem d_Sb_setLength_5 : decode prog_18_method_89_code 5 = .ok (.return_, 1) := by decide +kernel
theorem d_Sb_toString_0 : decode prog_18_method_42_code 0 = .ok (.new 18, 3) := by decide +kernel
theorem d_Sb_toString_3 : decode prog_18_method_42_code 3 = .ok (.dup, 1) := by decide +kernel
theorem d_Sb_toString_4 : decode prog_18_method_42_code 4 = .ok (.aload_n 0, 1) := by decide +kernel
theorem d_Sb_toString_5 : decode prog_18_method_42_code 5 = .ok (.invokespecial 137, 3) := by decide +kernel
theorem d_Sb_toString_8 : decode prog_18_method_42_code 8 = .ok (.areturn, 1) := by decide +kernel
theorem d_Ab_init_0 : decode prog_12_method_2_code 0 = .ok (.aload_n 0, 1) := by decide +kernel
theorem d_Ab_init_1 : decode prog_12_method_2_code 1 = .ok (.invokespecial 3, 3) := by decide +kernel
theorem d_Ab_init_4 : decode prog_12_method_2_code 4 = .ok (.getstatic 18, 3) := by decide +kernel
theorem d_Ab_init_7 : decode prog_12_method_2_code 7 = .ok (.ifCond .eq 18, 3) := by decide +kernel
theorem d_Ab_init_10 : decode prog_12_method_2_code 10 = .ok (.aload_n 0, 1) := by decide +kernel
theorem d_Ab_init_11 : decode prog_12_method_2_code 11 = .ok (.iload_n 1, 1) := by decide +kernel
theorem d_Ab_init_12 : decode prog_12_method_2_code 12 = .ok (.newarray .byte, 2) := by decide +kernel
theorem d_Ab_init_14 : decode prog_12_method_2_code 14 = .ok (.putfield 15, 3) := by decide +kernel
theorem d_Ab_init_17 : decode prog_12_method_2_code 17 = .ok (.aload_n 0, 1) := by decide +kernel
theorem d_Ab_init_18 : decode prog_12_method_2_code 18 = .ok (.iconst 0, 1) := by decide +kernel
theorem d_Ab_init_19 : decode prog_12_method_2_code 19 = .ok (.putfield 22, 3) := by decide +kernel
theorem d_Ab_init_22 : decode prog_12_method_2_code 22 = .ok (.goto 16, 3) := by decide +kernel
theorem d_Ab_init_25 : decode prog_12_method_2_code 25 = .ok (.aload_n 0, 1) := by decide +kernel
theorem d_Ab_init_26 : decode prog_12_method_2_code 26 = .ok (.iload_n 1, 1) := by decide +kernel
theorem d_Ab_init_27 : decode prog_12_method_2_code 27 = .ok (.invokestatic 26, 3) := by decide +kernel
theorem d_Ab_init_30 : decode prog_12_method_2_code 30 = .ok (.putfield 15, 3) := by decide +kernel
theorem d_Ab_init_33 : decode prog_12_method_2_code 33 = .ok (.aload_n 0, 1) := by decide +kernel
theorem d_Ab_init_34 : decode prog_12_method_2_code 34 = .ok (.iconst 1, 1) := by decide +kernel
theorem d_Ab_init_35 : decode prog_12_method_2_code 35 = .ok (.putfield 22, 3) := by decide +kernel
theorem d_Ab_init_38 : decode prog_12_method_2_code 38 = .ok (.return_, 1) := by decide +kernel
theorem d_Ab_length_0 : decode prog_12_method_6_code 0 = .ok (.aload_n 0, 1) := by decide +kernel
theorem d_Ab_length_1 : decode prog_12_method_6_code 1 = .ok (.getfield 79, 3) := by decide +kernel
theorem d_Ab_length_4 : decode prog_12_method_6_code 4 = .ok (.ireturn, 1) := by decide +kernel
theorem d_Ab_append_0 : decode prog_12_method_31_code 0 = .ok (.aload_n 0, 1) := by decide +kernel
theorem d_Ab_append_1 : decode prog_12_method_31_code 1 = .ok (.aload_n 0, 1) := by decide +kernel
theorem d_Ab_append_2 : decode prog_12_method_31_code 2 = .ok (.getfield 79, 3) := by decide +kernel
theorem d_Ab_append_5 : decode prog_12_method_31_code 5 = .ok (.iconst 1, 1) := by decide +kernel
theorem d_Ab_append_6 : decode prog_12_method_31_code 6 = .ok (.iadd, 1) := by decide +kernel
theorem d_Ab_append_7 : decode prog_12_method_31_code 7 = .ok (.invokevirtual 100, 3) := by decide +kernel
theorem d_Ab_append_10 : decode prog_12_method_31_code 10 = .ok (.aload_n 0, 1) := by decide +kernel
theorem d_Ab_append_11 : decode prog_12_method_31_code 11 = .ok (.invokevirtual 83, 3) := by decide +kernel
theorem d_Ab_append_14 : decode prog_12_method_31_code 14 = .ok (.ifCond .eq 31, 3) := by decide +kernel
theorem d_Ab_append_17 : decode prog_12_method_31_code 17 = .ok (.iload_n 1, 1) := by decide +kernel
theorem d_Ab_append_18 : decode prog_12_method_31_code 18 = .ok (.invokestatic 191, 3) := by decide +kernel
theorem d_Ab_append_21 : decode prog_12_method_31_code 21 = .ok (.ifCond .eq 24, 3) := by decide +kernel
theorem d_Ab_append_24 : decode prog_12_method_31_code 24 = .ok (.aload_n 0, 1) := by decide +kernel
theorem d_Ab_append_25 : decode prog_12_method_31_code 25 = .ok (.getfield 15, 3) := by decide +kernel
theorem d_Ab_append_28 : decode prog_12_method_31_code 28 = .ok (.aload_n 0, 1) := by decide +kernel
theorem d_Ab_append_29 : decode prog_12_method_31_code 29 = .ok (.dup, 1) := by decide +kernel
theorem d_Ab_append_30 : decode prog_12_method_31_code 30 = .ok (.getfield 79, 3) := by decide +kernel
theorem d_Ab_append_33 : decode prog_12_method_31_code 33 = .ok (.dup_x1, 1) := by decide +kernel
theorem d_Ab_append_34 : decode prog_12_method_31_code 34 = .ok (.iconst 1, 1) := by decide +kernel
theorem d_Ab_append_35 : decode prog_12_method_31_code 35 = .ok (.iadd, 1) := by decide +kernel
theorem d_Ab_append_36 : decode prog_12_method_31_code 36 = .ok (.putfield 79, 3) := by decide +kernel
theorem d_Ab_append_39 : decode prog_12_method_31_code 39 = .ok (.iload_n 1, 1) := by decide +kernel
theorem d_Ab_append_40 : decode prog_12_method_31_code 40 = .ok (.i2b, 1) := by decide +kernel
theorem d_Ab_append_41 : decode prog_12_method_31_code 41 = .ok (.bastore, 1) := by decide +kernel
theorem d_Ab_append_42 : decode prog_12_method_31_code 42 = .ok (.goto 33, 3) := by decide +kernel
theorem d_Ab_append_45 : decode prog_12_method_31_code 45 = .ok (.aload_n 0, 1) := by decide +kernel
theorem d_Ab_append_46 : decode prog_12_method_31_code 46 = .ok (.invokevirtual 83, 3) := by decide +kernel
theorem d_Ab_append_49 : decode prog_12_method_31_code 49 = .ok (.ifCond .eq 7, 3) := by decide +kernel
theorem d_Ab_append_52 : decode prog_12_method_31_code 52 = .ok (.aload_n 0, 1) := by decide +kernel
theorem d_Ab_append_53 : decode prog_12_method_31_code 53 = .ok (.invokevirtual 195, 3) := by decide +kernel
theorem d_Ab_append_56 : decode prog_12_method_31_code 56 = .ok (.aload_n 0, 1) := by decide +kernel
theorem d_Ab_append_57 : decode prog_12_method_31_code 57 = .ok (.getfield 15, 3) := by decide +kernel
theorem d_Ab_append_60 : decode prog_12_method_31_code 60 = .ok (.aload_n 0, 1) := by decide +kernel
theorem d_Ab_append_61 : decode prog_12_method_31_code 61 = .ok (.dup, 1) := by decide +kernel
theorem d_Ab_append_62 : decode prog_12_method_31_code 62 = .ok (.getfield 79, 3) := by decide +kernel
theorem d_Ab_append_65 : decode prog_12_method_31_code 65 = .ok (.dup_x1, 1) := by decide +kernel
theorem d_Ab_append_66 : decode prog_12_method_31_code 66 = .ok (.iconst 1, 1) := by decide +kernel
theorem d_Ab_append_67 : decode prog_12_method_31_code 67 = .ok (.iadd, 1) := by decide +kernel
theorem d_Ab_append_68 : decode prog_12_method_31_code 68 = .ok (.putfield 79, 3) := by decide +kernel
theorem d_Ab_append_71 : decode prog_12_method_31_code 71 = .ok (.iload_n 1, 1) := by decide +kernel
theorem d_Ab_append_72 : decode prog_12_method_31_code 72 = .ok (.invokestatic 197, 3) := by decide +kernel
theorem d_Ab_append_75 : decode prog_12_method_31_code 75 = .ok (.aload_n 0, 1) := by decide +kernel
theorem d_Ab_append_76 : decode prog_12_method_31_code 76 = .ok (.areturn, 1) := by decide +kernel
theorem d_Ab_ensureCapacityInternal_0 : decode prog_12_method_9_code 0 = .ok (.aload_n 0, 1) := by decide +kernel
theorem d_Ab_ensureCapacityInternal_1 : decode prog_12_method_9_code 1 = .ok (.getfield 15, 3) := by decide +kernel
theorem d_Ab_ensureCapacityInternal_4 : decode prog_12_method_9_code 4 = .ok (.arraylength, 1) := by decide +kernel
theorem d_Ab_ensureCapacityInternal_5 : decode prog_12_method_9_code 5 = .ok (.aload_n 0, 1) := by decide +kernel
theorem d_Ab_ensureCapacityInternal_6 : decode prog_12_method_9_code 6 = .ok (.getfield 22, 3) := by decide +kernel
theorem d_Ab_ensureCapacityInternal_9 : decode prog_12_method_9_code 9 = .ok (.ishr, 1) := by decide +kernel
theorem d_Ab_ensureCapacityInternal_10 : decode prog_12_method_9_code 10 = .ok (.istore_n 2, 1) := by decide +kernel
theorem d_Ab_ensureCapacityInternal_11 : decode prog_12_method_9_code 11 = .ok (.iload_n 1, 1) := by decide +kernel
theorem d_Ab_ensureCapacityInternal_12 : decode prog_12_method_9_code 12 = .ok (.iload_n 2, 1) := by decide +kernel
theorem d_Ab_ensureCapacityInternal_13 : decode prog_12_method_9_code 13 = .ok (.isub, 1) := by decide +kernel
theorem d_Ab_ensureCapacityInternal_14 : decode prog_12_method_9_code 14 = .ok (.ifCond .le 24, 3) := by decide +kernel
theorem d_Ab_ensureCapacityInternal_17 : decode prog_12_method_9_code 17 = .ok (.aload_n 0, 1) := by decide +kernel
theorem d_Ab_ensureCapacityInternal_18 : decode prog_12_method_9_code 18 = .ok (.aload_n 0, 1) := by decide +kernel
theorem d_Ab_ensureCapacityInternal_19 : decode prog_12_method_9_code 19 = .ok (.getfield 15, 3) := by decide +kernel
theorem d_Ab_ensureCapacityInternal_22 : decode prog_12_method_9_code 22 = .ok (.aload_n 0, 1) := by decide +kernel
theorem d_Ab_ensureCapacityInternal_23 : decode prog_12_method_9_code 23 = .ok (.iload_n 1, 1) := by decide +kernel
theorem d_Ab_ensureCapacityInternal_24 : decode prog_12_method_9_code 24 = .ok (.invokevirtual 104, 3) := by decide +kernel
theorem d_Ab_ensureCapacityInternal_27 : decode prog_12_method_9_code 27 = .ok (.aload_n 0, 1) := by decide +kernel
theorem d_Ab_ensureCapacityInternal_28 : decode prog_12_method_9_code 28 = .ok (.getfield 22, 3) := by decide +kernel
theorem d_Ab_ensureCapacityInternal_31 : decode prog_12_method_9_code 31 = .ok (.ishl, 1) := by decide +kernel
theorem d_Ab_ensureCapacityInternal_32 : decode prog_12_method_9_code 32 = .ok (.invokestatic 108, 3) := by decide +kernel
theorem d_Ab_ensureCapacityInternal_35 : decode prog_12_method_9_code 35 = .ok (.putfield 15, 3) := by decide +kernel
theorem d_Ab_ensureCapacityInternal_38 : decode prog_12_method_9_code 38 = .ok (.return_, 1) := by decide +kernel
theorem d_Ab_newCapacity_0 : decode prog_12_method_10_code 0 = .ok (.aload_n 0, 1) := by decide +kernel
theorem d_Ab_newCapacity_1 : decode prog_12_method_10_code 1 = .ok (.getfield 15, 3) := by decide +kernel
theorem d_Ab_newCapacity_4 : decode prog_12_method_10_code 4 = .ok (.arraylength, 1) := by decide +kernel
theorem d_Ab_newCapacity_5 : decode prog_12_method_10_code 5 = .ok (.istore_n 2, 1) := by decide +kernel
theorem d_Ab_newCapacity_6 : decode prog_12_method_10_code 6 = .ok (.iload_n 1, 1) := by decide +kernel
theorem d_Ab_newCapacity_7 : decode prog_12_method_10_code 7 = .ok (.aload_n 0, 1) := by decide +kernel
theorem d_Ab_newCapacity_8 : decode prog_12_method_10_code 8 = .ok (.getfield 22, 3) := by decide +kernel
theorem d_Ab_newCapacity_11 : decode prog_12_method_10_code 11 = .ok (.ishl, 1) := by decide +kernel
theorem d_Ab_newCapacity_12 : decode prog_12_method_10_code 12 = .ok (.istore_n 3, 1) := by decide +kernel
theorem d_Ab_newCapacity_13 : decode prog_12_method_10_code 13 = .ok (.iload_n 3, 1) := by decide +kernel
theorem d_Ab_newCapacity_14 : decode prog_12_method_10_code 14 = .ok (.iload_n 2, 1) := by decide +kernel
theorem d_Ab_newCapacity_15 : decode prog_12_method_10_code 15 = .ok (.isub, 1) := by decide +kernel
theorem d_Ab_newCapacity_16 : decode prog_12_method_10_code 16 = .ok (.istore 4, 2) := by decide +kernel
theorem d_Ab_newCapacity_18 : decode prog_12_method_10_code 18 = .ok (.iload_n 2, 1) := by decide +kernel
theorem d_Ab_newCapacity_19 : decode prog_12_method_10_code 19 = .ok (.iload 4, 2) := by decide +kernel
theorem d_Ab_newCapacity_21 : decode prog_12_method_10_code 21 = .ok (.iload_n 2, 1) := by decide +kernel
theorem d_Ab_newCapacity_22 : decode prog_12_method_10_code 22 = .ok (.iconst 2, 1) := by decide +kernel
theorem d_Ab_newCapacity_23 : decode prog_12_method_10_code 23 = .ok (.aload_n 0, 1) := by decide +kernel
theorem d_Ab_newCapacity_24 : decode prog_12_method_10_code 24 = .ok (.getfield 22, 3) := by decide +kernel
theorem d_Ab_newCapacity_27 : decode prog_12_method_10_code 27 = .ok (.ishl, 1) := by decide +kernel
theorem d_Ab_newCapacity_28 : decode prog_12_method_10_code 28 = .ok (.iadd, 1) := by decide +kernel
theorem d_Ab_newCapacity_29 : decode prog_12_method_10_code 29 = .ok (.invokestatic 114, 3) := by decide +kernel
theorem d_Ab_newCapacity_32 : decode prog_12_method_10_code 32 = .ok (.istore 5, 2) := by decide +kernel
theorem d_Ab_newCapacity_34 : decode prog_12_method_10_code 34 = .ok (.iload 5, 2) := by decide +kernel
theorem d_Ab_newCapacity_36 : decode prog_12_method_10_code 36 = .ok (.ldc 39, 2) := by decide +kernel
theorem d_Ab_newCapacity_38 : decode prog_12_method_10_code 38 = .ok (.if_icmp .ne 13, 3) := by decide +kernel
theorem d_Ab_newCapacity_41 : decode prog_12_method_10_code 41 = .ok (.new 120, 3) := by decide +kernel
theorem d_Ab_newCapacity_44 : decode prog_12_method_10_code 44 = .ok (.dup, 1) := by decide +kernel
theorem d_Ab_newCapacity_45 : decode prog_12_method_10_code 45 = .ok (.ldc 122, 2) := by decide +kernel
theorem d_Ab_newCapacity_47 : decode prog_12_method_10_code 47 = .ok (.invokespecial 124, 3) := by decide +kernel
theorem d_Ab_newCapacity_50 : decode prog_12_method_10_code 50 = .ok (.athrow, 1) := by decide +kernel
theorem d_Ab_newCapacity_51 : decode prog_12_method_10_code 51 = .ok (.iload 5, 2) := by decide +kernel
theorem d_Ab_newCapacity_53 : decode prog_12_method_10_code 53 = .ok (.aload_n 0, 1) := by decide +kernel
theorem d_Ab_newCapacity_54 : decode prog_12_method_10_code 54 = .ok (.getfield 22, 3) := by decide +kernel
theorem d_Ab_newCapacity_57 : decode prog_12_method_10_code 57 = .ok (.ishr, 1) := by decide +kernel
theorem d_Ab_newCapacity_58 : decode prog_12_method_10_code 58 = .ok (.ireturn, 1) := by decide +kernel
theorem d_Ab_isLatin1_0 : decode prog_12_method_68_code 0 = .ok (.getstatic 18, 3) := by decide +kernel
theorem d_Ab_isLatin1_3 : decode prog_12_method_68_code 3 = .ok (.ifCond .eq 14, 3) := by decide +kernel
theorem d_Ab_isLatin1_6 : decode prog_12_method_68_code 6 = .ok (.aload_n 0, 1) := by decide +kernel
theorem d_Ab_isLatin1_7 : decode prog_12_method_68_code 7 = .ok (.getfield 22, 3) := by decide +kernel
theorem d_Ab_isLatin1_10 : decode prog_12_method_68_code 10 = .ok (.ifCond .ne 7, 3) := by decide +kernel
theorem d_Ab_isLatin1_13 : decode prog_12_method_68_code 13 = .ok (.iconst 1, 1) := by decide +kernel
theorem d_Ab_isLatin1_14 : decode prog_12_method_68_code 14 = .ok (.goto 4, 3) := by decide +kernel
theorem d_Ab_isLatin1_17 : decode prog_12_method_68_code 17 = .ok (.iconst 0, 1) := by decide +kernel
theorem d_Ab_isLatin1_18 : decode prog_12_method_68_code 18 = .ok (.ireturn, 1) := by decide +kernel
theorem d_Ab_inflate_0 : decode prog_12_method_11_code 0 = .ok (.aload_n 0, 1) := by decide +kernel
theorem d_Ab_inflate_1 : decode prog_12_method_11_code 1 = .ok (.invokevirtual 83, 3) := by decide +kernel
theorem d_Ab_inflate_4 : decode prog_12_method_11_code 4 = .ok (.ifCond .ne 4, 3) := by decide +kernel
theorem d_Ab_inflate_7 : decode prog_12_method_11_code 7 = .ok (.return_, 1) := by decide +kernel
theorem d_Ab_inflate_8 : decode prog_12_method_11_code 8 = .ok (.aload_n 0, 1) := by decide +kernel
theorem d_Ab_inflate_9 : decode prog_12_method_11_code 9 = .ok (.getfield 15, 3) := by decide +kernel
theorem d_Ab_inflate_12 : decode prog_12_method_11_code 12 = .ok (.arraylength, 1) := by decide +kernel
theorem d_Ab_inflate_13 : decode prog_12_method_11_code 13 = .ok (.invokestatic 26, 3) := by decide +kernel
theorem d_Ab_inflate_16 : decode prog_12_method_11_code 16 = .ok (.astore_n 1, 1) := by decide +kernel
theorem d_Ab_inflate_17 : decode prog_12_method_11_code 17 = .ok (.aload_n 0, 1) := by decide +kernel
theorem d_Ab_inflate_18 : decode prog_12_method_11_code 18 = .ok (.getfield 15, 3) := by decide +kernel
theorem d_Ab_inflate_21 : decode prog_12_method_11_code 21 = .ok (.iconst 0, 1) := by decide +kernel
theorem d_Ab_inflate_22 : decode prog_12_method_11_code 22 = .ok (.aload_n 1, 1) := by decide +kernel
theorem d_Ab_inflate_23 : decode prog_12_method_11_code 23 = .ok (.iconst 0, 1) := by decide +kernel
theorem d_Ab_inflate_24 : decode prog_12_method_11_code 24 = .ok (.aload_n 0, 1) := by decide +kernel
theorem d_Ab_inflate_25 : decode prog_12_method_11_code 25 = .ok (.getfield 79, 3) := by decide +kernel
theorem d_Ab_inflate_28 : decode prog_12_method_11_code 28 = .ok (.invokestatic 125, 3) := by decide +kernel
theorem d_Ab_inflate_31 : decode prog_12_method_11_code 31 = .ok (.aload_n 0, 1) := by decide +kernel
theorem d_Ab_inflate_32 : decode prog_12_method_11_code 32 = .ok (.aload_n 1, 1) := by decide +kernel
theorem d_Ab_inflate_33 : decode prog_12_method_11_code 33 = .ok (.putfield 15, 3) := by decide +kernel
theorem d_Ab_inflate_36 : decode prog_12_method_11_code 36 = .ok (.aload_n 0, 1) := by decide +kernel
theorem d_Ab_inflate_37 : decode prog_12_method_11_code 37 = .ok (.iconst 1, 1) := by decide +kernel
theorem d_Ab_inflate_38 : decode prog_12_method_11_code 38 = .ok (.putfield 22, 3) := by decide +kernel
theorem d_Ab_inflate_41 : decode prog_12_method_11_code 41 = .ok (.return_, 1) := by decide +kernel
theorem d_Ab_setLength_0 : decode prog_12_method_13_code 0 = .ok (.iload_n 1, 1) := by decide +kernel
theorem d_Ab_setLength_1 : decode prog_12_method_13_code 1 = .ok (.ifCond .ge 12, 3) := by decide +kernel
theorem d_Ab_setLength_4 : decode prog_12_method_13_code 4 = .ok (.new 129, 3) := by decide +kernel
theorem d_Ab_setLength_7 : decode prog_12_method_13_code 7 = .ok (.dup, 1) := by decide +kernel
theorem d_Ab_setLength_8 : decode prog_12_method_13_code 8 = .ok (.iload_n 1, 1) := by decide +kernel
theorem d_Ab_setLength_9 : decode prog_12_method_13_code 9 = .ok (.invokespecial 131, 3) := by decide +kernel
theorem d_Ab_setLength_12 : decode prog_12_method_13_code 12 = .ok (.athrow, 1) := by decide +kernel
theorem d_Ab_setLength_13 : decode prog_12_method_13_code 13 = .ok (.aload_n 0, 1) := by decide +kernel
theorem d_Ab_setLength_14 : decode prog_12_method_13_code 14 = .ok (.iload_n 1, 1) := by decide +kernel
theorem d_Ab_setLength_15 : decode prog_12_method_13_code 15 = .ok (.invokevirtual 100, 3) := by decide +kernel
theorem d_Ab_setLength_18 : decode prog_12_method_13_code 18 = .ok (.aload_n 0, 1) := by decide +kernel
theorem d_Ab_setLength_19 : decode prog_12_method_13_code 19 = .ok (.getfield 79, 3) := by decide +kernel
theorem d_Ab_setLength_22 : decode prog_12_method_13_code 22 = .ok (.iload_n 1, 1) := by decide +kernel
theorem d_Ab_setLength_23 : decode prog_12_method_13_code 23 = .ok (.if_icmp .ge 40, 3) := by decide +kernel
theorem d_Ab_setLength_26 : decode prog_12_method_13_code 26 = .ok (.aload_n 0, 1) := by decide +kernel
theorem d_Ab_setLength_27 : decode prog_12_method_13_code 27 = .ok (.invokevirtual 83, 3) := by decide +kernel
theorem d_Ab_setLength_30 : decode prog_12_method_13_code 30 = .ok (.ifCond .eq 18, 3) := by decide +kernel
theorem d_Ab_setLength_33 : decode prog_12_method_13_code 33 = .ok (.aload_n 0, 1) := by decide +kernel
theorem d_Ab_setLength_34 : decode prog_12_method_13_code 34 = .ok (.getfield 15, 3) := by decide +kernel
theorem d_Ab_setLength_37 : decode prog_12_method_13_code 37 = .ok (.aload_n 0, 1) := by decide +kernel
theorem d_Ab_setLength_38 : decode prog_12_method_13_code 38 = .ok (.getfield 79, 3) := by decide +kernel
theorem d_Ab_setLength_41 : decode prog_12_method_13_code 41 = .ok (.iload_n 1, 1) := by decide +kernel
theorem d_Ab_setLength_42 : decode prog_12_method_13_code 42 = .ok (.invokestatic 133, 3) := by decide +kernel
theorem d_Ab_setLength_45 : decode prog_12_method_13_code 45 = .ok (.goto 31, 3) := by decide +kernel
theorem d_Ab_setLength_48 : decode prog_12_method_13_code 48 = .ok (.aload_n 0, 1) := by decide +kernel
theorem d_Ab_setLength_49 : decode prog_12_method_13_code 49 = .ok (.getfield 15, 3) := by decide +kernel
theorem d_Ab_setLength_52 : decode prog_12_method_13_code 52 = .ok (.aload_n 0, 1) := by decide +kernel
theorem d_Ab_setLength_53 : decode prog_12_method_13_code 53 = .ok (.getfield 79, 3) := by decide +kernel
theorem d_Ab_setLength_56 : decode prog_12_method_13_code 56 = .ok (.iload_n 1, 1) := by decide +kernel
theorem d_Ab_setLength_57 : decode prog_12_method_13_code 57 = .ok (.invokestatic 137, 3) := by decide +kernel
theorem d_Ab_setLength_60 : decode prog_12_method_13_code 60 = .ok (.goto 16, 3) := by decide +kernel
theorem d_Ab_setLength_63 : decode prog_12_method_13_code 63 = .ok (.aload_n 0, 1) := by decide +kernel
theorem d_Ab_setLength_64 : decode prog_12_method_13_code 64 = .ok (.getfield 79, 3) := by decide +kernel
theorem d_Ab_setLength_67 : decode prog_12_method_13_code 67 = .ok (.iload_n 1, 1) := by decide +kernel
theorem d_Ab_setLength_68 : decode prog_12_method_13_code 68 = .ok (.if_icmp .le 8, 3) := by decide +kernel
theorem d_Ab_setLength_71 : decode prog_12_method_13_code 71 = .ok (.aload_n 0, 1) := by decide +kernel
theorem d_Ab_setLength_72 : decode prog_12_method_13_code 72 = .ok (.iconst 1, 1) := by decide +kernel
theorem d_Ab_setLength_73 : decode prog_12_method_13_code 73 = .ok (.putfield 73, 3) := by decide +kernel
theorem d_Ab_setLength_76 : decode prog_12_method_13_code 76 = .ok (.aload_n 0, 1) := by decide +kernel
theorem d_Ab_setLength_77 : decode prog_12_method_13_code 77 = .ok (.iload_n 1, 1) := by decide +kernel
theorem d_Ab_setLength_78 : decode prog_12_method_13_code 78 = .ok (.putfield 79, 3) := by decide +kernel
theorem d_Ab_setLength_81 : decode prog_12_method_13_code 81 = .ok (.return_, 1) := by decide +kernel
theorem d_Ab_getValue_0 : decode prog_12_method_64_code 0 = .ok (.aload_n 0, 1) := by decide +kernel
theorem d_Ab_getValue_1 : decode prog_12_method_64_code 1 = .ok (.getfield 15, 3) := by decide +kernel
theorem d_Ab_getValue_4 : decode prog_12_method_64_code 4 = .ok (.areturn, 1) := by decide +kernel
theorem d_S1_charAt_0 : decode prog_19_method_2_code 0 = .ok (.iload_n 1, 1) := by decide +kernel
theorem d_S1_charAt_1 : decode prog_19_method_2_code 1 = .ok (.aload_n 0, 1) := by decide +kernel
theorem d_S1_charAt_2 : decode prog_19_method_2_code 2 = .ok (.arraylength, 1) := by decide +kernel
theorem d_S1_charAt_3 : decode prog_19_method_2_code 3 = .ok (.invokestatic 9, 3) := by decide +kernel
theorem d_S1_charAt_6 : decode prog_19_method_2_code 6 = .ok (.aload_n 0, 1) := by decide +kernel
theorem d_S1_charAt_7 : decode prog_19_method_2_code 7 = .ok (.iload_n 1, 1) := by decide +kernel
theorem d_S1_charAt_8 : decode prog_19_method_2_code 8 = .ok (.baload, 1) := by decide +kernel
theorem d_S1_charAt_9 : decode prog_19_method_2_code 9 = .ok (.sipush 255, 3) := by decide +kernel
theorem d_S1_charAt_12 : decode prog_19_method_2_code 12 = .ok (.iand, 1) := by decide +kernel
theorem d_S1_charAt_13 : decode prog_19_method_2_code 13 = .ok (.i2c, 1) := by decide +kernel
theorem d_S1_charAt_14 : decode prog_19_method_2_code 14 = .ok (.ireturn, 1) := by decide +kernel
theorem d_S1_newString_0 : decode prog_19_method_47_code 0 = .ok (.iload_n 2, 1) := by decide +kernel
theorem d_S1_newString_1 : decode prog_19_method_47_code 1 = .ok (.ifCond .ne 6, 3) := by decide +kernel
theorem d_S1_newString_4 : decode prog_19_method_47_code 4 = .ok (.ldc 151, 2) := by decide +kernel
theorem d_S1_newString_6 : decode prog_19_method_47_code 6 = .ok (.areturn, 1) := by decide +kernel
theorem d_S1_newString_7 : decode prog_19_method_47_code 7 = .ok (.new 1, 3) := by decide +kernel
theorem d_S1_newString_10 : decode prog_19_method_47_code 10 = .ok (.dup, 1) := by decide +kernel
theorem d_S1_newString_11 : decode prog_19_method_47_code 11 = .ok (.aload_n 0, 1) := by decide +kernel
theorem d_S1_newString_12 : decode prog_19_method_47_code 12 = .ok (.iload_n 1, 1) := by decide +kernel
theorem d_S1_newString_13 : decode prog_19_method_47_code 13 = .ok (.iload_n 1, 1) := by decide +kernel
theorem d_S1_newString_14 : decode prog_19_method_47_code 14 = .ok (.iload_n 2, 1) := by decide +kernel
theorem d_S1_newString_15 : decode prog_19_method_47_code 15 = .ok (.iadd, 1) := by decide +kernel
theorem d_S1_newString_16 : decode prog_19_method_47_code 16 = .ok (.invokestatic 232, 3) := by decide +kernel
theorem d_S1_newString_19 : decode prog_19_method_47_code 19 = .ok (.iconst 0, 1) := by decide +kernel
theorem d_S1_newString_20 : decode prog_19_method_47_code 20 = .ok (.invokespecial 112, 3) := by decide +kernel
theorem d_S1_newString_23 : decode prog_19_method_47_code 23 = .ok (.areturn, 1) := by decide +kernel
theorem d_S1_equals_0 : decode prog_19_method_13_code 0 = .ok (.aload_n 0, 1) := by decide +kernel
theorem d_S1_equals_1 : decode prog_19_method_13_code 1 = .ok (.arraylength, 1) := by decide +kernel
theorem d_S1_equals_2 : decode prog_19_method_13_code 2 = .ok (.aload_n 1, 1) := by decide +kernel
theorem d_S1_equals_3 : decode prog_19_method_13_code 3 = .ok (.arraylength, 1) := by decide +kernel
theorem d_S1_equals_4 : decode prog_19_method_13_code 4 = .ok (.if_icmp .ne 30, 3) := by decide +kernel
theorem d_S1_equals_7 : decode prog_19_method_13_code 7 = .ok (.iconst 0, 1) := by decide +kernel
theorem d_S1_equals_8 : decode prog_19_method_13_code 8 = .ok (.istore_n 2, 1) := by decide +kernel
theorem d_S1_equals_9 : decode prog_19_method_13_code 9 = .ok (.iload_n 2, 1) := by decide +kernel
theorem d_S1_equals_10 : decode prog_19_method_13_code 10 = .ok (.aload_n 0, 1) := by decide +kernel
theorem d_S1_equals_11 : decode prog_19_method_13_code 11 = .ok (.arraylength, 1) := by decide +kernel
theorem d_S1_equals_12 : decode prog_19_method_13_code 12 = .ok (.if_icmp .ge 20, 3) := by decide +kernel
theorem d_S1_equals_15 : decode prog_19_method_13_code 15 = .ok (.aload_n 0, 1) := by decide +kernel
theorem d_S1_equals_16 : decode prog_19_method_13_code 16 = .ok (.iload_n 2, 1) := by decide +kernel
theorem d_S1_equals_17 : decode prog_19_method_13_code 17 = .ok (.baload, 1) := by decide +kernel
theorem d_S1_equals_18 : decode prog_19_method_13_code 18 = .ok (.aload_n 1, 1) := by decide +kernel
theorem d_S1_equals_19 : decode prog_19_method_13_code 19 = .ok (.iload_n 2, 1) := by decide +kernel
theorem d_S1_equals_20 : decode prog_19_method_13_code 20 = .ok (.baload, 1) := by decide +kernel
theorem d_S1_equals_21 : decode prog_19_method_13_code 21 = .ok (.if_icmp .eq 5, 3) := by decide +kernel
theorem d_S1_equals_24 : decode prog_19_method_13_code 24 = .ok (.iconst 0, 1) := by decide +kernel
theorem d_S1_equals_25 : decode prog_19_method_13_code 25 = .ok (.ireturn, 1) := by decide +kernel
theorem d_S1_equals_26 : decode prog_19_method_13_code 26 = .ok (.iinc 2 1, 3) := by decide +kernel
theorem d_S1_equals_29 : decode prog_19_method_13_code 29 = .ok (.goto (-20), 3) := by decide +kernel
theorem d_S1_equals_32 : decode prog_19_method_13_code 32 = .ok (.iconst 1, 1) := by decide +kernel
theorem d_S1_equals_33 : decode prog_19_method_13_code 33 = .ok (.ireturn, 1) := by decide +kernel
theorem d_S1_equals_34 : decode prog_19_method_13_code 34 = .ok (.iconst 0, 1) := by decide +kernel
theorem d_S1_equals_35 : decode prog_19_method_13_code 35 = .ok (.ireturn, 1) := by decide +kernel
theorem d_S1_canEncode_0 : decode prog_19_method_3_code 0 = .ok (.iload_n 0, 1) := by decide +kernel
theorem d_S1_canEncode_1 : decode prog_19_method_3_code 1 = .ok (.sipush 255, 3) := by decide +kernel
theorem d_S1_canEncode_4 : decode prog_19_method_3_code 4 = .ok (.if_icmp .gt 7, 3) := by decide +kernel
theorem d_S1_canEncode_7 : decode prog_19_method_3_code 7 = .ok (.iconst 1, 1) := by decide +kernel
theorem d_S1_canEncode_8 : decode prog_19_method_3_code 8 = .ok (.goto 4, 3) := by decide +kernel
theorem d_S1_canEncode_11 : decode prog_19_method_3_code 11 = .ok (.iconst 0, 1) := by decide +kernel
theorem d_S1_canEncode_12 : decode prog_19_method_3_code 12 = .ok (.ireturn, 1) := by decide +kernel
theorem d_S1_inflate_0 : decode prog_19_method_50_code 0 = .ok (.aload_n 0, 1) := by decide +kernel
theorem d_S1_inflate_1 : decode prog_19_method_50_code 1 = .ok (.iload_n 1, 1) := by decide +kernel
theorem d_S1_inflate_2 : decode prog_19_method_50_code 2 = .ok (.aload_n 2, 1) := by decide +kernel
theorem d_S1_inflate_3 : decode prog_19_method_50_code 3 = .ok (.iload_n 3, 1) := by decide +kernel
theorem d_S1_inflate_4 : decode prog_19_method_50_code 4 = .ok (.iload 4, 2) := by decide +kernel
theorem d_S1_inflate_6 : decode prog_19_method_50_code 6 = .ok (.invokestatic 240, 3) := by decide +kernel
theorem d_S1_inflate_9 : decode prog_19_method_50_code 9 = .ok (.return_, 1) := by decide +kernel
theorem d_S1_fillNull_0 : decode prog_19_method_48_code 0 = .ok (.aload_n 0, 1) := by decide +kernel
theorem d_S1_fillNull_1 : decode prog_19_method_48_code 1 = .ok (.iload_n 1, 1) := by decide +kernel
theorem d_S1_fillNull_2 : decode prog_19_method_48_code 2 = .ok (.iload_n 2, 1) := by decide +kernel
theorem d_S1_fillNull_3 : decode prog_19_method_48_code 3 = .ok (.iconst 0, 1) := by decide +kernel
theorem d_S1_fillNull_4 : decode prog_19_method_48_code 4 = .ok (.invokestatic 236, 3) := by decide +kernel
theorem d_S1_fillNull_7 : decode prog_19_method_48_code 7 = .ok (.return_, 1) := by decide +kernel
theorem d_S1_indexOf_0 : decode prog_19_method_22_code 0 = .ok (.iload_n 1, 1) := by decide +kernel
theorem d_S1_indexOf_1 : decode prog_19_method_22_code 1 = .ok (.invokestatic 88, 3) := by decide +kernel
theorem d_S1_indexOf_4 : decode prog_19_method_22_code 4 = .ok (.ifCond .ne 5, 3) := by decide +kernel
theorem d_S1_indexOf_7 : decode prog_19_method_22_code 7 = .ok (.iconst (-1), 1) := by decide +kernel
theorem d_S1_indexOf_8 : decode prog_19_method_22_code 8 = .ok (.ireturn, 1) := by decide +kernel
theorem d_S1_indexOf_9 : decode prog_19_method_22_code 9 = .ok (.iload_n 2, 1) := by decide +kernel
theorem d_S1_indexOf_10 : decode prog_19_method_22_code 10 = .ok (.iconst 0, 1) := by decide +kernel
theorem d_S1_indexOf_11 : decode prog_19_method_22_code 11 = .ok (.invokestatic 92, 3) := by decide +kernel
theorem d_S1_indexOf_14 : decode prog_19_method_22_code 14 = .ok (.istore_n 2, 1) := by decide +kernel
theorem d_S1_indexOf_15 : decode prog_19_method_22_code 15 = .ok (.iload_n 3, 1) := by decide +kernel
theorem d_S1_indexOf_16 : decode prog_19_method_22_code 16 = .ok (.aload_n 0, 1) := by decide +kernel
theorem d_S1_indexOf_17 : decode prog_19_method_22_code 17 = .ok (.arraylength, 1) := by decide +kernel
theorem d_S1_indexOf_18 : decode prog_19_method_22_code 18 = .ok (.invokestatic 38, 3) := by decide +kernel
theorem d_S1_indexOf_21 : decode prog_19_method_22_code 21 = .ok (.istore_n 3, 1) := by decide +kernel
theorem d_S1_indexOf_22 : decode prog_19_method_22_code 22 = .ok (.iload_n 2, 1) := by decide +kernel
theorem d_S1_indexOf_23 : decode prog_19_method_22_code 23 = .ok (.iload_n 3, 1) := by decide +kernel
theorem d_S1_indexOf_24 : decode prog_19_method_22_code 24 = .ok (.if_icmp .lt 5, 3) := by decide +kernel
theorem d_S1_indexOf_27 : decode prog_19_method_22_code 27 = .ok (.iconst (-1), 1) := by decide +kernel
theorem d_S1_indexOf_28 : decode prog_19_method_22_code 28 = .ok (.ireturn, 1) := by decide +kernel
theorem d_S1_indexOf_29 : decode prog_19_method_22_code 29 = .ok (.aload_n 0, 1) := by decide +kernel
theorem d_S1_indexOf_30 : decode prog_19_method_22_code 30 = .ok (.iload_n 1, 1) := by decide +kernel
theorem d_S1_indexOf_31 : decode prog_19_method_22_code 31 = .ok (.iload_n 2, 1) := by decide +kernel
theorem d_S1_indexOf_32 : decode prog_19_method_22_code 32 = .ok (.iload_n 3, 1) := by decide +kernel
theorem d_S1_indexOf_33 : decode prog_19_method_22_code 33 = .ok (.invokestatic 95, 3) := by decide +kernel
theorem d_S1_indexOf_36 : decode prog_19_method_22_code 36 = .ok (.ireturn, 1) := by decide +kernel
theorem d_S1_canEncode2_0 : decode prog_19_method_4_code 0 = .ok (.iload_n 0, 1) := by decide +kernel
theorem d_S1_canEncode2_1 : decode prog_19_method_4_code 1 = .ok (.ifCond .lt 14, 3) := by decide +kernel
theorem d_S1_canEncode2_4 : decode prog_19_method_4_code 4 = .ok (.iload_n 0, 1) := by decide +kernel
theorem d_S1_canEncode2_5 : decode prog_19_method_4_code 5 = .ok (.sipush 255, 3) := by decide +kernel
theorem d_S1_canEncode2_8 : decode prog_19_method_4_code 8 = .ok (.if_icmp .gt 7, 3) := by decide +kernel
theorem d_S1_canEncode2_11 : decode prog_19_method_4_code 11 = .ok (.iconst 1, 1) := by decide +kernel
theorem d_S1_canEncode2_12 : decode prog_19_method_4_code 12 = .ok (.goto 4, 3) := by decide +kernel
theorem d_S1_canEncode2_15 : decode prog_19_method_4_code 15 = .ok (.iconst 0, 1) := by decide +kernel
theorem d_S1_canEncode2_16 : decode prog_19_method_4_code 16 = .ok (.ireturn, 1) := by decide +kernel
theorem d_S1_indexOfChar_0 : decode prog_19_method_23_code 0 = .ok (.iload_n 1, 1) := by decide +kernel
theorem d_S1_indexOfChar_1 : decode prog_19_method_23_code 1 = .ok (.i2b, 1) := by decide +kernel
theorem d_S1_indexOfChar_2 : decode prog_19_method_23_code 2 = .ok (.istore 4, 2) := by decide +kernel
theorem d_S1_indexOfChar_4 : decode prog_19_method_23_code 4 = .ok (.iload_n 2, 1) := by decide +kernel
theorem d_S1_indexOfChar_5 : decode prog_19_method_23_code 5 = .ok (.istore 5, 2) := by decide +kernel
theorem d_S1_indexOfChar_7 : decode prog_19_method_23_code 7 = .ok (.iload 5, 2) := by decide +kernel
theorem d_S1_indexOfChar_9 : decode prog_19_method_23_code 9 = .ok (.iload_n 3, 1) := by decide +kernel
theorem d_S1_indexOfChar_10 : decode prog_19_method_23_code 10 = .ok (.if_icmp .ge 21, 3) := by decide +kernel
theorem d_S1_indexOfChar_13 : decode prog_19_method_23_code 13 = .ok (.aload_n 0, 1) := by decide +kernel
theorem d_S1_indexOfChar_14 : decode prog_19_method_23_code 14 = .ok (.iload 5, 2) := by decide +kernel
theorem d_S1_indexOfChar_16 : decode prog_19_method_23_code 16 = .ok (.baload, 1) := by decide +kernel
theorem d_S1_indexOfChar_17 : decode prog_19_method_23_code 17 = .ok (.iload 4, 2) := by decide +kernel
theorem d_S1_indexOfChar_19 : decode prog_19_method_23_code 19 = .ok (.if_icmp .ne 6, 3) := by decide +kernel
theorem d_S1_indexOfChar_22 : decode prog_19_method_23_code 22 = .ok (.iload 5, 2) := by decide +kernel
theorem d_S1_indexOfChar_24 : decode prog_19_method_23_code 24 = .ok (.ireturn, 1) := by decide +kernel
theorem d_S1_indexOfChar_25 : decode prog_19_method_23_code 25 = .ok (.iinc 5 1, 3) := by decide +kernel
theorem d_S1_indexOfChar_28 : decode prog_19_method_23_code 28 = .ok (.goto (-21), 3) := by decide +kernel
theorem d_S1_indexOfChar_31 : decode prog_19_method_23_code 31 = .ok (.iconst (-1), 1) := by decide +kernel
theorem d_S1_indexOfChar_32 : decode prog_19_method_23_code 32 = .ok (.ireturn, 1) := by decide +kernel
theorem d_Al_init_0 : decode prog_24_method_2_code 0 = .ok (.aload_n 0, 1) := by decide +kernel
theorem d_Al_init_1 : decode prog_24_method_2_code 1 = .ok (.invokespecial 1, 3) := by decide +kernel
theorem d_Al_init_4 : decode prog_24_method_2_code 4 = .ok (.aload_n 0, 1) := by decide +kernel
theorem d_Al_init_5 : decode prog_24_method_2_code 5 = .ok (.getstatic 39, 3) := by decide +kernel
theorem d_Al_init_8 : decode prog_24_method_2_code 8 = .ok (.putfield 9, 3) := by decide +kernel
theorem d_Al_init_11 : decode prog_24_method_2_code 11 = .ok (.return_, 1) := by decide +kernel
theorem d_Al_size_0 : decode prog_24_method_8_code 0 = .ok (.aload_n 0, 1) := by decide +kernel
theorem d_Al_size_1 : decode prog_24_method_8_code 1 = .ok (.getfield 48, 3) := by decide +kernel
theorem d_Al_size_4 : decode prog_24_method_8_code 4 = .ok (.ireturn, 1) := by decide +kernel
theorem d_Al_get_0 : decode prog_24_method_20_code 0 = .ok (.iload_n 1, 1) := by decide +kernel
theorem d_Al_get_1 : decode prog_24_method_20_code 1 = .ok (.aload_n 0, 1) := by decide +kernel
theorem d_Al_get_2 : decode prog_24_method_20_code 2 = .ok (.getfield 48, 3) := by decide +kernel
theorem d_Al_get_5 : decode prog_24_method_20_code 5 = .ok (.invokestatic 118, 3) := by decide +kernel
theorem d_Al_get_8 : decode prog_24_method_20_code 8 = .ok (.pop, 1) := by decide +kernel
theorem d_Al_get_9 : decode prog_24_method_20_code 9 = .ok (.aload_n 0, 1) := by decide +kernel
theorem d_Al_get_10 : decode prog_24_method_20_code 10 = .ok (.iload_n 1, 1) := by decide +kernel
theorem d_Al_get_11 : decode prog_24_method_20_code 11 = .ok (.invokevirtual 123, 3) := by decide +kernel
theorem d_Al_get_14 : decode prog_24_method_20_code 14 = .ok (.areturn, 1) := by decide +kernel
theorem d_Al_elementData_0 : decode prog_24_method_18_code 0 = .ok (.aload_n 0, 1) := by decide +kernel
theorem d_Al_elementData_1 : decode prog_24_method_18_code 1 = .ok (.getfield 9, 3) := by decide +kernel
theorem d_Al_elementData_4 : decode prog_24_method_18_code 4 = .ok (.iload_n 1, 1) := by decide +kernel
theorem d_Al_elementData_5 : decode prog_24_method_18_code 5 = .ok (.aaload, 1) := by decide +kernel
theorem d_Al_elementData_6 : decode prog_24_method_18_code 6 = .ok (.areturn, 1) := by decide +kernel
theorem d_Al_add_0 : decode prog_24_method_25_code 0 = .ok (.aload_n 0, 1) := by decide +kernel
theorem d_Al_add_1 : decode prog_24_method_25_code 1 = .ok (.dup, 1) := by decide +kernel
theorem d_Al_add_2 : decode prog_24_method_25_code 2 = .ok (.getfield 63, 3) := by decide +kernel
theorem d_Al_add_5 : decode prog_24_method_25_code 5 = .ok (.iconst 1, 1) := by decide +kernel
theorem d_Al_add_6 : decode prog_24_method_25_code 6 = .ok (.iadd, 1) := by decide +kernel
theorem d_Al_add_7 : decode prog_24_method_25_code 7 = .ok (.putfield 63, 3) := by decide +kernel
theorem d_Al_add_10 : decode prog_24_method_25_code 10 = .ok (.aload_n 0, 1) := by decide +kernel
theorem d_Al_add_11 : decode prog_24_method_25_code 11 = .ok (.aload_n 1, 1) := by decide +kernel
theorem d_Al_add_12 : decode prog_24_method_25_code 12 = .ok (.aload_n 0, 1) := by decide +kernel
