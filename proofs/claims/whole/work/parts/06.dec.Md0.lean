theorem d_Md_init_0 : decode prog_10_method_1_code 0 = .ok (.aload_n 0, 1) := by decide +kernel
theorem d_Md_init_1 : decode prog_10_method_1_code 1 = .ok (.invokespecial 1, 3) := by decide +kernel
theorem d_Md_init_4 : decode prog_10_method_1_code 4 = .ok (.aload_n 0, 1) := by decide +kernel
theorem d_Md_init_5 : decode prog_10_method_1_code 5 = .ok (.sipush 3024, 3) := by decide +kernel
theorem d_Md_init_8 : decode prog_10_method_1_code 8 = .ok (.newarray .int, 2) := by decide +kernel
theorem d_Md_init_10 : decode prog_10_method_1_code 10 = .ok (.putfield 7, 3) := by decide +kernel
theorem d_Md_init_13 : decode prog_10_method_1_code 13 = .ok (.aload_n 0, 1) := by decide +kernel
theorem d_Md_init_14 : decode prog_10_method_1_code 14 = .ok (.bipush 126, 2) := by decide +kernel
theorem d_Md_init_16 : decode prog_10_method_1_code 16 = .ok (.newarray .int, 2) := by decide +kernel
theorem d_Md_init_18 : decode prog_10_method_1_code 18 = .ok (.putfield 13, 3) := by decide +kernel
theorem d_Md_init_21 : decode prog_10_method_1_code 21 = .ok (.aload_n 0, 1) := by decide +kernel
theorem d_Md_init_22 : decode prog_10_method_1_code 22 = .ok (.bipush 6, 2) := by decide +kernel
theorem d_Md_init_24 : decode prog_10_method_1_code 24 = .ok (.newarray .int, 2) := by decide +kernel
theorem d_Md_init_26 : decode prog_10_method_1_code 26 = .ok (.putfield 16, 3) := by decide +kernel
theorem d_Md_init_29 : decode prog_10_method_1_code 29 = .ok (.aload_n 0, 1) := by decide +kernel
theorem d_Md_init_30 : decode prog_10_method_1_code 30 = .ok (.bipush 24, 2) := by decide +kernel
theorem d_Md_init_32 : decode prog_10_method_1_code 32 = .ok (.newarray .boolean, 2) := by decide +kernel
theorem d_Md_init_34 : decode prog_10_method_1_code 34 = .ok (.putfield 19, 3) := by decide +kernel
theorem d_Md_init_37 : decode prog_10_method_1_code 37 = .ok (.aload_n 0, 1) := by decide +kernel
theorem d_Md_init_38 : decode prog_10_method_1_code 38 = .ok (.bipush 24, 2) := by decide +kernel
theorem d_Md_init_40 : decode prog_10_method_1_code 40 = .ok (.newarray .boolean, 2) := by decide +kernel
theorem d_Md_init_42 : decode prog_10_method_1_code 42 = .ok (.putfield 23, 3) := by decide +kernel
theorem d_Md_init_45 : decode prog_10_method_1_code 45 = .ok (.aload_n 0, 1) := by decide +kernel
theorem d_Md_init_46 : decode prog_10_method_1_code 46 = .ok (.bipush 24, 2) := by decide +kernel
theorem d_Md_init_48 : decode prog_10_method_1_code 48 = .ok (.newarray .int, 2) := by decide +kernel
theorem d_Md_init_50 : decode prog_10_method_1_code 50 = .ok (.putfield 26, 3) := by decide +kernel
theorem d_Md_init_53 : decode prog_10_method_1_code 53 = .ok (.aload_n 0, 1) := by decide +kernel
theorem d_Md_init_54 : decode prog_10_method_1_code 54 = .ok (.bipush 72, 2) := by decide +kernel
theorem d_Md_init_56 : decode prog_10_method_1_code 56 = .ok (.newarray .int, 2) := by decide +kernel
theorem d_Md_init_58 : decode prog_10_method_1_code 58 = .ok (.putfield 29, 3) := by decide +kernel
theorem d_Md_init_61 : decode prog_10_method_1_code 61 = .ok (.aload_n 0, 1) := by decide +kernel
theorem d_Md_init_62 : decode prog_10_method_1_code 62 = .ok (.bipush 72, 2) := by decide +kernel
theorem d_Md_init_64 : decode prog_10_method_1_code 64 = .ok (.newarray .boolean, 2) := by decide +kernel
theorem d_Md_init_66 : decode prog_10_method_1_code 66 = .ok (.putfield 32, 3) := by decide +kernel
theorem d_Md_init_69 : decode prog_10_method_1_code 69 = .ok (.aload_n 0, 1) := by decide +kernel
theorem d_Md_init_70 : decode prog_10_method_1_code 70 = .ok (.iconst 4, 1) := by decide +kernel
theorem d_Md_init_71 : decode prog_10_method_1_code 71 = .ok (.newarray .int, 2) := by decide +kernel
theorem d_Md_init_73 : decode prog_10_method_1_code 73 = .ok (.putfield 35, 3) := by decide +kernel
theorem d_Md_init_76 : decode prog_10_method_1_code 76 = .ok (.aload_n 0, 1) := by decide +kernel
theorem d_Md_init_77 : decode prog_10_method_1_code 77 = .ok (.iconst 4, 1) := by decide +kernel
theorem d_Md_init_78 : decode prog_10_method_1_code 78 = .ok (.newarray .boolean, 2) := by decide +kernel
theorem d_Md_init_80 : decode prog_10_method_1_code 80 = .ok (.putfield 38, 3) := by decide +kernel
theorem d_Md_init_83 : decode prog_10_method_1_code 83 = .ok (.aload_n 0, 1) := by decide +kernel
theorem d_Md_init_84 : decode prog_10_method_1_code 84 = .ok (.bipush 6, 2) := by decide +kernel
theorem d_Md_init_86 : decode prog_10_method_1_code 86 = .ok (.newarray .int, 2) := by decide +kernel
theorem d_Md_init_88 : decode prog_10_method_1_code 88 = .ok (.putfield 41, 3) := by decide +kernel
theorem d_Md_init_91 : decode prog_10_method_1_code 91 = .ok (.aload_n 0, 1) := by decide +kernel
theorem d_Md_init_92 : decode prog_10_method_1_code 92 = .ok (.bipush 6, 2) := by decide +kernel
theorem d_Md_init_94 : decode prog_10_method_1_code 94 = .ok (.newarray .int, 2) := by decide +kernel
theorem d_Md_init_96 : decode prog_10_method_1_code 96 = .ok (.putfield 44, 3) := by decide +kernel
theorem d_Md_init_99 : decode prog_10_method_1_code 99 = .ok (.aload_n 0, 1) := by decide +kernel
theorem d_Md_init_100 : decode prog_10_method_1_code 100 = .ok (.iconst 4, 1) := by decide +kernel
theorem d_Md_init_101 : decode prog_10_method_1_code 101 = .ok (.newarray .boolean, 2) := by decide +kernel
theorem d_Md_init_103 : decode prog_10_method_1_code 103 = .ok (.putfield 47, 3) := by decide +kernel
theorem d_Md_init_106 : decode prog_10_method_1_code 106 = .ok (.aload_n 0, 1) := by decide +kernel
theorem d_Md_init_107 : decode prog_10_method_1_code 107 = .ok (.bipush 6, 2) := by decide +kernel
theorem d_Md_init_109 : decode prog_10_method_1_code 109 = .ok (.newarray .boolean, 2) := by decide +kernel
theorem d_Md_init_111 : decode prog_10_method_1_code 111 = .ok (.putfield 50, 3) := by decide +kernel
theorem d_Md_init_114 : decode prog_10_method_1_code 114 = .ok (.aload_n 0, 1) := by decide +kernel
theorem d_Md_init_115 : decode prog_10_method_1_code 115 = .ok (.bipush 30, 2) := by decide +kernel
theorem d_Md_init_117 : decode prog_10_method_1_code 117 = .ok (.newarray .int, 2) := by decide +kernel
theorem d_Md_init_119 : decode prog_10_method_1_code 119 = .ok (.putfield 53, 3) := by decide +kernel
theorem d_Md_init_122 : decode prog_10_method_1_code 122 = .ok (.aload_n 0, 1) := by decide +kernel
theorem d_Md_init_123 : decode prog_10_method_1_code 123 = .ok (.getfield 7, 3) := by decide +kernel
theorem d_Md_init_126 : decode prog_10_method_1_code 126 = .ok (.bipush 24, 2) := by decide +kernel
theorem d_Md_init_128 : decode prog_10_method_1_code 128 = .ok (.bipush 49, 2) := by decide +kernel
theorem d_Md_init_130 : decode prog_10_method_1_code 130 = .ok (.iastore, 1) := by decide +kernel
theorem d_Md_init_131 : decode prog_10_method_1_code 131 = .ok (.aload_n 0, 1) := by decide +kernel
theorem d_Md_init_132 : decode prog_10_method_1_code 132 = .ok (.getfield 13, 3) := by decide +kernel
theorem d_Md_init_135 : decode prog_10_method_1_code 135 = .ok (.iconst 1, 1) := by decide +kernel
theorem d_Md_init_136 : decode prog_10_method_1_code 136 = .ok (.iconst 1, 1) := by decide +kernel
theorem d_Md_init_137 : decode prog_10_method_1_code 137 = .ok (.iastore, 1) := by decide +kernel
theorem d_Md_init_138 : decode prog_10_method_1_code 138 = .ok (.return_, 1) := by decide +kernel
theorem d_Md_write_0 : decode prog_10_method_8_code 0 = .ok (.iload_n 1, 1) := by decide +kernel
theorem d_Md_write_1 : decode prog_10_method_8_code 1 = .ok (.ifCond .eq 10, 3) := by decide +kernel
theorem d_Md_write_4 : decode prog_10_method_8_code 4 = .ok (.iload_n 1, 1) := by decide +kernel
theorem d_Md_write_5 : decode prog_10_method_8_code 5 = .ok (.invokestatic 67, 3) := by decide +kernel
theorem d_Md_write_8 : decode prog_10_method_8_code 8 = .ok (.ifCond .eq 38, 3) := by decide +kernel
theorem d_Md_write_11 : decode prog_10_method_8_code 11 = .ok (.iload_n 2, 1) := by decide +kernel
theorem d_Md_write_12 : decode prog_10_method_8_code 12 = .ok (.ifCond .eq 10, 3) := by decide +kernel
theorem d_Md_write_15 : decode prog_10_method_8_code 15 = .ok (.iload_n 2, 1) := by decide +kernel
theorem d_Md_write_16 : decode prog_10_method_8_code 16 = .ok (.invokestatic 67, 3) := by decide +kernel
theorem d_Md_write_19 : decode prog_10_method_8_code 19 = .ok (.ifCond .eq 27, 3) := by decide +kernel
theorem d_Md_write_22 : decode prog_10_method_8_code 22 = .ok (.iload_n 3, 1) := by decide +kernel
theorem d_Md_write_23 : decode prog_10_method_8_code 23 = .ok (.ifCond .eq 10, 3) := by decide +kernel
theorem d_Md_write_26 : decode prog_10_method_8_code 26 = .ok (.iload_n 3, 1) := by decide +kernel
theorem d_Md_write_27 : decode prog_10_method_8_code 27 = .ok (.invokestatic 67, 3) := by decide +kernel
theorem d_Md_write_30 : decode prog_10_method_8_code 30 = .ok (.ifCond .eq 16, 3) := by decide +kernel
theorem d_Md_write_33 : decode prog_10_method_8_code 33 = .ok (.iload 4, 2) := by decide +kernel
theorem d_Md_write_35 : decode prog_10_method_8_code 35 = .ok (.ifCond .eq 13, 3) := by decide +kernel
theorem d_Md_write_38 : decode prog_10_method_8_code 38 = .ok (.iload 4, 2) := by decide +kernel
theorem d_Md_write_40 : decode prog_10_method_8_code 40 = .ok (.invokestatic 67, 3) := by decide +kernel
theorem d_Md_write_43 : decode prog_10_method_8_code 43 = .ok (.ifCond .ne 5, 3) := by decide +kernel
theorem d_Md_write_46 : decode prog_10_method_8_code 46 = .ok (.iconst (-1), 1) := by decide +kernel
theorem d_Md_write_47 : decode prog_10_method_8_code 47 = .ok (.ireturn, 1) := by decide +kernel
theorem d_Md_write_48 : decode prog_10_method_8_code 48 = .ok (.iload_n 1, 1) := by decide +kernel
theorem d_Md_write_49 : decode prog_10_method_8_code 49 = .ok (.ifCond .ne 7, 3) := by decide +kernel
theorem d_Md_write_52 : decode prog_10_method_8_code 52 = .ok (.iconst 0, 1) := by decide +kernel
theorem d_Md_write_53 : decode prog_10_method_8_code 53 = .ok (.goto 4, 3) := by decide +kernel
theorem d_Md_write_56 : decode prog_10_method_8_code 56 = .ok (.iconst 1, 1) := by decide +kernel
theorem d_Md_write_57 : decode prog_10_method_8_code 57 = .ok (.iload_n 2, 1) := by decide +kernel
theorem d_Md_write_58 : decode prog_10_method_8_code 58 = .ok (.ifCond .ne 7, 3) := by decide +kernel
theorem d_Md_write_61 : decode prog_10_method_8_code 61 = .ok (.iconst 0, 1) := by decide +kernel
theorem d_Md_write_62 : decode prog_10_method_8_code 62 = .ok (.goto 4, 3) := by decide +kernel
theorem d_Md_write_65 : decode prog_10_method_8_code 65 = .ok (.iconst 1, 1) := by decide +kernel
theorem d_Md_write_66 : decode prog_10_method_8_code 66 = .ok (.iadd, 1) := by decide +kernel
theorem d_Md_write_67 : decode prog_10_method_8_code 67 = .ok (.iload_n 3, 1) := by decide +kernel
theorem d_Md_write_68 : decode prog_10_method_8_code 68 = .ok (.ifCond .ne 7, 3) := by decide +kernel
theorem d_Md_write_71 : decode prog_10_method_8_code 71 = .ok (.iconst 0, 1) := by decide +kernel
theorem d_Md_write_72 : decode prog_10_method_8_code 72 = .ok (.goto 4, 3) := by decide +kernel
theorem d_Md_write_75 : decode prog_10_method_8_code 75 = .ok (.iconst 1, 1) := by decide +kernel
theorem d_Md_write_76 : decode prog_10_method_8_code 76 = .ok (.iadd, 1) := by decide +kernel
theorem d_Md_write_77 : decode prog_10_method_8_code 77 = .ok (.iload 4, 2) := by decide +kernel
theorem d_Md_write_79 : decode prog_10_method_8_code 79 = .ok (.ifCond .ne 7, 3) := by decide +kernel
theorem d_Md_write_82 : decode prog_10_method_8_code 82 = .ok (.iconst 0, 1) := by decide +kernel
theorem d_Md_write_83 : decode prog_10_method_8_code 83 = .ok (.goto 4, 3) := by decide +kernel
theorem d_Md_write_86 : decode prog_10_method_8_code 86 = .ok (.iconst 1, 1) := by decide +kernel
theorem d_Md_write_87 : decode prog_10_method_8_code 87 = .ok (.iadd, 1) := by decide +kernel
theorem d_Md_write_88 : decode prog_10_method_8_code 88 = .ok (.istore 5, 2) := by decide +kernel
theorem d_Md_write_90 : decode prog_10_method_8_code 90 = .ok (.aload_n 0, 1) := by decide +kernel
theorem d_Md_write_91 : decode prog_10_method_8_code 91 = .ok (.getfield 13, 3) := by decide +kernel
theorem d_Md_write_94 : decode prog_10_method_8_code 94 = .ok (.iconst 0, 1) := by decide +kernel
theorem d_Md_write_95 : decode prog_10_method_8_code 95 = .ok (.iaload, 1) := by decide +kernel
theorem d_Md_write_96 : decode prog_10_method_8_code 96 = .ok (.iload 5, 2) := by decide +kernel
theorem d_Md_write_98 : decode prog_10_method_8_code 98 = .ok (.iadd, 1) := by decide +kernel
theorem d_Md_write_99 : decode prog_10_method_8_code 99 = .ok (.bipush 24, 2) := by decide +kernel
theorem d_Md_write_101 : decode prog_10_method_8_code 101 = .ok (.if_icmp .le 6, 3) := by decide +kernel
theorem d_Md_write_104 : decode prog_10_method_8_code 104 = .ok (.bipush (-2), 2) := by decide +kernel
theorem d_Md_write_106 : decode prog_10_method_8_code 106 = .ok (.ireturn, 1) := by decide +kernel
theorem d_Md_write_107 : decode prog_10_method_8_code 107 = .ok (.aload_n 0, 1) := by decide +kernel
theorem d_Md_write_108 : decode prog_10_method_8_code 108 = .ok (.iload_n 1, 1) := by decide +kernel
theorem d_Md_write_109 : decode prog_10_method_8_code 109 = .ok (.invokevirtual 70, 3) := by decide +kernel
theorem d_Md_write_112 : decode prog_10_method_8_code 112 = .ok (.istore 5, 2) := by decide +kernel
theorem d_Md_write_114 : decode prog_10_method_8_code 114 = .ok (.aload_n 0, 1) := by decide +kernel
theorem d_Md_write_115 : decode prog_10_method_8_code 115 = .ok (.iload_n 2, 1) := by decide +kernel
theorem d_Md_write_116 : decode prog_10_method_8_code 116 = .ok (.invokevirtual 70, 3) := by decide +kernel
theorem d_Md_write_119 : decode prog_10_method_8_code 119 = .ok (.istore 5, 2) := by decide +kernel
theorem d_Md_write_121 : decode prog_10_method_8_code 121 = .ok (.aload_n 0, 1) := by decide +kernel
theorem d_Md_write_122 : decode prog_10_method_8_code 122 = .ok (.iload_n 3, 1) := by decide +kernel
theorem d_Md_write_123 : decode prog_10_method_8_code 123 = .ok (.invokevirtual 70, 3) := by decide +kernel
theorem d_Md_write_126 : decode prog_10_method_8_code 126 = .ok (.istore 5, 2) := by decide +kernel
theorem d_Md_write_128 : decode prog_10_method_8_code 128 = .ok (.aload_n 0, 1) := by decide +kernel
theorem d_Md_write_129 : decode prog_10_method_8_code 129 = .ok (.iload 4, 2) := by decide +kernel
theorem d_Md_write_131 : decode prog_10_method_8_code 131 = .ok (.invokevirtual 70, 3) := by decide +kernel
theorem d_Md_write_134 : decode prog_10_method_8_code 134 = .ok (.istore 5, 2) := by decide +kernel
theorem d_Md_write_136 : decode prog_10_method_8_code 136 = .ok (.aload_n 0, 1) := by decide +kernel
theorem d_Md_write_137 : decode prog_10_method_8_code 137 = .ok (.getfield 13, 3) := by decide +kernel
theorem d_Md_write_140 : decode prog_10_method_8_code 140 = .ok (.iconst 0, 1) := by decide +kernel
theorem d_Md_write_141 : decode prog_10_method_8_code 141 = .ok (.iaload, 1) := by decide +kernel
theorem d_Md_write_142 : decode prog_10_method_8_code 142 = .ok (.ireturn, 1) := by decide +kernel
theorem d_Md_may_0 : decode prog_10_method_5_code 0 = .ok (.iload_n 0, 1) := by decide +kernel
theorem d_Md_may_1 : decode prog_10_method_5_code 1 = .ok (.invokestatic 60, 3) := by decide +kernel
theorem d_Md_may_4 : decode prog_10_method_5_code 4 = .ok (.ifCond .ne 44, 3) := by decide +kernel
theorem d_Md_may_7 : decode prog_10_method_5_code 7 = .ok (.iload_n 0, 1) := by decide +kernel
theorem d_Md_may_8 : decode prog_10_method_5_code 8 = .ok (.invokestatic 64, 3) := by decide +kernel
theorem d_Md_may_11 : decode prog_10_method_5_code 11 = .ok (.ifCond .ne 37, 3) := by decide +kernel
theorem d_Md_may_14 : decode prog_10_method_5_code 14 = .ok (.iload_n 0, 1) := by decide +kernel
theorem d_Md_may_15 : decode prog_10_method_5_code 15 = .ok (.bipush 40, 2) := by decide +kernel
theorem d_Md_may_17 : decode prog_10_method_5_code 17 = .ok (.bipush 41, 2) := by decide +kernel
theorem d_Md_may_19 : decode prog_10_method_5_code 19 = .ok (.invokestatic 56, 3) := by decide +kernel
theorem d_Md_may_22 : decode prog_10_method_5_code 22 = .ok (.ifCond .ne 26, 3) := by decide +kernel
theorem d_Md_may_25 : decode prog_10_method_5_code 25 = .ok (.iload_n 0, 1) := by decide +kernel
theorem d_Md_may_26 : decode prog_10_method_5_code 26 = .ok (.bipush 44, 2) := by decide +kernel
theorem d_Md_may_28 : decode prog_10_method_5_code 28 = .ok (.bipush 46, 2) := by decide +kernel
theorem d_Md_may_30 : decode prog_10_method_5_code 30 = .ok (.invokestatic 56, 3) := by decide +kernel
theorem d_Md_may_33 : decode prog_10_method_5_code 33 = .ok (.ifCond .ne 15, 3) := by decide +kernel
theorem d_Md_may_36 : decode prog_10_method_5_code 36 = .ok (.iload_n 0, 1) := by decide +kernel
theorem d_Md_may_37 : decode prog_10_method_5_code 37 = .ok (.bipush 91, 2) := by decide +kernel
theorem d_Md_may_39 : decode prog_10_method_5_code 39 = .ok (.if_icmp .eq 9, 3) := by decide +kernel
theorem d_Md_may_42 : decode prog_10_method_5_code 42 = .ok (.iload_n 0, 1) := by decide +kernel
theorem d_Md_may_43 : decode prog_10_method_5_code 43 = .ok (.bipush 93, 2) := by decide +kernel
theorem d_Md_may_45 : decode prog_10_method_5_code 45 = .ok (.if_icmp .ne 7, 3) := by decide +kernel
theorem d_Md_may_48 : decode prog_10_method_5_code 48 = .ok (.iconst 1, 1) := by decide +kernel
theorem d_Md_may_49 : decode prog_10_method_5_code 49 = .ok (.goto 4, 3) := by decide +kernel
theorem d_Md_may_52 : decode prog_10_method_5_code 52 = .ok (.iconst 0, 1) := by decide +kernel
theorem d_Md_may_53 : decode prog_10_method_5_code 53 = .ok (.ireturn, 1) := by decide +kernel
theorem d_Md_digit_0 : decode prog_10_method_3_code 0 = .ok (.iload_n 0, 1) := by decide +kernel
theorem d_Md_digit_1 : decode prog_10_method_3_code 1 = .ok (.bipush 48, 2) := by decide +kernel
theorem d_Md_digit_3 : decode prog_10_method_3_code 3 = .ok (.bipush 57, 2) := by decide +kernel
theorem d_Md_digit_5 : decode prog_10_method_3_code 5 = .ok (.invokestatic 56, 3) := by decide +kernel
theorem d_Md_digit_8 : decode prog_10_method_3_code 8 = .ok (.ireturn, 1) := by decide +kernel
theorem d_Md_in_0 : decode prog_10_method_2_code 0 = .ok (.iload_n 0, 1) := by decide +kernel
theorem d_Md_in_1 : decode prog_10_method_2_code 1 = .ok (.iload_n 1, 1) := by decide +kernel
theorem d_Md_in_2 : decode prog_10_method_2_code 2 = .ok (.if_icmp .lt 12, 3) := by decide +kernel
theorem d_Md_in_5 : decode prog_10_method_2_code 5 = .ok (.iload_n 0, 1) := by decide +kernel
theorem d_Md_in_6 : decode prog_10_method_2_code 6 = .ok (.iload_n 2, 1) := by decide +kernel
theorem d_Md_in_7 : decode prog_10_method_2_code 7 = .ok (.if_icmp .gt 7, 3) := by decide +kernel
theorem d_Md_in_10 : decode prog_10_method_2_code 10 = .ok (.iconst 1, 1) := by decide +kernel
theorem d_Md_in_11 : decode prog_10_method_2_code 11 = .ok (.goto 4, 3) := by decide +kernel
theorem d_Md_in_14 : decode prog_10_method_2_code 14 = .ok (.iconst 0, 1) := by decide +kernel
theorem d_Md_in_15 : decode prog_10_method_2_code 15 = .ok (.ireturn, 1) := by decide +kernel
theorem d_Md_letter_0 : decode prog_10_method_4_code 0 = .ok (.iload_n 0, 1) := by decide +kernel
theorem d_Md_letter_1 : decode prog_10_method_4_code 1 = .ok (.bipush 97, 2) := by decide +kernel
theorem d_Md_letter_3 : decode prog_10_method_4_code 3 = .ok (.bipush 122, 2) := by decide +kernel
theorem d_Md_letter_5 : decode prog_10_method_4_code 5 = .ok (.invokestatic 56, 3) := by decide +kernel
theorem d_Md_letter_8 : decode prog_10_method_4_code 8 = .ok (.ireturn, 1) := by decide +kernel
theorem d_Md_put_0 : decode prog_10_method_7_code 0 = .ok (.iload_n 1, 1) := by decide +kernel
theorem d_Md_put_1 : decode prog_10_method_7_code 1 = .ok (.ifCond .ne 5, 3) := by decide +kernel
theorem d_Md_put_4 : decode prog_10_method_7_code 4 = .ok (.iconst 0, 1) := by decide +kernel
theorem d_Md_put_5 : decode prog_10_method_7_code 5 = .ok (.ireturn, 1) := by decide +kernel
theorem d_Md_put_6 : decode prog_10_method_7_code 6 = .ok (.aload_n 0, 1) := by decide +kernel
theorem d_Md_put_7 : decode prog_10_method_7_code 7 = .ok (.getfield 7, 3) := by decide +kernel
theorem d_Md_put_10 : decode prog_10_method_7_code 10 = .ok (.aload_n 0, 1) := by decide +kernel
theorem d_Md_put_11 : decode prog_10_method_7_code 11 = .ok (.getfield 13, 3) := by decide +kernel
theorem d_Md_put_14 : decode prog_10_method_7_code 14 = .ok (.iconst 0, 1) := by decide +kernel
theorem d_Md_put_15 : decode prog_10_method_7_code 15 = .ok (.iaload, 1) := by decide +kernel
theorem d_Md_put_16 : decode prog_10_method_7_code 16 = .ok (.iload_n 1, 1) := by decide +kernel
theorem d_Md_put_17 : decode prog_10_method_7_code 17 = .ok (.iastore, 1) := by decide +kernel
theorem d_Md_put_18 : decode prog_10_method_7_code 18 = .ok (.aload_n 0, 1) := by decide +kernel
theorem d_Md_put_19 : decode prog_10_method_7_code 19 = .ok (.getfield 13, 3) := by decide +kernel
theorem d_Md_put_22 : decode prog_10_method_7_code 22 = .ok (.iconst 0, 1) := by decide +kernel
theorem d_Md_put_23 : decode prog_10_method_7_code 23 = .ok (.dup2, 1) := by decide +kernel
theorem d_Md_put_24 : decode prog_10_method_7_code 24 = .ok (.iaload, 1) := by decide +kernel
theorem d_Md_put_25 : decode prog_10_method_7_code 25 = .ok (.iconst 1, 1) := by decide +kernel
theorem d_Md_put_26 : decode prog_10_method_7_code 26 = .ok (.iadd, 1) := by decide +kernel
theorem d_Md_put_27 : decode prog_10_method_7_code 27 = .ok (.iastore, 1) := by decide +kernel
theorem d_Md_put_28 : decode prog_10_method_7_code 28 = .ok (.iconst 1, 1) := by decide +kernel
theorem d_Md_put_29 : decode prog_10_method_7_code 29 = .ok (.ireturn, 1) := by decide +kernel
theorem d_Md_wipe_0 : decode prog_10_method_9_code 0 = .ok (.aload_n 0, 1) := by decide +kernel
theorem d_Md_wipe_1 : decode prog_10_method_9_code 1 = .ok (.getfield 13, 3) := by decide +kernel
theorem d_Md_wipe_4 : decode prog_10_method_9_code 4 = .ok (.iconst 0, 1) := by decide +kernel
theorem d_Md_wipe_5 : decode prog_10_method_9_code 5 = .ok (.iaload, 1) := by decide +kernel
theorem d_Md_wipe_6 : decode prog_10_method_9_code 6 = .ok (.istore_n 1, 1) := by decide +kernel
theorem d_Md_wipe_7 : decode prog_10_method_9_code 7 = .ok (.aload_n 0, 1) := by decide +kernel
theorem d_Md_wipe_8 : decode prog_10_method_9_code 8 = .ok (.getfield 13, 3) := by decide +kernel
theorem d_Md_wipe_11 : decode prog_10_method_9_code 11 = .ok (.iconst 0, 1) := by decide +kernel
theorem d_Md_wipe_12 : decode prog_10_method_9_code 12 = .ok (.iconst 0, 1) := by decide +kernel
theorem d_Md_wipe_13 : decode prog_10_method_9_code 13 = .ok (.iastore, 1) := by decide +kernel
theorem d_Md_wipe_14 : decode prog_10_method_9_code 14 = .ok (.iload_n 1, 1) := by decide +kernel
theorem d_Md_wipe_15 : decode prog_10_method_9_code 15 = .ok (.ireturn, 1) := by decide +kernel
theorem d_Md_release_0 : decode prog_10_method_25_code 0 = .ok (.iload_n 1, 1) := by decide +kernel
theorem d_Md_release_1 : decode prog_10_method_25_code 1 = .ok (.iconst 0, 1) := by decide +kernel
theorem d_Md_release_2 : decode prog_10_method_25_code 2 = .ok (.iconst 5, 1) := by decide +kernel
theorem d_Md_release_3 : decode prog_10_method_25_code 3 = .ok (.invokestatic 56, 3) := by decide +kernel
theorem d_Md_release_6 : decode prog_10_method_25_code 6 = .ok (.ifCond .ne 5, 3) := by decide +kernel
theorem d_Md_release_9 : decode prog_10_method_25_code 9 = .ok (.iconst (-1), 1) := by decide +kernel
theorem d_Md_release_10 : decode prog_10_method_25_code 10 = .ok (.ireturn, 1) := by decide +kernel
theorem d_Md_release_11 : decode prog_10_method_25_code 11 = .ok (.aload_n 0, 1) := by decide +kernel
theorem d_Md_release_12 : decode prog_10_method_25_code 12 = .ok (.iconst 0, 1) := by decide +kernel
theorem d_Md_release_13 : decode prog_10_method_25_code 13 = .ok (.iconst 0, 1) := by decide +kernel
theorem d_Md_release_14 : decode prog_10_method_25_code 14 = .ok (.aload_n 0, 1) := by decide +kernel
theorem d_Md_release_15 : decode prog_10_method_25_code 15 = .ok (.getfield 13, 3) := by decide +kernel
theorem d_Md_release_18 : decode prog_10_method_25_code 18 = .ok (.iconst 0, 1) := by decide +kernel
theorem d_Md_release_19 : decode prog_10_method_25_code 19 = .ok (.iaload, 1) := by decide +kernel
theorem d_Md_release_20 : decode prog_10_method_25_code 20 = .ok (.invokevirtual 143, 3) := by decide +kernel
theorem d_Md_release_23 : decode prog_10_method_25_code 23 = .ok (.ifCond .ne 10, 3) := by decide +kernel
theorem d_Md_release_26 : decode prog_10_method_25_code 26 = .ok (.aload_n 0, 1) := by decide +kernel
theorem d_Md_release_27 : decode prog_10_method_25_code 27 = .ok (.bipush (-3), 2) := by decide +kernel
theorem d_Md_release_29 : decode prog_10_method_25_code 29 = .ok (.invokevirtual 153, 3) := by decide +kernel
theorem d_Md_release_32 : decode prog_10_method_25_code 32 = .ok (.ireturn, 1) := by decide +kernel
theorem d_Md_release_33 : decode prog_10_method_25_code 33 = .ok (.iconst 0, 1) := by decide +kernel
theorem d_Md_release_34 : decode prog_10_method_25_code 34 = .ok (.istore_n 2, 1) := by decide +kernel
theorem d_Md_release_35 : decode prog_10_method_25_code 35 = .ok (.iload_n 2, 1) := by decide +kernel
theorem d_Md_release_36 : decode prog_10_method_25_code 36 = .ok (.aload_n 0, 1) := by decide +kernel
theorem d_Md_release_37 : decode prog_10_method_25_code 37 = .ok (.getfield 16, 3) := by decide +kernel
theorem d_Md_release_40 : decode prog_10_method_25_code 40 = .ok (.iload_n 1, 1) := by decide +kernel
theorem d_Md_release_41 : decode prog_10_method_25_code 41 = .ok (.iaload, 1) := by decide +kernel
theorem d_Md_release_42 : decode prog_10_method_25_code 42 = .ok (.if_icmp .ge 39, 3) := by decide +kernel
theorem d_Md_release_45 : decode prog_10_method_25_code 45 = .ok (.aload_n 0, 1) := by decide +kernel
theorem d_Md_release_46 : decode prog_10_method_25_code 46 = .ok (.bipush 6, 2) := by decide +kernel
theorem d_Md_release_48 : decode prog_10_method_25_code 48 = .ok (.iconst 4, 1) := by decide +kernel
theorem d_Md_release_49 : decode prog_10_method_25_code 49 = .ok (.iload_n 1, 1) := by decide +kernel
theorem d_Md_release_50 : decode prog_10_method_25_code 50 = .ok (.imul, 1) := by decide +kernel
theorem d_Md_release_51 : decode prog_10_method_25_code 51 = .ok (.iadd, 1) := by decide +kernel
theorem d_Md_release_52 : decode prog_10_method_25_code 52 = .ok (.iload_n 2, 1) := by decide +kernel
theorem d_Md_release_53 : decode prog_10_method_25_code 53 = .ok (.iadd, 1) := by decide +kernel
theorem d_Md_release_54 : decode prog_10_method_25_code 54 = .ok (.iconst 0, 1) := by decide +kernel
theorem d_Md_release_55 : decode prog_10_method_25_code 55 = .ok (.iconst 0, 1) := by decide +kernel
theorem d_Md_release_56 : decode prog_10_method_25_code 56 = .ok (.aload_n 0, 1) := by decide +kernel
theorem d_Md_release_57 : decode prog_10_method_25_code 57 = .ok (.getfield 13, 3) := by decide +kernel
theorem d_Md_release_60 : decode prog_10_method_25_code 60 = .ok (.iconst 0, 1) := by decide +kernel
theorem d_Md_release_61 : decode prog_10_method_25_code 61 = .ok (.iaload, 1) := by decide +kernel
theorem d_Md_release_62 : decode prog_10_method_25_code 62 = .ok (.invokevirtual 149, 3) := by decide +kernel
theorem d_Md_release_65 : decode prog_10_method_25_code 65 = .ok (.ifCond .ne 10, 3) := by decide +kernel
theorem d_Md_release_68 : decode prog_10_method_25_code 68 = .ok (.aload_n 0, 1) := by decide +kernel
theorem d_Md_release_69 : decode prog_10_method_25_code 69 = .ok (.bipush (-5), 2) := by decide +kernel
theorem d_Md_release_71 : decode prog_10_method_25_code 71 = .ok (.invokevirtual 153, 3) := by decide +kernel
theorem d_Md_release_74 : decode prog_10_method_25_code 74 = .ok (.ireturn, 1) := by decide +kernel
theorem d_Md_release_75 : decode prog_10_method_25_code 75 = .ok (.iinc 2 1, 3) := by decide +kernel
theorem d_Md_release_78 : decode prog_10_method_25_code 78 = .ok (.goto (-43), 3) := by decide +kernel
theorem d_Md_release_81 : decode prog_10_method_25_code 81 = .ok (.aload_n 0, 1) := by decide +kernel
theorem d_Md_release_82 : decode prog_10_method_25_code 82 = .ok (.getfield 16, 3) := by decide +kernel
theorem d_Md_release_85 : decode prog_10_method_25_code 85 = .ok (.iload_n 1, 1) := by decide +kernel
theorem d_Md_release_86 : decode prog_10_method_25_code 86 = .ok (.iaload, 1) := by decide +kernel
theorem d_Md_release_87 : decode prog_10_method_25_code 87 = .ok (.iconst 4, 1) := by decide +kernel
theorem d_Md_release_88 : decode prog_10_method_25_code 88 = .ok (.if_icmp .ne 10, 3) := by decide +kernel
theorem d_Md_release_91 : decode prog_10_method_25_code 91 = .ok (.aload_n 0, 1) := by decide +kernel
theorem d_Md_release_92 : decode prog_10_method_25_code 92 = .ok (.bipush (-2), 2) := by decide +kernel
theorem d_Md_release_94 : decode prog_10_method_25_code 94 = .ok (.invokevirtual 153, 3) := by decide +kernel
theorem d_Md_release_97 : decode prog_10_method_25_code 97 = .ok (.ireturn, 1) := by decide +kernel
theorem d_Md_release_98 : decode prog_10_method_25_code 98 = .ok (.aload_n 0, 1) := by decide +kernel
theorem d_Md_release_99 : decode prog_10_method_25_code 99 = .ok (.bipush 6, 2) := by decide +kernel
theorem d_Md_release_101 : decode prog_10_method_25_code 101 = .ok (.iconst 4, 1) := by decide +kernel
theorem d_Md_release_102 : decode prog_10_method_25_code 102 = .ok (.iload_n 1, 1) := by decide +kernel
theorem d_Md_release_103 : decode prog_10_method_25_code 103 = .ok (.imul, 1) := by decide +kernel
theorem d_Md_release_104 : decode prog_10_method_25_code 104 = .ok (.iadd, 1) := by decide +kernel
theorem d_Md_release_105 : decode prog_10_method_25_code 105 = .ok (.aload_n 0, 1) := by decide +kernel
theorem d_Md_release_106 : decode prog_10_method_25_code 106 = .ok (.getfield 16, 3) := by decide +kernel
theorem d_Md_release_109 : decode prog_10_method_25_code 109 = .ok (.iload_n 1, 1) := by decide +kernel
theorem d_Md_release_110 : decode prog_10_method_25_code 110 = .ok (.iaload, 1) := by decide +kernel
theorem d_Md_release_111 : decode prog_10_method_25_code 111 = .ok (.iadd, 1) := by decide +kernel
theorem d_Md_release_112 : decode prog_10_method_25_code 112 = .ok (.invokevirtual 156, 3) := by decide +kernel
theorem d_Md_release_115 : decode prog_10_method_25_code 115 = .ok (.aload_n 0, 1) := by decide +kernel
theorem d_Md_release_116 : decode prog_10_method_25_code 116 = .ok (.getfield 16, 3) := by decide +kernel
theorem d_Md_release_119 : decode prog_10_method_25_code 119 = .ok (.iload_n 1, 1) := by decide +kernel
theorem d_Md_release_120 : decode prog_10_method_25_code 120 = .ok (.dup2, 1) := by decide +kernel
theorem d_Md_release_121 : decode prog_10_method_25_code 121 = .ok (.iaload, 1) := by decide +kernel
theorem d_Md_release_122 : decode prog_10_method_25_code 122 = .ok (.iconst 1, 1) := by decide +kernel
theorem d_Md_release_123 : decode prog_10_method_25_code 123 = .ok (.iadd, 1) := by decide +kernel
theorem d_Md_release_124 : decode prog_10_method_25_code 124 = .ok (.iastore, 1) := by decide +kernel
theorem d_Md_release_125 : decode prog_10_method_25_code 125 = .ok (.aload_n 0, 1) := by decide +kernel
theorem d_Md_release_126 : decode prog_10_method_25_code 126 = .ok (.aload_n 0, 1) := by decide +kernel
theorem d_Md_release_127 : decode prog_10_method_25_code 127 = .ok (.getfield 16, 3) := by decide +kernel
theorem d_Md_release_130 : decode prog_10_method_25_code 130 = .ok (.iload_n 1, 1) := by decide +kernel
theorem d_Md_release_131 : decode prog_10_method_25_code 131 = .ok (.iaload, 1) := by decide +kernel
theorem d_Md_release_132 : decode prog_10_method_25_code 132 = .ok (.iconst 1, 1) := by decide +kernel
theorem d_Md_release_133 : decode prog_10_method_25_code 133 = .ok (.isub, 1) := by decide +kernel
theorem d_Md_release_134 : decode prog_10_method_25_code 134 = .ok (.invokevirtual 153, 3) := by decide +kernel
theorem d_Md_release_137 : decode prog_10_method_25_code 137 = .ok (.ireturn, 1) := by decide +kernel
theorem d_Md_version_0 : decode prog_10_method_11_code 0 = .ok (.iload_n 3, 1) := by decide +kernel
theorem d_Md_version_1 : decode prog_10_method_11_code 1 = .ok (.iload_n 2, 1) := by decide +kernel
theorem d_Md_version_2 : decode prog_10_method_11_code 2 = .ok (.isub, 1) := by decide +kernel
theorem d_Md_version_3 : decode prog_10_method_11_code 3 = .ok (.iconst 1, 1) := by decide +kernel
theorem d_Md_version_4 : decode prog_10_method_11_code 4 = .ok (.bipush 12, 2) := by decide +kernel
theorem d_Md_version_6 : decode prog_10_method_11_code 6 = .ok (.invokestatic 56, 3) := by decide +kernel
theorem d_Md_version_9 : decode prog_10_method_11_code 9 = .ok (.ifCond .ne 5, 3) := by decide +kernel
theorem d_Md_version_12 : decode prog_10_method_11_code 12 = .ok (.iconst 0, 1) := by decide +kernel
theorem d_Md_version_13 : decode prog_10_method_11_code 13 = .ok (.ireturn, 1) := by decide +kernel
theorem d_Md_version_14 : decode prog_10_method_11_code 14 = .ok (.iconst 0, 1) := by decide +kernel
theorem d_Md_version_15 : decode prog_10_method_11_code 15 = .ok (.istore 4, 2) := by decide +kernel
theorem d_Md_version_17 : decode prog_10_method_11_code 17 = .ok (.iconst 1, 1) := by decide +kernel
theorem d_Md_version_18 : decode prog_10_method_11_code 18 = .ok (.istore 5, 2) := by decide +kernel
theorem d_Md_version_20 : decode prog_10_method_11_code 20 = .ok (.iload_n 2, 1) := by decide +kernel
theorem d_Md_version_21 : decode prog_10_method_11_code 21 = .ok (.istore 6, 2) := by decide +kernel
theorem d_Md_version_23 : decode prog_10_method_11_code 23 = .ok (.iload 6, 2) := by decide +kernel
theorem d_Md_version_25 : decode prog_10_method_11_code 25 = .ok (.iload_n 3, 1) := by decide +kernel
theorem d_Md_version_26 : decode prog_10_method_11_code 26 = .ok (.if_icmp .ge 103, 3) := by decide +kernel
theorem d_Md_version_29 : decode prog_10_method_11_code 29 = .ok (.aload_n 0, 1) := by decide +kernel
theorem d_Md_version_30 : decode prog_10_method_11_code 30 = .ok (.iload_n 1, 1) := by decide +kernel
theorem d_Md_version_31 : decode prog_10_method_11_code 31 = .ok (.iload 6, 2) := by decide +kernel
theorem d_Md_version_33 : decode prog_10_method_11_code 33 = .ok (.invokevirtual 74, 3) := by decide +kernel
theorem d_Md_version_36 : decode prog_10_method_11_code 36 = .ok (.istore 7, 2) := by decide +kernel
theorem d_Md_version_38 : decode prog_10_method_11_code 38 = .ok (.iload 7, 2) := by decide +kernel
theorem d_Md_version_40 : decode prog_10_method_11_code 40 = .ok (.bipush 46, 2) := by decide +kernel
theorem d_Md_version_42 : decode prog_10_method_11_code 42 = .ok (.if_icmp .eq 10, 3) := by decide +kernel
theorem d_Md_version_45 : decode prog_10_method_11_code 45 = .ok (.iload 7, 2) := by decide +kernel
theorem d_Md_version_47 : decode prog_10_method_11_code 47 = .ok (.bipush 45, 2) := by decide +kernel
theorem d_Md_version_49 : decode prog_10_method_11_code 49 = .ok (.if_icmp .ne 7, 3) := by decide +kernel
theorem d_Md_version_52 : decode prog_10_method_11_code 52 = .ok (.iconst 1, 1) := by decide +kernel
theorem d_Md_version_53 : decode prog_10_method_11_code 53 = .ok (.goto 4, 3) := by decide +kernel
theorem d_Md_version_56 : decode prog_10_method_11_code 56 = .ok (.iconst 0, 1) := by decide +kernel
theorem d_Md_version_57 : decode prog_10_method_11_code 57 = .ok (.istore 8, 2) := by decide +kernel
theorem d_Md_version_59 : decode prog_10_method_11_code 59 = .ok (.iload 8, 2) := by decide +kernel
theorem d_Md_version_61 : decode prog_10_method_11_code 61 = .ok (.ifCond .ne 19, 3) := by decide +kernel
theorem d_Md_version_64 : decode prog_10_method_11_code 64 = .ok (.iload 7, 2) := by decide +kernel
theorem d_Md_version_66 : decode prog_10_method_11_code 66 = .ok (.invokestatic 60, 3) := by decide +kernel
theorem d_Md_version_69 : decode prog_10_method_11_code 69 = .ok (.ifCond .ne 11, 3) := by decide +kernel
theorem d_Md_version_72 : decode prog_10_method_11_code 72 = .ok (.iload 7, 2) := by decide +kernel
theorem d_Md_version_74 : decode prog_10_method_11_code 74 = .ok (.invokestatic 64, 3) := by decide +kernel
theorem d_Md_version_77 : decode prog_10_method_11_code 77 = .ok (.ifCond .eq 13, 3) := by decide +kernel
theorem d_Md_version_80 : decode prog_10_method_11_code 80 = .ok (.iload 8, 2) := by decide +kernel
theorem d_Md_version_82 : decode prog_10_method_11_code 82 = .ok (.ifCond .eq 10, 3) := by decide +kernel
theorem d_Md_version_85 : decode prog_10_method_11_code 85 = .ok (.iload 5, 2) := by decide +kernel
theorem d_Md_version_87 : decode prog_10_method_11_code 87 = .ok (.ifCond .eq 5, 3) := by decide +kernel
theorem d_Md_version_90 : decode prog_10_method_11_code 90 = .ok (.iconst 0, 1) := by decide +kernel
theorem d_Md_version_91 : decode prog_10_method_11_code 91 = .ok (.ireturn, 1) := by decide +kernel
theorem d_Md_version_92 : decode prog_10_method_11_code 92 = .ok (.iload 8, 2) := by decide +kernel
theorem d_Md_version_94 : decode prog_10_method_11_code 94 = .ok (.istore 5, 2) := by decide +kernel
theorem d_Md_version_96 : decode prog_10_method_11_code 96 = .ok (.iload 7, 2) := by decide +kernel
theorem d_Md_version_98 : decode prog_10_method_11_code 98 = .ok (.invokestatic 60, 3) := by decide +kernel
theorem d_Md_version_101 : decode prog_10_method_11_code 101 = .ok (.ifCond .eq 10, 3) := by decide +kernel
theorem d_Md_version_104 : decode prog_10_method_11_code 104 = .ok (.iload 4, 2) := by decide +kernel
theorem d_Md_version_106 : decode prog_10_method_11_code 106 = .ok (.iconst 1, 1) := by decide +kernel
theorem d_Md_version_107 : decode prog_10_method_11_code 107 = .ok (.iadd, 1) := by decide +kernel
theorem d_Md_version_108 : decode prog_10_method_11_code 108 = .ok (.goto 4, 3) := by decide +kernel
theorem d_Md_version_111 : decode prog_10_method_11_code 111 = .ok (.iconst 0, 1) := by decide +kernel
theorem d_Md_version_112 : decode prog_10_method_11_code 112 = .ok (.istore 4, 2) := by decide +kernel
theorem d_Md_version_114 : decode prog_10_method_11_code 114 = .ok (.iload 4, 2) := by decide +kernel
theorem d_Md_version_116 : decode prog_10_method_11_code 116 = .ok (.bipush 9, 2) := by decide +kernel
theorem d_Md_version_118 : decode prog_10_method_11_code 118 = .ok (.if_icmp .le 5, 3) := by decide +kernel
theorem d_Md_version_121 : decode prog_10_method_11_code 121 = .ok (.iconst 0, 1) := by decide +kernel
theorem d_Md_version_122 : decode prog_10_method_11_code 122 = .ok (.ireturn, 1) := by decide +kernel
theorem d_Md_version_123 : decode prog_10_method_11_code 123 = .ok (.iinc 6 1, 3) := by decide +kernel
theorem d_Md_version_126 : decode prog_10_method_11_code 126 = .ok (.goto (-103), 3) := by decide +kernel
theorem d_Md_version_129 : decode prog_10_method_11_code 129 = .ok (.iload 5, 2) := by decide +kernel
theorem d_Md_version_131 : decode prog_10_method_11_code 131 = .ok (.ifCond .ne 7, 3) := by decide +kernel
theorem d_Md_version_134 : decode prog_10_method_11_code 134 = .ok (.iconst 1, 1) := by decide +kernel
theorem d_Md_version_135 : decode prog_10_method_11_code 135 = .ok (.goto 4, 3) := by decide +kernel
theorem d_Md_version_138 : decode prog_10_method_11_code 138 = .ok (.iconst 0, 1) := by decide +kernel
theorem d_Md_version_139 : decode prog_10_method_11_code 139 = .ok (.ireturn, 1) := by decide +kernel
theorem d_Md_at_0 : decode prog_10_method_6_code 0 = .ok (.iload_n 2, 1) := by decide +kernel
theorem d_Md_at_1 : decode prog_10_method_6_code 1 = .ok (.iconst 0, 1) := by decide +kernel
theorem d_Md_at_2 : decode prog_10_method_6_code 2 = .ok (.aload_n 0, 1) := by decide +kernel
theorem d_Md_at_3 : decode prog_10_method_6_code 3 = .ok (.getfield 13, 3) := by decide +kernel
theorem d_Md_at_6 : decode prog_10_method_6_code 6 = .ok (.iload_n 1, 1) := by decide +kernel
theorem d_Md_at_7 : decode prog_10_method_6_code 7 = .ok (.iaload, 1) := by decide +kernel
theorem d_Md_at_8 : decode prog_10_method_6_code 8 = .ok (.iconst 1, 1) := by decide +kernel
theorem d_Md_at_9 : decode prog_10_method_6_code 9 = .ok (.isub, 1) := by decide +kernel
theorem d_Md_at_10 : decode prog_10_method_6_code 10 = .ok (.invokestatic 56, 3) := by decide +kernel
theorem d_Md_at_13 : decode prog_10_method_6_code 13 = .ok (.ifCond .eq 17, 3) := by decide +kernel
theorem d_Md_at_16 : decode prog_10_method_6_code 16 = .ok (.aload_n 0, 1) := by decide +kernel
theorem d_Md_at_17 : decode prog_10_method_6_code 17 = .ok (.getfield 7, 3) := by decide +kernel
theorem d_Md_at_20 : decode prog_10_method_6_code 20 = .ok (.bipush 24, 2) := by decide +kernel
theorem d_Md_at_22 : decode prog_10_method_6_code 22 = .ok (.iload_n 1, 1) := by decide +kernel
theorem d_Md_at_23 : decode prog_10_method_6_code 23 = .ok (.imul, 1) := by decide +kernel
theorem d_Md_at_24 : decode prog_10_method_6_code 24 = .ok (.iload_n 2, 1) := by decide +kernel
theorem d_Md_at_25 : decode prog_10_method_6_code 25 = .ok (.iadd, 1) := by decide +kernel
theorem d_Md_at_26 : decode prog_10_method_6_code 26 = .ok (.iaload, 1) := by decide +kernel
theorem d_Md_at_27 : decode prog_10_method_6_code 27 = .ok (.goto 4, 3) := by decide +kernel
theorem d_Md_at_30 : decode prog_10_method_6_code 30 = .ok (.iconst 0, 1) := by decide +kernel
theorem d_Md_at_31 : decode prog_10_method_6_code 31 = .ok (.ireturn, 1) := by decide +kernel
theorem d_Md_used_0 : decode prog_10_method_24_code 0 = .ok (.aload_n 0, 1) := by decide +kernel
theorem d_Md_used_1 : decode prog_10_method_24_code 1 = .ok (.getfield 13, 3) := by decide +kernel
theorem d_Md_used_4 : decode prog_10_method_24_code 4 = .ok (.iconst 0, 1) := by decide +kernel
theorem d_Md_used_5 : decode prog_10_method_24_code 5 = .ok (.iconst 0, 1) := by decide +kernel
theorem d_Md_used_6 : decode prog_10_method_24_code 6 = .ok (.iastore, 1) := by decide +kernel
theorem d_Md_used_7 : decode prog_10_method_24_code 7 = .ok (.iload_n 1, 1) := by decide +kernel
theorem d_Md_used_8 : decode prog_10_method_24_code 8 = .ok (.ireturn, 1) := by decide +kernel
theorem d_Md_ordered_0 : decode prog_10_method_19_code 0 = .ok (.iconst 0, 1) := by decide +kernel
theorem d_Md_ordered_1 : decode prog_10_method_19_code 1 = .ok (.istore 5, 2) := by decide +kernel
theorem d_Md_ordered_3 : decode prog_10_method_19_code 3 = .ok (.iload_n 3, 1) := by decide +kernel
theorem d_Md_ordered_4 : decode prog_10_method_19_code 4 = .ok (.istore 6, 2) := by decide +kernel
theorem d_Md_ordered_6 : decode prog_10_method_19_code 6 = .ok (.iconst 0, 1) := by decide +kernel
theorem d_Md_ordered_7 : decode prog_10_method_19_code 7 = .ok (.istore 7, 2) := by decide +kernel
theorem d_Md_ordered_9 : decode prog_10_method_19_code 9 = .ok (.iload 7, 2) := by decide +kernel
theorem d_Md_ordered_11 : decode prog_10_method_19_code 11 = .ok (.bipush 13, 2) := by decide +kernel
theorem d_Md_ordered_13 : decode prog_10_method_19_code 13 = .ok (.if_icmp .ge 230, 3) := by decide +kernel
theorem d_Md_ordered_16 : decode prog_10_method_19_code 16 = .ok (.aload_n 0, 1) := by decide +kernel
theorem d_Md_ordered_17 : decode prog_10_method_19_code 17 = .ok (.iload_n 1, 1) := by decide +kernel
theorem d_Md_ordered_18 : decode prog_10_method_19_code 18 = .ok (.iload 5, 2) := by decide +kernel
theorem d_Md_ordered_20 : decode prog_10_method_19_code 20 = .ok (.aload_n 0, 1) := by decide +kernel
theorem d_Md_ordered_21 : decode prog_10_method_19_code 21 = .ok (.getfield 13, 3) := by decide +kernel
theorem d_Md_ordered_24 : decode prog_10_method_19_code 24 = .ok (.iload_n 1, 1) := by decide +kernel
theorem d_Md_ordered_25 : decode prog_10_method_19_code 25 = .ok (.iaload, 1) := by decide +kernel
theorem d_Md_ordered_26 : decode prog_10_method_19_code 26 = .ok (.invokevirtual 129, 3) := by decide +kernel
theorem d_Md_ordered_29 : decode prog_10_method_19_code 29 = .ok (.istore 8, 2) := by decide +kernel
theorem d_Md_ordered_31 : decode prog_10_method_19_code 31 = .ok (.aload_n 0, 1) := by decide +kernel
theorem d_Md_ordered_32 : decode prog_10_method_19_code 32 = .ok (.getfield 78, 3) := by decide +kernel
theorem d_Md_ordered_35 : decode prog_10_method_19_code 35 = .ok (.istore 9, 2) := by decide +kernel
theorem d_Md_ordered_37 : decode prog_10_method_19_code 37 = .ok (.aload_n 0, 1) := by decide +kernel
theorem d_Md_ordered_38 : decode prog_10_method_19_code 38 = .ok (.getfield 82, 3) := by decide +kernel
theorem d_Md_ordered_41 : decode prog_10_method_19_code 41 = .ok (.istore 10, 2) := by decide +kernel
theorem d_Md_ordered_43 : decode prog_10_method_19_code 43 = .ok (.aload_n 0, 1) := by decide +kernel
theorem d_Md_ordered_44 : decode prog_10_method_19_code 44 = .ok (.iload_n 1, 1) := by decide +kernel
theorem d_Md_ordered_45 : decode prog_10_method_19_code 45 = .ok (.iload 8, 2) := by decide +kernel
theorem d_Md_ordered_47 : decode prog_10_method_19_code 47 = .ok (.invokevirtual 132, 3) := by decide +kernel
theorem d_Md_ordered_50 : decode prog_10_method_19_code 50 = .ok (.istore 11, 2) := by decide +kernel
theorem d_Md_ordered_52 : decode prog_10_method_19_code 52 = .ok (.aload_n 0, 1) := by decide +kernel
theorem d_Md_ordered_53 : decode prog_10_method_19_code 53 = .ok (.iload_n 2, 1) := by decide +kernel
theorem d_Md_ordered_54 : decode prog_10_method_19_code 54 = .ok (.iload 6, 2) := by decide +kernel
theorem d_Md_ordered_56 : decode prog_10_method_19_code 56 = .ok (.iload 4, 2) := by decide +kernel
theorem d_Md_ordered_58 : decode prog_10_method_19_code 58 = .ok (.invokevirtual 129, 3) := by decide +kernel
theorem d_Md_ordered_61 : decode prog_10_method_19_code 61 = .ok (.istore 12, 2) := by decide +kernel
theorem d_Md_ordered_63 : decode prog_10_method_19_code 63 = .ok (.aload_n 0, 1) := by decide +kernel
theorem d_Md_ordered_64 : decode prog_10_method_19_code 64 = .ok (.iload_n 2, 1) := by decide +kernel
theorem d_Md_ordered_65 : decode prog_10_method_19_code 65 = .ok (.iload 12, 2) := by decide +kernel
theorem d_Md_ordered_67 : decode prog_10_method_19_code 67 = .ok (.invokevirtual 132, 3) := by decide +kernel
theorem d_Md_ordered_70 : decode prog_10_method_19_code 70 = .ok (.istore 13, 2) := by decide +kernel
theorem d_Md_ordered_72 : decode prog_10_method_19_code 72 = .ok (.iload 8, 2) := by decide +kernel
theorem d_Md_ordered_74 : decode prog_10_method_19_code 74 = .ok (.ifCond .ne 10, 3) := by decide +kernel
theorem d_Md_ordered_77 : decode prog_10_method_19_code 77 = .ok (.iload 12, 2) := by decide +kernel
theorem d_Md_ordered_79 : decode prog_10_method_19_code 79 = .ok (.ifCond .ne 5, 3) := by decide +kernel
theorem d_Md_ordered_82 : decode prog_10_method_19_code 82 = .ok (.iconst 0, 1) := by decide +kernel
theorem d_Md_ordered_83 : decode prog_10_method_19_code 83 = .ok (.ireturn, 1) := by decide +kernel
theorem d_Md_ordered_84 : decode prog_10_method_19_code 84 = .ok (.iload 11, 2) := by decide +kernel
theorem d_Md_ordered_86 : decode prog_10_method_19_code 86 = .ok (.iload 13, 2) := by decide +kernel
theorem d_Md_ordered_88 : decode prog_10_method_19_code 88 = .ok (.if_icmp .eq 16, 3) := by decide +kernel
theorem d_Md_ordered_91 : decode prog_10_method_19_code 91 = .ok (.iload 11, 2) := by decide +kernel
theorem d_Md_ordered_93 : decode prog_10_method_19_code 93 = .ok (.iload 13, 2) := by decide +kernel
theorem d_Md_ordered_95 : decode prog_10_method_19_code 95 = .ok (.if_icmp .ge 7, 3) := by decide +kernel
theorem d_Md_ordered_98 : decode prog_10_method_19_code 98 = .ok (.iconst (-1), 1) := by decide +kernel
theorem d_Md_ordered_99 : decode prog_10_method_19_code 99 = .ok (.goto 4, 3) := by decide +kernel
theorem d_Md_ordered_102 : decode prog_10_method_19_code 102 = .ok (.iconst 1, 1) := by decide +kernel
theorem d_Md_ordered_103 : decode prog_10_method_19_code 103 = .ok (.ireturn, 1) := by decide +kernel
theorem d_Md_ordered_104 : decode prog_10_method_19_code 104 = .ok (.iload 11, 2) := by decide +kernel
theorem d_Md_ordered_106 : decode prog_10_method_19_code 106 = .ok (.bipush 8, 2) := by decide +kernel
theorem d_Md_ordered_108 : decode prog_10_method_19_code 108 = .ok (.if_icmp .ne 24, 3) := by decide +kernel
theorem d_Md_ordered_111 : decode prog_10_method_19_code 111 = .ok (.aload_n 0, 1) := by decide +kernel
theorem d_Md_ordered_112 : decode prog_10_method_19_code 112 = .ok (.iload_n 1, 1) := by decide +kernel
theorem d_Md_ordered_113 : decode prog_10_method_19_code 113 = .ok (.iload 9, 2) := by decide +kernel
theorem d_Md_ordered_115 : decode prog_10_method_19_code 115 = .ok (.iload 10, 2) := by decide +kernel
theorem d_Md_ordered_117 : decode prog_10_method_19_code 117 = .ok (.iload_n 2, 1) := by decide +kernel
theorem d_Md_ordered_118 : decode prog_10_method_19_code 118 = .ok (.aload_n 0, 1) := by decide +kernel
theorem d_Md_ordered_119 : decode prog_10_method_19_code 119 = .ok (.getfield 78, 3) := by decide +kernel
theorem d_Md_ordered_122 : decode prog_10_method_19_code 122 = .ok (.aload_n 0, 1) := by decide +kernel
theorem d_Md_ordered_123 : decode prog_10_method_19_code 123 = .ok (.getfield 82, 3) := by decide +kernel
theorem d_Md_ordered_126 : decode prog_10_method_19_code 126 = .ok (.invokevirtual 136, 3) := by decide +kernel
theorem d_Md_ordered_129 : decode prog_10_method_19_code 129 = .ok (.goto 4, 3) := by decide +kernel
theorem d_Md_ordered_132 : decode prog_10_method_19_code 132 = .ok (.iconst 0, 1) := by decide +kernel
theorem d_Md_ordered_133 : decode prog_10_method_19_code 133 = .ok (.istore 14, 2) := by decide +kernel
theorem d_Md_ordered_135 : decode prog_10_method_19_code 135 = .ok (.iload 11, 2) := by decide +kernel
theorem d_Md_ordered_137 : decode prog_10_method_19_code 137 = .ok (.bipush 9, 2) := by decide +kernel
theorem d_Md_ordered_139 : decode prog_10_method_19_code 139 = .ok (.if_icmp .ne 56, 3) := by decide +kernel
theorem d_Md_ordered_142 : decode prog_10_method_19_code 142 = .ok (.aload_n 0, 1) := by decide +kernel
theorem d_Md_ordered_143 : decode prog_10_method_19_code 143 = .ok (.iload_n 1, 1) := by decide +kernel
theorem d_Md_ordered_144 : decode prog_10_method_19_code 144 = .ok (.iload 9, 2) := by decide +kernel
theorem d_Md_ordered_146 : decode prog_10_method_19_code 146 = .ok (.iload 10, 2) := by decide +kernel
theorem d_Md_ordered_148 : decode prog_10_method_19_code 148 = .ok (.invokevirtual 140, 3) := by decide +kernel
theorem d_Md_ordered_151 : decode prog_10_method_19_code 151 = .ok (.lstore 15, 2) := by decide +kernel
theorem d_Md_ordered_153 : decode prog_10_method_19_code 153 = .ok (.aload_n 0, 1) := by decide +kernel
theorem d_Md_ordered_154 : decode prog_10_method_19_code 154 = .ok (.iload_n 2, 1) := by decide +kernel
theorem d_Md_ordered_155 : decode prog_10_method_19_code 155 = .ok (.aload_n 0, 1) := by decide +kernel
theorem d_Md_ordered_156 : decode prog_10_method_19_code 156 = .ok (.getfield 78, 3) := by decide +kernel
theorem d_Md_ordered_159 : decode prog_10_method_19_code 159 = .ok (.aload_n 0, 1) := by decide +kernel
theorem d_Md_ordered_160 : decode prog_10_method_19_code 160 = .ok (.getfield 82, 3) := by decide +kernel
theorem d_Md_ordered_163 : decode prog_10_method_19_code 163 = .ok (.invokevirtual 140, 3) := by decide +kernel
theorem d_Md_ordered_166 : decode prog_10_method_19_code 166 = .ok (.lstore 17, 2) := by decide +kernel
theorem d_Md_ordered_168 : decode prog_10_method_19_code 168 = .ok (.lload 15, 2) := by decide +kernel
theorem d_Md_ordered_170 : decode prog_10_method_19_code 170 = .ok (.lload 17, 2) := by decide +kernel
theorem d_Md_ordered_172 : decode prog_10_method_19_code 172 = .ok (.lcmp, 1) := by decide +kernel
theorem d_Md_ordered_173 : decode prog_10_method_19_code 173 = .ok (.ifCond .ge 7, 3) := by decide +kernel
theorem d_Md_ordered_176 : decode prog_10_method_19_code 176 = .ok (.iconst (-1), 1) := by decide +kernel
theorem d_Md_ordered_177 : decode prog_10_method_19_code 177 = .ok (.goto 16, 3) := by decide +kernel
theorem d_Md_ordered_180 : decode prog_10_method_19_code 180 = .ok (.lload 15, 2) := by decide +kernel
theorem d_Md_ordered_182 : decode prog_10_method_19_code 182 = .ok (.lload 17, 2) := by decide +kernel
theorem d_Md_ordered_184 : decode prog_10_method_19_code 184 = .ok (.lcmp, 1) := by decide +kernel
theorem d_Md_ordered_185 : decode prog_10_method_19_code 185 = .ok (.ifCond .le 7, 3) := by decide +kernel
theorem d_Md_ordered_188 : decode prog_10_method_19_code 188 = .ok (.iconst 1, 1) := by decide +kernel
theorem d_Md_ordered_189 : decode prog_10_method_19_code 189 = .ok (.goto 4, 3) := by decide +kernel
theorem d_Md_ordered_192 : decode prog_10_method_19_code 192 = .ok (.iconst 0, 1) := by decide +kernel
theorem d_Md_ordered_193 : decode prog_10_method_19_code 193 = .ok (.istore 14, 2) := by decide +kernel
theorem d_Md_ordered_195 : decode prog_10_method_19_code 195 = .ok (.iload 14, 2) := by decide +kernel
theorem d_Md_ordered_197 : decode prog_10_method_19_code 197 = .ok (.ifCond .eq 6, 3) := by decide +kernel
theorem d_Md_ordered_200 : decode prog_10_method_19_code 200 = .ok (.iload 14, 2) := by decide +kernel
theorem d_Md_ordered_202 : decode prog_10_method_19_code 202 = .ok (.ireturn, 1) := by decide +kernel
theorem d_Md_ordered_203 : decode prog_10_method_19_code 203 = .ok (.iload 8, 2) := by decide +kernel
theorem d_Md_ordered_205 : decode prog_10_method_19_code 205 = .ok (.ifCond .eq 8, 3) := by decide +kernel
theorem d_Md_ordered_208 : decode prog_10_method_19_code 208 = .ok (.iload 10, 2) := by decide +kernel
theorem d_Md_ordered_210 : decode prog_10_method_19_code 210 = .ok (.goto 9, 3) := by decide +kernel
theorem d_Md_ordered_213 : decode prog_10_method_19_code 213 = .ok (.aload_n 0, 1) := by decide +kernel
theorem d_Md_ordered_214 : decode prog_10_method_19_code 214 = .ok (.getfield 13, 3) := by decide +kernel
theorem d_Md_ordered_217 : decode prog_10_method_19_code 217 = .ok (.iload_n 1, 1) := by decide +kernel
theorem d_Md_ordered_218 : decode prog_10_method_19_code 218 = .ok (.iaload, 1) := by decide +kernel
theorem d_Md_ordered_219 : decode prog_10_method_19_code 219 = .ok (.istore 5, 2) := by decide +kernel
theorem d_Md_ordered_221 : decode prog_10_method_19_code 221 = .ok (.iload 12, 2) := by decide +kernel
theorem d_Md_ordered_223 : decode prog_10_method_19_code 223 = .ok (.ifCond .eq 10, 3) := by decide +kernel
theorem d_Md_ordered_226 : decode prog_10_method_19_code 226 = .ok (.aload_n 0, 1) := by decide +kernel
theorem d_Md_ordered_227 : decode prog_10_method_19_code 227 = .ok (.getfield 82, 3) := by decide +kernel
theorem d_Md_ordered_230 : decode prog_10_method_19_code 230 = .ok (.goto 5, 3) := by decide +kernel
theorem d_Md_ordered_233 : decode prog_10_method_19_code 233 = .ok (.iload 4, 2) := by decide +kernel
theorem d_Md_ordered_235 : decode prog_10_method_19_code 235 = .ok (.istore 6, 2) := by decide +kernel
theorem d_Md_ordered_237 : decode prog_10_method_19_code 237 = .ok (.iinc 7 1, 3) := by decide +kernel
theorem d_Md_ordered_240 : decode prog_10_method_19_code 240 = .ok (.goto (-231), 3) := by decide +kernel
theorem d_Md_ordered_243 : decode prog_10_method_19_code 243 = .ok (.iconst 0, 1) := by decide +kernel
theorem d_Md_ordered_244 : decode prog_10_method_19_code 244 = .ok (.ireturn, 1) := by decide +kernel
theorem d_Md_item_0 : decode prog_10_method_12_code 0 = .ok (.aload_n 0, 1) := by decide +kernel
theorem d_Md_item_1 : decode prog_10_method_12_code 1 = .ok (.iload_n 2, 1) := by decide +kernel
theorem d_Md_item_2 : decode prog_10_method_12_code 2 = .ok (.putfield 78, 3) := by decide +kernel
theorem d_Md_item_5 : decode prog_10_method_12_code 5 = .ok (.aload_n 0, 1) := by decide +kernel
theorem d_Md_item_6 : decode prog_10_method_12_code 6 = .ok (.getfield 78, 3) := by decide +kernel
theorem d_Md_item_9 : decode prog_10_method_12_code 9 = .ok (.iload_n 3, 1) := by decide +kernel
theorem d_Md_item_10 : decode prog_10_method_12_code 10 = .ok (.if_icmp .ge 46, 3) := by decide +kernel
theorem d_Md_item_13 : decode prog_10_method_12_code 13 = .ok (.aload_n 0, 1) := by decide +kernel
theorem d_Md_item_14 : decode prog_10_method_12_code 14 = .ok (.iload_n 1, 1) := by decide +kernel
theorem d_Md_item_15 : decode prog_10_method_12_code 15 = .ok (.aload_n 0, 1) := by decide +kernel
theorem d_Md_item_16 : decode prog_10_method_12_code 16 = .ok (.getfield 78, 3) := by decide +kernel
theorem d_Md_item_19 : decode prog_10_method_12_code 19 = .ok (.invokevirtual 74, 3) := by decide +kernel
theorem d_Md_item_22 : decode prog_10_method_12_code 22 = .ok (.invokestatic 60, 3) := by decide +kernel
theorem d_Md_item_25 : decode prog_10_method_12_code 25 = .ok (.ifCond .ne 31, 3) := by decide +kernel
theorem d_Md_item_28 : decode prog_10_method_12_code 28 = .ok (.aload_n 0, 1) := by decide +kernel
theorem d_Md_item_29 : decode prog_10_method_12_code 29 = .ok (.iload_n 1, 1) := by decide +kernel
theorem d_Md_item_30 : decode prog_10_method_12_code 30 = .ok (.aload_n 0, 1) := by decide +kernel
theorem d_Md_item_31 : decode prog_10_method_12_code 31 = .ok (.getfield 78, 3) := by decide +kernel
theorem d_Md_item_34 : decode prog_10_method_12_code 34 = .ok (.invokevirtual 74, 3) := by decide +kernel
theorem d_Md_item_37 : decode prog_10_method_12_code 37 = .ok (.invokestatic 64, 3) := by decide +kernel
theorem d_Md_item_40 : decode prog_10_method_12_code 40 = .ok (.ifCond .ne 16, 3) := by decide +kernel
theorem d_Md_item_43 : decode prog_10_method_12_code 43 = .ok (.aload_n 0, 1) := by decide +kernel
theorem d_Md_item_44 : decode prog_10_method_12_code 44 = .ok (.dup, 1) := by decide +kernel
theorem d_Md_item_45 : decode prog_10_method_12_code 45 = .ok (.getfield 78, 3) := by decide +kernel
theorem d_Md_item_48 : decode prog_10_method_12_code 48 = .ok (.iconst 1, 1) := by decide +kernel
theorem d_Md_item_49 : decode prog_10_method_12_code 49 = .ok (.iadd, 1) := by decide +kernel
theorem d_Md_item_50 : decode prog_10_method_12_code 50 = .ok (.putfield 78, 3) := by decide +kernel
theorem d_Md_item_53 : decode prog_10_method_12_code 53 = .ok (.goto (-48), 3) := by decide +kernel
theorem d_Md_item_56 : decode prog_10_method_12_code 56 = .ok (.aload_n 0, 1) := by decide +kernel
theorem d_Md_item_57 : decode prog_10_method_12_code 57 = .ok (.aload_n 0, 1) := by decide +kernel
theorem d_Md_item_58 : decode prog_10_method_12_code 58 = .ok (.getfield 78, 3) := by decide +kernel
theorem d_Md_item_61 : decode prog_10_method_12_code 61 = .ok (.putfield 82, 3) := by decide +kernel
theorem d_Md_item_64 : decode prog_10_method_12_code 64 = .ok (.aload_n 0, 1) := by decide +kernel
theorem d_Md_item_65 : decode prog_10_method_12_code 65 = .ok (.getfield 82, 3) := by decide +kernel
theorem d_Md_item_68 : decode prog_10_method_12_code 68 = .ok (.iload_n 3, 1) := by decide +kernel
theorem d_Md_item_69 : decode prog_10_method_12_code 69 = .ok (.if_icmp .ge 64, 3) := by decide +kernel
theorem d_Md_item_72 : decode prog_10_method_12_code 72 = .ok (.aload_n 0, 1) := by decide +kernel
theorem d_Md_item_73 : decode prog_10_method_12_code 73 = .ok (.iload_n 1, 1) := by decide +kernel
theorem d_Md_item_74 : decode prog_10_method_12_code 74 = .ok (.aload_n 0, 1) := by decide +kernel
theorem d_Md_item_75 : decode prog_10_method_12_code 75 = .ok (.getfield 78, 3) := by decide +kernel
theorem d_Md_item_78 : decode prog_10_method_12_code 78 = .ok (.invokevirtual 74, 3) := by decide +kernel
theorem d_Md_item_81 : decode prog_10_method_12_code 81 = .ok (.invokestatic 60, 3) := by decide +kernel
theorem d_Md_item_84 : decode prog_10_method_12_code 84 = .ok (.ifCond .eq 21, 3) := by decide +kernel
theorem d_Md_item_87 : decode prog_10_method_12_code 87 = .ok (.aload_n 0, 1) := by decide +kernel
theorem d_Md_item_88 : decode prog_10_method_12_code 88 = .ok (.iload_n 1, 1) := by decide +kernel
theorem d_Md_item_89 : decode prog_10_method_12_code 89 = .ok (.aload_n 0, 1) := by decide +kernel
theorem d_Md_item_90 : decode prog_10_method_12_code 90 = .ok (.getfield 82, 3) := by decide +kernel
theorem d_Md_item_93 : decode prog_10_method_12_code 93 = .ok (.invokevirtual 74, 3) := by decide +kernel
theorem d_Md_item_96 : decode prog_10_method_12_code 96 = .ok (.invokestatic 60, 3) := by decide +kernel
theorem d_Md_item_99 : decode prog_10_method_12_code 99 = .ok (.ifCond .eq 34, 3) := by decide +kernel
theorem d_Md_item_102 : decode prog_10_method_12_code 102 = .ok (.goto 18, 3) := by decide +kernel
theorem d_Md_item_105 : decode prog_10_method_12_code 105 = .ok (.aload_n 0, 1) := by decide +kernel
theorem d_Md_item_106 : decode prog_10_method_12_code 106 = .ok (.iload_n 1, 1) := by decide +kernel
theorem d_Md_item_107 : decode prog_10_method_12_code 107 = .ok (.aload_n 0, 1) := by decide +kernel
theorem d_Md_item_108 : decode prog_10_method_12_code 108 = .ok (.getfield 82, 3) := by decide +kernel
theorem d_Md_item_111 : decode prog_10_method_12_code 111 = .ok (.invokevirtual 74, 3) := by decide +kernel
theorem d_Md_item_114 : decode prog_10_method_12_code 114 = .ok (.invokestatic 64, 3) := by decide +kernel
theorem d_Md_item_117 : decode prog_10_method_12_code 117 = .ok (.ifCond .eq 16, 3) := by decide +kernel
theorem d_Md_item_120 : decode prog_10_method_12_code 120 = .ok (.aload_n 0, 1) := by decide +kernel
theorem d_Md_item_121 : decode prog_10_method_12_code 121 = .ok (.dup, 1) := by decide +kernel
theorem d_Md_item_122 : decode prog_10_method_12_code 122 = .ok (.getfield 82, 3) := by decide +kernel
theorem d_Md_item_125 : decode prog_10_method_12_code 125 = .ok (.iconst 1, 1) := by decide +kernel
theorem d_Md_item_126 : decode prog_10_method_12_code 126 = .ok (.iadd, 1) := by decide +kernel
theorem d_Md_item_127 : decode prog_10_method_12_code 127 = .ok (.putfield 82, 3) := by decide +kernel
theorem d_Md_item_130 : decode prog_10_method_12_code 130 = .ok (.goto (-66), 3) := by decide +kernel
theorem d_Md_item_133 : decode prog_10_method_12_code 133 = .ok (.aload_n 0, 1) := by decide +kernel
theorem d_Md_item_134 : decode prog_10_method_12_code 134 = .ok (.getfield 78, 3) := by decide +kernel
theorem d_Md_item_137 : decode prog_10_method_12_code 137 = .ok (.iload_n 3, 1) := by decide +kernel
theorem d_Md_item_138 : decode prog_10_method_12_code 138 = .ok (.if_icmp .ge 7, 3) := by decide +kernel
theorem d_Md_item_141 : decode prog_10_method_12_code 141 = .ok (.iconst 1, 1) := by decide +kernel
theorem d_Md_item_142 : decode prog_10_method_12_code 142 = .ok (.goto 4, 3) := by decide +kernel
theorem d_Md_item_145 : decode prog_10_method_12_code 145 = .ok (.iconst 0, 1) := by decide +kernel
theorem d_Md_item_146 : decode prog_10_method_12_code 146 = .ok (.ireturn, 1) := by decide +kernel
theorem d_Md_rankOf_0 : decode prog_10_method_16_code 0 = .ok (.iload_n 2, 1) := by decide +kernel
theorem d_Md_rankOf_1 : decode prog_10_method_16_code 1 = .ok (.ifCond .ne 6, 3) := by decide +kernel
theorem d_Md_rankOf_4 : decode prog_10_method_16_code 4 = .ok (.bipush 6, 2) := by decide +kernel
theorem d_Md_rankOf_6 : decode prog_10_method_16_code 6 = .ok (.ireturn, 1) := by decide +kernel
theorem d_Md_rankOf_7 : decode prog_10_method_16_code 7 = .ok (.aload_n 0, 1) := by decide +kernel
theorem d_Md_rankOf_8 : decode prog_10_method_16_code 8 = .ok (.iload_n 1, 1) := by decide +kernel
theorem d_Md_rankOf_9 : decode prog_10_method_16_code 9 = .ok (.aload_n 0, 1) := by decide +kernel
theorem d_Md_rankOf_10 : decode prog_10_method_16_code 10 = .ok (.getfield 78, 3) := by decide +kernel
theorem d_Md_rankOf_13 : decode prog_10_method_16_code 13 = .ok (.invokevirtual 74, 3) := by decide +kernel
theorem d_Md_rankOf_16 : decode prog_10_method_16_code 16 = .ok (.invokestatic 64, 3) := by decide +kernel
theorem d_Md_rankOf_19 : decode prog_10_method_16_code 19 = .ok (.ifCond .eq 17, 3) := by decide +kernel
theorem d_Md_rankOf_22 : decode prog_10_method_16_code 22 = .ok (.aload_n 0, 1) := by decide +kernel
theorem d_Md_rankOf_23 : decode prog_10_method_16_code 23 = .ok (.iload_n 1, 1) := by decide +kernel
theorem d_Md_rankOf_24 : decode prog_10_method_16_code 24 = .ok (.aload_n 0, 1) := by decide +kernel
theorem d_Md_rankOf_25 : decode prog_10_method_16_code 25 = .ok (.getfield 78, 3) := by decide +kernel
theorem d_Md_rankOf_28 : decode prog_10_method_16_code 28 = .ok (.aload_n 0, 1) := by decide +kernel
theorem d_Md_rankOf_29 : decode prog_10_method_16_code 29 = .ok (.getfield 82, 3) := by decide +kernel
theorem d_Md_rankOf_32 : decode prog_10_method_16_code 32 = .ok (.invokevirtual 121, 3) := by decide +kernel
theorem d_Md_rankOf_35 : decode prog_10_method_16_code 35 = .ok (.ireturn, 1) := by decide +kernel
theorem d_Md_rankOf_36 : decode prog_10_method_16_code 36 = .ok (.aload_n 0, 1) := by decide +kernel
theorem d_Md_rankOf_37 : decode prog_10_method_16_code 37 = .ok (.getfield 78, 3) := by decide +kernel
theorem d_Md_rankOf_40 : decode prog_10_method_16_code 40 = .ok (.istore_n 3, 1) := by decide +kernel
theorem d_Md_rankOf_41 : decode prog_10_method_16_code 41 = .ok (.iload_n 3, 1) := by decide +kernel
theorem d_Md_rankOf_42 : decode prog_10_method_16_code 42 = .ok (.aload_n 0, 1) := by decide +kernel
theorem d_Md_rankOf_43 : decode prog_10_method_16_code 43 = .ok (.getfield 82, 3) := by decide +kernel
theorem d_Md_rankOf_46 : decode prog_10_method_16_code 46 = .ok (.if_icmp .ge 23, 3) := by decide +kernel
theorem d_Md_rankOf_49 : decode prog_10_method_16_code 49 = .ok (.aload_n 0, 1) := by decide +kernel
theorem d_Md_rankOf_50 : decode prog_10_method_16_code 50 = .ok (.iload_n 1, 1) := by decide +kernel
theorem d_Md_rankOf_51 : decode prog_10_method_16_code 51 = .ok (.iload_n 3, 1) := by decide +kernel
theorem d_Md_rankOf_52 : decode prog_10_method_16_code 52 = .ok (.invokevirtual 74, 3) := by decide +kernel
theorem d_Md_rankOf_55 : decode prog_10_method_16_code 55 = .ok (.bipush 48, 2) := by decide +kernel
theorem d_Md_rankOf_57 : decode prog_10_method_16_code 57 = .ok (.if_icmp .eq 6, 3) := by decide +kernel
theorem d_Md_rankOf_60 : decode prog_10_method_16_code 60 = .ok (.bipush 9, 2) := by decide +kernel
theorem d_Md_rankOf_62 : decode prog_10_method_16_code 62 = .ok (.ireturn, 1) := by decide +kernel
theorem d_Md_rankOf_63 : decode prog_10_method_16_code 63 = .ok (.iinc 3 1, 3) := by decide +kernel
theorem d_Md_rankOf_66 : decode prog_10_method_16_code 66 = .ok (.goto (-25), 3) := by decide +kernel
theorem d_Md_rankOf_69 : decode prog_10_method_16_code 69 = .ok (.bipush 6, 2) := by decide +kernel
theorem d_Md_rankOf_71 : decode prog_10_method_16_code 71 = .ok (.ireturn, 1) := by decide +kernel
theorem d_Md_wordRank_0 : decode prog_10_method_15_code 0 = .ok (.aload_n 0, 1) := by decide +kernel
theorem d_Md_wordRank_1 : decode prog_10_method_15_code 1 = .ok (.iload_n 1, 1) := by decide +kernel
theorem d_Md_wordRank_2 : decode prog_10_method_15_code 2 = .ok (.iload_n 2, 1) := by decide +kernel
theorem d_Md_wordRank_3 : decode prog_10_method_15_code 3 = .ok (.iload_n 3, 1) := by decide +kernel
theorem d_Md_wordRank_4 : decode prog_10_method_15_code 4 = .ok (.invokevirtual 91, 3) := by decide +kernel
theorem d_Md_wordRank_7 : decode prog_10_method_15_code 7 = .ok (.lstore 4, 2) := by decide +kernel
theorem d_Md_wordRank_9 : decode prog_10_method_15_code 9 = .ok (.lload 4, 2) := by decide +kernel
theorem d_Md_wordRank_11 : decode prog_10_method_15_code 11 = .ok (.iconst 1, 1) := by decide +kernel
theorem d_Md_wordRank_12 : decode prog_10_method_15_code 12 = .ok (.bipush 12, 2) := by decide +kernel
theorem d_Md_wordRank_14 : decode prog_10_method_15_code 14 = .ok (.bipush 16, 2) := by decide +kernel
theorem d_Md_wordRank_16 : decode prog_10_method_15_code 16 = .ok (.bipush 8, 2) := by decide +kernel
theorem d_Md_wordRank_18 : decode prog_10_method_15_code 18 = .ok (.iconst 1, 1) := by decide +kernel
theorem d_Md_wordRank_19 : decode prog_10_method_15_code 19 = .ok (.invokestatic 95, 3) := by decide +kernel
theorem d_Md_wordRank_22 : decode prog_10_method_15_code 22 = .ok (.lcmp, 1) := by decide +kernel
theorem d_Md_wordRank_23 : decode prog_10_method_15_code 23 = .ok (.ifCond .ne 5, 3) := by decide +kernel
theorem d_Md_wordRank_26 : decode prog_10_method_15_code 26 = .ok (.iconst 1, 1) := by decide +kernel
theorem d_Md_wordRank_27 : decode prog_10_method_15_code 27 = .ok (.ireturn, 1) := by decide +kernel
theorem d_Md_wordRank_28 : decode prog_10_method_15_code 28 = .ok (.lload 4, 2) := by decide +kernel
theorem d_Md_wordRank_30 : decode prog_10_method_15_code 30 = .ok (.iconst 2, 1) := by decide +kernel
theorem d_Md_wordRank_31 : decode prog_10_method_15_code 31 = .ok (.iconst 5, 1) := by decide +kernel
theorem d_Md_wordRank_32 : decode prog_10_method_15_code 32 = .ok (.bipush 20, 2) := by decide +kernel
theorem d_Md_wordRank_34 : decode prog_10_method_15_code 34 = .ok (.iconst 1, 1) := by decide +kernel
theorem d_Md_wordRank_35 : decode prog_10_method_15_code 35 = .ok (.iconst 0, 1) := by decide +kernel
theorem d_Md_wordRank_36 : decode prog_10_method_15_code 36 = .ok (.invokestatic 95, 3) := by decide +kernel
theorem d_Md_wordRank_39 : decode prog_10_method_15_code 39 = .ok (.lcmp, 1) := by decide +kernel
theorem d_Md_wordRank_40 : decode prog_10_method_15_code 40 = .ok (.ifCond .ne 5, 3) := by decide +kernel
theorem d_Md_wordRank_43 : decode prog_10_method_15_code 43 = .ok (.iconst 2, 1) := by decide +kernel
theorem d_Md_wordRank_44 : decode prog_10_method_15_code 44 = .ok (.ireturn, 1) := by decide +kernel
theorem d_Md_wordRank_45 : decode prog_10_method_15_code 45 = .ok (.lload 4, 2) := by decide +kernel
theorem d_Md_wordRank_47 : decode prog_10_method_15_code 47 = .ok (.bipush 13, 2) := by decide +kernel
theorem d_Md_wordRank_49 : decode prog_10_method_15_code 49 = .ok (.bipush 9, 2) := by decide +kernel
theorem d_Md_wordRank_51 : decode prog_10_method_15_code 51 = .ok (.bipush 12, 2) := by decide +kernel
theorem d_Md_wordRank_53 : decode prog_10_method_15_code 53 = .ok (.iconst 5, 1) := by decide +kernel
theorem d_Md_wordRank_54 : decode prog_10_method_15_code 54 = .ok (.bipush 19, 2) := by decide +kernel
theorem d_Md_wordRank_56 : decode prog_10_method_15_code 56 = .ok (.invokestatic 95, 3) := by decide +kernel
theorem d_Md_wordRank_59 : decode prog_10_method_15_code 59 = .ok (.ldc2_w 87, 3) := by decide +kernel
theorem d_Md_wordRank_62 : decode prog_10_method_15_code 62 = .ok (.lmul, 1) := by decide +kernel
theorem d_Md_wordRank_63 : decode prog_10_method_15_code 63 = .ok (.ldc2_w 99, 3) := by decide +kernel
theorem d_Md_wordRank_66 : decode prog_10_method_15_code 66 = .ok (.ladd, 1) := by decide +kernel
theorem d_Md_wordRank_67 : decode prog_10_method_15_code 67 = .ok (.ldc2_w 101, 3) := by decide +kernel
theorem d_Md_wordRank_70 : decode prog_10_method_15_code 70 = .ok (.lmul, 1) := by decide +kernel
theorem d_Md_wordRank_71 : decode prog_10_method_15_code 71 = .ok (.ldc2_w 103, 3) := by decide +kernel
theorem d_Md_wordRank_74 : decode prog_10_method_15_code 74 = .ok (.ladd, 1) := by decide +kernel
theorem d_Md_wordRank_75 : decode prog_10_method_15_code 75 = .ok (.ldc2_w 105, 3) := by decide +kernel
theorem d_Md_wordRank_78 : decode prog_10_method_15_code 78 = .ok (.ladd, 1) := by decide +kernel
theorem d_Md_wordRank_79 : decode prog_10_method_15_code 79 = .ok (.ldc2_w 107, 3) := by decide +kernel
theorem d_Md_wordRank_82 : decode prog_10_method_15_code 82 = .ok (.ladd, 1) := by decide +kernel
theorem d_Md_wordRank_83 : decode prog_10_method_15_code 83 = .ok (.lcmp, 1) := by decide +kernel
theorem d_Md_wordRank_84 : decode prog_10_method_15_code 84 = .ok (.ifCond .ne 5, 3) := by decide +kernel
theorem d_Md_wordRank_87 : decode prog_10_method_15_code 87 = .ok (.iconst 3, 1) := by decide +kernel
theorem d_Md_wordRank_88 : decode prog_10_method_15_code 88 = .ok (.ireturn, 1) := by decide +kernel
theorem d_Md_wordRank_89 : decode prog_10_method_15_code 89 = .ok (.lload 4, 2) := by decide +kernel
theorem d_Md_wordRank_91 : decode prog_10_method_15_code 91 = .ok (.bipush 18, 2) := by decide +kernel
theorem d_Md_wordRank_93 : decode prog_10_method_15_code 93 = .ok (.iconst 3, 1) := by decide +kernel
theorem d_Md_wordRank_94 : decode prog_10_method_15_code 94 = .ok (.iconst 0, 1) := by decide +kernel
theorem d_Md_wordRank_95 : decode prog_10_method_15_code 95 = .ok (.iconst 0, 1) := by decide +kernel
theorem d_Md_wordRank_96 : decode prog_10_method_15_code 96 = .ok (.iconst 0, 1) := by decide +kernel
theorem d_Md_wordRank_97 : decode prog_10_method_15_code 97 = .ok (.invokestatic 95, 3) := by decide +kernel
theorem d_Md_wordRank_100 : decode prog_10_method_15_code 100 = .ok (.lcmp, 1) := by decide +kernel
theorem d_Md_wordRank_101 : decode prog_10_method_15_code 101 = .ok (.ifCond .eq 18, 3) := by decide +kernel
theorem d_Md_wordRank_104 : decode prog_10_method_15_code 104 = .ok (.lload 4, 2) := by decide +kernel
theorem d_Md_wordRank_106 : decode prog_10_method_15_code 106 = .ok (.iconst 3, 1) := by decide +kernel
theorem d_Md_wordRank_107 : decode prog_10_method_15_code 107 = .ok (.bipush 18, 2) := by decide +kernel
theorem d_Md_wordRank_109 : decode prog_10_method_15_code 109 = .ok (.iconst 0, 1) := by decide +kernel
theorem d_Md_wordRank_110 : decode prog_10_method_15_code 110 = .ok (.iconst 0, 1) := by decide +kernel
theorem d_Md_wordRank_111 : decode prog_10_method_15_code 111 = .ok (.iconst 0, 1) := by decide +kernel
theorem d_Md_wordRank_112 : decode prog_10_method_15_code 112 = .ok (.invokestatic 95, 3) := by decide +kernel
theorem d_Md_wordRank_115 : decode prog_10_method_15_code 115 = .ok (.lcmp, 1) := by decide +kernel
theorem d_Md_wordRank_116 : decode prog_10_method_15_code 116 = .ok (.ifCond .ne 5, 3) := by decide +kernel
theorem d_Md_wordRank_119 : decode prog_10_method_15_code 119 = .ok (.iconst 4, 1) := by decide +kernel
theorem d_Md_wordRank_120 : decode prog_10_method_15_code 120 = .ok (.ireturn, 1) := by decide +kernel
theorem d_Md_wordRank_121 : decode prog_10_method_15_code 121 = .ok (.lload 4, 2) := by decide +kernel
theorem d_Md_wordRank_123 : decode prog_10_method_15_code 123 = .ok (.bipush 19, 2) := by decide +kernel
theorem d_Md_wordRank_125 : decode prog_10_method_15_code 125 = .ok (.bipush 14, 2) := by decide +kernel
theorem d_Md_wordRank_127 : decode prog_10_method_15_code 127 = .ok (.iconst 1, 1) := by decide +kernel
theorem d_Md_wordRank_128 : decode prog_10_method_15_code 128 = .ok (.bipush 16, 2) := by decide +kernel
theorem d_Md_wordRank_130 : decode prog_10_method_15_code 130 = .ok (.bipush 19, 2) := by decide +kernel
theorem d_Md_wordRank_132 : decode prog_10_method_15_code 132 = .ok (.invokestatic 95, 3) := by decide +kernel
theorem d_Md_wordRank_135 : decode prog_10_method_15_code 135 = .ok (.ldc2_w 101, 3) := by decide +kernel
theorem d_Md_wordRank_138 : decode prog_10_method_15_code 138 = .ok (.lmul, 1) := by decide +kernel
theorem d_Md_wordRank_139 : decode prog_10_method_15_code 139 = .ok (.ldc2_w 109, 3) := by decide +kernel
theorem d_Md_wordRank_142 : decode prog_10_method_15_code 142 = .ok (.ladd, 1) := by decide +kernel
theorem d_Md_wordRank_143 : decode prog_10_method_15_code 143 = .ok (.ldc2_w 111, 3) := by decide +kernel
theorem d_Md_wordRank_146 : decode prog_10_method_15_code 146 = .ok (.ladd, 1) := by decide +kernel
theorem d_Md_wordRank_147 : decode prog_10_method_15_code 147 = .ok (.ldc2_w 99, 3) := by decide +kernel
theorem d_Md_wordRank_150 : decode prog_10_method_15_code 150 = .ok (.ladd, 1) := by decide +kernel
theorem d_Md_wordRank_151 : decode prog_10_method_15_code 151 = .ok (.lcmp, 1) := by decide +kernel
theorem d_Md_wordRank_152 : decode prog_10_method_15_code 152 = .ok (.ifCond .ne 5, 3) := by decide +kernel
theorem d_Md_wordRank_155 : decode prog_10_method_15_code 155 = .ok (.iconst 5, 1) := by decide +kernel
theorem d_Md_wordRank_156 : decode prog_10_method_15_code 156 = .ok (.ireturn, 1) := by decide +kernel
theorem d_Md_wordRank_157 : decode prog_10_method_15_code 157 = .ok (.lload 4, 2) := by decide +kernel
theorem d_Md_wordRank_159 : decode prog_10_method_15_code 159 = .ok (.bipush 7, 2) := by decide +kernel
theorem d_Md_wordRank_161 : decode prog_10_method_15_code 161 = .ok (.iconst 1, 1) := by decide +kernel
theorem d_Md_wordRank_162 : decode prog_10_method_15_code 162 = .ok (.iconst 0, 1) := by decide +kernel
theorem d_Md_wordRank_163 : decode prog_10_method_15_code 163 = .ok (.iconst 0, 1) := by decide +kernel
theorem d_Md_wordRank_164 : decode prog_10_method_15_code 164 = .ok (.iconst 0, 1) := by decide +kernel
theorem d_Md_wordRank_165 : decode prog_10_method_15_code 165 = .ok (.invokestatic 95, 3) := by decide +kernel
theorem d_Md_wordRank_168 : decode prog_10_method_15_code 168 = .ok (.lcmp, 1) := by decide +kernel
theorem d_Md_wordRank_169 : decode prog_10_method_15_code 169 = .ok (.ifCond .eq 49, 3) := by decide +kernel
theorem d_Md_wordRank_172 : decode prog_10_method_15_code 172 = .ok (.lload 4, 2) := by decide +kernel
theorem d_Md_wordRank_174 : decode prog_10_method_15_code 174 = .ok (.bipush 6, 2) := by decide +kernel
theorem d_Md_wordRank_176 : decode prog_10_method_15_code 176 = .ok (.bipush 9, 2) := by decide +kernel
theorem d_Md_wordRank_178 : decode prog_10_method_15_code 178 = .ok (.bipush 14, 2) := by decide +kernel
theorem d_Md_wordRank_180 : decode prog_10_method_15_code 180 = .ok (.iconst 1, 1) := by decide +kernel
theorem d_Md_wordRank_181 : decode prog_10_method_15_code 181 = .ok (.bipush 12, 2) := by decide +kernel
theorem d_Md_wordRank_183 : decode prog_10_method_15_code 183 = .ok (.invokestatic 95, 3) := by decide +kernel
theorem d_Md_wordRank_186 : decode prog_10_method_15_code 186 = .ok (.lcmp, 1) := by decide +kernel
theorem d_Md_wordRank_187 : decode prog_10_method_15_code 187 = .ok (.ifCond .eq 31, 3) := by decide +kernel
theorem d_Md_wordRank_190 : decode prog_10_method_15_code 190 = .ok (.lload 4, 2) := by decide +kernel
theorem d_Md_wordRank_192 : decode prog_10_method_15_code 192 = .ok (.bipush 18, 2) := by decide +kernel
theorem d_Md_wordRank_194 : decode prog_10_method_15_code 194 = .ok (.iconst 5, 1) := by decide +kernel
theorem d_Md_wordRank_195 : decode prog_10_method_15_code 195 = .ok (.bipush 12, 2) := by decide +kernel
theorem d_Md_wordRank_197 : decode prog_10_method_15_code 197 = .ok (.iconst 5, 1) := by decide +kernel
theorem d_Md_wordRank_198 : decode prog_10_method_15_code 198 = .ok (.iconst 1, 1) := by decide +kernel
theorem d_Md_wordRank_199 : decode prog_10_method_15_code 199 = .ok (.invokestatic 95, 3) := by decide +kernel
theorem d_Md_wordRank_202 : decode prog_10_method_15_code 202 = .ok (.ldc2_w 113, 3) := by decide +kernel
theorem d_Md_wordRank_205 : decode prog_10_method_15_code 205 = .ok (.lmul, 1) := by decide +kernel
theorem d_Md_wordRank_206 : decode prog_10_method_15_code 206 = .ok (.ldc2_w 115, 3) := by decide +kernel
theorem d_Md_wordRank_209 : decode prog_10_method_15_code 209 = .ok (.ladd, 1) := by decide +kernel
theorem d_Md_wordRank_210 : decode prog_10_method_15_code 210 = .ok (.ldc2_w 107, 3) := by decide +kernel
theorem d_Md_wordRank_213 : decode prog_10_method_15_code 213 = .ok (.ladd, 1) := by decide +kernel
theorem d_Md_wordRank_214 : decode prog_10_method_15_code 214 = .ok (.lcmp, 1) := by decide +kernel
theorem d_Md_wordRank_215 : decode prog_10_method_15_code 215 = .ok (.ifCond .ne 6, 3) := by decide +kernel
theorem d_Md_wordRank_218 : decode prog_10_method_15_code 218 = .ok (.bipush 6, 2) := by decide +kernel
theorem d_Md_wordRank_220 : decode prog_10_method_15_code 220 = .ok (.ireturn, 1) := by decide +kernel
theorem d_Md_wordRank_221 : decode prog_10_method_15_code 221 = .ok (.lload 4, 2) := by decide +kernel
theorem d_Md_wordRank_223 : decode prog_10_method_15_code 223 = .ok (.bipush 19, 2) := by decide +kernel
theorem d_Md_wordRank_225 : decode prog_10_method_15_code 225 = .ok (.bipush 16, 2) := by decide +kernel
theorem d_Md_wordRank_227 : decode prog_10_method_15_code 227 = .ok (.iconst 0, 1) := by decide +kernel
theorem d_Md_wordRank_228 : decode prog_10_method_15_code 228 = .ok (.iconst 0, 1) := by decide +kernel
theorem d_Md_wordRank_229 : decode prog_10_method_15_code 229 = .ok (.iconst 0, 1) := by decide +kernel
theorem d_Md_wordRank_230 : decode prog_10_method_15_code 230 = .ok (.invokestatic 95, 3) := by decide +kernel
theorem d_Md_wordRank_233 : decode prog_10_method_15_code 233 = .ok (.lcmp, 1) := by decide +kernel
theorem d_Md_wordRank_234 : decode prog_10_method_15_code 234 = .ok (.ifCond .ne 6, 3) := by decide +kernel
theorem d_Md_wordRank_237 : decode prog_10_method_15_code 237 = .ok (.bipush 7, 2) := by decide +kernel
theorem d_Md_wordRank_239 : decode prog_10_method_15_code 239 = .ok (.ireturn, 1) := by decide +kernel
theorem d_Md_wordRank_240 : decode prog_10_method_15_code 240 = .ok (.iload_n 3, 1) := by decide +kernel
theorem d_Md_wordRank_241 : decode prog_10_method_15_code 241 = .ok (.iload_n 2, 1) := by decide +kernel
theorem d_Md_wordRank_242 : decode prog_10_method_15_code 242 = .ok (.isub, 1) := by decide +kernel
theorem d_Md_wordRank_243 : decode prog_10_method_15_code 243 = .ok (.iconst 1, 1) := by decide +kernel
theorem d_Md_wordRank_244 : decode prog_10_method_15_code 244 = .ok (.if_icmp .ne 19, 3) := by decide +kernel
theorem d_Md_wordRank_247 : decode prog_10_method_15_code 247 = .ok (.aload_n 0, 1) := by decide +kernel
theorem d_Md_wordRank_248 : decode prog_10_method_15_code 248 = .ok (.iload_n 1, 1) := by decide +kernel
theorem d_Md_wordRank_249 : decode prog_10_method_15_code 249 = .ok (.iload_n 3, 1) := by decide +kernel
