theorem d_Ve_readItem_31 : decode prog_8_method_8_code 31 = .ok (.iinc 4 1, 3) := by decide +kernel
theorem d_Ve_readItem_34 : decode prog_8_method_8_code 34 = .ok (.goto (-29), 3) := by decide +kernel
theorem d_Ve_readItem_37 : decode prog_8_method_8_code 37 = .ok (.aload_n 2, 1) := by decide +kernel
theorem d_Ve_readItem_38 : decode prog_8_method_8_code 38 = .ok (.iload_n 3, 1) := by decide +kernel
theorem d_Ve_readItem_39 : decode prog_8_method_8_code 39 = .ok (.iload 4, 2) := by decide +kernel
theorem d_Ve_readItem_41 : decode prog_8_method_8_code 41 = .ok (.invokevirtual 68, 3) := by decide +kernel
theorem d_Ve_readItem_44 : decode prog_8_method_8_code 44 = .ok (.astore 5, 2) := by decide +kernel
theorem d_Ve_readItem_46 : decode prog_8_method_8_code 46 = .ok (.aload_n 2, 1) := by decide +kernel
theorem d_Ve_readItem_47 : decode prog_8_method_8_code 47 = .ok (.iload_n 3, 1) := by decide +kernel
theorem d_Ve_readItem_48 : decode prog_8_method_8_code 48 = .ok (.invokevirtual 48, 3) := by decide +kernel
theorem d_Ve_readItem_51 : decode prog_8_method_8_code 51 = .ok (.invokestatic 58, 3) := by decide +kernel
theorem d_Ve_readItem_54 : decode prog_8_method_8_code 54 = .ok (.ifCond .eq 41, 3) := by decide +kernel
theorem d_Ve_readItem_57 : decode prog_8_method_8_code 57 = .ok (.aload_n 0, 1) := by decide +kernel
theorem d_Ve_readItem_58 : decode prog_8_method_8_code 58 = .ok (.getfield 13, 3) := by decide +kernel
theorem d_Ve_readItem_61 : decode prog_8_method_8_code 61 = .ok (.iload_n 1, 1) := by decide +kernel
theorem d_Ve_readItem_62 : decode prog_8_method_8_code 62 = .ok (.aload 5, 2) := by decide +kernel
theorem d_Ve_readItem_64 : decode prog_8_method_8_code 64 = .ok (.invokestatic 72, 3) := by decide +kernel
theorem d_Ve_readItem_67 : decode prog_8_method_8_code 67 = .ok (.lastore, 1) := by decide +kernel
theorem d_Ve_readItem_68 : decode prog_8_method_8_code 68 = .ok (.aload_n 0, 1) := by decide +kernel
theorem d_Ve_readItem_69 : decode prog_8_method_8_code 69 = .ok (.getfield 9, 3) := by decide +kernel
theorem d_Ve_readItem_72 : decode prog_8_method_8_code 72 = .ok (.iload_n 1, 1) := by decide +kernel
theorem d_Ve_readItem_73 : decode prog_8_method_8_code 73 = .ok (.aload_n 0, 1) := by decide +kernel
theorem d_Ve_readItem_74 : decode prog_8_method_8_code 74 = .ok (.getfield 13, 3) := by decide +kernel
theorem d_Ve_readItem_77 : decode prog_8_method_8_code 77 = .ok (.iload_n 1, 1) := by decide +kernel
theorem d_Ve_readItem_78 : decode prog_8_method_8_code 78 = .ok (.laload, 1) := by decide +kernel
theorem d_Ve_readItem_79 : decode prog_8_method_8_code 79 = .ok (.lconst 0, 1) := by decide +kernel
theorem d_Ve_readItem_80 : decode prog_8_method_8_code 80 = .ok (.lcmp, 1) := by decide +kernel
theorem d_Ve_readItem_81 : decode prog_8_method_8_code 81 = .ok (.ifCond .ne 8, 3) := by decide +kernel
theorem d_Ve_readItem_84 : decode prog_8_method_8_code 84 = .ok (.bipush 6, 2) := by decide +kernel
theorem d_Ve_readItem_86 : decode prog_8_method_8_code 86 = .ok (.goto 5, 3) := by decide +kernel
theorem d_Ve_readItem_89 : decode prog_8_method_8_code 89 = .ok (.bipush 9, 2) := by decide +kernel
theorem d_Ve_readItem_91 : decode prog_8_method_8_code 91 = .ok (.iastore, 1) := by decide +kernel
theorem d_Ve_readItem_92 : decode prog_8_method_8_code 92 = .ok (.goto 70, 3) := by decide +kernel
theorem d_Ve_readItem_95 : decode prog_8_method_8_code 95 = .ok (.iload 4, 2) := by decide +kernel
theorem d_Ve_readItem_97 : decode prog_8_method_8_code 97 = .ok (.aload_n 2, 1) := by decide +kernel
theorem d_Ve_readItem_98 : decode prog_8_method_8_code 98 = .ok (.invokevirtual 23, 3) := by decide +kernel
theorem d_Ve_readItem_101 : decode prog_8_method_8_code 101 = .ok (.if_icmp .ge 19, 3) := by decide +kernel
theorem d_Ve_readItem_104 : decode prog_8_method_8_code 104 = .ok (.aload_n 2, 1) := by decide +kernel
theorem d_Ve_readItem_105 : decode prog_8_method_8_code 105 = .ok (.iload 4, 2) := by decide +kernel
theorem d_Ve_readItem_107 : decode prog_8_method_8_code 107 = .ok (.invokevirtual 48, 3) := by decide +kernel
theorem d_Ve_readItem_110 : decode prog_8_method_8_code 110 = .ok (.invokestatic 58, 3) := by decide +kernel
theorem d_Ve_readItem_113 : decode prog_8_method_8_code 113 = .ok (.ifCond .eq 7, 3) := by decide +kernel
theorem d_Ve_readItem_116 : decode prog_8_method_8_code 116 = .ok (.iconst 1, 1) := by decide +kernel
theorem d_Ve_readItem_117 : decode prog_8_method_8_code 117 = .ok (.goto 4, 3) := by decide +kernel
theorem d_Ve_readItem_120 : decode prog_8_method_8_code 120 = .ok (.iconst 0, 1) := by decide +kernel
theorem d_Ve_readItem_121 : decode prog_8_method_8_code 121 = .ok (.istore 6, 2) := by decide +kernel
theorem d_Ve_readItem_123 : decode prog_8_method_8_code 123 = .ok (.aload_n 0, 1) := by decide +kernel
theorem d_Ve_readItem_124 : decode prog_8_method_8_code 124 = .ok (.getfield 9, 3) := by decide +kernel
theorem d_Ve_readItem_127 : decode prog_8_method_8_code 127 = .ok (.iload_n 1, 1) := by decide +kernel
theorem d_Ve_readItem_128 : decode prog_8_method_8_code 128 = .ok (.aload 5, 2) := by decide +kernel
theorem d_Ve_readItem_130 : decode prog_8_method_8_code 130 = .ok (.iload 6, 2) := by decide +kernel
theorem d_Ve_readItem_132 : decode prog_8_method_8_code 132 = .ok (.invokestatic 76, 3) := by decide +kernel
theorem d_Ve_readItem_135 : decode prog_8_method_8_code 135 = .ok (.iastore, 1) := by decide +kernel
theorem d_Ve_readItem_136 : decode prog_8_method_8_code 136 = .ok (.aload_n 0, 1) := by decide +kernel
theorem d_Ve_readItem_137 : decode prog_8_method_8_code 137 = .ok (.getfield 13, 3) := by decide +kernel
theorem d_Ve_readItem_140 : decode prog_8_method_8_code 140 = .ok (.iload_n 1, 1) := by decide +kernel
theorem d_Ve_readItem_141 : decode prog_8_method_8_code 141 = .ok (.aload_n 0, 1) := by decide +kernel
theorem d_Ve_readItem_142 : decode prog_8_method_8_code 142 = .ok (.getfield 9, 3) := by decide +kernel
theorem d_Ve_readItem_145 : decode prog_8_method_8_code 145 = .ok (.iload_n 1, 1) := by decide +kernel
theorem d_Ve_readItem_146 : decode prog_8_method_8_code 146 = .ok (.iaload, 1) := by decide +kernel
theorem d_Ve_readItem_147 : decode prog_8_method_8_code 147 = .ok (.bipush 8, 2) := by decide +kernel
theorem d_Ve_readItem_149 : decode prog_8_method_8_code 149 = .ok (.if_icmp .ne 11, 3) := by decide +kernel
theorem d_Ve_readItem_152 : decode prog_8_method_8_code 152 = .ok (.aload 5, 2) := by decide +kernel
theorem d_Ve_readItem_154 : decode prog_8_method_8_code 154 = .ok (.invokestatic 80, 3) := by decide +kernel
theorem d_Ve_readItem_157 : decode prog_8_method_8_code 157 = .ok (.goto 4, 3) := by decide +kernel
theorem d_Ve_readItem_160 : decode prog_8_method_8_code 160 = .ok (.lconst 0, 1) := by decide +kernel
theorem d_Ve_readItem_161 : decode prog_8_method_8_code 161 = .ok (.lastore, 1) := by decide +kernel
theorem d_Ve_readItem_162 : decode prog_8_method_8_code 162 = .ok (.return_, 1) := by decide +kernel
theorem d_Ve_numberOf_0 : decode prog_8_method_10_code 0 = .ok (.lconst 0, 1) := by decide +kernel
theorem d_Ve_numberOf_1 : decode prog_8_method_10_code 1 = .ok (.lstore_n 1, 1) := by decide +kernel
theorem d_Ve_numberOf_2 : decode prog_8_method_10_code 2 = .ok (.iconst 0, 1) := by decide +kernel
theorem d_Ve_numberOf_3 : decode prog_8_method_10_code 3 = .ok (.istore_n 3, 1) := by decide +kernel
theorem d_Ve_numberOf_4 : decode prog_8_method_10_code 4 = .ok (.iload_n 3, 1) := by decide +kernel
theorem d_Ve_numberOf_5 : decode prog_8_method_10_code 5 = .ok (.aload_n 0, 1) := by decide +kernel
theorem d_Ve_numberOf_6 : decode prog_8_method_10_code 6 = .ok (.invokevirtual 23, 3) := by decide +kernel
theorem d_Ve_numberOf_9 : decode prog_8_method_10_code 9 = .ok (.if_icmp .ge 25, 3) := by decide +kernel
theorem d_Ve_numberOf_12 : decode prog_8_method_10_code 12 = .ok (.lload_n 1, 1) := by decide +kernel
theorem d_Ve_numberOf_13 : decode prog_8_method_10_code 13 = .ok (.ldc2_w 113, 3) := by decide +kernel
theorem d_Ve_numberOf_16 : decode prog_8_method_10_code 16 = .ok (.lmul, 1) := by decide +kernel
theorem d_Ve_numberOf_17 : decode prog_8_method_10_code 17 = .ok (.aload_n 0, 1) := by decide +kernel
theorem d_Ve_numberOf_18 : decode prog_8_method_10_code 18 = .ok (.iload_n 3, 1) := by decide +kernel
theorem d_Ve_numberOf_19 : decode prog_8_method_10_code 19 = .ok (.invokevirtual 48, 3) := by decide +kernel
theorem d_Ve_numberOf_22 : decode prog_8_method_10_code 22 = .ok (.bipush 48, 2) := by decide +kernel
theorem d_Ve_numberOf_24 : decode prog_8_method_10_code 24 = .ok (.isub, 1) := by decide +kernel
theorem d_Ve_numberOf_25 : decode prog_8_method_10_code 25 = .ok (.i2l, 1) := by decide +kernel
theorem d_Ve_numberOf_26 : decode prog_8_method_10_code 26 = .ok (.ladd, 1) := by decide +kernel
theorem d_Ve_numberOf_27 : decode prog_8_method_10_code 27 = .ok (.lstore_n 1, 1) := by decide +kernel
theorem d_Ve_numberOf_28 : decode prog_8_method_10_code 28 = .ok (.iinc 3 1, 3) := by decide +kernel
theorem d_Ve_numberOf_31 : decode prog_8_method_10_code 31 = .ok (.goto (-27), 3) := by decide +kernel
theorem d_Ve_numberOf_34 : decode prog_8_method_10_code 34 = .ok (.lload_n 1, 1) := by decide +kernel
theorem d_Ve_numberOf_35 : decode prog_8_method_10_code 35 = .ok (.lreturn, 1) := by decide +kernel
theorem d_Ve_rankOfWord_0 : decode prog_8_method_9_code 0 = .ok (.aload_n 0, 1) := by decide +kernel
theorem d_Ve_rankOfWord_1 : decode prog_8_method_9_code 1 = .ok (.ldc 83, 2) := by decide +kernel
theorem d_Ve_rankOfWord_3 : decode prog_8_method_9_code 3 = .ok (.invokevirtual 85, 3) := by decide +kernel
theorem d_Ve_rankOfWord_6 : decode prog_8_method_9_code 6 = .ok (.ifCond .ne 16, 3) := by decide +kernel
theorem d_Ve_rankOfWord_9 : decode prog_8_method_9_code 9 = .ok (.iload_n 1, 1) := by decide +kernel
theorem d_Ve_rankOfWord_10 : decode prog_8_method_9_code 10 = .ok (.ifCond .eq 14, 3) := by decide +kernel
theorem d_Ve_rankOfWord_13 : decode prog_8_method_9_code 13 = .ok (.aload_n 0, 1) := by decide +kernel
theorem d_Ve_rankOfWord_14 : decode prog_8_method_9_code 14 = .ok (.ldc 89, 2) := by decide +kernel
theorem d_Ve_rankOfWord_16 : decode prog_8_method_9_code 16 = .ok (.invokevirtual 85, 3) := by decide +kernel
theorem d_Ve_rankOfWord_19 : decode prog_8_method_9_code 19 = .ok (.ifCond .eq 5, 3) := by decide +kernel
theorem d_Ve_rankOfWord_22 : decode prog_8_method_9_code 22 = .ok (.iconst 1, 1) := by decide +kernel
theorem d_Ve_rankOfWord_23 : decode prog_8_method_9_code 23 = .ok (.ireturn, 1) := by decide +kernel
theorem d_Ve_rankOfWord_24 : decode prog_8_method_9_code 24 = .ok (.aload_n 0, 1) := by decide +kernel
theorem d_Ve_rankOfWord_25 : decode prog_8_method_9_code 25 = .ok (.ldc 91, 2) := by decide +kernel
theorem d_Ve_rankOfWord_27 : decode prog_8_method_9_code 27 = .ok (.invokevirtual 85, 3) := by decide +kernel
theorem d_Ve_rankOfWord_30 : decode prog_8_method_9_code 30 = .ok (.ifCond .ne 16, 3) := by decide +kernel
theorem d_Ve_rankOfWord_33 : decode prog_8_method_9_code 33 = .ok (.iload_n 1, 1) := by decide +kernel
theorem d_Ve_rankOfWord_34 : decode prog_8_method_9_code 34 = .ok (.ifCond .eq 14, 3) := by decide +kernel
theorem d_Ve_rankOfWord_37 : decode prog_8_method_9_code 37 = .ok (.aload_n 0, 1) := by decide +kernel
theorem d_Ve_rankOfWord_38 : decode prog_8_method_9_code 38 = .ok (.ldc 93, 2) := by decide +kernel
theorem d_Ve_rankOfWord_40 : decode prog_8_method_9_code 40 = .ok (.invokevirtual 85, 3) := by decide +kernel
theorem d_Ve_rankOfWord_43 : decode prog_8_method_9_code 43 = .ok (.ifCond .eq 5, 3) := by decide +kernel
theorem d_Ve_rankOfWord_46 : decode prog_8_method_9_code 46 = .ok (.iconst 2, 1) := by decide +kernel
theorem d_Ve_rankOfWord_47 : decode prog_8_method_9_code 47 = .ok (.ireturn, 1) := by decide +kernel
theorem d_Ve_rankOfWord_48 : decode prog_8_method_9_code 48 = .ok (.aload_n 0, 1) := by decide +kernel
theorem d_Ve_rankOfWord_49 : decode prog_8_method_9_code 49 = .ok (.ldc 95, 2) := by decide +kernel
theorem d_Ve_rankOfWord_51 : decode prog_8_method_9_code 51 = .ok (.invokevirtual 85, 3) := by decide +kernel
theorem d_Ve_rankOfWord_54 : decode prog_8_method_9_code 54 = .ok (.ifCond .ne 16, 3) := by decide +kernel
theorem d_Ve_rankOfWord_57 : decode prog_8_method_9_code 57 = .ok (.iload_n 1, 1) := by decide +kernel
theorem d_Ve_rankOfWord_58 : decode prog_8_method_9_code 58 = .ok (.ifCond .eq 14, 3) := by decide +kernel
theorem d_Ve_rankOfWord_61 : decode prog_8_method_9_code 61 = .ok (.aload_n 0, 1) := by decide +kernel
theorem d_Ve_rankOfWord_62 : decode prog_8_method_9_code 62 = .ok (.ldc 97, 2) := by decide +kernel
theorem d_Ve_rankOfWord_64 : decode prog_8_method_9_code 64 = .ok (.invokevirtual 85, 3) := by decide +kernel
theorem d_Ve_rankOfWord_67 : decode prog_8_method_9_code 67 = .ok (.ifCond .eq 5, 3) := by decide +kernel
theorem d_Ve_rankOfWord_70 : decode prog_8_method_9_code 70 = .ok (.iconst 3, 1) := by decide +kernel
theorem d_Ve_rankOfWord_71 : decode prog_8_method_9_code 71 = .ok (.ireturn, 1) := by decide +kernel
theorem d_Ve_rankOfWord_72 : decode prog_8_method_9_code 72 = .ok (.aload_n 0, 1) := by decide +kernel
theorem d_Ve_rankOfWord_73 : decode prog_8_method_9_code 73 = .ok (.ldc 99, 2) := by decide +kernel
theorem d_Ve_rankOfWord_75 : decode prog_8_method_9_code 75 = .ok (.invokevirtual 85, 3) := by decide +kernel
theorem d_Ve_rankOfWord_78 : decode prog_8_method_9_code 78 = .ok (.ifCond .ne 12, 3) := by decide +kernel
theorem d_Ve_rankOfWord_81 : decode prog_8_method_9_code 81 = .ok (.aload_n 0, 1) := by decide +kernel
theorem d_Ve_rankOfWord_82 : decode prog_8_method_9_code 82 = .ok (.ldc 101, 2) := by decide +kernel
theorem d_Ve_rankOfWord_84 : decode prog_8_method_9_code 84 = .ok (.invokevirtual 85, 3) := by decide +kernel
theorem d_Ve_rankOfWord_87 : decode prog_8_method_9_code 87 = .ok (.ifCond .eq 5, 3) := by decide +kernel
theorem d_Ve_rankOfWord_90 : decode prog_8_method_9_code 90 = .ok (.iconst 4, 1) := by decide +kernel
theorem d_Ve_rankOfWord_91 : decode prog_8_method_9_code 91 = .ok (.ireturn, 1) := by decide +kernel
theorem d_Ve_rankOfWord_92 : decode prog_8_method_9_code 92 = .ok (.aload_n 0, 1) := by decide +kernel
theorem d_Ve_rankOfWord_93 : decode prog_8_method_9_code 93 = .ok (.ldc 103, 2) := by decide +kernel
theorem d_Ve_rankOfWord_95 : decode prog_8_method_9_code 95 = .ok (.invokevirtual 85, 3) := by decide +kernel
theorem d_Ve_rankOfWord_98 : decode prog_8_method_9_code 98 = .ok (.ifCond .eq 5, 3) := by decide +kernel
theorem d_Ve_rankOfWord_101 : decode prog_8_method_9_code 101 = .ok (.iconst 5, 1) := by decide +kernel
theorem d_Ve_rankOfWord_102 : decode prog_8_method_9_code 102 = .ok (.ireturn, 1) := by decide +kernel
theorem d_Ve_rankOfWord_103 : decode prog_8_method_9_code 103 = .ok (.aload_n 0, 1) := by decide +kernel
theorem d_Ve_rankOfWord_104 : decode prog_8_method_9_code 104 = .ok (.ldc 105, 2) := by decide +kernel
theorem d_Ve_rankOfWord_106 : decode prog_8_method_9_code 106 = .ok (.invokevirtual 85, 3) := by decide +kernel
theorem d_Ve_rankOfWord_109 : decode prog_8_method_9_code 109 = .ok (.ifCond .ne 21, 3) := by decide +kernel
theorem d_Ve_rankOfWord_112 : decode prog_8_method_9_code 112 = .ok (.aload_n 0, 1) := by decide +kernel
theorem d_Ve_rankOfWord_113 : decode prog_8_method_9_code 113 = .ok (.ldc 107, 2) := by decide +kernel
theorem d_Ve_rankOfWord_115 : decode prog_8_method_9_code 115 = .ok (.invokevirtual 85, 3) := by decide +kernel
theorem d_Ve_rankOfWord_118 : decode prog_8_method_9_code 118 = .ok (.ifCond .ne 12, 3) := by decide +kernel
theorem d_Ve_rankOfWord_121 : decode prog_8_method_9_code 121 = .ok (.aload_n 0, 1) := by decide +kernel
theorem d_Ve_rankOfWord_122 : decode prog_8_method_9_code 122 = .ok (.ldc 109, 2) := by decide +kernel
theorem d_Ve_rankOfWord_124 : decode prog_8_method_9_code 124 = .ok (.invokevirtual 85, 3) := by decide +kernel
theorem d_Ve_rankOfWord_127 : decode prog_8_method_9_code 127 = .ok (.ifCond .eq 6, 3) := by decide +kernel
theorem d_Ve_rankOfWord_130 : decode prog_8_method_9_code 130 = .ok (.bipush 6, 2) := by decide +kernel
theorem d_Ve_rankOfWord_132 : decode prog_8_method_9_code 132 = .ok (.ireturn, 1) := by decide +kernel
theorem d_Ve_rankOfWord_133 : decode prog_8_method_9_code 133 = .ok (.aload_n 0, 1) := by decide +kernel
theorem d_Ve_rankOfWord_134 : decode prog_8_method_9_code 134 = .ok (.ldc 111, 2) := by decide +kernel
theorem d_Ve_rankOfWord_136 : decode prog_8_method_9_code 136 = .ok (.invokevirtual 85, 3) := by decide +kernel
theorem d_Ve_rankOfWord_139 : decode prog_8_method_9_code 139 = .ok (.ifCond .eq 8, 3) := by decide +kernel
theorem d_Ve_rankOfWord_142 : decode prog_8_method_9_code 142 = .ok (.bipush 7, 2) := by decide +kernel
theorem d_Ve_rankOfWord_144 : decode prog_8_method_9_code 144 = .ok (.goto 5, 3) := by decide +kernel
theorem d_Ve_rankOfWord_147 : decode prog_8_method_9_code 147 = .ok (.bipush 8, 2) := by decide +kernel
theorem d_Ve_rankOfWord_149 : decode prog_8_method_9_code 149 = .ok (.ireturn, 1) := by decide +kernel
theorem d_Ve_dictionaryPlace_0 : decode prog_8_method_11_code 0 = .ok (.lconst 0, 1) := by decide +kernel
theorem d_Ve_dictionaryPlace_1 : decode prog_8_method_11_code 1 = .ok (.lstore_n 1, 1) := by decide +kernel
theorem d_Ve_dictionaryPlace_2 : decode prog_8_method_11_code 2 = .ok (.iconst 0, 1) := by decide +kernel
theorem d_Ve_dictionaryPlace_3 : decode prog_8_method_11_code 3 = .ok (.istore_n 3, 1) := by decide +kernel
theorem d_Ve_dictionaryPlace_4 : decode prog_8_method_11_code 4 = .ok (.iload_n 3, 1) := by decide +kernel
theorem d_Ve_dictionaryPlace_5 : decode prog_8_method_11_code 5 = .ok (.bipush 12, 2) := by decide +kernel
theorem d_Ve_dictionaryPlace_7 : decode prog_8_method_11_code 7 = .ok (.if_icmp .ge 43, 3) := by decide +kernel
theorem d_Ve_dictionaryPlace_10 : decode prog_8_method_11_code 10 = .ok (.iload_n 3, 1) := by decide +kernel
theorem d_Ve_dictionaryPlace_11 : decode prog_8_method_11_code 11 = .ok (.aload_n 0, 1) := by decide +kernel
theorem d_Ve_dictionaryPlace_12 : decode prog_8_method_11_code 12 = .ok (.invokevirtual 23, 3) := by decide +kernel
theorem d_Ve_dictionaryPlace_15 : decode prog_8_method_11_code 15 = .ok (.if_icmp .ge 16, 3) := by decide +kernel
theorem d_Ve_dictionaryPlace_18 : decode prog_8_method_11_code 18 = .ok (.aload_n 0, 1) := by decide +kernel
theorem d_Ve_dictionaryPlace_19 : decode prog_8_method_11_code 19 = .ok (.iload_n 3, 1) := by decide +kernel
theorem d_Ve_dictionaryPlace_20 : decode prog_8_method_11_code 20 = .ok (.invokevirtual 48, 3) := by decide +kernel
theorem d_Ve_dictionaryPlace_23 : decode prog_8_method_11_code 23 = .ok (.bipush 97, 2) := by decide +kernel
theorem d_Ve_dictionaryPlace_25 : decode prog_8_method_11_code 25 = .ok (.isub, 1) := by decide +kernel
theorem d_Ve_dictionaryPlace_26 : decode prog_8_method_11_code 26 = .ok (.iconst 1, 1) := by decide +kernel
theorem d_Ve_dictionaryPlace_27 : decode prog_8_method_11_code 27 = .ok (.iadd, 1) := by decide +kernel
theorem d_Ve_dictionaryPlace_28 : decode prog_8_method_11_code 28 = .ok (.goto 4, 3) := by decide +kernel
theorem d_Ve_dictionaryPlace_31 : decode prog_8_method_11_code 31 = .ok (.iconst 0, 1) := by decide +kernel
theorem d_Ve_dictionaryPlace_32 : decode prog_8_method_11_code 32 = .ok (.istore 4, 2) := by decide +kernel
theorem d_Ve_dictionaryPlace_34 : decode prog_8_method_11_code 34 = .ok (.lload_n 1, 1) := by decide +kernel
theorem d_Ve_dictionaryPlace_35 : decode prog_8_method_11_code 35 = .ok (.ldc2_w 115, 3) := by decide +kernel
theorem d_Ve_dictionaryPlace_38 : decode prog_8_method_11_code 38 = .ok (.lmul, 1) := by decide +kernel
theorem d_Ve_dictionaryPlace_39 : decode prog_8_method_11_code 39 = .ok (.iload 4, 2) := by decide +kernel
theorem d_Ve_dictionaryPlace_41 : decode prog_8_method_11_code 41 = .ok (.i2l, 1) := by decide +kernel
theorem d_Ve_dictionaryPlace_42 : decode prog_8_method_11_code 42 = .ok (.ladd, 1) := by decide +kernel
theorem d_Ve_dictionaryPlace_43 : decode prog_8_method_11_code 43 = .ok (.lstore_n 1, 1) := by decide +kernel
theorem d_Ve_dictionaryPlace_44 : decode prog_8_method_11_code 44 = .ok (.iinc 3 1, 3) := by decide +kernel
theorem d_Ve_dictionaryPlace_47 : decode prog_8_method_11_code 47 = .ok (.goto (-43), 3) := by decide +kernel
theorem d_Ve_dictionaryPlace_50 : decode prog_8_method_11_code 50 = .ok (.lload_n 1, 1) := by decide +kernel
theorem d_Ve_dictionaryPlace_51 : decode prog_8_method_11_code 51 = .ok (.lreturn, 1) := by decide +kernel
theorem d_Ve_read_0 : decode prog_8_method_2_code 0 = .ok (.aload_n 0, 1) := by decide +kernel
theorem d_Ve_read_1 : decode prog_8_method_2_code 1 = .ok (.invokestatic 37, 3) := by decide +kernel
theorem d_Ve_read_4 : decode prog_8_method_2_code 4 = .ok (.ifCond .eq 14, 3) := by decide +kernel
theorem d_Ve_read_7 : decode prog_8_method_2_code 7 = .ok (.new 7, 3) := by decide +kernel
theorem d_Ve_read_10 : decode prog_8_method_2_code 10 = .ok (.dup, 1) := by decide +kernel
theorem d_Ve_read_11 : decode prog_8_method_2_code 11 = .ok (.aload_n 0, 1) := by decide +kernel
theorem d_Ve_read_12 : decode prog_8_method_2_code 12 = .ok (.invokespecial 41, 3) := by decide +kernel
theorem d_Ve_read_15 : decode prog_8_method_2_code 15 = .ok (.goto 4, 3) := by decide +kernel
theorem d_Ve_read_18 : decode prog_8_method_2_code 18 = .ok (.aconst_null, 1) := by decide +kernel
theorem d_Ve_read_19 : decode prog_8_method_2_code 19 = .ok (.areturn, 1) := by decide +kernel
theorem d_Ve_isVersion_0 : decode prog_8_method_3_code 0 = .ok (.aload_n 0, 1) := by decide +kernel
theorem d_Ve_isVersion_1 : decode prog_8_method_3_code 1 = .ok (.invokevirtual 44, 3) := by decide +kernel
theorem d_Ve_isVersion_4 : decode prog_8_method_3_code 4 = .ok (.ifCond .ne 12, 3) := by decide +kernel
theorem d_Ve_isVersion_7 : decode prog_8_method_3_code 7 = .ok (.aload_n 0, 1) := by decide +kernel
theorem d_Ve_isVersion_8 : decode prog_8_method_3_code 8 = .ok (.invokevirtual 23, 3) := by decide +kernel
theorem d_Ve_isVersion_11 : decode prog_8_method_3_code 11 = .ok (.bipush 12, 2) := by decide +kernel
theorem d_Ve_isVersion_13 : decode prog_8_method_3_code 13 = .ok (.if_icmp .le 5, 3) := by decide +kernel
theorem d_Ve_isVersion_16 : decode prog_8_method_3_code 16 = .ok (.iconst 0, 1) := by decide +kernel
theorem d_Ve_isVersion_17 : decode prog_8_method_3_code 17 = .ok (.ireturn, 1) := by decide +kernel
theorem d_Ve_isVersion_18 : decode prog_8_method_3_code 18 = .ok (.iconst 1, 1) := by decide +kernel
theorem d_Ve_isVersion_19 : decode prog_8_method_3_code 19 = .ok (.istore_n 1, 1) := by decide +kernel
theorem d_Ve_isVersion_20 : decode prog_8_method_3_code 20 = .ok (.iconst 0, 1) := by decide +kernel
theorem d_Ve_isVersion_21 : decode prog_8_method_3_code 21 = .ok (.istore_n 2, 1) := by decide +kernel
theorem d_Ve_isVersion_22 : decode prog_8_method_3_code 22 = .ok (.iconst 0, 1) := by decide +kernel
theorem d_Ve_isVersion_23 : decode prog_8_method_3_code 23 = .ok (.istore_n 3, 1) := by decide +kernel
theorem d_Ve_isVersion_24 : decode prog_8_method_3_code 24 = .ok (.iload_n 3, 1) := by decide +kernel
theorem d_Ve_isVersion_25 : decode prog_8_method_3_code 25 = .ok (.aload_n 0, 1) := by decide +kernel
theorem d_Ve_isVersion_26 : decode prog_8_method_3_code 26 = .ok (.invokevirtual 23, 3) := by decide +kernel
theorem d_Ve_isVersion_29 : decode prog_8_method_3_code 29 = .ok (.if_icmp .ge 92, 3) := by decide +kernel
theorem d_Ve_isVersion_32 : decode prog_8_method_3_code 32 = .ok (.aload_n 0, 1) := by decide +kernel
theorem d_Ve_isVersion_33 : decode prog_8_method_3_code 33 = .ok (.iload_n 3, 1) := by decide +kernel
theorem d_Ve_isVersion_34 : decode prog_8_method_3_code 34 = .ok (.invokevirtual 48, 3) := by decide +kernel
theorem d_Ve_isVersion_37 : decode prog_8_method_3_code 37 = .ok (.istore 4, 2) := by decide +kernel
theorem d_Ve_isVersion_39 : decode prog_8_method_3_code 39 = .ok (.iload 4, 2) := by decide +kernel
theorem d_Ve_isVersion_41 : decode prog_8_method_3_code 41 = .ok (.invokestatic 52, 3) := by decide +kernel
theorem d_Ve_isVersion_44 : decode prog_8_method_3_code 44 = .ok (.istore 5, 2) := by decide +kernel
theorem d_Ve_isVersion_46 : decode prog_8_method_3_code 46 = .ok (.iload 4, 2) := by decide +kernel
theorem d_Ve_isVersion_48 : decode prog_8_method_3_code 48 = .ok (.invokestatic 58, 3) := by decide +kernel
theorem d_Ve_isVersion_51 : decode prog_8_method_3_code 51 = .ok (.ifCond .eq 9, 3) := by decide +kernel
theorem d_Ve_isVersion_54 : decode prog_8_method_3_code 54 = .ok (.iload_n 2, 1) := by decide +kernel
theorem d_Ve_isVersion_55 : decode prog_8_method_3_code 55 = .ok (.iconst 1, 1) := by decide +kernel
theorem d_Ve_isVersion_56 : decode prog_8_method_3_code 56 = .ok (.iadd, 1) := by decide +kernel
theorem d_Ve_isVersion_57 : decode prog_8_method_3_code 57 = .ok (.goto 4, 3) := by decide +kernel
theorem d_Ve_isVersion_60 : decode prog_8_method_3_code 60 = .ok (.iconst 0, 1) := by decide +kernel
theorem d_Ve_isVersion_61 : decode prog_8_method_3_code 61 = .ok (.istore_n 2, 1) := by decide +kernel
theorem d_Ve_isVersion_62 : decode prog_8_method_3_code 62 = .ok (.iload 5, 2) := by decide +kernel
theorem d_Ve_isVersion_64 : decode prog_8_method_3_code 64 = .ok (.ifCond .ne 19, 3) := by decide +kernel
theorem d_Ve_isVersion_67 : decode prog_8_method_3_code 67 = .ok (.iload 4, 2) := by decide +kernel
theorem d_Ve_isVersion_69 : decode prog_8_method_3_code 69 = .ok (.invokestatic 58, 3) := by decide +kernel
theorem d_Ve_isVersion_72 : decode prog_8_method_3_code 72 = .ok (.ifCond .ne 11, 3) := by decide +kernel
theorem d_Ve_isVersion_75 : decode prog_8_method_3_code 75 = .ok (.iload 4, 2) := by decide +kernel
theorem d_Ve_isVersion_77 : decode prog_8_method_3_code 77 = .ok (.invokestatic 61, 3) := by decide +kernel
theorem d_Ve_isVersion_80 : decode prog_8_method_3_code 80 = .ok (.ifCond .eq 7, 3) := by decide +kernel
theorem d_Ve_isVersion_83 : decode prog_8_method_3_code 83 = .ok (.iconst 1, 1) := by decide +kernel
theorem d_Ve_isVersion_84 : decode prog_8_method_3_code 84 = .ok (.goto 4, 3) := by decide +kernel
theorem d_Ve_isVersion_87 : decode prog_8_method_3_code 87 = .ok (.iconst 0, 1) := by decide +kernel
theorem d_Ve_isVersion_88 : decode prog_8_method_3_code 88 = .ok (.istore 6, 2) := by decide +kernel
theorem d_Ve_isVersion_90 : decode prog_8_method_3_code 90 = .ok (.iload 6, 2) := by decide +kernel
theorem d_Ve_isVersion_92 : decode prog_8_method_3_code 92 = .ok (.ifCond .eq 18, 3) := by decide +kernel
theorem d_Ve_isVersion_95 : decode prog_8_method_3_code 95 = .ok (.iload 5, 2) := by decide +kernel
theorem d_Ve_isVersion_97 : decode prog_8_method_3_code 97 = .ok (.ifCond .eq 7, 3) := by decide +kernel
theorem d_Ve_isVersion_100 : decode prog_8_method_3_code 100 = .ok (.iload_n 1, 1) := by decide +kernel
theorem d_Ve_isVersion_101 : decode prog_8_method_3_code 101 = .ok (.ifCond .ne 9, 3) := by decide +kernel
theorem d_Ve_isVersion_104 : decode prog_8_method_3_code 104 = .ok (.iload_n 2, 1) := by decide +kernel
theorem d_Ve_isVersion_105 : decode prog_8_method_3_code 105 = .ok (.bipush 9, 2) := by decide +kernel
theorem d_Ve_isVersion_107 : decode prog_8_method_3_code 107 = .ok (.if_icmp .le 5, 3) := by decide +kernel
theorem d_Ve_isVersion_110 : decode prog_8_method_3_code 110 = .ok (.iconst 0, 1) := by decide +kernel
theorem d_Ve_isVersion_111 : decode prog_8_method_3_code 111 = .ok (.ireturn, 1) := by decide +kernel
theorem d_Ve_isVersion_112 : decode prog_8_method_3_code 112 = .ok (.iload 5, 2) := by decide +kernel
theorem d_Ve_isVersion_114 : decode prog_8_method_3_code 114 = .ok (.istore_n 1, 1) := by decide +kernel
theorem d_Ve_isVersion_115 : decode prog_8_method_3_code 115 = .ok (.iinc 3 1, 3) := by decide +kernel
theorem d_Ve_isVersion_118 : decode prog_8_method_3_code 118 = .ok (.goto (-94), 3) := by decide +kernel
theorem d_Ve_isVersion_121 : decode prog_8_method_3_code 121 = .ok (.iload_n 1, 1) := by decide +kernel
theorem d_Ve_isVersion_122 : decode prog_8_method_3_code 122 = .ok (.ifCond .ne 7, 3) := by decide +kernel
theorem d_Ve_isVersion_125 : decode prog_8_method_3_code 125 = .ok (.iconst 1, 1) := by decide +kernel
theorem d_Ve_isVersion_126 : decode prog_8_method_3_code 126 = .ok (.goto 4, 3) := by decide +kernel
theorem d_Ve_isVersion_129 : decode prog_8_method_3_code 129 = .ok (.iconst 0, 1) := by decide +kernel
theorem d_Ve_isVersion_130 : decode prog_8_method_3_code 130 = .ok (.ireturn, 1) := by decide +kernel
theorem d_Ve_comparedTo_0 : decode prog_8_method_5_code 0 = .ok (.iconst 0, 1) := by decide +kernel
theorem d_Ve_comparedTo_1 : decode prog_8_method_5_code 1 = .ok (.istore_n 2, 1) := by decide +kernel
theorem d_Ve_comparedTo_2 : decode prog_8_method_5_code 2 = .ok (.iload_n 2, 1) := by decide +kernel
theorem d_Ve_comparedTo_3 : decode prog_8_method_5_code 3 = .ok (.bipush 12, 2) := by decide +kernel
theorem d_Ve_comparedTo_5 : decode prog_8_method_5_code 5 = .ok (.if_icmp .ge 83, 3) := by decide +kernel
theorem d_Ve_comparedTo_8 : decode prog_8_method_5_code 8 = .ok (.aload_n 0, 1) := by decide +kernel
theorem d_Ve_comparedTo_9 : decode prog_8_method_5_code 9 = .ok (.getfield 9, 3) := by decide +kernel
theorem d_Ve_comparedTo_12 : decode prog_8_method_5_code 12 = .ok (.iload_n 2, 1) := by decide +kernel
theorem d_Ve_comparedTo_13 : decode prog_8_method_5_code 13 = .ok (.iaload, 1) := by decide +kernel
theorem d_Ve_comparedTo_14 : decode prog_8_method_5_code 14 = .ok (.aload_n 1, 1) := by decide +kernel
theorem d_Ve_comparedTo_15 : decode prog_8_method_5_code 15 = .ok (.getfield 9, 3) := by decide +kernel
theorem d_Ve_comparedTo_18 : decode prog_8_method_5_code 18 = .ok (.iload_n 2, 1) := by decide +kernel
theorem d_Ve_comparedTo_19 : decode prog_8_method_5_code 19 = .ok (.iaload, 1) := by decide +kernel
theorem d_Ve_comparedTo_20 : decode prog_8_method_5_code 20 = .ok (.if_icmp .eq 24, 3) := by decide +kernel
theorem d_Ve_comparedTo_23 : decode prog_8_method_5_code 23 = .ok (.aload_n 0, 1) := by decide +kernel
theorem d_Ve_comparedTo_24 : decode prog_8_method_5_code 24 = .ok (.getfield 9, 3) := by decide +kernel
theorem d_Ve_comparedTo_27 : decode prog_8_method_5_code 27 = .ok (.iload_n 2, 1) := by decide +kernel
theorem d_Ve_comparedTo_28 : decode prog_8_method_5_code 28 = .ok (.iaload, 1) := by decide +kernel
theorem d_Ve_comparedTo_29 : decode prog_8_method_5_code 29 = .ok (.aload_n 1, 1) := by decide +kernel
theorem d_Ve_comparedTo_30 : decode prog_8_method_5_code 30 = .ok (.getfield 9, 3) := by decide +kernel
theorem d_Ve_comparedTo_33 : decode prog_8_method_5_code 33 = .ok (.iload_n 2, 1) := by decide +kernel
theorem d_Ve_comparedTo_34 : decode prog_8_method_5_code 34 = .ok (.iaload, 1) := by decide +kernel
theorem d_Ve_comparedTo_35 : decode prog_8_method_5_code 35 = .ok (.if_icmp .ge 7, 3) := by decide +kernel
theorem d_Ve_comparedTo_38 : decode prog_8_method_5_code 38 = .ok (.iconst (-1), 1) := by decide +kernel
theorem d_Ve_comparedTo_39 : decode prog_8_method_5_code 39 = .ok (.goto 4, 3) := by decide +kernel
theorem d_Ve_comparedTo_42 : decode prog_8_method_5_code 42 = .ok (.iconst 1, 1) := by decide +kernel
theorem d_Ve_comparedTo_43 : decode prog_8_method_5_code 43 = .ok (.ireturn, 1) := by decide +kernel
theorem d_Ve_comparedTo_44 : decode prog_8_method_5_code 44 = .ok (.aload_n 0, 1) := by decide +kernel
theorem d_Ve_comparedTo_45 : decode prog_8_method_5_code 45 = .ok (.getfield 13, 3) := by decide +kernel
theorem d_Ve_comparedTo_48 : decode prog_8_method_5_code 48 = .ok (.iload_n 2, 1) := by decide +kernel
theorem d_Ve_comparedTo_49 : decode prog_8_method_5_code 49 = .ok (.laload, 1) := by decide +kernel
theorem d_Ve_comparedTo_50 : decode prog_8_method_5_code 50 = .ok (.aload_n 1, 1) := by decide +kernel
theorem d_Ve_comparedTo_51 : decode prog_8_method_5_code 51 = .ok (.getfield 13, 3) := by decide +kernel
theorem d_Ve_comparedTo_54 : decode prog_8_method_5_code 54 = .ok (.iload_n 2, 1) := by decide +kernel
theorem d_Ve_comparedTo_55 : decode prog_8_method_5_code 55 = .ok (.laload, 1) := by decide +kernel
theorem d_Ve_comparedTo_56 : decode prog_8_method_5_code 56 = .ok (.lcmp, 1) := by decide +kernel
theorem d_Ve_comparedTo_57 : decode prog_8_method_5_code 57 = .ok (.ifCond .eq 25, 3) := by decide +kernel
theorem d_Ve_comparedTo_60 : decode prog_8_method_5_code 60 = .ok (.aload_n 0, 1) := by decide +kernel
theorem d_Ve_comparedTo_61 : decode prog_8_method_5_code 61 = .ok (.getfield 13, 3) := by decide +kernel
theorem d_Ve_comparedTo_64 : decode prog_8_method_5_code 64 = .ok (.iload_n 2, 1) := by decide +kernel
theorem d_Ve_comparedTo_65 : decode prog_8_method_5_code 65 = .ok (.laload, 1) := by decide +kernel
theorem d_Ve_comparedTo_66 : decode prog_8_method_5_code 66 = .ok (.aload_n 1, 1) := by decide +kernel
theorem d_Ve_comparedTo_67 : decode prog_8_method_5_code 67 = .ok (.getfield 13, 3) := by decide +kernel
theorem d_Ve_comparedTo_70 : decode prog_8_method_5_code 70 = .ok (.iload_n 2, 1) := by decide +kernel
theorem d_Ve_comparedTo_71 : decode prog_8_method_5_code 71 = .ok (.laload, 1) := by decide +kernel
theorem d_Ve_comparedTo_72 : decode prog_8_method_5_code 72 = .ok (.lcmp, 1) := by decide +kernel
theorem d_Ve_comparedTo_73 : decode prog_8_method_5_code 73 = .ok (.ifCond .ge 7, 3) := by decide +kernel
theorem d_Ve_comparedTo_76 : decode prog_8_method_5_code 76 = .ok (.iconst (-1), 1) := by decide +kernel
theorem d_Ve_comparedTo_77 : decode prog_8_method_5_code 77 = .ok (.goto 4, 3) := by decide +kernel
theorem d_Ve_comparedTo_80 : decode prog_8_method_5_code 80 = .ok (.iconst 1, 1) := by decide +kernel
theorem d_Ve_comparedTo_81 : decode prog_8_method_5_code 81 = .ok (.ireturn, 1) := by decide +kernel
theorem d_Ve_comparedTo_82 : decode prog_8_method_5_code 82 = .ok (.iinc 2 1, 3) := by decide +kernel
theorem d_Ve_comparedTo_85 : decode prog_8_method_5_code 85 = .ok (.goto (-83), 3) := by decide +kernel
theorem d_Ve_comparedTo_88 : decode prog_8_method_5_code 88 = .ok (.iconst 0, 1) := by decide +kernel
theorem d_Ve_comparedTo_89 : decode prog_8_method_5_code 89 = .ok (.ireturn, 1) := by decide +kernel
theorem d_Ve_rankOf_0 : decode prog_8_method_4_code 0 = .ok (.iload_n 1, 1) := by decide +kernel
theorem d_Ve_rankOf_1 : decode prog_8_method_4_code 1 = .ok (.ifCond .lt 18, 3) := by decide +kernel
theorem d_Ve_rankOf_4 : decode prog_8_method_4_code 4 = .ok (.iload_n 1, 1) := by decide +kernel
theorem d_Ve_rankOf_5 : decode prog_8_method_4_code 5 = .ok (.bipush 12, 2) := by decide +kernel
theorem d_Ve_rankOf_7 : decode prog_8_method_4_code 7 = .ok (.if_icmp .ge 12, 3) := by decide +kernel
theorem d_Ve_rankOf_10 : decode prog_8_method_4_code 10 = .ok (.aload_n 0, 1) := by decide +kernel
theorem d_Ve_rankOf_11 : decode prog_8_method_4_code 11 = .ok (.getfield 9, 3) := by decide +kernel
theorem d_Ve_rankOf_14 : decode prog_8_method_4_code 14 = .ok (.iload_n 1, 1) := by decide +kernel
theorem d_Ve_rankOf_15 : decode prog_8_method_4_code 15 = .ok (.iaload, 1) := by decide +kernel
theorem d_Ve_rankOf_16 : decode prog_8_method_4_code 16 = .ok (.goto 5, 3) := by decide +kernel
theorem d_Ve_rankOf_19 : decode prog_8_method_4_code 19 = .ok (.bipush 6, 2) := by decide +kernel
theorem d_Ve_rankOf_21 : decode prog_8_method_4_code 21 = .ok (.ireturn, 1) := by decide +kernel
theorem d_Pl_init_0 : decode prog_4_method_1_code 0 = .ok (.aload_n 0, 1) := by decide +kernel
theorem d_Pl_init_1 : decode prog_4_method_1_code 1 = .ok (.invokespecial 3, 3) := by decide +kernel
theorem d_Pl_init_4 : decode prog_4_method_1_code 4 = .ok (.aload_n 0, 1) := by decide +kernel
theorem d_Pl_init_5 : decode prog_4_method_1_code 5 = .ok (.new 9, 3) := by decide +kernel
theorem d_Pl_init_8 : decode prog_4_method_1_code 8 = .ok (.dup, 1) := by decide +kernel
theorem d_Pl_init_9 : decode prog_4_method_1_code 9 = .ok (.invokespecial 11, 3) := by decide +kernel
theorem d_Pl_init_12 : decode prog_4_method_1_code 12 = .ok (.putfield 12, 3) := by decide +kernel
theorem d_Pl_init_15 : decode prog_4_method_1_code 15 = .ok (.aload_n 0, 1) := by decide +kernel
theorem d_Pl_init_16 : decode prog_4_method_1_code 16 = .ok (.iconst 4, 1) := by decide +kernel
theorem d_Pl_init_17 : decode prog_4_method_1_code 17 = .ok (.newarray .int, 2) := by decide +kernel
theorem d_Pl_init_19 : decode prog_4_method_1_code 19 = .ok (.dup, 1) := by decide +kernel
theorem d_Pl_init_20 : decode prog_4_method_1_code 20 = .ok (.iconst 0, 1) := by decide +kernel
theorem d_Pl_init_21 : decode prog_4_method_1_code 21 = .ok (.iconst 0, 1) := by decide +kernel
theorem d_Pl_init_22 : decode prog_4_method_1_code 22 = .ok (.iastore, 1) := by decide +kernel
theorem d_Pl_init_23 : decode prog_4_method_1_code 23 = .ok (.dup, 1) := by decide +kernel
theorem d_Pl_init_24 : decode prog_4_method_1_code 24 = .ok (.iconst 1, 1) := by decide +kernel
theorem d_Pl_init_25 : decode prog_4_method_1_code 25 = .ok (.iconst 1, 1) := by decide +kernel
theorem d_Pl_init_26 : decode prog_4_method_1_code 26 = .ok (.iastore, 1) := by decide +kernel
theorem d_Pl_init_27 : decode prog_4_method_1_code 27 = .ok (.dup, 1) := by decide +kernel
theorem d_Pl_init_28 : decode prog_4_method_1_code 28 = .ok (.iconst 2, 1) := by decide +kernel
theorem d_Pl_init_29 : decode prog_4_method_1_code 29 = .ok (.iconst 2, 1) := by decide +kernel
theorem d_Pl_init_30 : decode prog_4_method_1_code 30 = .ok (.iastore, 1) := by decide +kernel
theorem d_Pl_init_31 : decode prog_4_method_1_code 31 = .ok (.dup, 1) := by decide +kernel
theorem d_Pl_init_32 : decode prog_4_method_1_code 32 = .ok (.iconst 3, 1) := by decide +kernel
theorem d_Pl_init_33 : decode prog_4_method_1_code 33 = .ok (.iconst 3, 1) := by decide +kernel
theorem d_Pl_init_34 : decode prog_4_method_1_code 34 = .ok (.iastore, 1) := by decide +kernel
theorem d_Pl_init_35 : decode prog_4_method_1_code 35 = .ok (.putfield 18, 3) := by decide +kernel
theorem d_Pl_init_38 : decode prog_4_method_1_code 38 = .ok (.return_, 1) := by decide +kernel
theorem d_Pl_hasVersion_0 : decode prog_4_method_4_code 0 = .ok (.iconst 0, 1) := by decide +kernel
theorem d_Pl_hasVersion_1 : decode prog_4_method_4_code 1 = .ok (.istore_n 2, 1) := by decide +kernel
theorem d_Pl_hasVersion_2 : decode prog_4_method_4_code 2 = .ok (.iload_n 2, 1) := by decide +kernel
theorem d_Pl_hasVersion_3 : decode prog_4_method_4_code 3 = .ok (.aload_n 0, 1) := by decide +kernel
theorem d_Pl_hasVersion_4 : decode prog_4_method_4_code 4 = .ok (.getfield 12, 3) := by decide +kernel
theorem d_Pl_hasVersion_7 : decode prog_4_method_4_code 7 = .ok (.invokevirtual 22, 3) := by decide +kernel
theorem d_Pl_hasVersion_10 : decode prog_4_method_4_code 10 = .ok (.if_icmp .ge 32, 3) := by decide +kernel
theorem d_Pl_hasVersion_13 : decode prog_4_method_4_code 13 = .ok (.aload_n 0, 1) := by decide +kernel
theorem d_Pl_hasVersion_14 : decode prog_4_method_4_code 14 = .ok (.getfield 12, 3) := by decide +kernel
theorem d_Pl_hasVersion_17 : decode prog_4_method_4_code 17 = .ok (.iload_n 2, 1) := by decide +kernel
theorem d_Pl_hasVersion_18 : decode prog_4_method_4_code 18 = .ok (.invokevirtual 26, 3) := by decide +kernel
theorem d_Pl_hasVersion_21 : decode prog_4_method_4_code 21 = .ok (.checkcast 30, 3) := by decide +kernel
theorem d_Pl_hasVersion_24 : decode prog_4_method_4_code 24 = .ok (.getfield 32, 3) := by decide +kernel
theorem d_Pl_hasVersion_27 : decode prog_4_method_4_code 27 = .ok (.aload_n 1, 1) := by decide +kernel
theorem d_Pl_hasVersion_28 : decode prog_4_method_4_code 28 = .ok (.invokevirtual 36, 3) := by decide +kernel
theorem d_Pl_hasVersion_31 : decode prog_4_method_4_code 31 = .ok (.ifCond .ne 5, 3) := by decide +kernel
theorem d_Pl_hasVersion_34 : decode prog_4_method_4_code 34 = .ok (.iconst 1, 1) := by decide +kernel
theorem d_Pl_hasVersion_35 : decode prog_4_method_4_code 35 = .ok (.ireturn, 1) := by decide +kernel
theorem d_Pl_hasVersion_36 : decode prog_4_method_4_code 36 = .ok (.iinc 2 1, 3) := by decide +kernel
theorem d_Pl_hasVersion_39 : decode prog_4_method_4_code 39 = .ok (.goto (-37), 3) := by decide +kernel
theorem d_Pl_hasVersion_42 : decode prog_4_method_4_code 42 = .ok (.iconst 0, 1) := by decide +kernel
theorem d_Pl_hasVersion_43 : decode prog_4_method_4_code 43 = .ok (.ireturn, 1) := by decide +kernel
theorem d_Pl_add_0 : decode prog_4_method_5_code 0 = .ok (.aload_n 0, 1) := by decide +kernel
theorem d_Pl_add_1 : decode prog_4_method_5_code 1 = .ok (.getfield 12, 3) := by decide +kernel
theorem d_Pl_add_4 : decode prog_4_method_5_code 4 = .ok (.invokevirtual 22, 3) := by decide +kernel
theorem d_Pl_add_7 : decode prog_4_method_5_code 7 = .ok (.istore_n 2, 1) := by decide +kernel
theorem d_Pl_add_8 : decode prog_4_method_5_code 8 = .ok (.iload_n 2, 1) := by decide +kernel
theorem d_Pl_add_9 : decode prog_4_method_5_code 9 = .ok (.iconst 4, 1) := by decide +kernel
theorem d_Pl_add_10 : decode prog_4_method_5_code 10 = .ok (.if_icmp .lt 6, 3) := by decide +kernel
theorem d_Pl_add_13 : decode prog_4_method_5_code 13 = .ok (.bipush (-2), 2) := by decide +kernel
theorem d_Pl_add_15 : decode prog_4_method_5_code 15 = .ok (.ireturn, 1) := by decide +kernel
theorem d_Pl_add_16 : decode prog_4_method_5_code 16 = .ok (.iconst 0, 1) := by decide +kernel
theorem d_Pl_add_17 : decode prog_4_method_5_code 17 = .ok (.istore_n 3, 1) := by decide +kernel
theorem d_Pl_add_18 : decode prog_4_method_5_code 18 = .ok (.iconst 0, 1) := by decide +kernel
theorem d_Pl_add_19 : decode prog_4_method_5_code 19 = .ok (.istore 4, 2) := by decide +kernel
theorem d_Pl_add_21 : decode prog_4_method_5_code 21 = .ok (.iload 4, 2) := by decide +kernel
theorem d_Pl_add_23 : decode prog_4_method_5_code 23 = .ok (.iload_n 2, 1) := by decide +kernel
theorem d_Pl_add_24 : decode prog_4_method_5_code 24 = .ok (.if_icmp .ge 37, 3) := by decide +kernel
theorem d_Pl_add_27 : decode prog_4_method_5_code 27 = .ok (.aload_n 0, 1) := by decide +kernel
theorem d_Pl_add_28 : decode prog_4_method_5_code 28 = .ok (.getfield 12, 3) := by decide +kernel
theorem d_Pl_add_31 : decode prog_4_method_5_code 31 = .ok (.iload 4, 2) := by decide +kernel
theorem d_Pl_add_33 : decode prog_4_method_5_code 33 = .ok (.invokevirtual 26, 3) := by decide +kernel
theorem d_Pl_add_36 : decode prog_4_method_5_code 36 = .ok (.checkcast 30, 3) := by decide +kernel
theorem d_Pl_add_39 : decode prog_4_method_5_code 39 = .ok (.getfield 32, 3) := by decide +kernel
theorem d_Pl_add_42 : decode prog_4_method_5_code 42 = .ok (.aload_n 1, 1) := by decide +kernel
theorem d_Pl_add_43 : decode prog_4_method_5_code 43 = .ok (.getfield 32, 3) := by decide +kernel
theorem d_Pl_add_46 : decode prog_4_method_5_code 46 = .ok (.invokevirtual 36, 3) := by decide +kernel
theorem d_Pl_add_49 : decode prog_4_method_5_code 49 = .ok (.ifCond .le 6, 3) := by decide +kernel
theorem d_Pl_add_52 : decode prog_4_method_5_code 52 = .ok (.iinc 3 1, 3) := by decide +kernel
theorem d_Pl_add_55 : decode prog_4_method_5_code 55 = .ok (.iinc 4 1, 3) := by decide +kernel
theorem d_Pl_add_58 : decode prog_4_method_5_code 58 = .ok (.goto (-37), 3) := by decide +kernel
theorem d_Pl_add_61 : decode prog_4_method_5_code 61 = .ok (.iload_n 2, 1) := by decide +kernel
theorem d_Pl_add_62 : decode prog_4_method_5_code 62 = .ok (.istore 4, 2) := by decide +kernel
theorem d_Pl_add_64 : decode prog_4_method_5_code 64 = .ok (.iload 4, 2) := by decide +kernel
theorem d_Pl_add_66 : decode prog_4_method_5_code 66 = .ok (.iload_n 3, 1) := by decide +kernel
theorem d_Pl_add_67 : decode prog_4_method_5_code 67 = .ok (.if_icmp .le 25, 3) := by decide +kernel
theorem d_Pl_add_70 : decode prog_4_method_5_code 70 = .ok (.aload_n 0, 1) := by decide +kernel
theorem d_Pl_add_71 : decode prog_4_method_5_code 71 = .ok (.getfield 18, 3) := by decide +kernel
theorem d_Pl_add_74 : decode prog_4_method_5_code 74 = .ok (.iload 4, 2) := by decide +kernel
theorem d_Pl_add_76 : decode prog_4_method_5_code 76 = .ok (.aload_n 0, 1) := by decide +kernel
theorem d_Pl_add_77 : decode prog_4_method_5_code 77 = .ok (.getfield 18, 3) := by decide +kernel
theorem d_Pl_add_80 : decode prog_4_method_5_code 80 = .ok (.iload 4, 2) := by decide +kernel
theorem d_Pl_add_82 : decode prog_4_method_5_code 82 = .ok (.iconst 1, 1) := by decide +kernel
theorem d_Pl_add_83 : decode prog_4_method_5_code 83 = .ok (.isub, 1) := by decide +kernel
theorem d_Pl_add_84 : decode prog_4_method_5_code 84 = .ok (.iaload, 1) := by decide +kernel
theorem d_Pl_add_85 : decode prog_4_method_5_code 85 = .ok (.iastore, 1) := by decide +kernel
theorem d_Pl_add_86 : decode prog_4_method_5_code 86 = .ok (.iinc 4 (-1), 3) := by decide +kernel
theorem d_Pl_add_89 : decode prog_4_method_5_code 89 = .ok (.goto (-25), 3) := by decide +kernel
theorem d_Pl_add_92 : decode prog_4_method_5_code 92 = .ok (.aload_n 0, 1) := by decide +kernel
theorem d_Pl_add_93 : decode prog_4_method_5_code 93 = .ok (.getfield 18, 3) := by decide +kernel
theorem d_Pl_add_96 : decode prog_4_method_5_code 96 = .ok (.iload_n 3, 1) := by decide +kernel
theorem d_Pl_add_97 : decode prog_4_method_5_code 97 = .ok (.iload_n 2, 1) := by decide +kernel
theorem d_Pl_add_98 : decode prog_4_method_5_code 98 = .ok (.iastore, 1) := by decide +kernel
theorem d_Pl_add_99 : decode prog_4_method_5_code 99 = .ok (.aload_n 0, 1) := by decide +kernel
theorem d_Pl_add_100 : decode prog_4_method_5_code 100 = .ok (.getfield 12, 3) := by decide +kernel
theorem d_Pl_add_103 : decode prog_4_method_5_code 103 = .ok (.aload_n 1, 1) := by decide +kernel
theorem d_Pl_add_104 : decode prog_4_method_5_code 104 = .ok (.invokevirtual 42, 3) := by decide +kernel
theorem d_Pl_add_107 : decode prog_4_method_5_code 107 = .ok (.pop, 1) := by decide +kernel
theorem d_Pl_add_108 : decode prog_4_method_5_code 108 = .ok (.iload_n 2, 1) := by decide +kernel
theorem d_Pl_add_109 : decode prog_4_method_5_code 109 = .ok (.ireturn, 1) := by decide +kernel
theorem d_Pl_at_0 : decode prog_4_method_3_code 0 = .ok (.iload_n 1, 1) := by decide +kernel
theorem d_Pl_at_1 : decode prog_4_method_3_code 1 = .ok (.ifCond .lt 28, 3) := by decide +kernel
theorem d_Pl_at_4 : decode prog_4_method_3_code 4 = .ok (.iload_n 1, 1) := by decide +kernel
theorem d_Pl_at_5 : decode prog_4_method_3_code 5 = .ok (.aload_n 0, 1) := by decide +kernel
theorem d_Pl_at_6 : decode prog_4_method_3_code 6 = .ok (.getfield 12, 3) := by decide +kernel
theorem d_Pl_at_9 : decode prog_4_method_3_code 9 = .ok (.invokevirtual 22, 3) := by decide +kernel
theorem d_Pl_at_12 : decode prog_4_method_3_code 12 = .ok (.if_icmp .ge 17, 3) := by decide +kernel
theorem d_Pl_at_15 : decode prog_4_method_3_code 15 = .ok (.aload_n 0, 1) := by decide +kernel
theorem d_Pl_at_16 : decode prog_4_method_3_code 16 = .ok (.getfield 12, 3) := by decide +kernel
theorem d_Pl_at_19 : decode prog_4_method_3_code 19 = .ok (.iload_n 1, 1) := by decide +kernel
theorem d_Pl_at_20 : decode prog_4_method_3_code 20 = .ok (.invokevirtual 26, 3) := by decide +kernel
theorem d_Pl_at_23 : decode prog_4_method_3_code 23 = .ok (.checkcast 30, 3) := by decide +kernel
theorem d_Pl_at_26 : decode prog_4_method_3_code 26 = .ok (.goto 4, 3) := by decide +kernel
theorem d_Pl_at_29 : decode prog_4_method_3_code 29 = .ok (.aconst_null, 1) := by decide +kernel
theorem d_Pl_at_30 : decode prog_4_method_3_code 30 = .ok (.areturn, 1) := by decide +kernel
theorem d_Pl_size_0 : decode prog_4_method_2_code 0 = .ok (.aload_n 0, 1) := by decide +kernel
theorem d_Pl_size_1 : decode prog_4_method_2_code 1 = .ok (.getfield 12, 3) := by decide +kernel
theorem d_Pl_size_4 : decode prog_4_method_2_code 4 = .ok (.invokevirtual 22, 3) := by decide +kernel
theorem d_Pl_size_7 : decode prog_4_method_2_code 7 = .ok (.ireturn, 1) := by decide +kernel
theorem d_Pl_releasesIn_0 : decode prog_4_method_6_code 0 = .ok (.iconst 0, 1) := by decide +kernel
theorem d_Pl_releasesIn_1 : decode prog_4_method_6_code 1 = .ok (.istore_n 2, 1) := by decide +kernel
theorem d_Pl_releasesIn_2 : decode prog_4_method_6_code 2 = .ok (.iconst 0, 1) := by decide +kernel
theorem d_Pl_releasesIn_3 : decode prog_4_method_6_code 3 = .ok (.istore_n 3, 1) := by decide +kernel
theorem d_Pl_releasesIn_4 : decode prog_4_method_6_code 4 = .ok (.iload_n 3, 1) := by decide +kernel
theorem d_Pl_releasesIn_5 : decode prog_4_method_6_code 5 = .ok (.aload_n 0, 1) := by decide +kernel
theorem d_Pl_releasesIn_6 : decode prog_4_method_6_code 6 = .ok (.getfield 12, 3) := by decide +kernel
theorem d_Pl_releasesIn_9 : decode prog_4_method_6_code 9 = .ok (.invokevirtual 22, 3) := by decide +kernel
theorem d_Pl_releasesIn_12 : decode prog_4_method_6_code 12 = .ok (.if_icmp .ge 36, 3) := by decide +kernel
theorem d_Pl_releasesIn_15 : decode prog_4_method_6_code 15 = .ok (.aload_n 1, 1) := by decide +kernel
theorem d_Pl_releasesIn_16 : decode prog_4_method_6_code 16 = .ok (.aload_n 0, 1) := by decide +kernel
theorem d_Pl_releasesIn_17 : decode prog_4_method_6_code 17 = .ok (.getfield 12, 3) := by decide +kernel
theorem d_Pl_releasesIn_20 : decode prog_4_method_6_code 20 = .ok (.iload_n 3, 1) := by decide +kernel
theorem d_Pl_releasesIn_21 : decode prog_4_method_6_code 21 = .ok (.invokevirtual 26, 3) := by decide +kernel
theorem d_Pl_releasesIn_24 : decode prog_4_method_6_code 24 = .ok (.checkcast 30, 3) := by decide +kernel
theorem d_Pl_releasesIn_27 : decode prog_4_method_6_code 27 = .ok (.getfield 32, 3) := by decide +kernel
theorem d_Pl_releasesIn_30 : decode prog_4_method_6_code 30 = .ok (.invokevirtual 46, 3) := by decide +kernel
theorem d_Pl_releasesIn_33 : decode prog_4_method_6_code 33 = .ok (.ifCond .eq 9, 3) := by decide +kernel
theorem d_Pl_releasesIn_36 : decode prog_4_method_6_code 36 = .ok (.iload_n 2, 1) := by decide +kernel
theorem d_Pl_releasesIn_37 : decode prog_4_method_6_code 37 = .ok (.iconst 1, 1) := by decide +kernel
theorem d_Pl_releasesIn_38 : decode prog_4_method_6_code 38 = .ok (.iload_n 3, 1) := by decide +kernel
theorem d_Pl_releasesIn_39 : decode prog_4_method_6_code 39 = .ok (.ishl, 1) := by decide +kernel
theorem d_Pl_releasesIn_40 : decode prog_4_method_6_code 40 = .ok (.ior, 1) := by decide +kernel
theorem d_Pl_releasesIn_41 : decode prog_4_method_6_code 41 = .ok (.istore_n 2, 1) := by decide +kernel
theorem d_Pl_releasesIn_42 : decode prog_4_method_6_code 42 = .ok (.iinc 3 1, 3) := by decide +kernel
theorem d_Pl_releasesIn_45 : decode prog_4_method_6_code 45 = .ok (.goto (-41), 3) := by decide +kernel
theorem d_Pl_releasesIn_48 : decode prog_4_method_6_code 48 = .ok (.iload_n 2, 1) := by decide +kernel
theorem d_Pl_releasesIn_49 : decode prog_4_method_6_code 49 = .ok (.ireturn, 1) := by decide +kernel
theorem d_Pl_withdrawnReleases_0 : decode prog_4_method_7_code 0 = .ok (.iconst 0, 1) := by decide +kernel
theorem d_Pl_withdrawnReleases_1 : decode prog_4_method_7_code 1 = .ok (.istore_n 1, 1) := by decide +kernel
theorem d_Pl_withdrawnReleases_2 : decode prog_4_method_7_code 2 = .ok (.iconst 0, 1) := by decide +kernel
theorem d_Pl_withdrawnReleases_3 : decode prog_4_method_7_code 3 = .ok (.istore_n 2, 1) := by decide +kernel
theorem d_Pl_withdrawnReleases_4 : decode prog_4_method_7_code 4 = .ok (.iload_n 2, 1) := by decide +kernel
theorem d_Pl_withdrawnReleases_5 : decode prog_4_method_7_code 5 = .ok (.aload_n 0, 1) := by decide +kernel
theorem d_Pl_withdrawnReleases_6 : decode prog_4_method_7_code 6 = .ok (.getfield 12, 3) := by decide +kernel
theorem d_Pl_withdrawnReleases_9 : decode prog_4_method_7_code 9 = .ok (.invokevirtual 22, 3) := by decide +kernel
theorem d_Pl_withdrawnReleases_12 : decode prog_4_method_7_code 12 = .ok (.if_icmp .ge 29, 3) := by decide +kernel
theorem d_Pl_withdrawnReleases_15 : decode prog_4_method_7_code 15 = .ok (.aload_n 0, 1) := by decide +kernel
theorem d_Pl_withdrawnReleases_16 : decode prog_4_method_7_code 16 = .ok (.getfield 12, 3) := by decide +kernel
theorem d_Pl_withdrawnReleases_19 : decode prog_4_method_7_code 19 = .ok (.iload_n 2, 1) := by decide +kernel
theorem d_Pl_withdrawnReleases_20 : decode prog_4_method_7_code 20 = .ok (.invokevirtual 26, 3) := by decide +kernel
theorem d_Pl_withdrawnReleases_23 : decode prog_4_method_7_code 23 = .ok (.checkcast 30, 3) := by decide +kernel
theorem d_Pl_withdrawnReleases_26 : decode prog_4_method_7_code 26 = .ok (.getfield 52, 3) := by decide +kernel
theorem d_Pl_withdrawnReleases_29 : decode prog_4_method_7_code 29 = .ok (.ifCond .eq 6, 3) := by decide +kernel
theorem d_Pl_withdrawnReleases_32 : decode prog_4_method_7_code 32 = .ok (.iinc 1 1, 3) := by decide +kernel
theorem d_Pl_withdrawnReleases_35 : decode prog_4_method_7_code 35 = .ok (.iinc 2 1, 3) := by decide +kernel
theorem d_Pl_withdrawnReleases_38 : decode prog_4_method_7_code 38 = .ok (.goto (-34), 3) := by decide +kernel
theorem d_Pl_withdrawnReleases_41 : decode prog_4_method_7_code 41 = .ok (.iload_n 1, 1) := by decide +kernel
theorem d_Pl_withdrawnReleases_42 : decode prog_4_method_7_code 42 = .ok (.ireturn, 1) := by decide +kernel
theorem d_Pl_needsOfReleases_0 : decode prog_4_method_8_code 0 = .ok (.iconst 0, 1) := by decide +kernel
theorem d_Pl_needsOfReleases_1 : decode prog_4_method_8_code 1 = .ok (.istore_n 1, 1) := by decide +kernel
theorem d_Pl_needsOfReleases_2 : decode prog_4_method_8_code 2 = .ok (.iconst 0, 1) := by decide +kernel
theorem d_Pl_needsOfReleases_3 : decode prog_4_method_8_code 3 = .ok (.istore_n 2, 1) := by decide +kernel
theorem d_Pl_needsOfReleases_4 : decode prog_4_method_8_code 4 = .ok (.iload_n 2, 1) := by decide +kernel
theorem d_Pl_needsOfReleases_5 : decode prog_4_method_8_code 5 = .ok (.aload_n 0, 1) := by decide +kernel
theorem d_Pl_needsOfReleases_6 : decode prog_4_method_8_code 6 = .ok (.getfield 12, 3) := by decide +kernel
theorem d_Pl_needsOfReleases_9 : decode prog_4_method_8_code 9 = .ok (.invokevirtual 22, 3) := by decide +kernel
theorem d_Pl_needsOfReleases_12 : decode prog_4_method_8_code 12 = .ok (.if_icmp .ge 29, 3) := by decide +kernel
theorem d_Pl_needsOfReleases_15 : decode prog_4_method_8_code 15 = .ok (.iload_n 1, 1) := by decide +kernel
theorem d_Pl_needsOfReleases_16 : decode prog_4_method_8_code 16 = .ok (.aload_n 0, 1) := by decide +kernel
theorem d_Pl_needsOfReleases_17 : decode prog_4_method_8_code 17 = .ok (.getfield 12, 3) := by decide +kernel
theorem d_Pl_needsOfReleases_20 : decode prog_4_method_8_code 20 = .ok (.iload_n 2, 1) := by decide +kernel
theorem d_Pl_needsOfReleases_21 : decode prog_4_method_8_code 21 = .ok (.invokevirtual 26, 3) := by decide +kernel
theorem d_Pl_needsOfReleases_24 : decode prog_4_method_8_code 24 = .ok (.checkcast 30, 3) := by decide +kernel
theorem d_Pl_needsOfReleases_27 : decode prog_4_method_8_code 27 = .ok (.getfield 56, 3) := by decide +kernel
theorem d_Pl_needsOfReleases_30 : decode prog_4_method_8_code 30 = .ok (.invokevirtual 22, 3) := by decide +kernel
theorem d_Pl_needsOfReleases_33 : decode prog_4_method_8_code 33 = .ok (.iadd, 1) := by decide +kernel
theorem d_Pl_needsOfReleases_34 : decode prog_4_method_8_code 34 = .ok (.istore_n 1, 1) := by decide +kernel
theorem d_Pl_needsOfReleases_35 : decode prog_4_method_8_code 35 = .ok (.iinc 2 1, 3) := by decide +kernel
theorem d_Pl_needsOfReleases_38 : decode prog_4_method_8_code 38 = .ok (.goto (-34), 3) := by decide +kernel
theorem d_Pl_needsOfReleases_41 : decode prog_4_method_8_code 41 = .ok (.iload_n 1, 1) := by decide +kernel
theorem d_Pl_needsOfReleases_42 : decode prog_4_method_8_code 42 = .ok (.ireturn, 1) := by decide +kernel
theorem d_Rl_init_0 : decode prog_6_method_1_code 0 = .ok (.aload_n 0, 1) := by decide +kernel
theorem d_Rl_init_1 : decode prog_6_method_1_code 1 = .ok (.invokespecial 1, 3) := by decide +kernel
theorem d_Rl_init_4 : decode prog_6_method_1_code 4 = .ok (.aload_n 0, 1) := by decide +kernel
theorem d_Rl_init_5 : decode prog_6_method_1_code 5 = .ok (.new 7, 3) := by decide +kernel
theorem d_Rl_init_8 : decode prog_6_method_1_code 8 = .ok (.dup, 1) := by decide +kernel
theorem d_Rl_init_9 : decode prog_6_method_1_code 9 = .ok (.invokespecial 9, 3) := by decide +kernel
theorem d_Rl_init_12 : decode prog_6_method_1_code 12 = .ok (.putfield 10, 3) := by decide +kernel
theorem d_Rl_init_15 : decode prog_6_method_1_code 15 = .ok (.aload_n 0, 1) := by decide +kernel
theorem d_Rl_init_16 : decode prog_6_method_1_code 16 = .ok (.aconst_null, 1) := by decide +kernel
theorem d_Rl_init_17 : decode prog_6_method_1_code 17 = .ok (.putfield 16, 3) := by decide +kernel
theorem d_Rl_init_20 : decode prog_6_method_1_code 20 = .ok (.aload_n 0, 1) := by decide +kernel
theorem d_Rl_init_21 : decode prog_6_method_1_code 21 = .ok (.iconst 0, 1) := by decide +kernel
theorem d_Rl_init_22 : decode prog_6_method_1_code 22 = .ok (.putfield 20, 3) := by decide +kernel
theorem d_Rl_init_25 : decode prog_6_method_1_code 25 = .ok (.aload_n 0, 1) := by decide +kernel
theorem d_Rl_init_26 : decode prog_6_method_1_code 26 = .ok (.aload_n 1, 1) := by decide +kernel
theorem d_Rl_init_27 : decode prog_6_method_1_code 27 = .ok (.putfield 24, 3) := by decide +kernel
theorem d_Rl_init_30 : decode prog_6_method_1_code 30 = .ok (.return_, 1) := by decide +kernel
theorem d_Rl_isUsableOn_0 : decode prog_6_method_2_code 0 = .ok (.aload_n 0, 1) := by decide +kernel
theorem d_Rl_isUsableOn_1 : decode prog_6_method_2_code 1 = .ok (.getfield 20, 3) := by decide +kernel
theorem d_Rl_isUsableOn_4 : decode prog_6_method_2_code 4 = .ok (.ifCond .ne 25, 3) := by decide +kernel
theorem d_Rl_isUsableOn_7 : decode prog_6_method_2_code 7 = .ok (.aload_n 0, 1) := by decide +kernel
theorem d_Rl_isUsableOn_8 : decode prog_6_method_2_code 8 = .ok (.getfield 16, 3) := by decide +kernel
theorem d_Rl_isUsableOn_11 : decode prog_6_method_2_code 11 = .ok (.ifnull 14, 3) := by decide +kernel
theorem d_Rl_isUsableOn_14 : decode prog_6_method_2_code 14 = .ok (.aload_n 0, 1) := by decide +kernel
theorem d_Rl_isUsableOn_15 : decode prog_6_method_2_code 15 = .ok (.getfield 16, 3) := by decide +kernel
theorem d_Rl_isUsableOn_18 : decode prog_6_method_2_code 18 = .ok (.aload_n 1, 1) := by decide +kernel
theorem d_Rl_isUsableOn_19 : decode prog_6_method_2_code 19 = .ok (.invokevirtual 28, 3) := by decide +kernel
theorem d_Rl_isUsableOn_22 : decode prog_6_method_2_code 22 = .ok (.ifCond .eq 7, 3) := by decide +kernel
theorem d_Rl_isUsableOn_25 : decode prog_6_method_2_code 25 = .ok (.iconst 1, 1) := by decide +kernel
theorem d_Rl_isUsableOn_26 : decode prog_6_method_2_code 26 = .ok (.goto 4, 3) := by decide +kernel
theorem d_Rl_isUsableOn_29 : decode prog_6_method_2_code 29 = .ok (.iconst 0, 1) := by decide +kernel
theorem d_Rl_isUsableOn_30 : decode prog_6_method_2_code 30 = .ok (.ireturn, 1) := by decide +kernel
theorem d_Rg_read_0 : decode prog_5_method_2_code 0 = .ok (.aload_n 0, 1) := by decide +kernel
theorem d_Rg_read_1 : decode prog_5_method_2_code 1 = .ok (.invokestatic 23, 3) := by decide +kernel
theorem d_Rg_read_4 : decode prog_5_method_2_code 4 = .ok (.ifCond .eq 22, 3) := by decide +kernel
theorem d_Rg_read_7 : decode prog_5_method_2_code 7 = .ok (.new 8, 3) := by decide +kernel
theorem d_Rg_read_10 : decode prog_5_method_2_code 10 = .ok (.dup, 1) := by decide +kernel
theorem d_Rg_read_11 : decode prog_5_method_2_code 11 = .ok (.new 24, 3) := by decide +kernel
theorem d_Rg_read_14 : decode prog_5_method_2_code 14 = .ok (.dup, 1) := by decide +kernel
theorem d_Rg_read_15 : decode prog_5_method_2_code 15 = .ok (.aload_n 0, 1) := by decide +kernel
theorem d_Rg_read_16 : decode prog_5_method_2_code 16 = .ok (.invokespecial 29, 3) := by decide +kernel
theorem d_Rg_read_19 : decode prog_5_method_2_code 19 = .ok (.iconst 1, 1) := by decide +kernel
theorem d_Rg_read_20 : decode prog_5_method_2_code 20 = .ok (.aconst_null, 1) := by decide +kernel
theorem d_Rg_read_21 : decode prog_5_method_2_code 21 = .ok (.iconst 1, 1) := by decide +kernel
theorem d_Rg_read_22 : decode prog_5_method_2_code 22 = .ok (.invokespecial 32, 3) := by decide +kernel
theorem d_Rg_read_25 : decode prog_5_method_2_code 25 = .ok (.areturn, 1) := by decide +kernel
theorem d_Rg_read_26 : decode prog_5_method_2_code 26 = .ok (.aload_n 0, 1) := by decide +kernel
theorem d_Rg_read_27 : decode prog_5_method_2_code 27 = .ok (.invokevirtual 35, 3) := by decide +kernel
theorem d_Rg_read_30 : decode prog_5_method_2_code 30 = .ok (.iconst 1, 1) := by decide +kernel
theorem d_Rg_read_31 : decode prog_5_method_2_code 31 = .ok (.isub, 1) := by decide +kernel
theorem d_Rg_read_32 : decode prog_5_method_2_code 32 = .ok (.istore_n 1, 1) := by decide +kernel
theorem d_Rg_read_33 : decode prog_5_method_2_code 33 = .ok (.iload_n 1, 1) := by decide +kernel
theorem d_Rg_read_34 : decode prog_5_method_2_code 34 = .ok (.iconst 1, 1) := by decide +kernel
theorem d_Rg_read_35 : decode prog_5_method_2_code 35 = .ok (.if_icmp .ge 5, 3) := by decide +kernel
theorem d_Rg_read_38 : decode prog_5_method_2_code 38 = .ok (.aconst_null, 1) := by decide +kernel
theorem d_Rg_read_39 : decode prog_5_method_2_code 39 = .ok (.areturn, 1) := by decide +kernel
theorem d_Rg_read_40 : decode prog_5_method_2_code 40 = .ok (.aload_n 0, 1) := by decide +kernel
theorem d_Rg_read_41 : decode prog_5_method_2_code 41 = .ok (.iconst 0, 1) := by decide +kernel
theorem d_Rg_read_42 : decode prog_5_method_2_code 42 = .ok (.invokevirtual 41, 3) := by decide +kernel
theorem d_Rg_read_45 : decode prog_5_method_2_code 45 = .ok (.bipush 91, 2) := by decide +kernel
theorem d_Rg_read_47 : decode prog_5_method_2_code 47 = .ok (.if_icmp .ne 7, 3) := by decide +kernel
theorem d_Rg_read_50 : decode prog_5_method_2_code 50 = .ok (.iconst 1, 1) := by decide +kernel
theorem d_Rg_read_51 : decode prog_5_method_2_code 51 = .ok (.goto 4, 3) := by decide +kernel
theorem d_Rg_read_54 : decode prog_5_method_2_code 54 = .ok (.iconst 0, 1) := by decide +kernel
theorem d_Rg_read_55 : decode prog_5_method_2_code 55 = .ok (.istore_n 2, 1) := by decide +kernel
theorem d_Rg_read_56 : decode prog_5_method_2_code 56 = .ok (.aload_n 0, 1) := by decide +kernel
theorem d_Rg_read_57 : decode prog_5_method_2_code 57 = .ok (.iload_n 1, 1) := by decide +kernel
theorem d_Rg_read_58 : decode prog_5_method_2_code 58 = .ok (.invokevirtual 41, 3) := by decide +kernel
theorem d_Rg_read_61 : decode prog_5_method_2_code 61 = .ok (.bipush 93, 2) := by decide +kernel
theorem d_Rg_read_63 : decode prog_5_method_2_code 63 = .ok (.if_icmp .ne 7, 3) := by decide +kernel
theorem d_Rg_read_66 : decode prog_5_method_2_code 66 = .ok (.iconst 1, 1) := by decide +kernel
theorem d_Rg_read_67 : decode prog_5_method_2_code 67 = .ok (.goto 4, 3) := by decide +kernel
theorem d_Rg_read_70 : decode prog_5_method_2_code 70 = .ok (.iconst 0, 1) := by decide +kernel
theorem d_Rg_read_71 : decode prog_5_method_2_code 71 = .ok (.istore_n 3, 1) := by decide +kernel
theorem d_Rg_read_72 : decode prog_5_method_2_code 72 = .ok (.iload_n 2, 1) := by decide +kernel
theorem d_Rg_read_73 : decode prog_5_method_2_code 73 = .ok (.ifCond .ne 13, 3) := by decide +kernel
theorem d_Rg_read_76 : decode prog_5_method_2_code 76 = .ok (.aload_n 0, 1) := by decide +kernel
theorem d_Rg_read_77 : decode prog_5_method_2_code 77 = .ok (.iconst 0, 1) := by decide +kernel
theorem d_Rg_read_78 : decode prog_5_method_2_code 78 = .ok (.invokevirtual 41, 3) := by decide +kernel
theorem d_Rg_read_81 : decode prog_5_method_2_code 81 = .ok (.bipush 40, 2) := by decide +kernel
theorem d_Rg_read_83 : decode prog_5_method_2_code 83 = .ok (.if_icmp .ne 17, 3) := by decide +kernel
theorem d_Rg_read_86 : decode prog_5_method_2_code 86 = .ok (.iload_n 3, 1) := by decide +kernel
theorem d_Rg_read_87 : decode prog_5_method_2_code 87 = .ok (.ifCond .ne 15, 3) := by decide +kernel
theorem d_Rg_read_90 : decode prog_5_method_2_code 90 = .ok (.aload_n 0, 1) := by decide +kernel
theorem d_Rg_read_91 : decode prog_5_method_2_code 91 = .ok (.iload_n 1, 1) := by decide +kernel
theorem d_Rg_read_92 : decode prog_5_method_2_code 92 = .ok (.invokevirtual 41, 3) := by decide +kernel
theorem d_Rg_read_95 : decode prog_5_method_2_code 95 = .ok (.bipush 41, 2) := by decide +kernel
theorem d_Rg_read_97 : decode prog_5_method_2_code 97 = .ok (.if_icmp .eq 5, 3) := by decide +kernel
theorem d_Rg_read_100 : decode prog_5_method_2_code 100 = .ok (.aconst_null, 1) := by decide +kernel
theorem d_Rg_read_101 : decode prog_5_method_2_code 101 = .ok (.areturn, 1) := by decide +kernel
theorem d_Rg_read_102 : decode prog_5_method_2_code 102 = .ok (.aload_n 0, 1) := by decide +kernel
theorem d_Rg_read_103 : decode prog_5_method_2_code 103 = .ok (.iconst 1, 1) := by decide +kernel
theorem d_Rg_read_104 : decode prog_5_method_2_code 104 = .ok (.iload_n 1, 1) := by decide +kernel
theorem d_Rg_read_105 : decode prog_5_method_2_code 105 = .ok (.invokevirtual 45, 3) := by decide +kernel
theorem d_Rg_read_108 : decode prog_5_method_2_code 108 = .ok (.astore 4, 2) := by decide +kernel
theorem d_Rg_read_110 : decode prog_5_method_2_code 110 = .ok (.aload 4, 2) := by decide +kernel
theorem d_Rg_read_112 : decode prog_5_method_2_code 112 = .ok (.bipush 44, 2) := by decide +kernel
theorem d_Rg_read_114 : decode prog_5_method_2_code 114 = .ok (.invokevirtual 49, 3) := by decide +kernel
theorem d_Rg_read_117 : decode prog_5_method_2_code 117 = .ok (.ifCond .lt 11, 3) := by decide +kernel
theorem d_Rg_read_120 : decode prog_5_method_2_code 120 = .ok (.aload 4, 2) := by decide +kernel
theorem d_Rg_read_122 : decode prog_5_method_2_code 122 = .ok (.iload_n 2, 1) := by decide +kernel
theorem d_Rg_read_123 : decode prog_5_method_2_code 123 = .ok (.iload_n 3, 1) := by decide +kernel
theorem d_Rg_read_124 : decode prog_5_method_2_code 124 = .ok (.invokestatic 53, 3) := by decide +kernel
theorem d_Rg_read_127 : decode prog_5_method_2_code 127 = .ok (.areturn, 1) := by decide +kernel
theorem d_Rg_read_128 : decode prog_5_method_2_code 128 = .ok (.iload_n 2, 1) := by decide +kernel
theorem d_Rg_read_129 : decode prog_5_method_2_code 129 = .ok (.ifCond .eq 15, 3) := by decide +kernel
theorem d_Rg_read_132 : decode prog_5_method_2_code 132 = .ok (.iload_n 3, 1) := by decide +kernel
theorem d_Rg_read_133 : decode prog_5_method_2_code 133 = .ok (.ifCond .eq 11, 3) := by decide +kernel
theorem d_Rg_read_136 : decode prog_5_method_2_code 136 = .ok (.aload 4, 2) := by decide +kernel
theorem d_Rg_read_138 : decode prog_5_method_2_code 138 = .ok (.invokestatic 57, 3) := by decide +kernel
theorem d_Rg_read_141 : decode prog_5_method_2_code 141 = .ok (.goto 4, 3) := by decide +kernel
theorem d_Rg_read_144 : decode prog_5_method_2_code 144 = .ok (.aconst_null, 1) := by decide +kernel
theorem d_Rg_read_145 : decode prog_5_method_2_code 145 = .ok (.areturn, 1) := by decide +kernel
theorem d_Rg_init_0 : decode prog_5_method_1_code 0 = .ok (.aload_n 0, 1) := by decide +kernel
theorem d_Rg_init_1 : decode prog_5_method_1_code 1 = .ok (.invokespecial 1, 3) := by decide +kernel
theorem d_Rg_init_4 : decode prog_5_method_1_code 4 = .ok (.aload_n 0, 1) := by decide +kernel
theorem d_Rg_init_5 : decode prog_5_method_1_code 5 = .ok (.aload_n 1, 1) := by decide +kernel
theorem d_Rg_init_6 : decode prog_5_method_1_code 6 = .ok (.putfield 7, 3) := by decide +kernel
theorem d_Rg_init_9 : decode prog_5_method_1_code 9 = .ok (.aload_n 0, 1) := by decide +kernel
theorem d_Rg_init_10 : decode prog_5_method_1_code 10 = .ok (.iload_n 2, 1) := by decide +kernel
theorem d_Rg_init_11 : decode prog_5_method_1_code 11 = .ok (.putfield 13, 3) := by decide +kernel
theorem d_Rg_init_14 : decode prog_5_method_1_code 14 = .ok (.aload_n 0, 1) := by decide +kernel
theorem d_Rg_init_15 : decode prog_5_method_1_code 15 = .ok (.aload_n 3, 1) := by decide +kernel
theorem d_Rg_init_16 : decode prog_5_method_1_code 16 = .ok (.putfield 17, 3) := by decide +kernel
theorem d_Rg_init_19 : decode prog_5_method_1_code 19 = .ok (.aload_n 0, 1) := by decide +kernel
theorem d_Rg_init_20 : decode prog_5_method_1_code 20 = .ok (.iload 4, 2) := by decide +kernel
theorem d_Rg_init_22 : decode prog_5_method_1_code 22 = .ok (.putfield 20, 3) := by decide +kernel
theorem d_Rg_init_25 : decode prog_5_method_1_code 25 = .ok (.return_, 1) := by decide +kernel
theorem d_Rg_readBounds_0 : decode prog_5_method_5_code 0 = .ok (.aload_n 0, 1) := by decide +kernel
theorem d_Rg_readBounds_1 : decode prog_5_method_5_code 1 = .ok (.bipush 44, 2) := by decide +kernel
theorem d_Rg_readBounds_3 : decode prog_5_method_5_code 3 = .ok (.invokevirtual 49, 3) := by decide +kernel
theorem d_Rg_readBounds_6 : decode prog_5_method_5_code 6 = .ok (.istore_n 3, 1) := by decide +kernel
theorem d_Rg_readBounds_7 : decode prog_5_method_5_code 7 = .ok (.aload_n 0, 1) := by decide +kernel
theorem d_Rg_readBounds_8 : decode prog_5_method_5_code 8 = .ok (.iconst 0, 1) := by decide +kernel
theorem d_Rg_readBounds_9 : decode prog_5_method_5_code 9 = .ok (.iload_n 3, 1) := by decide +kernel
theorem d_Rg_readBounds_10 : decode prog_5_method_5_code 10 = .ok (.invokevirtual 45, 3) := by decide +kernel
theorem d_Rg_readBounds_13 : decode prog_5_method_5_code 13 = .ok (.astore 4, 2) := by decide +kernel
theorem d_Rg_readBounds_15 : decode prog_5_method_5_code 15 = .ok (.aload_n 0, 1) := by decide +kernel
theorem d_Rg_readBounds_16 : decode prog_5_method_5_code 16 = .ok (.iload_n 3, 1) := by decide +kernel
theorem d_Rg_readBounds_17 : decode prog_5_method_5_code 17 = .ok (.iconst 1, 1) := by decide +kernel
theorem d_Rg_readBounds_18 : decode prog_5_method_5_code 18 = .ok (.iadd, 1) := by decide +kernel
theorem d_Rg_readBounds_19 : decode prog_5_method_5_code 19 = .ok (.aload_n 0, 1) := by decide +kernel
theorem d_Rg_readBounds_20 : decode prog_5_method_5_code 20 = .ok (.invokevirtual 35, 3) := by decide +kernel
theorem d_Rg_readBounds_23 : decode prog_5_method_5_code 23 = .ok (.invokevirtual 45, 3) := by decide +kernel
theorem d_Rg_readBounds_26 : decode prog_5_method_5_code 26 = .ok (.astore 5, 2) := by decide +kernel
theorem d_Rg_readBounds_28 : decode prog_5_method_5_code 28 = .ok (.aload 4, 2) := by decide +kernel
theorem d_Rg_readBounds_30 : decode prog_5_method_5_code 30 = .ok (.invokestatic 65, 3) := by decide +kernel
theorem d_Rg_readBounds_33 : decode prog_5_method_5_code 33 = .ok (.ifCond .eq 11, 3) := by decide +kernel
theorem d_Rg_readBounds_36 : decode prog_5_method_5_code 36 = .ok (.aload 5, 2) := by decide +kernel
theorem d_Rg_readBounds_38 : decode prog_5_method_5_code 38 = .ok (.invokestatic 65, 3) := by decide +kernel
theorem d_Rg_readBounds_41 : decode prog_5_method_5_code 41 = .ok (.ifCond .ne 5, 3) := by decide +kernel
theorem d_Rg_readBounds_44 : decode prog_5_method_5_code 44 = .ok (.aconst_null, 1) := by decide +kernel
theorem d_Rg_readBounds_45 : decode prog_5_method_5_code 45 = .ok (.areturn, 1) := by decide +kernel
theorem d_Rg_readBounds_46 : decode prog_5_method_5_code 46 = .ok (.aload 4, 2) := by decide +kernel
theorem d_Rg_readBounds_48 : decode prog_5_method_5_code 48 = .ok (.invokevirtual 68, 3) := by decide +kernel
theorem d_Rg_readBounds_51 : decode prog_5_method_5_code 51 = .ok (.ifCond .eq 7, 3) := by decide +kernel
theorem d_Rg_readBounds_54 : decode prog_5_method_5_code 54 = .ok (.aconst_null, 1) := by decide +kernel
theorem d_Rg_readBounds_55 : decode prog_5_method_5_code 55 = .ok (.goto 12, 3) := by decide +kernel
theorem d_Rg_readBounds_58 : decode prog_5_method_5_code 58 = .ok (.new 24, 3) := by decide +kernel
