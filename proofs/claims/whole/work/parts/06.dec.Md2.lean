theorem d_Md_inside_71 : decode prog_10_method_22_code 71 = .ok (.iconst 1, 1) := by decide +kernel
theorem d_Md_inside_72 : decode prog_10_method_22_code 72 = .ok (.goto 4, 3) := by decide +kernel
theorem d_Md_inside_75 : decode prog_10_method_22_code 75 = .ok (.iconst 0, 1) := by decide +kernel
theorem d_Md_inside_76 : decode prog_10_method_22_code 76 = .ok (.ireturn, 1) := by decide +kernel
theorem d_Md_inside_77 : decode prog_10_method_22_code 77 = .ok (.iload 5, 2) := by decide +kernel
theorem d_Md_inside_79 : decode prog_10_method_22_code 79 = .ok (.iconst 1, 1) := by decide +kernel
theorem d_Md_inside_80 : decode prog_10_method_22_code 80 = .ok (.if_icmp .ne 7, 3) := by decide +kernel
theorem d_Md_inside_83 : decode prog_10_method_22_code 83 = .ok (.iconst 1, 1) := by decide +kernel
theorem d_Md_inside_84 : decode prog_10_method_22_code 84 = .ok (.goto 12, 3) := by decide +kernel
theorem d_Md_inside_87 : decode prog_10_method_22_code 87 = .ok (.aload_n 0, 1) := by decide +kernel
theorem d_Md_inside_88 : decode prog_10_method_22_code 88 = .ok (.iload_n 1, 1) := by decide +kernel
theorem d_Md_inside_89 : decode prog_10_method_22_code 89 = .ok (.iload_n 2, 1) := by decide +kernel
theorem d_Md_inside_90 : decode prog_10_method_22_code 90 = .ok (.iconst 1, 1) := by decide +kernel
theorem d_Md_inside_91 : decode prog_10_method_22_code 91 = .ok (.iload 5, 2) := by decide +kernel
theorem d_Md_inside_93 : decode prog_10_method_22_code 93 = .ok (.invokevirtual 149, 3) := by decide +kernel
theorem d_Md_inside_96 : decode prog_10_method_22_code 96 = .ok (.istore 6, 2) := by decide +kernel
theorem d_Md_inside_98 : decode prog_10_method_22_code 98 = .ok (.iload 5, 2) := by decide +kernel
theorem d_Md_inside_100 : decode prog_10_method_22_code 100 = .ok (.iload_n 3, 1) := by decide +kernel
theorem d_Md_inside_101 : decode prog_10_method_22_code 101 = .ok (.iconst 2, 1) := by decide +kernel
theorem d_Md_inside_102 : decode prog_10_method_22_code 102 = .ok (.isub, 1) := by decide +kernel
theorem d_Md_inside_103 : decode prog_10_method_22_code 103 = .ok (.if_icmp .ne 7, 3) := by decide +kernel
theorem d_Md_inside_106 : decode prog_10_method_22_code 106 = .ok (.iconst (-1), 1) := by decide +kernel
theorem d_Md_inside_107 : decode prog_10_method_22_code 107 = .ok (.goto 16, 3) := by decide +kernel
theorem d_Md_inside_110 : decode prog_10_method_22_code 110 = .ok (.aload_n 0, 1) := by decide +kernel
theorem d_Md_inside_111 : decode prog_10_method_22_code 111 = .ok (.iload_n 1, 1) := by decide +kernel
theorem d_Md_inside_112 : decode prog_10_method_22_code 112 = .ok (.iload_n 2, 1) := by decide +kernel
theorem d_Md_inside_113 : decode prog_10_method_22_code 113 = .ok (.iload 5, 2) := by decide +kernel
theorem d_Md_inside_115 : decode prog_10_method_22_code 115 = .ok (.iconst 1, 1) := by decide +kernel
theorem d_Md_inside_116 : decode prog_10_method_22_code 116 = .ok (.iadd, 1) := by decide +kernel
theorem d_Md_inside_117 : decode prog_10_method_22_code 117 = .ok (.iload_n 3, 1) := by decide +kernel
theorem d_Md_inside_118 : decode prog_10_method_22_code 118 = .ok (.iconst 1, 1) := by decide +kernel
theorem d_Md_inside_119 : decode prog_10_method_22_code 119 = .ok (.isub, 1) := by decide +kernel
theorem d_Md_inside_120 : decode prog_10_method_22_code 120 = .ok (.invokevirtual 149, 3) := by decide +kernel
theorem d_Md_inside_123 : decode prog_10_method_22_code 123 = .ok (.istore 7, 2) := by decide +kernel
theorem d_Md_inside_125 : decode prog_10_method_22_code 125 = .ok (.iload 6, 2) := by decide +kernel
theorem d_Md_inside_127 : decode prog_10_method_22_code 127 = .ok (.iload 4, 2) := by decide +kernel
theorem d_Md_inside_129 : decode prog_10_method_22_code 129 = .ok (.bipush 40, 2) := by decide +kernel
theorem d_Md_inside_131 : decode prog_10_method_22_code 131 = .ok (.if_icmp .ne 7, 3) := by decide +kernel
theorem d_Md_inside_134 : decode prog_10_method_22_code 134 = .ok (.iconst 1, 1) := by decide +kernel
theorem d_Md_inside_135 : decode prog_10_method_22_code 135 = .ok (.goto 4, 3) := by decide +kernel
theorem d_Md_inside_138 : decode prog_10_method_22_code 138 = .ok (.iconst 0, 1) := by decide +kernel
theorem d_Md_inside_139 : decode prog_10_method_22_code 139 = .ok (.if_icmp .lt 30, 3) := by decide +kernel
theorem d_Md_inside_142 : decode prog_10_method_22_code 142 = .ok (.iload 7, 2) := by decide +kernel
theorem d_Md_inside_144 : decode prog_10_method_22_code 144 = .ok (.aload_n 0, 1) := by decide +kernel
theorem d_Md_inside_145 : decode prog_10_method_22_code 145 = .ok (.iload_n 2, 1) := by decide +kernel
theorem d_Md_inside_146 : decode prog_10_method_22_code 146 = .ok (.iload_n 3, 1) := by decide +kernel
theorem d_Md_inside_147 : decode prog_10_method_22_code 147 = .ok (.iconst 1, 1) := by decide +kernel
theorem d_Md_inside_148 : decode prog_10_method_22_code 148 = .ok (.isub, 1) := by decide +kernel
theorem d_Md_inside_149 : decode prog_10_method_22_code 149 = .ok (.invokevirtual 74, 3) := by decide +kernel
theorem d_Md_inside_152 : decode prog_10_method_22_code 152 = .ok (.bipush 41, 2) := by decide +kernel
theorem d_Md_inside_154 : decode prog_10_method_22_code 154 = .ok (.if_icmp .ne 7, 3) := by decide +kernel
theorem d_Md_inside_157 : decode prog_10_method_22_code 157 = .ok (.iconst (-1), 1) := by decide +kernel
theorem d_Md_inside_158 : decode prog_10_method_22_code 158 = .ok (.goto 4, 3) := by decide +kernel
theorem d_Md_inside_161 : decode prog_10_method_22_code 161 = .ok (.iconst 0, 1) := by decide +kernel
theorem d_Md_inside_162 : decode prog_10_method_22_code 162 = .ok (.if_icmp .gt 7, 3) := by decide +kernel
theorem d_Md_inside_165 : decode prog_10_method_22_code 165 = .ok (.iconst 1, 1) := by decide +kernel
theorem d_Md_inside_166 : decode prog_10_method_22_code 166 = .ok (.goto 4, 3) := by decide +kernel
theorem d_Md_inside_169 : decode prog_10_method_22_code 169 = .ok (.iconst 0, 1) := by decide +kernel
theorem d_Md_inside_170 : decode prog_10_method_22_code 170 = .ok (.ireturn, 1) := by decide +kernel
theorem d_Md_solve_0 : decode prog_10_method_44_code 0 = .ok (.iconst 0, 1) := by decide +kernel
theorem d_Md_solve_1 : decode prog_10_method_44_code 1 = .ok (.istore_n 1, 1) := by decide +kernel
theorem d_Md_solve_2 : decode prog_10_method_44_code 2 = .ok (.iload_n 1, 1) := by decide +kernel
theorem d_Md_solve_3 : decode prog_10_method_44_code 3 = .ok (.iconst 4, 1) := by decide +kernel
theorem d_Md_solve_4 : decode prog_10_method_44_code 4 = .ok (.if_icmp .ge 16, 3) := by decide +kernel
theorem d_Md_solve_7 : decode prog_10_method_44_code 7 = .ok (.aload_n 0, 1) := by decide +kernel
theorem d_Md_solve_8 : decode prog_10_method_44_code 8 = .ok (.getfield 38, 3) := by decide +kernel
theorem d_Md_solve_11 : decode prog_10_method_44_code 11 = .ok (.iload_n 1, 1) := by decide +kernel
theorem d_Md_solve_12 : decode prog_10_method_44_code 12 = .ok (.iconst 1, 1) := by decide +kernel
theorem d_Md_solve_13 : decode prog_10_method_44_code 13 = .ok (.bastore, 1) := by decide +kernel
theorem d_Md_solve_14 : decode prog_10_method_44_code 14 = .ok (.iinc 1 1, 3) := by decide +kernel
theorem d_Md_solve_17 : decode prog_10_method_44_code 17 = .ok (.goto (-15), 3) := by decide +kernel
theorem d_Md_solve_20 : decode prog_10_method_44_code 20 = .ok (.aload_n 0, 1) := by decide +kernel
theorem d_Md_solve_21 : decode prog_10_method_44_code 21 = .ok (.invokevirtual 195, 3) := by decide +kernel
theorem d_Md_solve_24 : decode prog_10_method_44_code 24 = .ok (.istore_n 1, 1) := by decide +kernel
theorem d_Md_solve_25 : decode prog_10_method_44_code 25 = .ok (.aload_n 0, 1) := by decide +kernel
theorem d_Md_solve_26 : decode prog_10_method_44_code 26 = .ok (.iload_n 1, 1) := by decide +kernel
theorem d_Md_solve_27 : decode prog_10_method_44_code 27 = .ok (.putfield 198, 3) := by decide +kernel
theorem d_Md_solve_30 : decode prog_10_method_44_code 30 = .ok (.aload_n 0, 1) := by decide +kernel
theorem d_Md_solve_31 : decode prog_10_method_44_code 31 = .ok (.iload_n 1, 1) := by decide +kernel
theorem d_Md_solve_32 : decode prog_10_method_44_code 32 = .ok (.ifCond .ne 7, 3) := by decide +kernel
theorem d_Md_solve_35 : decode prog_10_method_44_code 35 = .ok (.iconst 1, 1) := by decide +kernel
theorem d_Md_solve_36 : decode prog_10_method_44_code 36 = .ok (.goto 4, 3) := by decide +kernel
theorem d_Md_solve_39 : decode prog_10_method_44_code 39 = .ok (.iconst 0, 1) := by decide +kernel
theorem d_Md_solve_40 : decode prog_10_method_44_code 40 = .ok (.putfield 202, 3) := by decide +kernel
theorem d_Md_solve_43 : decode prog_10_method_44_code 43 = .ok (.iconst 0, 1) := by decide +kernel
theorem d_Md_solve_44 : decode prog_10_method_44_code 44 = .ok (.istore_n 2, 1) := by decide +kernel
theorem d_Md_solve_45 : decode prog_10_method_44_code 45 = .ok (.iconst 0, 1) := by decide +kernel
theorem d_Md_solve_46 : decode prog_10_method_44_code 46 = .ok (.istore_n 3, 1) := by decide +kernel
theorem d_Md_solve_47 : decode prog_10_method_44_code 47 = .ok (.iload_n 3, 1) := by decide +kernel
theorem d_Md_solve_48 : decode prog_10_method_44_code 48 = .ok (.bipush 6, 2) := by decide +kernel
theorem d_Md_solve_50 : decode prog_10_method_44_code 50 = .ok (.if_icmp .ge 33, 3) := by decide +kernel
theorem d_Md_solve_53 : decode prog_10_method_44_code 53 = .ok (.aload_n 0, 1) := by decide +kernel
theorem d_Md_solve_54 : decode prog_10_method_44_code 54 = .ok (.getfield 44, 3) := by decide +kernel
theorem d_Md_solve_57 : decode prog_10_method_44_code 57 = .ok (.iload_n 3, 1) := by decide +kernel
theorem d_Md_solve_58 : decode prog_10_method_44_code 58 = .ok (.aload_n 0, 1) := by decide +kernel
theorem d_Md_solve_59 : decode prog_10_method_44_code 59 = .ok (.getfield 41, 3) := by decide +kernel
theorem d_Md_solve_62 : decode prog_10_method_44_code 62 = .ok (.iload_n 3, 1) := by decide +kernel
theorem d_Md_solve_63 : decode prog_10_method_44_code 63 = .ok (.iaload, 1) := by decide +kernel
theorem d_Md_solve_64 : decode prog_10_method_44_code 64 = .ok (.iastore, 1) := by decide +kernel
theorem d_Md_solve_65 : decode prog_10_method_44_code 65 = .ok (.aload_n 0, 1) := by decide +kernel
theorem d_Md_solve_66 : decode prog_10_method_44_code 66 = .ok (.getfield 41, 3) := by decide +kernel
theorem d_Md_solve_69 : decode prog_10_method_44_code 69 = .ok (.iload_n 3, 1) := by decide +kernel
theorem d_Md_solve_70 : decode prog_10_method_44_code 70 = .ok (.iaload, 1) := by decide +kernel
theorem d_Md_solve_71 : decode prog_10_method_44_code 71 = .ok (.ifCond .lt 6, 3) := by decide +kernel
theorem d_Md_solve_74 : decode prog_10_method_44_code 74 = .ok (.iinc 2 1, 3) := by decide +kernel
theorem d_Md_solve_77 : decode prog_10_method_44_code 77 = .ok (.iinc 3 1, 3) := by decide +kernel
theorem d_Md_solve_80 : decode prog_10_method_44_code 80 = .ok (.goto (-33), 3) := by decide +kernel
theorem d_Md_solve_83 : decode prog_10_method_44_code 83 = .ok (.aload_n 0, 1) := by decide +kernel
theorem d_Md_solve_84 : decode prog_10_method_44_code 84 = .ok (.getfield 202, 3) := by decide +kernel
theorem d_Md_solve_87 : decode prog_10_method_44_code 87 = .ok (.ifCond .eq 7, 3) := by decide +kernel
theorem d_Md_solve_90 : decode prog_10_method_44_code 90 = .ok (.aload_n 0, 1) := by decide +kernel
theorem d_Md_solve_91 : decode prog_10_method_44_code 91 = .ok (.invokevirtual 205, 3) := by decide +kernel
theorem d_Md_solve_94 : decode prog_10_method_44_code 94 = .ok (.iload_n 1, 1) := by decide +kernel
theorem d_Md_solve_95 : decode prog_10_method_44_code 95 = .ok (.ifCond .eq 7, 3) := by decide +kernel
theorem d_Md_solve_98 : decode prog_10_method_44_code 98 = .ok (.iload_n 2, 1) := by decide +kernel
theorem d_Md_solve_99 : decode prog_10_method_44_code 99 = .ok (.goto 5, 3) := by decide +kernel
theorem d_Md_solve_102 : decode prog_10_method_44_code 102 = .ok (.bipush (-4), 2) := by decide +kernel
theorem d_Md_solve_104 : decode prog_10_method_44_code 104 = .ok (.ireturn, 1) := by decide +kernel
theorem d_Md_search_0 : decode prog_10_method_42_code 0 = .ok (.iconst 0, 1) := by decide +kernel
theorem d_Md_search_1 : decode prog_10_method_42_code 1 = .ok (.istore_n 1, 1) := by decide +kernel
theorem d_Md_search_2 : decode prog_10_method_42_code 2 = .ok (.iload_n 1, 1) := by decide +kernel
theorem d_Md_search_3 : decode prog_10_method_42_code 3 = .ok (.bipush 30, 2) := by decide +kernel
theorem d_Md_search_5 : decode prog_10_method_42_code 5 = .ok (.if_icmp .ge 36, 3) := by decide +kernel
theorem d_Md_search_8 : decode prog_10_method_42_code 8 = .ok (.aload_n 0, 1) := by decide +kernel
theorem d_Md_search_9 : decode prog_10_method_42_code 9 = .ok (.getfield 53, 3) := by decide +kernel
theorem d_Md_search_12 : decode prog_10_method_42_code 12 = .ok (.iload_n 1, 1) := by decide +kernel
theorem d_Md_search_13 : decode prog_10_method_42_code 13 = .ok (.iload_n 1, 1) := by decide +kernel
theorem d_Md_search_14 : decode prog_10_method_42_code 14 = .ok (.iconst 5, 1) := by decide +kernel
theorem d_Md_search_15 : decode prog_10_method_42_code 15 = .ok (.irem, 1) := by decide +kernel
theorem d_Md_search_16 : decode prog_10_method_42_code 16 = .ok (.iconst 4, 1) := by decide +kernel
theorem d_Md_search_17 : decode prog_10_method_42_code 17 = .ok (.if_icmp .ne 7, 3) := by decide +kernel
theorem d_Md_search_20 : decode prog_10_method_42_code 20 = .ok (.iconst (-1), 1) := by decide +kernel
theorem d_Md_search_21 : decode prog_10_method_42_code 21 = .ok (.goto 13, 3) := by decide +kernel
theorem d_Md_search_24 : decode prog_10_method_42_code 24 = .ok (.aload_n 0, 1) := by decide +kernel
theorem d_Md_search_25 : decode prog_10_method_42_code 25 = .ok (.iload_n 1, 1) := by decide +kernel
theorem d_Md_search_26 : decode prog_10_method_42_code 26 = .ok (.iconst 5, 1) := by decide +kernel
theorem d_Md_search_27 : decode prog_10_method_42_code 27 = .ok (.idiv, 1) := by decide +kernel
theorem d_Md_search_28 : decode prog_10_method_42_code 28 = .ok (.iload_n 1, 1) := by decide +kernel
theorem d_Md_search_29 : decode prog_10_method_42_code 29 = .ok (.iconst 5, 1) := by decide +kernel
theorem d_Md_search_30 : decode prog_10_method_42_code 30 = .ok (.irem, 1) := by decide +kernel
theorem d_Md_search_31 : decode prog_10_method_42_code 31 = .ok (.invokevirtual 189, 3) := by decide +kernel
theorem d_Md_search_34 : decode prog_10_method_42_code 34 = .ok (.iastore, 1) := by decide +kernel
theorem d_Md_search_35 : decode prog_10_method_42_code 35 = .ok (.iinc 1 1, 3) := by decide +kernel
theorem d_Md_search_38 : decode prog_10_method_42_code 38 = .ok (.goto (-36), 3) := by decide +kernel
theorem d_Md_search_41 : decode prog_10_method_42_code 41 = .ok (.iconst 0, 1) := by decide +kernel
theorem d_Md_search_42 : decode prog_10_method_42_code 42 = .ok (.istore_n 1, 1) := by decide +kernel
theorem d_Md_search_43 : decode prog_10_method_42_code 43 = .ok (.iload_n 1, 1) := by decide +kernel
theorem d_Md_search_44 : decode prog_10_method_42_code 44 = .ok (.sipush 15625, 3) := by decide +kernel
theorem d_Md_search_47 : decode prog_10_method_42_code 47 = .ok (.if_icmp .ge 86, 3) := by decide +kernel
theorem d_Md_search_50 : decode prog_10_method_42_code 50 = .ok (.iload_n 1, 1) := by decide +kernel
theorem d_Md_search_51 : decode prog_10_method_42_code 51 = .ok (.istore_n 2, 1) := by decide +kernel
theorem d_Md_search_52 : decode prog_10_method_42_code 52 = .ok (.iconst 1, 1) := by decide +kernel
theorem d_Md_search_53 : decode prog_10_method_42_code 53 = .ok (.istore_n 3, 1) := by decide +kernel
theorem d_Md_search_54 : decode prog_10_method_42_code 54 = .ok (.iconst 5, 1) := by decide +kernel
theorem d_Md_search_55 : decode prog_10_method_42_code 55 = .ok (.istore 4, 2) := by decide +kernel
theorem d_Md_search_57 : decode prog_10_method_42_code 57 = .ok (.iload 4, 2) := by decide +kernel
theorem d_Md_search_59 : decode prog_10_method_42_code 59 = .ok (.ifCond .lt 55, 3) := by decide +kernel
theorem d_Md_search_62 : decode prog_10_method_42_code 62 = .ok (.iload_n 2, 1) := by decide +kernel
theorem d_Md_search_63 : decode prog_10_method_42_code 63 = .ok (.iconst 5, 1) := by decide +kernel
theorem d_Md_search_64 : decode prog_10_method_42_code 64 = .ok (.irem, 1) := by decide +kernel
theorem d_Md_search_65 : decode prog_10_method_42_code 65 = .ok (.istore 5, 2) := by decide +kernel
theorem d_Md_search_67 : decode prog_10_method_42_code 67 = .ok (.iload_n 2, 1) := by decide +kernel
theorem d_Md_search_68 : decode prog_10_method_42_code 68 = .ok (.iconst 5, 1) := by decide +kernel
theorem d_Md_search_69 : decode prog_10_method_42_code 69 = .ok (.idiv, 1) := by decide +kernel
theorem d_Md_search_70 : decode prog_10_method_42_code 70 = .ok (.istore_n 2, 1) := by decide +kernel
theorem d_Md_search_71 : decode prog_10_method_42_code 71 = .ok (.aload_n 0, 1) := by decide +kernel
theorem d_Md_search_72 : decode prog_10_method_42_code 72 = .ok (.getfield 41, 3) := by decide +kernel
theorem d_Md_search_75 : decode prog_10_method_42_code 75 = .ok (.iload 4, 2) := by decide +kernel
theorem d_Md_search_77 : decode prog_10_method_42_code 77 = .ok (.aload_n 0, 1) := by decide +kernel
theorem d_Md_search_78 : decode prog_10_method_42_code 78 = .ok (.getfield 53, 3) := by decide +kernel
theorem d_Md_search_81 : decode prog_10_method_42_code 81 = .ok (.iconst 5, 1) := by decide +kernel
theorem d_Md_search_82 : decode prog_10_method_42_code 82 = .ok (.iload 4, 2) := by decide +kernel
theorem d_Md_search_84 : decode prog_10_method_42_code 84 = .ok (.imul, 1) := by decide +kernel
theorem d_Md_search_85 : decode prog_10_method_42_code 85 = .ok (.iload 5, 2) := by decide +kernel
theorem d_Md_search_87 : decode prog_10_method_42_code 87 = .ok (.iadd, 1) := by decide +kernel
theorem d_Md_search_88 : decode prog_10_method_42_code 88 = .ok (.iaload, 1) := by decide +kernel
theorem d_Md_search_89 : decode prog_10_method_42_code 89 = .ok (.iastore, 1) := by decide +kernel
theorem d_Md_search_90 : decode prog_10_method_42_code 90 = .ok (.iload 5, 2) := by decide +kernel
theorem d_Md_search_92 : decode prog_10_method_42_code 92 = .ok (.iconst 4, 1) := by decide +kernel
theorem d_Md_search_93 : decode prog_10_method_42_code 93 = .ok (.if_icmp .ge 15, 3) := by decide +kernel
theorem d_Md_search_96 : decode prog_10_method_42_code 96 = .ok (.aload_n 0, 1) := by decide +kernel
theorem d_Md_search_97 : decode prog_10_method_42_code 97 = .ok (.getfield 41, 3) := by decide +kernel
theorem d_Md_search_100 : decode prog_10_method_42_code 100 = .ok (.iload 4, 2) := by decide +kernel
theorem d_Md_search_102 : decode prog_10_method_42_code 102 = .ok (.iaload, 1) := by decide +kernel
theorem d_Md_search_103 : decode prog_10_method_42_code 103 = .ok (.ifCond .ge 5, 3) := by decide +kernel
theorem d_Md_search_106 : decode prog_10_method_42_code 106 = .ok (.iconst 0, 1) := by decide +kernel
theorem d_Md_search_107 : decode prog_10_method_42_code 107 = .ok (.istore_n 3, 1) := by decide +kernel
theorem d_Md_search_108 : decode prog_10_method_42_code 108 = .ok (.iinc 4 (-1), 3) := by decide +kernel
theorem d_Md_search_111 : decode prog_10_method_42_code 111 = .ok (.goto (-54), 3) := by decide +kernel
theorem d_Md_search_114 : decode prog_10_method_42_code 114 = .ok (.iload_n 3, 1) := by decide +kernel
theorem d_Md_search_115 : decode prog_10_method_42_code 115 = .ok (.ifCond .eq 12, 3) := by decide +kernel
theorem d_Md_search_118 : decode prog_10_method_42_code 118 = .ok (.aload_n 0, 1) := by decide +kernel
theorem d_Md_search_119 : decode prog_10_method_42_code 119 = .ok (.invokevirtual 192, 3) := by decide +kernel
theorem d_Md_search_122 : decode prog_10_method_42_code 122 = .ok (.ifCond .eq 5, 3) := by decide +kernel
theorem d_Md_search_125 : decode prog_10_method_42_code 125 = .ok (.iconst 1, 1) := by decide +kernel
theorem d_Md_search_126 : decode prog_10_method_42_code 126 = .ok (.ireturn, 1) := by decide +kernel
theorem d_Md_search_127 : decode prog_10_method_42_code 127 = .ok (.iinc 1 1, 3) := by decide +kernel
theorem d_Md_search_130 : decode prog_10_method_42_code 130 = .ok (.goto (-87), 3) := by decide +kernel
theorem d_Md_search_133 : decode prog_10_method_42_code 133 = .ok (.iconst 0, 1) := by decide +kernel
theorem d_Md_search_134 : decode prog_10_method_42_code 134 = .ok (.ireturn, 1) := by decide +kernel
theorem d_Md_ranked_0 : decode prog_10_method_36_code 0 = .ok (.iconst 0, 1) := by decide +kernel
theorem d_Md_ranked_1 : decode prog_10_method_36_code 1 = .ok (.istore_n 3, 1) := by decide +kernel
theorem d_Md_ranked_2 : decode prog_10_method_36_code 2 = .ok (.iload_n 3, 1) := by decide +kernel
theorem d_Md_ranked_3 : decode prog_10_method_36_code 3 = .ok (.aload_n 0, 1) := by decide +kernel
theorem d_Md_ranked_4 : decode prog_10_method_36_code 4 = .ok (.getfield 16, 3) := by decide +kernel
theorem d_Md_ranked_7 : decode prog_10_method_36_code 7 = .ok (.iload_n 1, 1) := by decide +kernel
theorem d_Md_ranked_8 : decode prog_10_method_36_code 8 = .ok (.iaload, 1) := by decide +kernel
theorem d_Md_ranked_9 : decode prog_10_method_36_code 9 = .ok (.if_icmp .ge 67, 3) := by decide +kernel
theorem d_Md_ranked_12 : decode prog_10_method_36_code 12 = .ok (.iconst 0, 1) := by decide +kernel
theorem d_Md_ranked_13 : decode prog_10_method_36_code 13 = .ok (.istore 4, 2) := by decide +kernel
theorem d_Md_ranked_15 : decode prog_10_method_36_code 15 = .ok (.iconst 0, 1) := by decide +kernel
theorem d_Md_ranked_16 : decode prog_10_method_36_code 16 = .ok (.istore 5, 2) := by decide +kernel
theorem d_Md_ranked_18 : decode prog_10_method_36_code 18 = .ok (.iload 5, 2) := by decide +kernel
theorem d_Md_ranked_20 : decode prog_10_method_36_code 20 = .ok (.aload_n 0, 1) := by decide +kernel
theorem d_Md_ranked_21 : decode prog_10_method_36_code 21 = .ok (.getfield 16, 3) := by decide +kernel
theorem d_Md_ranked_24 : decode prog_10_method_36_code 24 = .ok (.iload_n 1, 1) := by decide +kernel
theorem d_Md_ranked_25 : decode prog_10_method_36_code 25 = .ok (.iaload, 1) := by decide +kernel
theorem d_Md_ranked_26 : decode prog_10_method_36_code 26 = .ok (.if_icmp .ge 36, 3) := by decide +kernel
theorem d_Md_ranked_29 : decode prog_10_method_36_code 29 = .ok (.aload_n 0, 1) := by decide +kernel
theorem d_Md_ranked_30 : decode prog_10_method_36_code 30 = .ok (.bipush 6, 2) := by decide +kernel
theorem d_Md_ranked_32 : decode prog_10_method_36_code 32 = .ok (.iconst 4, 1) := by decide +kernel
theorem d_Md_ranked_33 : decode prog_10_method_36_code 33 = .ok (.iload_n 1, 1) := by decide +kernel
theorem d_Md_ranked_34 : decode prog_10_method_36_code 34 = .ok (.imul, 1) := by decide +kernel
theorem d_Md_ranked_35 : decode prog_10_method_36_code 35 = .ok (.iadd, 1) := by decide +kernel
theorem d_Md_ranked_36 : decode prog_10_method_36_code 36 = .ok (.iload 5, 2) := by decide +kernel
theorem d_Md_ranked_38 : decode prog_10_method_36_code 38 = .ok (.iadd, 1) := by decide +kernel
theorem d_Md_ranked_39 : decode prog_10_method_36_code 39 = .ok (.bipush 6, 2) := by decide +kernel
theorem d_Md_ranked_41 : decode prog_10_method_36_code 41 = .ok (.iconst 4, 1) := by decide +kernel
theorem d_Md_ranked_42 : decode prog_10_method_36_code 42 = .ok (.iload_n 1, 1) := by decide +kernel
theorem d_Md_ranked_43 : decode prog_10_method_36_code 43 = .ok (.imul, 1) := by decide +kernel
theorem d_Md_ranked_44 : decode prog_10_method_36_code 44 = .ok (.iadd, 1) := by decide +kernel
theorem d_Md_ranked_45 : decode prog_10_method_36_code 45 = .ok (.iload_n 3, 1) := by decide +kernel
theorem d_Md_ranked_46 : decode prog_10_method_36_code 46 = .ok (.iadd, 1) := by decide +kernel
theorem d_Md_ranked_47 : decode prog_10_method_36_code 47 = .ok (.invokevirtual 170, 3) := by decide +kernel
theorem d_Md_ranked_50 : decode prog_10_method_36_code 50 = .ok (.ifCond .le 6, 3) := by decide +kernel
theorem d_Md_ranked_53 : decode prog_10_method_36_code 53 = .ok (.iinc 4 1, 3) := by decide +kernel
theorem d_Md_ranked_56 : decode prog_10_method_36_code 56 = .ok (.iinc 5 1, 3) := by decide +kernel
theorem d_Md_ranked_59 : decode prog_10_method_36_code 59 = .ok (.goto (-41), 3) := by decide +kernel
theorem d_Md_ranked_62 : decode prog_10_method_36_code 62 = .ok (.iload 4, 2) := by decide +kernel
theorem d_Md_ranked_64 : decode prog_10_method_36_code 64 = .ok (.iload_n 2, 1) := by decide +kernel
theorem d_Md_ranked_65 : decode prog_10_method_36_code 65 = .ok (.if_icmp .ne 5, 3) := by decide +kernel
theorem d_Md_ranked_68 : decode prog_10_method_36_code 68 = .ok (.iload_n 3, 1) := by decide +kernel
theorem d_Md_ranked_69 : decode prog_10_method_36_code 69 = .ok (.ireturn, 1) := by decide +kernel
theorem d_Md_ranked_70 : decode prog_10_method_36_code 70 = .ok (.iinc 3 1, 3) := by decide +kernel
theorem d_Md_ranked_73 : decode prog_10_method_36_code 73 = .ok (.goto (-71), 3) := by decide +kernel
theorem d_Md_ranked_76 : decode prog_10_method_36_code 76 = .ok (.iconst (-1), 1) := by decide +kernel
theorem d_Md_ranked_77 : decode prog_10_method_36_code 77 = .ok (.ireturn, 1) := by decide +kernel
theorem d_Md_good_0 : decode prog_10_method_41_code 0 = .ok (.iconst 0, 1) := by decide +kernel
theorem d_Md_good_1 : decode prog_10_method_41_code 1 = .ok (.istore_n 1, 1) := by decide +kernel
theorem d_Md_good_2 : decode prog_10_method_41_code 2 = .ok (.iload_n 1, 1) := by decide +kernel
theorem d_Md_good_3 : decode prog_10_method_41_code 3 = .ok (.aload_n 0, 1) := by decide +kernel
theorem d_Md_good_4 : decode prog_10_method_41_code 4 = .ok (.getfield 167, 3) := by decide +kernel
theorem d_Md_good_7 : decode prog_10_method_41_code 7 = .ok (.if_icmp .ge 36, 3) := by decide +kernel
theorem d_Md_good_10 : decode prog_10_method_41_code 10 = .ok (.aload_n 0, 1) := by decide +kernel
theorem d_Md_good_11 : decode prog_10_method_41_code 11 = .ok (.getfield 38, 3) := by decide +kernel
theorem d_Md_good_14 : decode prog_10_method_41_code 14 = .ok (.iload_n 1, 1) := by decide +kernel
theorem d_Md_good_15 : decode prog_10_method_41_code 15 = .ok (.baload, 1) := by decide +kernel
theorem d_Md_good_16 : decode prog_10_method_41_code 16 = .ok (.ifCond .eq 21, 3) := by decide +kernel
theorem d_Md_good_19 : decode prog_10_method_41_code 19 = .ok (.aload_n 0, 1) := by decide +kernel
theorem d_Md_good_20 : decode prog_10_method_41_code 20 = .ok (.aload_n 0, 1) := by decide +kernel
theorem d_Md_good_21 : decode prog_10_method_41_code 21 = .ok (.getfield 35, 3) := by decide +kernel
theorem d_Md_good_24 : decode prog_10_method_41_code 24 = .ok (.iload_n 1, 1) := by decide +kernel
theorem d_Md_good_25 : decode prog_10_method_41_code 25 = .ok (.iaload, 1) := by decide +kernel
theorem d_Md_good_26 : decode prog_10_method_41_code 26 = .ok (.iconst 2, 1) := by decide +kernel
theorem d_Md_good_27 : decode prog_10_method_41_code 27 = .ok (.iload_n 1, 1) := by decide +kernel
theorem d_Md_good_28 : decode prog_10_method_41_code 28 = .ok (.iadd, 1) := by decide +kernel
theorem d_Md_good_29 : decode prog_10_method_41_code 29 = .ok (.invokevirtual 179, 3) := by decide +kernel
theorem d_Md_good_32 : decode prog_10_method_41_code 32 = .ok (.ifCond .ne 5, 3) := by decide +kernel
theorem d_Md_good_35 : decode prog_10_method_41_code 35 = .ok (.iconst 0, 1) := by decide +kernel
theorem d_Md_good_36 : decode prog_10_method_41_code 36 = .ok (.ireturn, 1) := by decide +kernel
theorem d_Md_good_37 : decode prog_10_method_41_code 37 = .ok (.iinc 1 1, 3) := by decide +kernel
theorem d_Md_good_40 : decode prog_10_method_41_code 40 = .ok (.goto (-38), 3) := by decide +kernel
theorem d_Md_good_43 : decode prog_10_method_41_code 43 = .ok (.iconst 0, 1) := by decide +kernel
theorem d_Md_good_44 : decode prog_10_method_41_code 44 = .ok (.istore_n 1, 1) := by decide +kernel
theorem d_Md_good_45 : decode prog_10_method_41_code 45 = .ok (.iload_n 1, 1) := by decide +kernel
theorem d_Md_good_46 : decode prog_10_method_41_code 46 = .ok (.bipush 6, 2) := by decide +kernel
theorem d_Md_good_48 : decode prog_10_method_41_code 48 = .ok (.if_icmp .ge 28, 3) := by decide +kernel
theorem d_Md_good_51 : decode prog_10_method_41_code 51 = .ok (.aload_n 0, 1) := by decide +kernel
theorem d_Md_good_52 : decode prog_10_method_41_code 52 = .ok (.getfield 41, 3) := by decide +kernel
theorem d_Md_good_55 : decode prog_10_method_41_code 55 = .ok (.iload_n 1, 1) := by decide +kernel
theorem d_Md_good_56 : decode prog_10_method_41_code 56 = .ok (.iaload, 1) := by decide +kernel
theorem d_Md_good_57 : decode prog_10_method_41_code 57 = .ok (.ifCond .lt 13, 3) := by decide +kernel
theorem d_Md_good_60 : decode prog_10_method_41_code 60 = .ok (.aload_n 0, 1) := by decide +kernel
theorem d_Md_good_61 : decode prog_10_method_41_code 61 = .ok (.iload_n 1, 1) := by decide +kernel
theorem d_Md_good_62 : decode prog_10_method_41_code 62 = .ok (.invokevirtual 182, 3) := by decide +kernel
theorem d_Md_good_65 : decode prog_10_method_41_code 65 = .ok (.ifCond .ne 5, 3) := by decide +kernel
theorem d_Md_good_68 : decode prog_10_method_41_code 68 = .ok (.iconst 0, 1) := by decide +kernel
theorem d_Md_good_69 : decode prog_10_method_41_code 69 = .ok (.ireturn, 1) := by decide +kernel
theorem d_Md_good_70 : decode prog_10_method_41_code 70 = .ok (.iinc 1 1, 3) := by decide +kernel
theorem d_Md_good_73 : decode prog_10_method_41_code 73 = .ok (.goto (-28), 3) := by decide +kernel
theorem d_Md_good_76 : decode prog_10_method_41_code 76 = .ok (.aload_n 0, 1) := by decide +kernel
theorem d_Md_good_77 : decode prog_10_method_41_code 77 = .ok (.invokevirtual 185, 3) := by decide +kernel
theorem d_Md_good_80 : decode prog_10_method_41_code 80 = .ok (.ireturn, 1) := by decide +kernel
theorem d_Md_meets_0 : decode prog_10_method_38_code 0 = .ok (.aload_n 0, 1) := by decide +kernel
theorem d_Md_meets_1 : decode prog_10_method_38_code 1 = .ok (.getfield 41, 3) := by decide +kernel
theorem d_Md_meets_4 : decode prog_10_method_38_code 4 = .ok (.iload_n 1, 1) := by decide +kernel
theorem d_Md_meets_5 : decode prog_10_method_38_code 5 = .ok (.iaload, 1) := by decide +kernel
theorem d_Md_meets_6 : decode prog_10_method_38_code 6 = .ok (.ifCond .lt 23, 3) := by decide +kernel
theorem d_Md_meets_9 : decode prog_10_method_38_code 9 = .ok (.aload_n 0, 1) := by decide +kernel
theorem d_Md_meets_10 : decode prog_10_method_38_code 10 = .ok (.bipush 6, 2) := by decide +kernel
theorem d_Md_meets_12 : decode prog_10_method_38_code 12 = .ok (.aload_n 0, 1) := by decide +kernel
theorem d_Md_meets_13 : decode prog_10_method_38_code 13 = .ok (.iload_n 1, 1) := by decide +kernel
theorem d_Md_meets_14 : decode prog_10_method_38_code 14 = .ok (.invokevirtual 176, 3) := by decide +kernel
theorem d_Md_meets_17 : decode prog_10_method_38_code 17 = .ok (.iadd, 1) := by decide +kernel
theorem d_Md_meets_18 : decode prog_10_method_38_code 18 = .ok (.iload_n 2, 1) := by decide +kernel
theorem d_Md_meets_19 : decode prog_10_method_38_code 19 = .ok (.invokevirtual 173, 3) := by decide +kernel
theorem d_Md_meets_22 : decode prog_10_method_38_code 22 = .ok (.ifCond .eq 7, 3) := by decide +kernel
theorem d_Md_meets_25 : decode prog_10_method_38_code 25 = .ok (.iconst 1, 1) := by decide +kernel
theorem d_Md_meets_26 : decode prog_10_method_38_code 26 = .ok (.goto 4, 3) := by decide +kernel
theorem d_Md_meets_29 : decode prog_10_method_38_code 29 = .ok (.iconst 0, 1) := by decide +kernel
theorem d_Md_meets_30 : decode prog_10_method_38_code 30 = .ok (.ireturn, 1) := by decide +kernel
theorem d_Md_slot_0 : decode prog_10_method_37_code 0 = .ok (.iconst 4, 1) := by decide +kernel
theorem d_Md_slot_1 : decode prog_10_method_37_code 1 = .ok (.iload_n 1, 1) := by decide +kernel
theorem d_Md_slot_2 : decode prog_10_method_37_code 2 = .ok (.imul, 1) := by decide +kernel
theorem d_Md_slot_3 : decode prog_10_method_37_code 3 = .ok (.aload_n 0, 1) := by decide +kernel
theorem d_Md_slot_4 : decode prog_10_method_37_code 4 = .ok (.getfield 41, 3) := by decide +kernel
theorem d_Md_slot_7 : decode prog_10_method_37_code 7 = .ok (.iload_n 1, 1) := by decide +kernel
theorem d_Md_slot_8 : decode prog_10_method_37_code 8 = .ok (.iaload, 1) := by decide +kernel
theorem d_Md_slot_9 : decode prog_10_method_37_code 9 = .ok (.iadd, 1) := by decide +kernel
theorem d_Md_slot_10 : decode prog_10_method_37_code 10 = .ok (.ireturn, 1) := by decide +kernel
theorem d_Md_releaseGood_0 : decode prog_10_method_39_code 0 = .ok (.aload_n 0, 1) := by decide +kernel
theorem d_Md_releaseGood_1 : decode prog_10_method_39_code 1 = .ok (.iload_n 1, 1) := by decide +kernel
theorem d_Md_releaseGood_2 : decode prog_10_method_39_code 2 = .ok (.invokevirtual 176, 3) := by decide +kernel
theorem d_Md_releaseGood_5 : decode prog_10_method_39_code 5 = .ok (.istore_n 2, 1) := by decide +kernel
theorem d_Md_releaseGood_6 : decode prog_10_method_39_code 6 = .ok (.aload_n 0, 1) := by decide +kernel
theorem d_Md_releaseGood_7 : decode prog_10_method_39_code 7 = .ok (.getfield 19, 3) := by decide +kernel
theorem d_Md_releaseGood_10 : decode prog_10_method_39_code 10 = .ok (.iload_n 2, 1) := by decide +kernel
theorem d_Md_releaseGood_11 : decode prog_10_method_39_code 11 = .ok (.baload, 1) := by decide +kernel
theorem d_Md_releaseGood_12 : decode prog_10_method_39_code 12 = .ok (.ifCond .ne 24, 3) := by decide +kernel
theorem d_Md_releaseGood_15 : decode prog_10_method_39_code 15 = .ok (.aload_n 0, 1) := by decide +kernel
theorem d_Md_releaseGood_16 : decode prog_10_method_39_code 16 = .ok (.getfield 23, 3) := by decide +kernel
theorem d_Md_releaseGood_19 : decode prog_10_method_39_code 19 = .ok (.iload_n 2, 1) := by decide +kernel
theorem d_Md_releaseGood_20 : decode prog_10_method_39_code 20 = .ok (.baload, 1) := by decide +kernel
theorem d_Md_releaseGood_21 : decode prog_10_method_39_code 21 = .ok (.ifCond .eq 17, 3) := by decide +kernel
theorem d_Md_releaseGood_24 : decode prog_10_method_39_code 24 = .ok (.aload_n 0, 1) := by decide +kernel
theorem d_Md_releaseGood_25 : decode prog_10_method_39_code 25 = .ok (.iconst 1, 1) := by decide +kernel
theorem d_Md_releaseGood_26 : decode prog_10_method_39_code 26 = .ok (.bipush 30, 2) := by decide +kernel
theorem d_Md_releaseGood_28 : decode prog_10_method_39_code 28 = .ok (.iload_n 2, 1) := by decide +kernel
theorem d_Md_releaseGood_29 : decode prog_10_method_39_code 29 = .ok (.iadd, 1) := by decide +kernel
theorem d_Md_releaseGood_30 : decode prog_10_method_39_code 30 = .ok (.invokevirtual 173, 3) := by decide +kernel
theorem d_Md_releaseGood_33 : decode prog_10_method_39_code 33 = .ok (.ifCond .ne 5, 3) := by decide +kernel
theorem d_Md_releaseGood_36 : decode prog_10_method_39_code 36 = .ok (.iconst 0, 1) := by decide +kernel
theorem d_Md_releaseGood_37 : decode prog_10_method_39_code 37 = .ok (.ireturn, 1) := by decide +kernel
theorem d_Md_releaseGood_38 : decode prog_10_method_39_code 38 = .ok (.iconst 3, 1) := by decide +kernel
theorem d_Md_releaseGood_39 : decode prog_10_method_39_code 39 = .ok (.iload_n 2, 1) := by decide +kernel
theorem d_Md_releaseGood_40 : decode prog_10_method_39_code 40 = .ok (.imul, 1) := by decide +kernel
theorem d_Md_releaseGood_41 : decode prog_10_method_39_code 41 = .ok (.istore_n 3, 1) := by decide +kernel
theorem d_Md_releaseGood_42 : decode prog_10_method_39_code 42 = .ok (.iload_n 3, 1) := by decide +kernel
theorem d_Md_releaseGood_43 : decode prog_10_method_39_code 43 = .ok (.iconst 3, 1) := by decide +kernel
theorem d_Md_releaseGood_44 : decode prog_10_method_39_code 44 = .ok (.iload_n 2, 1) := by decide +kernel
theorem d_Md_releaseGood_45 : decode prog_10_method_39_code 45 = .ok (.imul, 1) := by decide +kernel
theorem d_Md_releaseGood_46 : decode prog_10_method_39_code 46 = .ok (.aload_n 0, 1) := by decide +kernel
theorem d_Md_releaseGood_47 : decode prog_10_method_39_code 47 = .ok (.getfield 26, 3) := by decide +kernel
theorem d_Md_releaseGood_50 : decode prog_10_method_39_code 50 = .ok (.iload_n 2, 1) := by decide +kernel
theorem d_Md_releaseGood_51 : decode prog_10_method_39_code 51 = .ok (.iaload, 1) := by decide +kernel
theorem d_Md_releaseGood_52 : decode prog_10_method_39_code 52 = .ok (.iadd, 1) := by decide +kernel
theorem d_Md_releaseGood_53 : decode prog_10_method_39_code 53 = .ok (.if_icmp .ge 54, 3) := by decide +kernel
theorem d_Md_releaseGood_56 : decode prog_10_method_39_code 56 = .ok (.aload_n 0, 1) := by decide +kernel
theorem d_Md_releaseGood_57 : decode prog_10_method_39_code 57 = .ok (.getfield 29, 3) := by decide +kernel
theorem d_Md_releaseGood_60 : decode prog_10_method_39_code 60 = .ok (.iload_n 3, 1) := by decide +kernel
theorem d_Md_releaseGood_61 : decode prog_10_method_39_code 61 = .ok (.iaload, 1) := by decide +kernel
theorem d_Md_releaseGood_62 : decode prog_10_method_39_code 62 = .ok (.istore 4, 2) := by decide +kernel
theorem d_Md_releaseGood_64 : decode prog_10_method_39_code 64 = .ok (.aload_n 0, 1) := by decide +kernel
theorem d_Md_releaseGood_65 : decode prog_10_method_39_code 65 = .ok (.getfield 32, 3) := by decide +kernel
theorem d_Md_releaseGood_68 : decode prog_10_method_39_code 68 = .ok (.iload_n 3, 1) := by decide +kernel
theorem d_Md_releaseGood_69 : decode prog_10_method_39_code 69 = .ok (.baload, 1) := by decide +kernel
theorem d_Md_releaseGood_70 : decode prog_10_method_39_code 70 = .ok (.ifCond .eq 16, 3) := by decide +kernel
theorem d_Md_releaseGood_73 : decode prog_10_method_39_code 73 = .ok (.aload_n 0, 1) := by decide +kernel
theorem d_Md_releaseGood_74 : decode prog_10_method_39_code 74 = .ok (.getfield 41, 3) := by decide +kernel
theorem d_Md_releaseGood_77 : decode prog_10_method_39_code 77 = .ok (.iload 4, 2) := by decide +kernel
theorem d_Md_releaseGood_79 : decode prog_10_method_39_code 79 = .ok (.iaload, 1) := by decide +kernel
theorem d_Md_releaseGood_80 : decode prog_10_method_39_code 80 = .ok (.ifCond .ge 6, 3) := by decide +kernel
theorem d_Md_releaseGood_83 : decode prog_10_method_39_code 83 = .ok (.goto 18, 3) := by decide +kernel
theorem d_Md_releaseGood_86 : decode prog_10_method_39_code 86 = .ok (.aload_n 0, 1) := by decide +kernel
theorem d_Md_releaseGood_87 : decode prog_10_method_39_code 87 = .ok (.iload 4, 2) := by decide +kernel
theorem d_Md_releaseGood_89 : decode prog_10_method_39_code 89 = .ok (.bipush 54, 2) := by decide +kernel
theorem d_Md_releaseGood_91 : decode prog_10_method_39_code 91 = .ok (.iload_n 3, 1) := by decide +kernel
theorem d_Md_releaseGood_92 : decode prog_10_method_39_code 92 = .ok (.iadd, 1) := by decide +kernel
theorem d_Md_releaseGood_93 : decode prog_10_method_39_code 93 = .ok (.invokevirtual 179, 3) := by decide +kernel
theorem d_Md_releaseGood_96 : decode prog_10_method_39_code 96 = .ok (.ifCond .ne 5, 3) := by decide +kernel
theorem d_Md_releaseGood_99 : decode prog_10_method_39_code 99 = .ok (.iconst 0, 1) := by decide +kernel
theorem d_Md_releaseGood_100 : decode prog_10_method_39_code 100 = .ok (.ireturn, 1) := by decide +kernel
theorem d_Md_releaseGood_101 : decode prog_10_method_39_code 101 = .ok (.iinc 3 1, 3) := by decide +kernel
theorem d_Md_releaseGood_104 : decode prog_10_method_39_code 104 = .ok (.goto (-62), 3) := by decide +kernel
theorem d_Md_releaseGood_107 : decode prog_10_method_39_code 107 = .ok (.iconst 1, 1) := by decide +kernel
theorem d_Md_releaseGood_108 : decode prog_10_method_39_code 108 = .ok (.ireturn, 1) := by decide +kernel
theorem d_Md_allLed_0 : decode prog_10_method_40_code 0 = .ok (.iconst 0, 1) := by decide +kernel
theorem d_Md_allLed_1 : decode prog_10_method_40_code 1 = .ok (.istore_n 1, 1) := by decide +kernel
theorem d_Md_allLed_2 : decode prog_10_method_40_code 2 = .ok (.iload_n 1, 1) := by decide +kernel
theorem d_Md_allLed_3 : decode prog_10_method_40_code 3 = .ok (.bipush 6, 2) := by decide +kernel
theorem d_Md_allLed_5 : decode prog_10_method_40_code 5 = .ok (.if_icmp .ge 16, 3) := by decide +kernel
theorem d_Md_allLed_8 : decode prog_10_method_40_code 8 = .ok (.aload_n 0, 1) := by decide +kernel
theorem d_Md_allLed_9 : decode prog_10_method_40_code 9 = .ok (.getfield 50, 3) := by decide +kernel
theorem d_Md_allLed_12 : decode prog_10_method_40_code 12 = .ok (.iload_n 1, 1) := by decide +kernel
theorem d_Md_allLed_13 : decode prog_10_method_40_code 13 = .ok (.iconst 0, 1) := by decide +kernel
theorem d_Md_allLed_14 : decode prog_10_method_40_code 14 = .ok (.bastore, 1) := by decide +kernel
theorem d_Md_allLed_15 : decode prog_10_method_40_code 15 = .ok (.iinc 1 1, 3) := by decide +kernel
theorem d_Md_allLed_18 : decode prog_10_method_40_code 18 = .ok (.goto (-16), 3) := by decide +kernel
theorem d_Md_allLed_21 : decode prog_10_method_40_code 21 = .ok (.iconst 0, 1) := by decide +kernel
theorem d_Md_allLed_22 : decode prog_10_method_40_code 22 = .ok (.istore_n 1, 1) := by decide +kernel
theorem d_Md_allLed_23 : decode prog_10_method_40_code 23 = .ok (.iload_n 1, 1) := by decide +kernel
theorem d_Md_allLed_24 : decode prog_10_method_40_code 24 = .ok (.aload_n 0, 1) := by decide +kernel
theorem d_Md_allLed_25 : decode prog_10_method_40_code 25 = .ok (.getfield 167, 3) := by decide +kernel
theorem d_Md_allLed_28 : decode prog_10_method_40_code 28 = .ok (.if_icmp .ge 30, 3) := by decide +kernel
theorem d_Md_allLed_31 : decode prog_10_method_40_code 31 = .ok (.aload_n 0, 1) := by decide +kernel
theorem d_Md_allLed_32 : decode prog_10_method_40_code 32 = .ok (.getfield 38, 3) := by decide +kernel
theorem d_Md_allLed_35 : decode prog_10_method_40_code 35 = .ok (.iload_n 1, 1) := by decide +kernel
theorem d_Md_allLed_36 : decode prog_10_method_40_code 36 = .ok (.baload, 1) := by decide +kernel
theorem d_Md_allLed_37 : decode prog_10_method_40_code 37 = .ok (.ifCond .eq 15, 3) := by decide +kernel
theorem d_Md_allLed_40 : decode prog_10_method_40_code 40 = .ok (.aload_n 0, 1) := by decide +kernel
theorem d_Md_allLed_41 : decode prog_10_method_40_code 41 = .ok (.getfield 50, 3) := by decide +kernel
theorem d_Md_allLed_44 : decode prog_10_method_40_code 44 = .ok (.aload_n 0, 1) := by decide +kernel
theorem d_Md_allLed_45 : decode prog_10_method_40_code 45 = .ok (.getfield 35, 3) := by decide +kernel
theorem d_Md_allLed_48 : decode prog_10_method_40_code 48 = .ok (.iload_n 1, 1) := by decide +kernel
theorem d_Md_allLed_49 : decode prog_10_method_40_code 49 = .ok (.iaload, 1) := by decide +kernel
theorem d_Md_allLed_50 : decode prog_10_method_40_code 50 = .ok (.iconst 1, 1) := by decide +kernel
theorem d_Md_allLed_51 : decode prog_10_method_40_code 51 = .ok (.bastore, 1) := by decide +kernel
theorem d_Md_allLed_52 : decode prog_10_method_40_code 52 = .ok (.iinc 1 1, 3) := by decide +kernel
theorem d_Md_allLed_55 : decode prog_10_method_40_code 55 = .ok (.goto (-32), 3) := by decide +kernel
theorem d_Md_allLed_58 : decode prog_10_method_40_code 58 = .ok (.iconst 0, 1) := by decide +kernel
theorem d_Md_allLed_59 : decode prog_10_method_40_code 59 = .ok (.istore_n 1, 1) := by decide +kernel
theorem d_Md_allLed_60 : decode prog_10_method_40_code 60 = .ok (.iload_n 1, 1) := by decide +kernel
theorem d_Md_allLed_61 : decode prog_10_method_40_code 61 = .ok (.bipush 108, 2) := by decide +kernel
theorem d_Md_allLed_63 : decode prog_10_method_40_code 63 = .ok (.if_icmp .ge 86, 3) := by decide +kernel
theorem d_Md_allLed_66 : decode prog_10_method_40_code 66 = .ok (.iload_n 1, 1) := by decide +kernel
theorem d_Md_allLed_67 : decode prog_10_method_40_code 67 = .ok (.iconst 3, 1) := by decide +kernel
theorem d_Md_allLed_68 : decode prog_10_method_40_code 68 = .ok (.idiv, 1) := by decide +kernel
theorem d_Md_allLed_69 : decode prog_10_method_40_code 69 = .ok (.bipush 6, 2) := by decide +kernel
theorem d_Md_allLed_71 : decode prog_10_method_40_code 71 = .ok (.irem, 1) := by decide +kernel
theorem d_Md_allLed_72 : decode prog_10_method_40_code 72 = .ok (.istore_n 2, 1) := by decide +kernel
theorem d_Md_allLed_73 : decode prog_10_method_40_code 73 = .ok (.aload_n 0, 1) := by decide +kernel
theorem d_Md_allLed_74 : decode prog_10_method_40_code 74 = .ok (.getfield 50, 3) := by decide +kernel
theorem d_Md_allLed_77 : decode prog_10_method_40_code 77 = .ok (.iload_n 2, 1) := by decide +kernel
theorem d_Md_allLed_78 : decode prog_10_method_40_code 78 = .ok (.baload, 1) := by decide +kernel
theorem d_Md_allLed_79 : decode prog_10_method_40_code 79 = .ok (.ifCond .eq 64, 3) := by decide +kernel
theorem d_Md_allLed_82 : decode prog_10_method_40_code 82 = .ok (.aload_n 0, 1) := by decide +kernel
theorem d_Md_allLed_83 : decode prog_10_method_40_code 83 = .ok (.getfield 41, 3) := by decide +kernel
theorem d_Md_allLed_86 : decode prog_10_method_40_code 86 = .ok (.iload_n 2, 1) := by decide +kernel
theorem d_Md_allLed_87 : decode prog_10_method_40_code 87 = .ok (.iaload, 1) := by decide +kernel
theorem d_Md_allLed_88 : decode prog_10_method_40_code 88 = .ok (.ifCond .lt 55, 3) := by decide +kernel
theorem d_Md_allLed_91 : decode prog_10_method_40_code 91 = .ok (.iload_n 1, 1) := by decide +kernel
theorem d_Md_allLed_92 : decode prog_10_method_40_code 92 = .ok (.iconst 3, 1) := by decide +kernel
theorem d_Md_allLed_93 : decode prog_10_method_40_code 93 = .ok (.irem, 1) := by decide +kernel
theorem d_Md_allLed_94 : decode prog_10_method_40_code 94 = .ok (.aload_n 0, 1) := by decide +kernel
theorem d_Md_allLed_95 : decode prog_10_method_40_code 95 = .ok (.getfield 26, 3) := by decide +kernel
theorem d_Md_allLed_98 : decode prog_10_method_40_code 98 = .ok (.aload_n 0, 1) := by decide +kernel
theorem d_Md_allLed_99 : decode prog_10_method_40_code 99 = .ok (.iload_n 2, 1) := by decide +kernel
theorem d_Md_allLed_100 : decode prog_10_method_40_code 100 = .ok (.invokevirtual 176, 3) := by decide +kernel
theorem d_Md_allLed_103 : decode prog_10_method_40_code 103 = .ok (.iaload, 1) := by decide +kernel
theorem d_Md_allLed_104 : decode prog_10_method_40_code 104 = .ok (.if_icmp .lt 6, 3) := by decide +kernel
theorem d_Md_allLed_107 : decode prog_10_method_40_code 107 = .ok (.goto 36, 3) := by decide +kernel
theorem d_Md_allLed_110 : decode prog_10_method_40_code 110 = .ok (.iconst 3, 1) := by decide +kernel
theorem d_Md_allLed_111 : decode prog_10_method_40_code 111 = .ok (.aload_n 0, 1) := by decide +kernel
theorem d_Md_allLed_112 : decode prog_10_method_40_code 112 = .ok (.iload_n 2, 1) := by decide +kernel
theorem d_Md_allLed_113 : decode prog_10_method_40_code 113 = .ok (.invokevirtual 176, 3) := by decide +kernel
theorem d_Md_allLed_116 : decode prog_10_method_40_code 116 = .ok (.imul, 1) := by decide +kernel
theorem d_Md_allLed_117 : decode prog_10_method_40_code 117 = .ok (.iload_n 1, 1) := by decide +kernel
theorem d_Md_allLed_118 : decode prog_10_method_40_code 118 = .ok (.iconst 3, 1) := by decide +kernel
theorem d_Md_allLed_119 : decode prog_10_method_40_code 119 = .ok (.irem, 1) := by decide +kernel
theorem d_Md_allLed_120 : decode prog_10_method_40_code 120 = .ok (.iadd, 1) := by decide +kernel
theorem d_Md_allLed_121 : decode prog_10_method_40_code 121 = .ok (.istore_n 3, 1) := by decide +kernel
theorem d_Md_allLed_122 : decode prog_10_method_40_code 122 = .ok (.aload_n 0, 1) := by decide +kernel
theorem d_Md_allLed_123 : decode prog_10_method_40_code 123 = .ok (.getfield 32, 3) := by decide +kernel
theorem d_Md_allLed_126 : decode prog_10_method_40_code 126 = .ok (.iload_n 3, 1) := by decide +kernel
theorem d_Md_allLed_127 : decode prog_10_method_40_code 127 = .ok (.baload, 1) := by decide +kernel
theorem d_Md_allLed_128 : decode prog_10_method_40_code 128 = .ok (.ifCond .ne 15, 3) := by decide +kernel
theorem d_Md_allLed_131 : decode prog_10_method_40_code 131 = .ok (.aload_n 0, 1) := by decide +kernel
theorem d_Md_allLed_132 : decode prog_10_method_40_code 132 = .ok (.getfield 50, 3) := by decide +kernel
theorem d_Md_allLed_135 : decode prog_10_method_40_code 135 = .ok (.aload_n 0, 1) := by decide +kernel
theorem d_Md_allLed_136 : decode prog_10_method_40_code 136 = .ok (.getfield 29, 3) := by decide +kernel
theorem d_Md_allLed_139 : decode prog_10_method_40_code 139 = .ok (.iload_n 3, 1) := by decide +kernel
theorem d_Md_allLed_140 : decode prog_10_method_40_code 140 = .ok (.iaload, 1) := by decide +kernel
theorem d_Md_allLed_141 : decode prog_10_method_40_code 141 = .ok (.iconst 1, 1) := by decide +kernel
theorem d_Md_allLed_142 : decode prog_10_method_40_code 142 = .ok (.bastore, 1) := by decide +kernel
theorem d_Md_allLed_143 : decode prog_10_method_40_code 143 = .ok (.iinc 1 1, 3) := by decide +kernel
theorem d_Md_allLed_146 : decode prog_10_method_40_code 146 = .ok (.goto (-86), 3) := by decide +kernel
theorem d_Md_allLed_149 : decode prog_10_method_40_code 149 = .ok (.iconst 0, 1) := by decide +kernel
theorem d_Md_allLed_150 : decode prog_10_method_40_code 150 = .ok (.istore_n 1, 1) := by decide +kernel
theorem d_Md_allLed_151 : decode prog_10_method_40_code 151 = .ok (.iload_n 1, 1) := by decide +kernel
theorem d_Md_allLed_152 : decode prog_10_method_40_code 152 = .ok (.bipush 6, 2) := by decide +kernel
theorem d_Md_allLed_154 : decode prog_10_method_40_code 154 = .ok (.if_icmp .ge 29, 3) := by decide +kernel
theorem d_Md_allLed_157 : decode prog_10_method_40_code 157 = .ok (.aload_n 0, 1) := by decide +kernel
theorem d_Md_allLed_158 : decode prog_10_method_40_code 158 = .ok (.getfield 41, 3) := by decide +kernel
theorem d_Md_allLed_161 : decode prog_10_method_40_code 161 = .ok (.iload_n 1, 1) := by decide +kernel
theorem d_Md_allLed_162 : decode prog_10_method_40_code 162 = .ok (.iaload, 1) := by decide +kernel
theorem d_Md_allLed_163 : decode prog_10_method_40_code 163 = .ok (.ifCond .lt 14, 3) := by decide +kernel
theorem d_Md_allLed_166 : decode prog_10_method_40_code 166 = .ok (.aload_n 0, 1) := by decide +kernel
theorem d_Md_allLed_167 : decode prog_10_method_40_code 167 = .ok (.getfield 50, 3) := by decide +kernel
theorem d_Md_allLed_170 : decode prog_10_method_40_code 170 = .ok (.iload_n 1, 1) := by decide +kernel
theorem d_Md_allLed_171 : decode prog_10_method_40_code 171 = .ok (.baload, 1) := by decide +kernel
theorem d_Md_allLed_172 : decode prog_10_method_40_code 172 = .ok (.ifCond .ne 5, 3) := by decide +kernel
theorem d_Md_allLed_175 : decode prog_10_method_40_code 175 = .ok (.iconst 0, 1) := by decide +kernel
theorem d_Md_allLed_176 : decode prog_10_method_40_code 176 = .ok (.ireturn, 1) := by decide +kernel
theorem d_Md_allLed_177 : decode prog_10_method_40_code 177 = .ok (.iinc 1 1, 3) := by decide +kernel
theorem d_Md_allLed_180 : decode prog_10_method_40_code 180 = .ok (.goto (-29), 3) := by decide +kernel
theorem d_Md_allLed_183 : decode prog_10_method_40_code 183 = .ok (.iconst 1, 1) := by decide +kernel
theorem d_Md_allLed_184 : decode prog_10_method_40_code 184 = .ok (.ireturn, 1) := by decide +kernel
theorem d_Md_findBlame_0 : decode prog_10_method_43_code 0 = .ok (.iconst 0, 1) := by decide +kernel
theorem d_Md_findBlame_1 : decode prog_10_method_43_code 1 = .ok (.istore_n 1, 1) := by decide +kernel
theorem d_Md_findBlame_2 : decode prog_10_method_43_code 2 = .ok (.iload_n 1, 1) := by decide +kernel
theorem d_Md_findBlame_3 : decode prog_10_method_43_code 3 = .ok (.aload_n 0, 1) := by decide +kernel
theorem d_Md_findBlame_4 : decode prog_10_method_43_code 4 = .ok (.getfield 167, 3) := by decide +kernel
theorem d_Md_findBlame_7 : decode prog_10_method_43_code 7 = .ok (.if_icmp .ge 30, 3) := by decide +kernel
theorem d_Md_findBlame_10 : decode prog_10_method_43_code 10 = .ok (.aload_n 0, 1) := by decide +kernel
theorem d_Md_findBlame_11 : decode prog_10_method_43_code 11 = .ok (.getfield 38, 3) := by decide +kernel
theorem d_Md_findBlame_14 : decode prog_10_method_43_code 14 = .ok (.iload_n 1, 1) := by decide +kernel
theorem d_Md_findBlame_15 : decode prog_10_method_43_code 15 = .ok (.iconst 0, 1) := by decide +kernel
theorem d_Md_findBlame_16 : decode prog_10_method_43_code 16 = .ok (.bastore, 1) := by decide +kernel
theorem d_Md_findBlame_17 : decode prog_10_method_43_code 17 = .ok (.aload_n 0, 1) := by decide +kernel
theorem d_Md_findBlame_18 : decode prog_10_method_43_code 18 = .ok (.invokevirtual 195, 3) := by decide +kernel
theorem d_Md_findBlame_21 : decode prog_10_method_43_code 21 = .ok (.ifCond .eq 10, 3) := by decide +kernel
theorem d_Md_findBlame_24 : decode prog_10_method_43_code 24 = .ok (.aload_n 0, 1) := by decide +kernel
theorem d_Md_findBlame_25 : decode prog_10_method_43_code 25 = .ok (.getfield 38, 3) := by decide +kernel
theorem d_Md_findBlame_28 : decode prog_10_method_43_code 28 = .ok (.iload_n 1, 1) := by decide +kernel
theorem d_Md_findBlame_29 : decode prog_10_method_43_code 29 = .ok (.iconst 1, 1) := by decide +kernel
theorem d_Md_findBlame_30 : decode prog_10_method_43_code 30 = .ok (.bastore, 1) := by decide +kernel
theorem d_Md_findBlame_31 : decode prog_10_method_43_code 31 = .ok (.iinc 1 1, 3) := by decide +kernel
theorem d_Md_findBlame_34 : decode prog_10_method_43_code 34 = .ok (.goto (-32), 3) := by decide +kernel
theorem d_Md_findBlame_37 : decode prog_10_method_43_code 37 = .ok (.iconst 0, 1) := by decide +kernel
theorem d_Md_findBlame_38 : decode prog_10_method_43_code 38 = .ok (.istore_n 1, 1) := by decide +kernel
theorem d_Md_findBlame_39 : decode prog_10_method_43_code 39 = .ok (.iload_n 1, 1) := by decide +kernel
theorem d_Md_findBlame_40 : decode prog_10_method_43_code 40 = .ok (.iconst 4, 1) := by decide +kernel
theorem d_Md_findBlame_41 : decode prog_10_method_43_code 41 = .ok (.if_icmp .ge 37, 3) := by decide +kernel
theorem d_Md_findBlame_44 : decode prog_10_method_43_code 44 = .ok (.aload_n 0, 1) := by decide +kernel
theorem d_Md_findBlame_45 : decode prog_10_method_43_code 45 = .ok (.getfield 47, 3) := by decide +kernel
theorem d_Md_findBlame_48 : decode prog_10_method_43_code 48 = .ok (.iload_n 1, 1) := by decide +kernel
theorem d_Md_findBlame_49 : decode prog_10_method_43_code 49 = .ok (.iload_n 1, 1) := by decide +kernel
theorem d_Md_findBlame_50 : decode prog_10_method_43_code 50 = .ok (.aload_n 0, 1) := by decide +kernel
theorem d_Md_findBlame_51 : decode prog_10_method_43_code 51 = .ok (.getfield 167, 3) := by decide +kernel
theorem d_Md_findBlame_54 : decode prog_10_method_43_code 54 = .ok (.if_icmp .ge 16, 3) := by decide +kernel
theorem d_Md_findBlame_57 : decode prog_10_method_43_code 57 = .ok (.aload_n 0, 1) := by decide +kernel
theorem d_Md_findBlame_58 : decode prog_10_method_43_code 58 = .ok (.getfield 38, 3) := by decide +kernel
theorem d_Md_findBlame_61 : decode prog_10_method_43_code 61 = .ok (.iload_n 1, 1) := by decide +kernel
theorem d_Md_findBlame_62 : decode prog_10_method_43_code 62 = .ok (.baload, 1) := by decide +kernel
theorem d_Md_findBlame_63 : decode prog_10_method_43_code 63 = .ok (.ifCond .eq 7, 3) := by decide +kernel
theorem d_Md_findBlame_66 : decode prog_10_method_43_code 66 = .ok (.iconst 1, 1) := by decide +kernel
theorem d_Md_findBlame_67 : decode prog_10_method_43_code 67 = .ok (.goto 4, 3) := by decide +kernel
theorem d_Md_findBlame_70 : decode prog_10_method_43_code 70 = .ok (.iconst 0, 1) := by decide +kernel
theorem d_Md_findBlame_71 : decode prog_10_method_43_code 71 = .ok (.bastore, 1) := by decide +kernel
theorem d_Md_findBlame_72 : decode prog_10_method_43_code 72 = .ok (.iinc 1 1, 3) := by decide +kernel
theorem d_Md_findBlame_75 : decode prog_10_method_43_code 75 = .ok (.goto (-36), 3) := by decide +kernel
theorem d_Md_findBlame_78 : decode prog_10_method_43_code 78 = .ok (.return_, 1) := by decide +kernel
theorem d_Md_chosen_0 : decode prog_10_method_45_code 0 = .ok (.iload_n 1, 1) := by decide +kernel
theorem d_Md_chosen_1 : decode prog_10_method_45_code 1 = .ok (.iconst 0, 1) := by decide +kernel
theorem d_Md_chosen_2 : decode prog_10_method_45_code 2 = .ok (.iconst 5, 1) := by decide +kernel
theorem d_Md_chosen_3 : decode prog_10_method_45_code 3 = .ok (.invokestatic 56, 3) := by decide +kernel
theorem d_Md_chosen_6 : decode prog_10_method_45_code 6 = .ok (.ifCond .ne 5, 3) := by decide +kernel
theorem d_Md_chosen_9 : decode prog_10_method_45_code 9 = .ok (.iconst (-1), 1) := by decide +kernel
theorem d_Md_chosen_10 : decode prog_10_method_45_code 10 = .ok (.ireturn, 1) := by decide +kernel
theorem d_Md_chosen_11 : decode prog_10_method_45_code 11 = .ok (.aload_n 0, 1) := by decide +kernel
theorem d_Md_chosen_12 : decode prog_10_method_45_code 12 = .ok (.getfield 198, 3) := by decide +kernel
theorem d_Md_chosen_15 : decode prog_10_method_45_code 15 = .ok (.ifCond .eq 21, 3) := by decide +kernel
theorem d_Md_chosen_18 : decode prog_10_method_45_code 18 = .ok (.aload_n 0, 1) := by decide +kernel
theorem d_Md_chosen_19 : decode prog_10_method_45_code 19 = .ok (.getfield 44, 3) := by decide +kernel
theorem d_Md_chosen_22 : decode prog_10_method_45_code 22 = .ok (.iload_n 1, 1) := by decide +kernel
theorem d_Md_chosen_23 : decode prog_10_method_45_code 23 = .ok (.iaload, 1) := by decide +kernel
theorem d_Md_chosen_24 : decode prog_10_method_45_code 24 = .ok (.ifCond .lt 12, 3) := by decide +kernel
theorem d_Md_chosen_27 : decode prog_10_method_45_code 27 = .ok (.aload_n 0, 1) := by decide +kernel
theorem d_Md_chosen_28 : decode prog_10_method_45_code 28 = .ok (.getfield 44, 3) := by decide +kernel
theorem d_Md_chosen_31 : decode prog_10_method_45_code 31 = .ok (.iload_n 1, 1) := by decide +kernel
theorem d_Md_chosen_32 : decode prog_10_method_45_code 32 = .ok (.iaload, 1) := by decide +kernel
theorem d_Md_chosen_33 : decode prog_10_method_45_code 33 = .ok (.goto 5, 3) := by decide +kernel
theorem d_Md_chosen_36 : decode prog_10_method_45_code 36 = .ok (.bipush (-4), 2) := by decide +kernel
theorem d_Md_chosen_38 : decode prog_10_method_45_code 38 = .ok (.ireturn, 1) := by decide +kernel
theorem d_Md_blamed_0 : decode prog_10_method_46_code 0 = .ok (.aload_n 0, 1) := by decide +kernel
theorem d_Md_blamed_1 : decode prog_10_method_46_code 1 = .ok (.getfield 202, 3) := by decide +kernel
theorem d_Md_blamed_4 : decode prog_10_method_46_code 4 = .ok (.ifCond .eq 25, 3) := by decide +kernel
theorem d_Md_blamed_7 : decode prog_10_method_46_code 7 = .ok (.iload_n 1, 1) := by decide +kernel
theorem d_Md_blamed_8 : decode prog_10_method_46_code 8 = .ok (.iconst 0, 1) := by decide +kernel
theorem d_Md_blamed_9 : decode prog_10_method_46_code 9 = .ok (.iconst 3, 1) := by decide +kernel
theorem d_Md_blamed_10 : decode prog_10_method_46_code 10 = .ok (.invokestatic 56, 3) := by decide +kernel
theorem d_Md_blamed_13 : decode prog_10_method_46_code 13 = .ok (.ifCond .eq 16, 3) := by decide +kernel
theorem d_Md_blamed_16 : decode prog_10_method_46_code 16 = .ok (.aload_n 0, 1) := by decide +kernel
theorem d_Md_blamed_17 : decode prog_10_method_46_code 17 = .ok (.getfield 47, 3) := by decide +kernel
theorem d_Md_blamed_20 : decode prog_10_method_46_code 20 = .ok (.iload_n 1, 1) := by decide +kernel
theorem d_Md_blamed_21 : decode prog_10_method_46_code 21 = .ok (.baload, 1) := by decide +kernel
theorem d_Md_blamed_22 : decode prog_10_method_46_code 22 = .ok (.ifCond .eq 7, 3) := by decide +kernel
theorem d_Md_blamed_25 : decode prog_10_method_46_code 25 = .ok (.iconst 1, 1) := by decide +kernel
theorem d_Md_blamed_26 : decode prog_10_method_46_code 26 = .ok (.goto 4, 3) := by decide +kernel
theorem d_Md_blamed_29 : decode prog_10_method_46_code 29 = .ok (.iconst 0, 1) := by decide +kernel
theorem d_Md_blamed_30 : decode prog_10_method_46_code 30 = .ok (.ireturn, 1) := by decide +kernel
theorem d_Md_unmet_0 : decode prog_10_method_47_code 0 = .ok (.aload_n 0, 1) := by decide +kernel
theorem d_Md_unmet_1 : decode prog_10_method_47_code 1 = .ok (.getfield 198, 3) := by decide +kernel
theorem d_Md_unmet_4 : decode prog_10_method_47_code 4 = .ok (.ifCond .ne 6, 3) := by decide +kernel
theorem d_Md_unmet_7 : decode prog_10_method_47_code 7 = .ok (.bipush (-4), 2) := by decide +kernel
theorem d_Md_unmet_9 : decode prog_10_method_47_code 9 = .ok (.ireturn, 1) := by decide +kernel
theorem d_Md_unmet_10 : decode prog_10_method_47_code 10 = .ok (.iconst 0, 1) := by decide +kernel
theorem d_Md_unmet_11 : decode prog_10_method_47_code 11 = .ok (.istore_n 1, 1) := by decide +kernel
theorem d_Md_unmet_12 : decode prog_10_method_47_code 12 = .ok (.iconst 0, 1) := by decide +kernel
theorem d_Md_unmet_13 : decode prog_10_method_47_code 13 = .ok (.istore_n 2, 1) := by decide +kernel
theorem d_Md_unmet_14 : decode prog_10_method_47_code 14 = .ok (.iload_n 2, 1) := by decide +kernel
theorem d_Md_unmet_15 : decode prog_10_method_47_code 15 = .ok (.bipush 6, 2) := by decide +kernel
theorem d_Md_unmet_17 : decode prog_10_method_47_code 17 = .ok (.if_icmp .ge 21, 3) := by decide +kernel
theorem d_Md_unmet_20 : decode prog_10_method_47_code 20 = .ok (.aload_n 0, 1) := by decide +kernel
theorem d_Md_unmet_21 : decode prog_10_method_47_code 21 = .ok (.getfield 41, 3) := by decide +kernel
theorem d_Md_unmet_24 : decode prog_10_method_47_code 24 = .ok (.iload_n 2, 1) := by decide +kernel
theorem d_Md_unmet_25 : decode prog_10_method_47_code 25 = .ok (.aload_n 0, 1) := by decide +kernel
theorem d_Md_unmet_26 : decode prog_10_method_47_code 26 = .ok (.getfield 44, 3) := by decide +kernel
theorem d_Md_unmet_29 : decode prog_10_method_47_code 29 = .ok (.iload_n 2, 1) := by decide +kernel
theorem d_Md_unmet_30 : decode prog_10_method_47_code 30 = .ok (.iaload, 1) := by decide +kernel
theorem d_Md_unmet_31 : decode prog_10_method_47_code 31 = .ok (.iastore, 1) := by decide +kernel
theorem d_Md_unmet_32 : decode prog_10_method_47_code 32 = .ok (.iinc 2 1, 3) := by decide +kernel
theorem d_Md_unmet_35 : decode prog_10_method_47_code 35 = .ok (.goto (-21), 3) := by decide +kernel
theorem d_Md_unmet_38 : decode prog_10_method_47_code 38 = .ok (.iconst 0, 1) := by decide +kernel
theorem d_Md_unmet_39 : decode prog_10_method_47_code 39 = .ok (.istore_n 2, 1) := by decide +kernel
theorem d_Md_unmet_40 : decode prog_10_method_47_code 40 = .ok (.iload_n 2, 1) := by decide +kernel
theorem d_Md_unmet_41 : decode prog_10_method_47_code 41 = .ok (.aload_n 0, 1) := by decide +kernel
theorem d_Md_unmet_42 : decode prog_10_method_47_code 42 = .ok (.getfield 167, 3) := by decide +kernel
theorem d_Md_unmet_45 : decode prog_10_method_47_code 45 = .ok (.if_icmp .ge 28, 3) := by decide +kernel
theorem d_Md_unmet_48 : decode prog_10_method_47_code 48 = .ok (.aload_n 0, 1) := by decide +kernel
theorem d_Md_unmet_49 : decode prog_10_method_47_code 49 = .ok (.aload_n 0, 1) := by decide +kernel
theorem d_Md_unmet_50 : decode prog_10_method_47_code 50 = .ok (.getfield 35, 3) := by decide +kernel
theorem d_Md_unmet_53 : decode prog_10_method_47_code 53 = .ok (.iload_n 2, 1) := by decide +kernel
theorem d_Md_unmet_54 : decode prog_10_method_47_code 54 = .ok (.iaload, 1) := by decide +kernel
theorem d_Md_unmet_55 : decode prog_10_method_47_code 55 = .ok (.iconst 2, 1) := by decide +kernel
theorem d_Md_unmet_56 : decode prog_10_method_47_code 56 = .ok (.iload_n 2, 1) := by decide +kernel
theorem d_Md_unmet_57 : decode prog_10_method_47_code 57 = .ok (.iadd, 1) := by decide +kernel
theorem d_Md_unmet_58 : decode prog_10_method_47_code 58 = .ok (.invokevirtual 179, 3) := by decide +kernel
theorem d_Md_unmet_61 : decode prog_10_method_47_code 61 = .ok (.ifCond .ne 6, 3) := by decide +kernel
theorem d_Md_unmet_64 : decode prog_10_method_47_code 64 = .ok (.iinc 1 1, 3) := by decide +kernel
theorem d_Md_unmet_67 : decode prog_10_method_47_code 67 = .ok (.iinc 2 1, 3) := by decide +kernel
theorem d_Md_unmet_70 : decode prog_10_method_47_code 70 = .ok (.goto (-30), 3) := by decide +kernel
theorem d_Md_unmet_73 : decode prog_10_method_47_code 73 = .ok (.iload_n 1, 1) := by decide +kernel
theorem d_Md_unmet_74 : decode prog_10_method_47_code 74 = .ok (.ireturn, 1) := by decide +kernel
theorem d_Md_count_0 : decode prog_10_method_48_code 0 = .ok (.iconst 0, 1) := by decide +kernel
theorem d_Md_count_1 : decode prog_10_method_48_code 1 = .ok (.istore_n 2, 1) := by decide +kernel
theorem d_Md_count_2 : decode prog_10_method_48_code 2 = .ok (.iconst 0, 1) := by decide +kernel
theorem d_Md_count_3 : decode prog_10_method_48_code 3 = .ok (.istore_n 3, 1) := by decide +kernel
theorem d_Md_count_4 : decode prog_10_method_48_code 4 = .ok (.iconst 0, 1) := by decide +kernel
theorem d_Md_count_5 : decode prog_10_method_48_code 5 = .ok (.istore 4, 2) := by decide +kernel
theorem d_Md_count_7 : decode prog_10_method_48_code 7 = .ok (.iconst 0, 1) := by decide +kernel
theorem d_Md_count_8 : decode prog_10_method_48_code 8 = .ok (.istore 5, 2) := by decide +kernel
theorem d_Md_count_10 : decode prog_10_method_48_code 10 = .ok (.iload 5, 2) := by decide +kernel
theorem d_Md_count_12 : decode prog_10_method_48_code 12 = .ok (.bipush 24, 2) := by decide +kernel
theorem d_Md_count_14 : decode prog_10_method_48_code 14 = .ok (.if_icmp .ge 70, 3) := by decide +kernel
theorem d_Md_count_17 : decode prog_10_method_48_code 17 = .ok (.iload 5, 2) := by decide +kernel
theorem d_Md_count_19 : decode prog_10_method_48_code 19 = .ok (.iconst 4, 1) := by decide +kernel
theorem d_Md_count_20 : decode prog_10_method_48_code 20 = .ok (.irem, 1) := by decide +kernel
theorem d_Md_count_21 : decode prog_10_method_48_code 21 = .ok (.aload_n 0, 1) := by decide +kernel
theorem d_Md_count_22 : decode prog_10_method_48_code 22 = .ok (.getfield 16, 3) := by decide +kernel
theorem d_Md_count_25 : decode prog_10_method_48_code 25 = .ok (.iload 5, 2) := by decide +kernel
theorem d_Md_count_27 : decode prog_10_method_48_code 27 = .ok (.iconst 4, 1) := by decide +kernel
theorem d_Md_count_28 : decode prog_10_method_48_code 28 = .ok (.idiv, 1) := by decide +kernel
theorem d_Md_count_29 : decode prog_10_method_48_code 29 = .ok (.iaload, 1) := by decide +kernel
theorem d_Md_count_30 : decode prog_10_method_48_code 30 = .ok (.if_icmp .ge 7, 3) := by decide +kernel
theorem d_Md_count_33 : decode prog_10_method_48_code 33 = .ok (.iconst 1, 1) := by decide +kernel
theorem d_Md_count_34 : decode prog_10_method_48_code 34 = .ok (.goto 4, 3) := by decide +kernel
theorem d_Md_count_37 : decode prog_10_method_48_code 37 = .ok (.iconst 0, 1) := by decide +kernel
theorem d_Md_count_38 : decode prog_10_method_48_code 38 = .ok (.istore 6, 2) := by decide +kernel
theorem d_Md_count_40 : decode prog_10_method_48_code 40 = .ok (.iload 6, 2) := by decide +kernel
theorem d_Md_count_42 : decode prog_10_method_48_code 42 = .ok (.ifCond .eq 6, 3) := by decide +kernel
theorem d_Md_count_45 : decode prog_10_method_48_code 45 = .ok (.iinc 2 1, 3) := by decide +kernel
theorem d_Md_count_48 : decode prog_10_method_48_code 48 = .ok (.iload 6, 2) := by decide +kernel
theorem d_Md_count_50 : decode prog_10_method_48_code 50 = .ok (.ifCond .eq 16, 3) := by decide +kernel
theorem d_Md_count_53 : decode prog_10_method_48_code 53 = .ok (.aload_n 0, 1) := by decide +kernel
theorem d_Md_count_54 : decode prog_10_method_48_code 54 = .ok (.getfield 19, 3) := by decide +kernel
theorem d_Md_count_57 : decode prog_10_method_48_code 57 = .ok (.iload 5, 2) := by decide +kernel
theorem d_Md_count_59 : decode prog_10_method_48_code 59 = .ok (.baload, 1) := by decide +kernel
theorem d_Md_count_60 : decode prog_10_method_48_code 60 = .ok (.ifCond .eq 6, 3) := by decide +kernel
theorem d_Md_count_63 : decode prog_10_method_48_code 63 = .ok (.iinc 3 1, 3) := by decide +kernel
theorem d_Md_count_66 : decode prog_10_method_48_code 66 = .ok (.iload 4, 2) := by decide +kernel
theorem d_Md_count_68 : decode prog_10_method_48_code 68 = .ok (.aload_n 0, 1) := by decide +kernel
theorem d_Md_count_69 : decode prog_10_method_48_code 69 = .ok (.getfield 26, 3) := by decide +kernel
theorem d_Md_count_72 : decode prog_10_method_48_code 72 = .ok (.iload 5, 2) := by decide +kernel
theorem d_Md_count_74 : decode prog_10_method_48_code 74 = .ok (.iaload, 1) := by decide +kernel
theorem d_Md_count_75 : decode prog_10_method_48_code 75 = .ok (.iadd, 1) := by decide +kernel
theorem d_Md_count_76 : decode prog_10_method_48_code 76 = .ok (.istore 4, 2) := by decide +kernel
theorem d_Md_count_78 : decode prog_10_method_48_code 78 = .ok (.iinc 5 1, 3) := by decide +kernel
theorem d_Md_count_81 : decode prog_10_method_48_code 81 = .ok (.goto (-71), 3) := by decide +kernel
theorem d_Md_count_84 : decode prog_10_method_48_code 84 = .ok (.iload_n 1, 1) := by decide +kernel
theorem d_Md_count_85 : decode prog_10_method_48_code 85 = .ok (.iconst 0, 1) := by decide +kernel
theorem d_Md_count_86 : decode prog_10_method_48_code 86 = .ok (.iconst 1, 1) := by decide +kernel
theorem d_Md_count_87 : decode prog_10_method_48_code 87 = .ok (.invokestatic 56, 3) := by decide +kernel
theorem d_Md_count_90 : decode prog_10_method_48_code 90 = .ok (.ifCond .eq 21, 3) := by decide +kernel
theorem d_Md_count_93 : decode prog_10_method_48_code 93 = .ok (.iload_n 1, 1) := by decide +kernel
theorem d_Md_count_94 : decode prog_10_method_48_code 94 = .ok (.ifCond .ne 12, 3) := by decide +kernel
theorem d_Md_count_97 : decode prog_10_method_48_code 97 = .ok (.aload_n 0, 1) := by decide +kernel
theorem d_Md_count_98 : decode prog_10_method_48_code 98 = .ok (.getfield 13, 3) := by decide +kernel
theorem d_Md_count_101 : decode prog_10_method_48_code 101 = .ok (.iconst 0, 1) := by decide +kernel
theorem d_Md_count_102 : decode prog_10_method_48_code 102 = .ok (.iaload, 1) := by decide +kernel
theorem d_Md_count_103 : decode prog_10_method_48_code 103 = .ok (.goto 7, 3) := by decide +kernel
theorem d_Md_count_106 : decode prog_10_method_48_code 106 = .ok (.aload_n 0, 1) := by decide +kernel
theorem d_Md_count_107 : decode prog_10_method_48_code 107 = .ok (.getfield 167, 3) := by decide +kernel
theorem d_Md_count_110 : decode prog_10_method_48_code 110 = .ok (.ireturn, 1) := by decide +kernel
theorem d_Md_count_111 : decode prog_10_method_48_code 111 = .ok (.iload_n 1, 1) := by decide +kernel
theorem d_Md_count_112 : decode prog_10_method_48_code 112 = .ok (.iconst 2, 1) := by decide +kernel
theorem d_Md_count_113 : decode prog_10_method_48_code 113 = .ok (.iconst 3, 1) := by decide +kernel
theorem d_Md_count_114 : decode prog_10_method_48_code 114 = .ok (.invokestatic 56, 3) := by decide +kernel
theorem d_Md_count_117 : decode prog_10_method_48_code 117 = .ok (.ifCond .eq 14, 3) := by decide +kernel
theorem d_Md_count_120 : decode prog_10_method_48_code 120 = .ok (.iload_n 1, 1) := by decide +kernel
theorem d_Md_count_121 : decode prog_10_method_48_code 121 = .ok (.iconst 2, 1) := by decide +kernel
theorem d_Md_count_122 : decode prog_10_method_48_code 122 = .ok (.if_icmp .ne 7, 3) := by decide +kernel
theorem d_Md_count_125 : decode prog_10_method_48_code 125 = .ok (.iload_n 2, 1) := by decide +kernel
theorem d_Md_count_126 : decode prog_10_method_48_code 126 = .ok (.goto 4, 3) := by decide +kernel
theorem d_Md_count_129 : decode prog_10_method_48_code 129 = .ok (.iload_n 3, 1) := by decide +kernel
theorem d_Md_count_130 : decode prog_10_method_48_code 130 = .ok (.ireturn, 1) := by decide +kernel
theorem d_Md_count_131 : decode prog_10_method_48_code 131 = .ok (.iload_n 1, 1) := by decide +kernel
theorem d_Md_count_132 : decode prog_10_method_48_code 132 = .ok (.iconst 4, 1) := by decide +kernel
theorem d_Md_count_133 : decode prog_10_method_48_code 133 = .ok (.if_icmp .ne 8, 3) := by decide +kernel
theorem d_Md_count_136 : decode prog_10_method_48_code 136 = .ok (.iload 4, 2) := by decide +kernel
theorem d_Md_count_138 : decode prog_10_method_48_code 138 = .ok (.goto 4, 3) := by decide +kernel
theorem d_Md_count_141 : decode prog_10_method_48_code 141 = .ok (.iconst (-1), 1) := by decide +kernel
theorem d_Md_count_142 : decode prog_10_method_48_code 142 = .ok (.ireturn, 1) := by decide +kernel
