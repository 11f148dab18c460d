theorem d_Md_wordRank_250 : decode prog_10_method_15_code 250 = .ok (.invokevirtual 74, 3) := by decide +kernel
theorem d_Md_wordRank_253 : decode prog_10_method_15_code 253 = .ok (.invokestatic 60, 3) := by decide +kernel
theorem d_Md_wordRank_256 : decode prog_10_method_15_code 256 = .ok (.ifCond .eq 7, 3) := by decide +kernel
theorem d_Md_wordRank_259 : decode prog_10_method_15_code 259 = .ok (.iconst 1, 1) := by decide +kernel
theorem d_Md_wordRank_260 : decode prog_10_method_15_code 260 = .ok (.goto 4, 3) := by decide +kernel
theorem d_Md_wordRank_263 : decode prog_10_method_15_code 263 = .ok (.iconst 0, 1) := by decide +kernel
theorem d_Md_wordRank_264 : decode prog_10_method_15_code 264 = .ok (.istore 6, 2) := by decide +kernel
theorem d_Md_wordRank_266 : decode prog_10_method_15_code 266 = .ok (.iload 6, 2) := by decide +kernel
theorem d_Md_wordRank_268 : decode prog_10_method_15_code 268 = .ok (.ifCond .eq 10, 3) := by decide +kernel
theorem d_Md_wordRank_271 : decode prog_10_method_15_code 271 = .ok (.lload 4, 2) := by decide +kernel
theorem d_Md_wordRank_273 : decode prog_10_method_15_code 273 = .ok (.lconst 1, 1) := by decide +kernel
theorem d_Md_wordRank_274 : decode prog_10_method_15_code 274 = .ok (.lcmp, 1) := by decide +kernel
theorem d_Md_wordRank_275 : decode prog_10_method_15_code 275 = .ok (.ifCond .eq 17, 3) := by decide +kernel
theorem d_Md_wordRank_278 : decode prog_10_method_15_code 278 = .ok (.iload 6, 2) := by decide +kernel
theorem d_Md_wordRank_280 : decode prog_10_method_15_code 280 = .ok (.ifCond .eq 16, 3) := by decide +kernel
theorem d_Md_wordRank_283 : decode prog_10_method_15_code 283 = .ok (.lload 4, 2) := by decide +kernel
theorem d_Md_wordRank_285 : decode prog_10_method_15_code 285 = .ok (.ldc2_w 117, 3) := by decide +kernel
theorem d_Md_wordRank_288 : decode prog_10_method_15_code 288 = .ok (.lcmp, 1) := by decide +kernel
theorem d_Md_wordRank_289 : decode prog_10_method_15_code 289 = .ok (.ifCond .ne 7, 3) := by decide +kernel
theorem d_Md_wordRank_292 : decode prog_10_method_15_code 292 = .ok (.lload 4, 2) := by decide +kernel
theorem d_Md_wordRank_294 : decode prog_10_method_15_code 294 = .ok (.l2i, 1) := by decide +kernel
theorem d_Md_wordRank_295 : decode prog_10_method_15_code 295 = .ok (.ireturn, 1) := by decide +kernel
theorem d_Md_wordRank_296 : decode prog_10_method_15_code 296 = .ok (.iload 6, 2) := by decide +kernel
theorem d_Md_wordRank_298 : decode prog_10_method_15_code 298 = .ok (.ifCond .eq 16, 3) := by decide +kernel
theorem d_Md_wordRank_301 : decode prog_10_method_15_code 301 = .ok (.lload 4, 2) := by decide +kernel
theorem d_Md_wordRank_303 : decode prog_10_method_15_code 303 = .ok (.ldc2_w 119, 3) := by decide +kernel
theorem d_Md_wordRank_306 : decode prog_10_method_15_code 306 = .ok (.lcmp, 1) := by decide +kernel
theorem d_Md_wordRank_307 : decode prog_10_method_15_code 307 = .ok (.ifCond .ne 7, 3) := by decide +kernel
theorem d_Md_wordRank_310 : decode prog_10_method_15_code 310 = .ok (.iconst 3, 1) := by decide +kernel
theorem d_Md_wordRank_311 : decode prog_10_method_15_code 311 = .ok (.goto 5, 3) := by decide +kernel
theorem d_Md_wordRank_314 : decode prog_10_method_15_code 314 = .ok (.bipush 8, 2) := by decide +kernel
theorem d_Md_wordRank_316 : decode prog_10_method_15_code 316 = .ok (.ireturn, 1) := by decide +kernel
theorem d_Md_word_0 : decode prog_10_method_13_code 0 = .ok (.lconst 0, 1) := by decide +kernel
theorem d_Md_word_1 : decode prog_10_method_13_code 1 = .ok (.lstore 4, 2) := by decide +kernel
theorem d_Md_word_3 : decode prog_10_method_13_code 3 = .ok (.iload_n 2, 1) := by decide +kernel
theorem d_Md_word_4 : decode prog_10_method_13_code 4 = .ok (.istore 6, 2) := by decide +kernel
theorem d_Md_word_6 : decode prog_10_method_13_code 6 = .ok (.iload 6, 2) := by decide +kernel
theorem d_Md_word_8 : decode prog_10_method_13_code 8 = .ok (.iload_n 3, 1) := by decide +kernel
theorem d_Md_word_9 : decode prog_10_method_13_code 9 = .ok (.if_icmp .ge 44, 3) := by decide +kernel
theorem d_Md_word_12 : decode prog_10_method_13_code 12 = .ok (.iload_n 3, 1) := by decide +kernel
theorem d_Md_word_13 : decode prog_10_method_13_code 13 = .ok (.iload_n 2, 1) := by decide +kernel
theorem d_Md_word_14 : decode prog_10_method_13_code 14 = .ok (.isub, 1) := by decide +kernel
theorem d_Md_word_15 : decode prog_10_method_13_code 15 = .ok (.bipush 9, 2) := by decide +kernel
theorem d_Md_word_17 : decode prog_10_method_13_code 17 = .ok (.if_icmp .le 9, 3) := by decide +kernel
theorem d_Md_word_20 : decode prog_10_method_13_code 20 = .ok (.ldc2_w 85, 3) := by decide +kernel
theorem d_Md_word_23 : decode prog_10_method_13_code 23 = .ok (.goto 22, 3) := by decide +kernel
theorem d_Md_word_26 : decode prog_10_method_13_code 26 = .ok (.lload 4, 2) := by decide +kernel
theorem d_Md_word_28 : decode prog_10_method_13_code 28 = .ok (.ldc2_w 87, 3) := by decide +kernel
theorem d_Md_word_31 : decode prog_10_method_13_code 31 = .ok (.lmul, 1) := by decide +kernel
theorem d_Md_word_32 : decode prog_10_method_13_code 32 = .ok (.aload_n 0, 1) := by decide +kernel
theorem d_Md_word_33 : decode prog_10_method_13_code 33 = .ok (.iload_n 1, 1) := by decide +kernel
theorem d_Md_word_34 : decode prog_10_method_13_code 34 = .ok (.iload 6, 2) := by decide +kernel
theorem d_Md_word_36 : decode prog_10_method_13_code 36 = .ok (.invokevirtual 74, 3) := by decide +kernel
theorem d_Md_word_39 : decode prog_10_method_13_code 39 = .ok (.i2l, 1) := by decide +kernel
theorem d_Md_word_40 : decode prog_10_method_13_code 40 = .ok (.ladd, 1) := by decide +kernel
theorem d_Md_word_41 : decode prog_10_method_13_code 41 = .ok (.ldc2_w 89, 3) := by decide +kernel
theorem d_Md_word_44 : decode prog_10_method_13_code 44 = .ok (.lsub, 1) := by decide +kernel
theorem d_Md_word_45 : decode prog_10_method_13_code 45 = .ok (.lstore 4, 2) := by decide +kernel
theorem d_Md_word_47 : decode prog_10_method_13_code 47 = .ok (.iinc 6 1, 3) := by decide +kernel
theorem d_Md_word_50 : decode prog_10_method_13_code 50 = .ok (.goto (-44), 3) := by decide +kernel
theorem d_Md_word_53 : decode prog_10_method_13_code 53 = .ok (.lload 4, 2) := by decide +kernel
theorem d_Md_word_55 : decode prog_10_method_13_code 55 = .ok (.lreturn, 1) := by decide +kernel
theorem d_Md_spelt_0 : decode prog_10_method_14_code 0 = .ok (.iload_n 0, 1) := by decide +kernel
theorem d_Md_spelt_1 : decode prog_10_method_14_code 1 = .ok (.i2l, 1) := by decide +kernel
theorem d_Md_spelt_2 : decode prog_10_method_14_code 2 = .ok (.lstore 5, 2) := by decide +kernel
theorem d_Md_spelt_4 : decode prog_10_method_14_code 4 = .ok (.iload_n 1, 1) := by decide +kernel
theorem d_Md_spelt_5 : decode prog_10_method_14_code 5 = .ok (.ifCond .le 14, 3) := by decide +kernel
theorem d_Md_spelt_8 : decode prog_10_method_14_code 8 = .ok (.lload 5, 2) := by decide +kernel
theorem d_Md_spelt_10 : decode prog_10_method_14_code 10 = .ok (.ldc2_w 87, 3) := by decide +kernel
theorem d_Md_spelt_13 : decode prog_10_method_14_code 13 = .ok (.lmul, 1) := by decide +kernel
theorem d_Md_spelt_14 : decode prog_10_method_14_code 14 = .ok (.iload_n 1, 1) := by decide +kernel
theorem d_Md_spelt_15 : decode prog_10_method_14_code 15 = .ok (.i2l, 1) := by decide +kernel
theorem d_Md_spelt_16 : decode prog_10_method_14_code 16 = .ok (.ladd, 1) := by decide +kernel
theorem d_Md_spelt_17 : decode prog_10_method_14_code 17 = .ok (.lstore 5, 2) := by decide +kernel
theorem d_Md_spelt_19 : decode prog_10_method_14_code 19 = .ok (.iload_n 2, 1) := by decide +kernel
theorem d_Md_spelt_20 : decode prog_10_method_14_code 20 = .ok (.ifCond .le 14, 3) := by decide +kernel
theorem d_Md_spelt_23 : decode prog_10_method_14_code 23 = .ok (.lload 5, 2) := by decide +kernel
theorem d_Md_spelt_25 : decode prog_10_method_14_code 25 = .ok (.ldc2_w 87, 3) := by decide +kernel
theorem d_Md_spelt_28 : decode prog_10_method_14_code 28 = .ok (.lmul, 1) := by decide +kernel
theorem d_Md_spelt_29 : decode prog_10_method_14_code 29 = .ok (.iload_n 2, 1) := by decide +kernel
theorem d_Md_spelt_30 : decode prog_10_method_14_code 30 = .ok (.i2l, 1) := by decide +kernel
theorem d_Md_spelt_31 : decode prog_10_method_14_code 31 = .ok (.ladd, 1) := by decide +kernel
theorem d_Md_spelt_32 : decode prog_10_method_14_code 32 = .ok (.lstore 5, 2) := by decide +kernel
theorem d_Md_spelt_34 : decode prog_10_method_14_code 34 = .ok (.iload_n 3, 1) := by decide +kernel
theorem d_Md_spelt_35 : decode prog_10_method_14_code 35 = .ok (.ifCond .le 14, 3) := by decide +kernel
theorem d_Md_spelt_38 : decode prog_10_method_14_code 38 = .ok (.lload 5, 2) := by decide +kernel
theorem d_Md_spelt_40 : decode prog_10_method_14_code 40 = .ok (.ldc2_w 87, 3) := by decide +kernel
theorem d_Md_spelt_43 : decode prog_10_method_14_code 43 = .ok (.lmul, 1) := by decide +kernel
theorem d_Md_spelt_44 : decode prog_10_method_14_code 44 = .ok (.iload_n 3, 1) := by decide +kernel
theorem d_Md_spelt_45 : decode prog_10_method_14_code 45 = .ok (.i2l, 1) := by decide +kernel
theorem d_Md_spelt_46 : decode prog_10_method_14_code 46 = .ok (.ladd, 1) := by decide +kernel
theorem d_Md_spelt_47 : decode prog_10_method_14_code 47 = .ok (.lstore 5, 2) := by decide +kernel
theorem d_Md_spelt_49 : decode prog_10_method_14_code 49 = .ok (.iload 4, 2) := by decide +kernel
theorem d_Md_spelt_51 : decode prog_10_method_14_code 51 = .ok (.ifCond .le 16, 3) := by decide +kernel
theorem d_Md_spelt_54 : decode prog_10_method_14_code 54 = .ok (.lload 5, 2) := by decide +kernel
theorem d_Md_spelt_56 : decode prog_10_method_14_code 56 = .ok (.ldc2_w 87, 3) := by decide +kernel
theorem d_Md_spelt_59 : decode prog_10_method_14_code 59 = .ok (.lmul, 1) := by decide +kernel
theorem d_Md_spelt_60 : decode prog_10_method_14_code 60 = .ok (.iload 4, 2) := by decide +kernel
theorem d_Md_spelt_62 : decode prog_10_method_14_code 62 = .ok (.i2l, 1) := by decide +kernel
theorem d_Md_spelt_63 : decode prog_10_method_14_code 63 = .ok (.ladd, 1) := by decide +kernel
theorem d_Md_spelt_64 : decode prog_10_method_14_code 64 = .ok (.goto 5, 3) := by decide +kernel
theorem d_Md_spelt_67 : decode prog_10_method_14_code 67 = .ok (.lload 5, 2) := by decide +kernel
theorem d_Md_spelt_69 : decode prog_10_method_14_code 69 = .ok (.lreturn, 1) := by decide +kernel
theorem d_Md_words_0 : decode prog_10_method_18_code 0 = .ok (.iconst 0, 1) := by decide +kernel
theorem d_Md_words_1 : decode prog_10_method_18_code 1 = .ok (.istore 7, 2) := by decide +kernel
theorem d_Md_words_3 : decode prog_10_method_18_code 3 = .ok (.iload_n 2, 1) := by decide +kernel
theorem d_Md_words_4 : decode prog_10_method_18_code 4 = .ok (.iload 7, 2) := by decide +kernel
theorem d_Md_words_6 : decode prog_10_method_18_code 6 = .ok (.iadd, 1) := by decide +kernel
theorem d_Md_words_7 : decode prog_10_method_18_code 7 = .ok (.iload_n 3, 1) := by decide +kernel
theorem d_Md_words_8 : decode prog_10_method_18_code 8 = .ok (.if_icmp .lt 13, 3) := by decide +kernel
theorem d_Md_words_11 : decode prog_10_method_18_code 11 = .ok (.iload 5, 2) := by decide +kernel
theorem d_Md_words_13 : decode prog_10_method_18_code 13 = .ok (.iload 7, 2) := by decide +kernel
theorem d_Md_words_15 : decode prog_10_method_18_code 15 = .ok (.iadd, 1) := by decide +kernel
theorem d_Md_words_16 : decode prog_10_method_18_code 16 = .ok (.iload 6, 2) := by decide +kernel
theorem d_Md_words_18 : decode prog_10_method_18_code 18 = .ok (.if_icmp .ge 79, 3) := by decide +kernel
theorem d_Md_words_21 : decode prog_10_method_18_code 21 = .ok (.iload_n 2, 1) := by decide +kernel
theorem d_Md_words_22 : decode prog_10_method_18_code 22 = .ok (.iload 7, 2) := by decide +kernel
theorem d_Md_words_24 : decode prog_10_method_18_code 24 = .ok (.iadd, 1) := by decide +kernel
theorem d_Md_words_25 : decode prog_10_method_18_code 25 = .ok (.iload_n 3, 1) := by decide +kernel
theorem d_Md_words_26 : decode prog_10_method_18_code 26 = .ok (.if_icmp .ge 15, 3) := by decide +kernel
theorem d_Md_words_29 : decode prog_10_method_18_code 29 = .ok (.aload_n 0, 1) := by decide +kernel
theorem d_Md_words_30 : decode prog_10_method_18_code 30 = .ok (.iload_n 1, 1) := by decide +kernel
theorem d_Md_words_31 : decode prog_10_method_18_code 31 = .ok (.iload_n 2, 1) := by decide +kernel
theorem d_Md_words_32 : decode prog_10_method_18_code 32 = .ok (.iload 7, 2) := by decide +kernel
theorem d_Md_words_34 : decode prog_10_method_18_code 34 = .ok (.iadd, 1) := by decide +kernel
theorem d_Md_words_35 : decode prog_10_method_18_code 35 = .ok (.invokevirtual 74, 3) := by decide +kernel
theorem d_Md_words_38 : decode prog_10_method_18_code 38 = .ok (.goto 4, 3) := by decide +kernel
theorem d_Md_words_41 : decode prog_10_method_18_code 41 = .ok (.iconst 0, 1) := by decide +kernel
theorem d_Md_words_42 : decode prog_10_method_18_code 42 = .ok (.istore 8, 2) := by decide +kernel
theorem d_Md_words_44 : decode prog_10_method_18_code 44 = .ok (.iload 5, 2) := by decide +kernel
theorem d_Md_words_46 : decode prog_10_method_18_code 46 = .ok (.iload 7, 2) := by decide +kernel
theorem d_Md_words_48 : decode prog_10_method_18_code 48 = .ok (.iadd, 1) := by decide +kernel
theorem d_Md_words_49 : decode prog_10_method_18_code 49 = .ok (.iload 6, 2) := by decide +kernel
theorem d_Md_words_51 : decode prog_10_method_18_code 51 = .ok (.if_icmp .ge 17, 3) := by decide +kernel
theorem d_Md_words_54 : decode prog_10_method_18_code 54 = .ok (.aload_n 0, 1) := by decide +kernel
theorem d_Md_words_55 : decode prog_10_method_18_code 55 = .ok (.iload 4, 2) := by decide +kernel
theorem d_Md_words_57 : decode prog_10_method_18_code 57 = .ok (.iload 5, 2) := by decide +kernel
theorem d_Md_words_59 : decode prog_10_method_18_code 59 = .ok (.iload 7, 2) := by decide +kernel
theorem d_Md_words_61 : decode prog_10_method_18_code 61 = .ok (.iadd, 1) := by decide +kernel
theorem d_Md_words_62 : decode prog_10_method_18_code 62 = .ok (.invokevirtual 74, 3) := by decide +kernel
theorem d_Md_words_65 : decode prog_10_method_18_code 65 = .ok (.goto 4, 3) := by decide +kernel
theorem d_Md_words_68 : decode prog_10_method_18_code 68 = .ok (.iconst 0, 1) := by decide +kernel
theorem d_Md_words_69 : decode prog_10_method_18_code 69 = .ok (.istore 9, 2) := by decide +kernel
theorem d_Md_words_71 : decode prog_10_method_18_code 71 = .ok (.iload 8, 2) := by decide +kernel
theorem d_Md_words_73 : decode prog_10_method_18_code 73 = .ok (.iload 9, 2) := by decide +kernel
theorem d_Md_words_75 : decode prog_10_method_18_code 75 = .ok (.if_icmp .eq 16, 3) := by decide +kernel
theorem d_Md_words_78 : decode prog_10_method_18_code 78 = .ok (.iload 8, 2) := by decide +kernel
theorem d_Md_words_80 : decode prog_10_method_18_code 80 = .ok (.iload 9, 2) := by decide +kernel
theorem d_Md_words_82 : decode prog_10_method_18_code 82 = .ok (.if_icmp .ge 7, 3) := by decide +kernel
theorem d_Md_words_85 : decode prog_10_method_18_code 85 = .ok (.iconst (-1), 1) := by decide +kernel
theorem d_Md_words_86 : decode prog_10_method_18_code 86 = .ok (.goto 4, 3) := by decide +kernel
theorem d_Md_words_89 : decode prog_10_method_18_code 89 = .ok (.iconst 1, 1) := by decide +kernel
theorem d_Md_words_90 : decode prog_10_method_18_code 90 = .ok (.ireturn, 1) := by decide +kernel
theorem d_Md_words_91 : decode prog_10_method_18_code 91 = .ok (.iinc 7 1, 3) := by decide +kernel
theorem d_Md_words_94 : decode prog_10_method_18_code 94 = .ok (.goto (-91), 3) := by decide +kernel
theorem d_Md_words_97 : decode prog_10_method_18_code 97 = .ok (.iconst 0, 1) := by decide +kernel
theorem d_Md_words_98 : decode prog_10_method_18_code 98 = .ok (.ireturn, 1) := by decide +kernel
theorem d_Md_number_0 : decode prog_10_method_17_code 0 = .ok (.lconst 0, 1) := by decide +kernel
theorem d_Md_number_1 : decode prog_10_method_17_code 1 = .ok (.lstore 4, 2) := by decide +kernel
theorem d_Md_number_3 : decode prog_10_method_17_code 3 = .ok (.iload_n 2, 1) := by decide +kernel
theorem d_Md_number_4 : decode prog_10_method_17_code 4 = .ok (.istore 6, 2) := by decide +kernel
theorem d_Md_number_6 : decode prog_10_method_17_code 6 = .ok (.iload 6, 2) := by decide +kernel
theorem d_Md_number_8 : decode prog_10_method_17_code 8 = .ok (.iload_n 3, 1) := by decide +kernel
theorem d_Md_number_9 : decode prog_10_method_17_code 9 = .ok (.if_icmp .ge 30, 3) := by decide +kernel
theorem d_Md_number_12 : decode prog_10_method_17_code 12 = .ok (.ldc2_w 125, 3) := by decide +kernel
theorem d_Md_number_15 : decode prog_10_method_17_code 15 = .ok (.lload 4, 2) := by decide +kernel
theorem d_Md_number_17 : decode prog_10_method_17_code 17 = .ok (.lmul, 1) := by decide +kernel
theorem d_Md_number_18 : decode prog_10_method_17_code 18 = .ok (.aload_n 0, 1) := by decide +kernel
theorem d_Md_number_19 : decode prog_10_method_17_code 19 = .ok (.iload_n 1, 1) := by decide +kernel
theorem d_Md_number_20 : decode prog_10_method_17_code 20 = .ok (.iload 6, 2) := by decide +kernel
theorem d_Md_number_22 : decode prog_10_method_17_code 22 = .ok (.invokevirtual 74, 3) := by decide +kernel
theorem d_Md_number_25 : decode prog_10_method_17_code 25 = .ok (.i2l, 1) := by decide +kernel
theorem d_Md_number_26 : decode prog_10_method_17_code 26 = .ok (.ladd, 1) := by decide +kernel
theorem d_Md_number_27 : decode prog_10_method_17_code 27 = .ok (.ldc2_w 127, 3) := by decide +kernel
theorem d_Md_number_30 : decode prog_10_method_17_code 30 = .ok (.lsub, 1) := by decide +kernel
theorem d_Md_number_31 : decode prog_10_method_17_code 31 = .ok (.lstore 4, 2) := by decide +kernel
theorem d_Md_number_33 : decode prog_10_method_17_code 33 = .ok (.iinc 6 1, 3) := by decide +kernel
theorem d_Md_number_36 : decode prog_10_method_17_code 36 = .ok (.goto (-30), 3) := by decide +kernel
theorem d_Md_number_39 : decode prog_10_method_17_code 39 = .ok (.lload 4, 2) := by decide +kernel
theorem d_Md_number_41 : decode prog_10_method_17_code 41 = .ok (.lreturn, 1) := by decide +kernel
theorem d_Md_keep_0 : decode prog_10_method_10_code 0 = .ok (.iconst 0, 1) := by decide +kernel
theorem d_Md_keep_1 : decode prog_10_method_10_code 1 = .ok (.istore_n 2, 1) := by decide +kernel
theorem d_Md_keep_2 : decode prog_10_method_10_code 2 = .ok (.iload_n 2, 1) := by decide +kernel
theorem d_Md_keep_3 : decode prog_10_method_10_code 3 = .ok (.bipush 24, 2) := by decide +kernel
theorem d_Md_keep_5 : decode prog_10_method_10_code 5 = .ok (.if_icmp .ge 26, 3) := by decide +kernel
theorem d_Md_keep_8 : decode prog_10_method_10_code 8 = .ok (.aload_n 0, 1) := by decide +kernel
theorem d_Md_keep_9 : decode prog_10_method_10_code 9 = .ok (.getfield 7, 3) := by decide +kernel
theorem d_Md_keep_12 : decode prog_10_method_10_code 12 = .ok (.bipush 24, 2) := by decide +kernel
theorem d_Md_keep_14 : decode prog_10_method_10_code 14 = .ok (.iload_n 1, 1) := by decide +kernel
theorem d_Md_keep_15 : decode prog_10_method_10_code 15 = .ok (.imul, 1) := by decide +kernel
theorem d_Md_keep_16 : decode prog_10_method_10_code 16 = .ok (.iload_n 2, 1) := by decide +kernel
theorem d_Md_keep_17 : decode prog_10_method_10_code 17 = .ok (.iadd, 1) := by decide +kernel
theorem d_Md_keep_18 : decode prog_10_method_10_code 18 = .ok (.aload_n 0, 1) := by decide +kernel
theorem d_Md_keep_19 : decode prog_10_method_10_code 19 = .ok (.getfield 7, 3) := by decide +kernel
theorem d_Md_keep_22 : decode prog_10_method_10_code 22 = .ok (.iload_n 2, 1) := by decide +kernel
theorem d_Md_keep_23 : decode prog_10_method_10_code 23 = .ok (.iaload, 1) := by decide +kernel
theorem d_Md_keep_24 : decode prog_10_method_10_code 24 = .ok (.iastore, 1) := by decide +kernel
theorem d_Md_keep_25 : decode prog_10_method_10_code 25 = .ok (.iinc 2 1, 3) := by decide +kernel
theorem d_Md_keep_28 : decode prog_10_method_10_code 28 = .ok (.goto (-26), 3) := by decide +kernel
theorem d_Md_keep_31 : decode prog_10_method_10_code 31 = .ok (.aload_n 0, 1) := by decide +kernel
theorem d_Md_keep_32 : decode prog_10_method_10_code 32 = .ok (.getfield 13, 3) := by decide +kernel
theorem d_Md_keep_35 : decode prog_10_method_10_code 35 = .ok (.iload_n 1, 1) := by decide +kernel
theorem d_Md_keep_36 : decode prog_10_method_10_code 36 = .ok (.aload_n 0, 1) := by decide +kernel
theorem d_Md_keep_37 : decode prog_10_method_10_code 37 = .ok (.getfield 13, 3) := by decide +kernel
theorem d_Md_keep_40 : decode prog_10_method_10_code 40 = .ok (.iconst 0, 1) := by decide +kernel
theorem d_Md_keep_41 : decode prog_10_method_10_code 41 = .ok (.iaload, 1) := by decide +kernel
theorem d_Md_keep_42 : decode prog_10_method_10_code 42 = .ok (.iastore, 1) := by decide +kernel
theorem d_Md_keep_43 : decode prog_10_method_10_code 43 = .ok (.return_, 1) := by decide +kernel
theorem d_Md_need_0 : decode prog_10_method_26_code 0 = .ok (.aload_n 0, 1) := by decide +kernel
theorem d_Md_need_1 : decode prog_10_method_26_code 1 = .ok (.iload_n 1, 1) := by decide +kernel
theorem d_Md_need_2 : decode prog_10_method_26_code 2 = .ok (.iload_n 2, 1) := by decide +kernel
theorem d_Md_need_3 : decode prog_10_method_26_code 3 = .ok (.invokevirtual 160, 3) := by decide +kernel
theorem d_Md_need_6 : decode prog_10_method_26_code 6 = .ok (.ifCond .ne 12, 3) := by decide +kernel
theorem d_Md_need_9 : decode prog_10_method_26_code 9 = .ok (.iload_n 3, 1) := by decide +kernel
theorem d_Md_need_10 : decode prog_10_method_26_code 10 = .ok (.iconst 0, 1) := by decide +kernel
theorem d_Md_need_11 : decode prog_10_method_26_code 11 = .ok (.iconst 5, 1) := by decide +kernel
theorem d_Md_need_12 : decode prog_10_method_26_code 12 = .ok (.invokestatic 56, 3) := by decide +kernel
theorem d_Md_need_15 : decode prog_10_method_26_code 15 = .ok (.ifCond .ne 5, 3) := by decide +kernel
theorem d_Md_need_18 : decode prog_10_method_26_code 18 = .ok (.iconst (-1), 1) := by decide +kernel
theorem d_Md_need_19 : decode prog_10_method_26_code 19 = .ok (.ireturn, 1) := by decide +kernel
theorem d_Md_need_20 : decode prog_10_method_26_code 20 = .ok (.iconst 4, 1) := by decide +kernel
theorem d_Md_need_21 : decode prog_10_method_26_code 21 = .ok (.iload_n 1, 1) := by decide +kernel
theorem d_Md_need_22 : decode prog_10_method_26_code 22 = .ok (.imul, 1) := by decide +kernel
theorem d_Md_need_23 : decode prog_10_method_26_code 23 = .ok (.iload_n 2, 1) := by decide +kernel
theorem d_Md_need_24 : decode prog_10_method_26_code 24 = .ok (.iadd, 1) := by decide +kernel
theorem d_Md_need_25 : decode prog_10_method_26_code 25 = .ok (.istore 5, 2) := by decide +kernel
theorem d_Md_need_27 : decode prog_10_method_26_code 27 = .ok (.aload_n 0, 1) := by decide +kernel
theorem d_Md_need_28 : decode prog_10_method_26_code 28 = .ok (.iconst 0, 1) := by decide +kernel
theorem d_Md_need_29 : decode prog_10_method_26_code 29 = .ok (.invokevirtual 164, 3) := by decide +kernel
theorem d_Md_need_32 : decode prog_10_method_26_code 32 = .ok (.ifCond .ne 10, 3) := by decide +kernel
theorem d_Md_need_35 : decode prog_10_method_26_code 35 = .ok (.aload_n 0, 1) := by decide +kernel
theorem d_Md_need_36 : decode prog_10_method_26_code 36 = .ok (.bipush (-3), 2) := by decide +kernel
theorem d_Md_need_38 : decode prog_10_method_26_code 38 = .ok (.invokevirtual 153, 3) := by decide +kernel
theorem d_Md_need_41 : decode prog_10_method_26_code 41 = .ok (.ireturn, 1) := by decide +kernel
theorem d_Md_need_42 : decode prog_10_method_26_code 42 = .ok (.aload_n 0, 1) := by decide +kernel
theorem d_Md_need_43 : decode prog_10_method_26_code 43 = .ok (.getfield 26, 3) := by decide +kernel
theorem d_Md_need_46 : decode prog_10_method_26_code 46 = .ok (.iload 5, 2) := by decide +kernel
theorem d_Md_need_48 : decode prog_10_method_26_code 48 = .ok (.iaload, 1) := by decide +kernel
theorem d_Md_need_49 : decode prog_10_method_26_code 49 = .ok (.iconst 3, 1) := by decide +kernel
theorem d_Md_need_50 : decode prog_10_method_26_code 50 = .ok (.if_icmp .ne 10, 3) := by decide +kernel
theorem d_Md_need_53 : decode prog_10_method_26_code 53 = .ok (.aload_n 0, 1) := by decide +kernel
theorem d_Md_need_54 : decode prog_10_method_26_code 54 = .ok (.bipush (-2), 2) := by decide +kernel
theorem d_Md_need_56 : decode prog_10_method_26_code 56 = .ok (.invokevirtual 153, 3) := by decide +kernel
theorem d_Md_need_59 : decode prog_10_method_26_code 59 = .ok (.ireturn, 1) := by decide +kernel
theorem d_Md_need_60 : decode prog_10_method_26_code 60 = .ok (.iconst 3, 1) := by decide +kernel
theorem d_Md_need_61 : decode prog_10_method_26_code 61 = .ok (.iload 5, 2) := by decide +kernel
theorem d_Md_need_63 : decode prog_10_method_26_code 63 = .ok (.imul, 1) := by decide +kernel
theorem d_Md_need_64 : decode prog_10_method_26_code 64 = .ok (.aload_n 0, 1) := by decide +kernel
theorem d_Md_need_65 : decode prog_10_method_26_code 65 = .ok (.getfield 26, 3) := by decide +kernel
theorem d_Md_need_68 : decode prog_10_method_26_code 68 = .ok (.iload 5, 2) := by decide +kernel
theorem d_Md_need_70 : decode prog_10_method_26_code 70 = .ok (.iaload, 1) := by decide +kernel
theorem d_Md_need_71 : decode prog_10_method_26_code 71 = .ok (.iadd, 1) := by decide +kernel
theorem d_Md_need_72 : decode prog_10_method_26_code 72 = .ok (.istore 6, 2) := by decide +kernel
theorem d_Md_need_74 : decode prog_10_method_26_code 74 = .ok (.aload_n 0, 1) := by decide +kernel
theorem d_Md_need_75 : decode prog_10_method_26_code 75 = .ok (.bipush 54, 2) := by decide +kernel
theorem d_Md_need_77 : decode prog_10_method_26_code 77 = .ok (.iload 6, 2) := by decide +kernel
theorem d_Md_need_79 : decode prog_10_method_26_code 79 = .ok (.iadd, 1) := by decide +kernel
theorem d_Md_need_80 : decode prog_10_method_26_code 80 = .ok (.invokevirtual 156, 3) := by decide +kernel
theorem d_Md_need_83 : decode prog_10_method_26_code 83 = .ok (.aload_n 0, 1) := by decide +kernel
theorem d_Md_need_84 : decode prog_10_method_26_code 84 = .ok (.getfield 29, 3) := by decide +kernel
theorem d_Md_need_87 : decode prog_10_method_26_code 87 = .ok (.iload 6, 2) := by decide +kernel
theorem d_Md_need_89 : decode prog_10_method_26_code 89 = .ok (.iload_n 3, 1) := by decide +kernel
theorem d_Md_need_90 : decode prog_10_method_26_code 90 = .ok (.iastore, 1) := by decide +kernel
theorem d_Md_need_91 : decode prog_10_method_26_code 91 = .ok (.aload_n 0, 1) := by decide +kernel
theorem d_Md_need_92 : decode prog_10_method_26_code 92 = .ok (.getfield 32, 3) := by decide +kernel
theorem d_Md_need_95 : decode prog_10_method_26_code 95 = .ok (.iload 6, 2) := by decide +kernel
theorem d_Md_need_97 : decode prog_10_method_26_code 97 = .ok (.iload 4, 2) := by decide +kernel
theorem d_Md_need_99 : decode prog_10_method_26_code 99 = .ok (.bastore, 1) := by decide +kernel
theorem d_Md_need_100 : decode prog_10_method_26_code 100 = .ok (.aload_n 0, 1) := by decide +kernel
theorem d_Md_need_101 : decode prog_10_method_26_code 101 = .ok (.getfield 26, 3) := by decide +kernel
theorem d_Md_need_104 : decode prog_10_method_26_code 104 = .ok (.iload 5, 2) := by decide +kernel
theorem d_Md_need_106 : decode prog_10_method_26_code 106 = .ok (.dup2, 1) := by decide +kernel
theorem d_Md_need_107 : decode prog_10_method_26_code 107 = .ok (.iaload, 1) := by decide +kernel
theorem d_Md_need_108 : decode prog_10_method_26_code 108 = .ok (.iconst 1, 1) := by decide +kernel
theorem d_Md_need_109 : decode prog_10_method_26_code 109 = .ok (.iadd, 1) := by decide +kernel
theorem d_Md_need_110 : decode prog_10_method_26_code 110 = .ok (.iastore, 1) := by decide +kernel
theorem d_Md_need_111 : decode prog_10_method_26_code 111 = .ok (.aload_n 0, 1) := by decide +kernel
theorem d_Md_need_112 : decode prog_10_method_26_code 112 = .ok (.aload_n 0, 1) := by decide +kernel
theorem d_Md_need_113 : decode prog_10_method_26_code 113 = .ok (.getfield 26, 3) := by decide +kernel
theorem d_Md_need_116 : decode prog_10_method_26_code 116 = .ok (.iload 5, 2) := by decide +kernel
theorem d_Md_need_118 : decode prog_10_method_26_code 118 = .ok (.iaload, 1) := by decide +kernel
theorem d_Md_need_119 : decode prog_10_method_26_code 119 = .ok (.invokevirtual 153, 3) := by decide +kernel
theorem d_Md_need_122 : decode prog_10_method_26_code 122 = .ok (.ireturn, 1) := by decide +kernel
theorem d_Md_none_0 : decode prog_10_method_23_code 0 = .ok (.iload_n 1, 1) := by decide +kernel
theorem d_Md_none_1 : decode prog_10_method_23_code 1 = .ok (.iconst 0, 1) := by decide +kernel
theorem d_Md_none_2 : decode prog_10_method_23_code 2 = .ok (.iconst 5, 1) := by decide +kernel
theorem d_Md_none_3 : decode prog_10_method_23_code 3 = .ok (.invokestatic 56, 3) := by decide +kernel
theorem d_Md_none_6 : decode prog_10_method_23_code 6 = .ok (.ifCond .eq 19, 3) := by decide +kernel
theorem d_Md_none_9 : decode prog_10_method_23_code 9 = .ok (.iload_n 2, 1) := by decide +kernel
theorem d_Md_none_10 : decode prog_10_method_23_code 10 = .ok (.iconst 0, 1) := by decide +kernel
theorem d_Md_none_11 : decode prog_10_method_23_code 11 = .ok (.aload_n 0, 1) := by decide +kernel
theorem d_Md_none_12 : decode prog_10_method_23_code 12 = .ok (.getfield 16, 3) := by decide +kernel
theorem d_Md_none_15 : decode prog_10_method_23_code 15 = .ok (.iload_n 1, 1) := by decide +kernel
theorem d_Md_none_16 : decode prog_10_method_23_code 16 = .ok (.iaload, 1) := by decide +kernel
theorem d_Md_none_17 : decode prog_10_method_23_code 17 = .ok (.iconst 1, 1) := by decide +kernel
theorem d_Md_none_18 : decode prog_10_method_23_code 18 = .ok (.isub, 1) := by decide +kernel
theorem d_Md_none_19 : decode prog_10_method_23_code 19 = .ok (.invokestatic 56, 3) := by decide +kernel
theorem d_Md_none_22 : decode prog_10_method_23_code 22 = .ok (.ifCond .ne 7, 3) := by decide +kernel
theorem d_Md_none_25 : decode prog_10_method_23_code 25 = .ok (.iconst 1, 1) := by decide +kernel
theorem d_Md_none_26 : decode prog_10_method_23_code 26 = .ok (.goto 4, 3) := by decide +kernel
theorem d_Md_none_29 : decode prog_10_method_23_code 29 = .ok (.iconst 0, 1) := by decide +kernel
theorem d_Md_none_30 : decode prog_10_method_23_code 30 = .ok (.ireturn, 1) := by decide +kernel
theorem d_Md_range_0 : decode prog_10_method_21_code 0 = .ok (.aload_n 0, 1) := by decide +kernel
theorem d_Md_range_1 : decode prog_10_method_21_code 1 = .ok (.getfield 13, 3) := by decide +kernel
theorem d_Md_range_4 : decode prog_10_method_21_code 4 = .ok (.iload_n 1, 1) := by decide +kernel
theorem d_Md_range_5 : decode prog_10_method_21_code 5 = .ok (.iaload, 1) := by decide +kernel
theorem d_Md_range_6 : decode prog_10_method_21_code 6 = .ok (.istore_n 2, 1) := by decide +kernel
theorem d_Md_range_7 : decode prog_10_method_21_code 7 = .ok (.aload_n 0, 1) := by decide +kernel
theorem d_Md_range_8 : decode prog_10_method_21_code 8 = .ok (.iload_n 1, 1) := by decide +kernel
theorem d_Md_range_9 : decode prog_10_method_21_code 9 = .ok (.iconst 0, 1) := by decide +kernel
theorem d_Md_range_10 : decode prog_10_method_21_code 10 = .ok (.iload_n 2, 1) := by decide +kernel
theorem d_Md_range_11 : decode prog_10_method_21_code 11 = .ok (.invokevirtual 143, 3) := by decide +kernel
theorem d_Md_range_14 : decode prog_10_method_21_code 14 = .ok (.ifCond .eq 5, 3) := by decide +kernel
theorem d_Md_range_17 : decode prog_10_method_21_code 17 = .ok (.iconst 1, 1) := by decide +kernel
theorem d_Md_range_18 : decode prog_10_method_21_code 18 = .ok (.ireturn, 1) := by decide +kernel
theorem d_Md_range_19 : decode prog_10_method_21_code 19 = .ok (.aload_n 0, 1) := by decide +kernel
theorem d_Md_range_20 : decode prog_10_method_21_code 20 = .ok (.iload_n 1, 1) := by decide +kernel
theorem d_Md_range_21 : decode prog_10_method_21_code 21 = .ok (.iconst 0, 1) := by decide +kernel
theorem d_Md_range_22 : decode prog_10_method_21_code 22 = .ok (.invokevirtual 74, 3) := by decide +kernel
theorem d_Md_range_25 : decode prog_10_method_21_code 25 = .ok (.istore_n 3, 1) := by decide +kernel
theorem d_Md_range_26 : decode prog_10_method_21_code 26 = .ok (.aload_n 0, 1) := by decide +kernel
theorem d_Md_range_27 : decode prog_10_method_21_code 27 = .ok (.iload_n 1, 1) := by decide +kernel
theorem d_Md_range_28 : decode prog_10_method_21_code 28 = .ok (.iload_n 2, 1) := by decide +kernel
theorem d_Md_range_29 : decode prog_10_method_21_code 29 = .ok (.iconst 1, 1) := by decide +kernel
theorem d_Md_range_30 : decode prog_10_method_21_code 30 = .ok (.isub, 1) := by decide +kernel
theorem d_Md_range_31 : decode prog_10_method_21_code 31 = .ok (.invokevirtual 74, 3) := by decide +kernel
theorem d_Md_range_34 : decode prog_10_method_21_code 34 = .ok (.istore 4, 2) := by decide +kernel
theorem d_Md_range_36 : decode prog_10_method_21_code 36 = .ok (.aload_n 0, 1) := by decide +kernel
theorem d_Md_range_37 : decode prog_10_method_21_code 37 = .ok (.iload_n 1, 1) := by decide +kernel
theorem d_Md_range_38 : decode prog_10_method_21_code 38 = .ok (.invokevirtual 146, 3) := by decide +kernel
theorem d_Md_range_41 : decode prog_10_method_21_code 41 = .ok (.istore 5, 2) := by decide +kernel
theorem d_Md_range_43 : decode prog_10_method_21_code 43 = .ok (.iload_n 2, 1) := by decide +kernel
theorem d_Md_range_44 : decode prog_10_method_21_code 44 = .ok (.iconst 3, 1) := by decide +kernel
theorem d_Md_range_45 : decode prog_10_method_21_code 45 = .ok (.if_icmp .lt 29, 3) := by decide +kernel
theorem d_Md_range_48 : decode prog_10_method_21_code 48 = .ok (.iload_n 3, 1) := by decide +kernel
theorem d_Md_range_49 : decode prog_10_method_21_code 49 = .ok (.bipush 91, 2) := by decide +kernel
theorem d_Md_range_51 : decode prog_10_method_21_code 51 = .ok (.if_icmp .eq 9, 3) := by decide +kernel
theorem d_Md_range_54 : decode prog_10_method_21_code 54 = .ok (.iload_n 3, 1) := by decide +kernel
theorem d_Md_range_55 : decode prog_10_method_21_code 55 = .ok (.bipush 40, 2) := by decide +kernel
theorem d_Md_range_57 : decode prog_10_method_21_code 57 = .ok (.if_icmp .ne 17, 3) := by decide +kernel
theorem d_Md_range_60 : decode prog_10_method_21_code 60 = .ok (.iload 4, 2) := by decide +kernel
theorem d_Md_range_62 : decode prog_10_method_21_code 62 = .ok (.bipush 93, 2) := by decide +kernel
theorem d_Md_range_64 : decode prog_10_method_21_code 64 = .ok (.if_icmp .eq 12, 3) := by decide +kernel
theorem d_Md_range_67 : decode prog_10_method_21_code 67 = .ok (.iload 4, 2) := by decide +kernel
theorem d_Md_range_69 : decode prog_10_method_21_code 69 = .ok (.bipush 41, 2) := by decide +kernel
theorem d_Md_range_71 : decode prog_10_method_21_code 71 = .ok (.if_icmp .eq 5, 3) := by decide +kernel
theorem d_Md_range_74 : decode prog_10_method_21_code 74 = .ok (.iconst 0, 1) := by decide +kernel
theorem d_Md_range_75 : decode prog_10_method_21_code 75 = .ok (.ireturn, 1) := by decide +kernel
theorem d_Md_range_76 : decode prog_10_method_21_code 76 = .ok (.iload 5, 2) := by decide +kernel
theorem d_Md_range_78 : decode prog_10_method_21_code 78 = .ok (.ifCond .ge 34, 3) := by decide +kernel
theorem d_Md_range_81 : decode prog_10_method_21_code 81 = .ok (.iload_n 3, 1) := by decide +kernel
theorem d_Md_range_82 : decode prog_10_method_21_code 82 = .ok (.bipush 91, 2) := by decide +kernel
theorem d_Md_range_84 : decode prog_10_method_21_code 84 = .ok (.if_icmp .ne 26, 3) := by decide +kernel
theorem d_Md_range_87 : decode prog_10_method_21_code 87 = .ok (.iload 4, 2) := by decide +kernel
theorem d_Md_range_89 : decode prog_10_method_21_code 89 = .ok (.bipush 93, 2) := by decide +kernel
theorem d_Md_range_91 : decode prog_10_method_21_code 91 = .ok (.if_icmp .ne 19, 3) := by decide +kernel
theorem d_Md_range_94 : decode prog_10_method_21_code 94 = .ok (.aload_n 0, 1) := by decide +kernel
theorem d_Md_range_95 : decode prog_10_method_21_code 95 = .ok (.iload_n 1, 1) := by decide +kernel
theorem d_Md_range_96 : decode prog_10_method_21_code 96 = .ok (.iconst 1, 1) := by decide +kernel
theorem d_Md_range_97 : decode prog_10_method_21_code 97 = .ok (.iload_n 2, 1) := by decide +kernel
theorem d_Md_range_98 : decode prog_10_method_21_code 98 = .ok (.iconst 1, 1) := by decide +kernel
theorem d_Md_range_99 : decode prog_10_method_21_code 99 = .ok (.isub, 1) := by decide +kernel
theorem d_Md_range_100 : decode prog_10_method_21_code 100 = .ok (.invokevirtual 143, 3) := by decide +kernel
theorem d_Md_range_103 : decode prog_10_method_21_code 103 = .ok (.ifCond .eq 7, 3) := by decide +kernel
theorem d_Md_range_106 : decode prog_10_method_21_code 106 = .ok (.iconst 1, 1) := by decide +kernel
theorem d_Md_range_107 : decode prog_10_method_21_code 107 = .ok (.goto 4, 3) := by decide +kernel
theorem d_Md_range_110 : decode prog_10_method_21_code 110 = .ok (.iconst 0, 1) := by decide +kernel
theorem d_Md_range_111 : decode prog_10_method_21_code 111 = .ok (.ireturn, 1) := by decide +kernel
theorem d_Md_range_112 : decode prog_10_method_21_code 112 = .ok (.iload 5, 2) := by decide +kernel
theorem d_Md_range_114 : decode prog_10_method_21_code 114 = .ok (.iconst 1, 1) := by decide +kernel
theorem d_Md_range_115 : decode prog_10_method_21_code 115 = .ok (.if_icmp .eq 14, 3) := by decide +kernel
theorem d_Md_range_118 : decode prog_10_method_21_code 118 = .ok (.aload_n 0, 1) := by decide +kernel
theorem d_Md_range_119 : decode prog_10_method_21_code 119 = .ok (.iload_n 1, 1) := by decide +kernel
theorem d_Md_range_120 : decode prog_10_method_21_code 120 = .ok (.iconst 1, 1) := by decide +kernel
theorem d_Md_range_121 : decode prog_10_method_21_code 121 = .ok (.iload 5, 2) := by decide +kernel
theorem d_Md_range_123 : decode prog_10_method_21_code 123 = .ok (.invokevirtual 143, 3) := by decide +kernel
theorem d_Md_range_126 : decode prog_10_method_21_code 126 = .ok (.ifCond .eq 30, 3) := by decide +kernel
theorem d_Md_range_129 : decode prog_10_method_21_code 129 = .ok (.iload 5, 2) := by decide +kernel
theorem d_Md_range_131 : decode prog_10_method_21_code 131 = .ok (.iload_n 2, 1) := by decide +kernel
theorem d_Md_range_132 : decode prog_10_method_21_code 132 = .ok (.iconst 2, 1) := by decide +kernel
theorem d_Md_range_133 : decode prog_10_method_21_code 133 = .ok (.isub, 1) := by decide +kernel
theorem d_Md_range_134 : decode prog_10_method_21_code 134 = .ok (.if_icmp .eq 18, 3) := by decide +kernel
theorem d_Md_range_137 : decode prog_10_method_21_code 137 = .ok (.aload_n 0, 1) := by decide +kernel
theorem d_Md_range_138 : decode prog_10_method_21_code 138 = .ok (.iload_n 1, 1) := by decide +kernel
theorem d_Md_range_139 : decode prog_10_method_21_code 139 = .ok (.iload 5, 2) := by decide +kernel
theorem d_Md_range_141 : decode prog_10_method_21_code 141 = .ok (.iconst 1, 1) := by decide +kernel
theorem d_Md_range_142 : decode prog_10_method_21_code 142 = .ok (.iadd, 1) := by decide +kernel
theorem d_Md_range_143 : decode prog_10_method_21_code 143 = .ok (.iload_n 2, 1) := by decide +kernel
theorem d_Md_range_144 : decode prog_10_method_21_code 144 = .ok (.iconst 1, 1) := by decide +kernel
theorem d_Md_range_145 : decode prog_10_method_21_code 145 = .ok (.isub, 1) := by decide +kernel
theorem d_Md_range_146 : decode prog_10_method_21_code 146 = .ok (.invokevirtual 143, 3) := by decide +kernel
theorem d_Md_range_149 : decode prog_10_method_21_code 149 = .ok (.ifCond .eq 7, 3) := by decide +kernel
theorem d_Md_range_152 : decode prog_10_method_21_code 152 = .ok (.iconst 1, 1) := by decide +kernel
theorem d_Md_range_153 : decode prog_10_method_21_code 153 = .ok (.goto 4, 3) := by decide +kernel
theorem d_Md_range_156 : decode prog_10_method_21_code 156 = .ok (.iconst 0, 1) := by decide +kernel
theorem d_Md_range_157 : decode prog_10_method_21_code 157 = .ok (.ireturn, 1) := by decide +kernel
theorem d_Md_comma_0 : decode prog_10_method_20_code 0 = .ok (.iconst 0, 1) := by decide +kernel
theorem d_Md_comma_1 : decode prog_10_method_20_code 1 = .ok (.istore_n 2, 1) := by decide +kernel
theorem d_Md_comma_2 : decode prog_10_method_20_code 2 = .ok (.iload_n 2, 1) := by decide +kernel
theorem d_Md_comma_3 : decode prog_10_method_20_code 3 = .ok (.aload_n 0, 1) := by decide +kernel
theorem d_Md_comma_4 : decode prog_10_method_20_code 4 = .ok (.getfield 13, 3) := by decide +kernel
theorem d_Md_comma_7 : decode prog_10_method_20_code 7 = .ok (.iload_n 1, 1) := by decide +kernel
theorem d_Md_comma_8 : decode prog_10_method_20_code 8 = .ok (.iaload, 1) := by decide +kernel
theorem d_Md_comma_9 : decode prog_10_method_20_code 9 = .ok (.if_icmp .ge 22, 3) := by decide +kernel
theorem d_Md_comma_12 : decode prog_10_method_20_code 12 = .ok (.aload_n 0, 1) := by decide +kernel
theorem d_Md_comma_13 : decode prog_10_method_20_code 13 = .ok (.iload_n 1, 1) := by decide +kernel
theorem d_Md_comma_14 : decode prog_10_method_20_code 14 = .ok (.iload_n 2, 1) := by decide +kernel
theorem d_Md_comma_15 : decode prog_10_method_20_code 15 = .ok (.invokevirtual 74, 3) := by decide +kernel
theorem d_Md_comma_18 : decode prog_10_method_20_code 18 = .ok (.bipush 44, 2) := by decide +kernel
theorem d_Md_comma_20 : decode prog_10_method_20_code 20 = .ok (.if_icmp .ne 5, 3) := by decide +kernel
theorem d_Md_comma_23 : decode prog_10_method_20_code 23 = .ok (.iload_n 2, 1) := by decide +kernel
theorem d_Md_comma_24 : decode prog_10_method_20_code 24 = .ok (.ireturn, 1) := by decide +kernel
theorem d_Md_comma_25 : decode prog_10_method_20_code 25 = .ok (.iinc 2 1, 3) := by decide +kernel
theorem d_Md_comma_28 : decode prog_10_method_20_code 28 = .ok (.goto (-26), 3) := by decide +kernel
theorem d_Md_comma_31 : decode prog_10_method_20_code 31 = .ok (.iconst (-1), 1) := by decide +kernel
theorem d_Md_comma_32 : decode prog_10_method_20_code 32 = .ok (.ireturn, 1) := by decide +kernel
theorem d_Md_needHost_0 : decode prog_10_method_27_code 0 = .ok (.aload_n 0, 1) := by decide +kernel
theorem d_Md_needHost_1 : decode prog_10_method_27_code 1 = .ok (.iload_n 1, 1) := by decide +kernel
theorem d_Md_needHost_2 : decode prog_10_method_27_code 2 = .ok (.iload_n 2, 1) := by decide +kernel
theorem d_Md_needHost_3 : decode prog_10_method_27_code 3 = .ok (.invokevirtual 160, 3) := by decide +kernel
theorem d_Md_needHost_6 : decode prog_10_method_27_code 6 = .ok (.ifCond .eq 5, 3) := by decide +kernel
theorem d_Md_needHost_9 : decode prog_10_method_27_code 9 = .ok (.iconst (-1), 1) := by decide +kernel
theorem d_Md_needHost_10 : decode prog_10_method_27_code 10 = .ok (.ireturn, 1) := by decide +kernel
theorem d_Md_needHost_11 : decode prog_10_method_27_code 11 = .ok (.iconst 4, 1) := by decide +kernel
theorem d_Md_needHost_12 : decode prog_10_method_27_code 12 = .ok (.iload_n 1, 1) := by decide +kernel
theorem d_Md_needHost_13 : decode prog_10_method_27_code 13 = .ok (.imul, 1) := by decide +kernel
theorem d_Md_needHost_14 : decode prog_10_method_27_code 14 = .ok (.iload_n 2, 1) := by decide +kernel
theorem d_Md_needHost_15 : decode prog_10_method_27_code 15 = .ok (.iadd, 1) := by decide +kernel
theorem d_Md_needHost_16 : decode prog_10_method_27_code 16 = .ok (.istore_n 3, 1) := by decide +kernel
theorem d_Md_needHost_17 : decode prog_10_method_27_code 17 = .ok (.aload_n 0, 1) := by decide +kernel
theorem d_Md_needHost_18 : decode prog_10_method_27_code 18 = .ok (.getfield 13, 3) := by decide +kernel
theorem d_Md_needHost_21 : decode prog_10_method_27_code 21 = .ok (.iconst 0, 1) := by decide +kernel
theorem d_Md_needHost_22 : decode prog_10_method_27_code 22 = .ok (.iaload, 1) := by decide +kernel
theorem d_Md_needHost_23 : decode prog_10_method_27_code 23 = .ok (.ifCond .le 18, 3) := by decide +kernel
theorem d_Md_needHost_26 : decode prog_10_method_27_code 26 = .ok (.aload_n 0, 1) := by decide +kernel
theorem d_Md_needHost_27 : decode prog_10_method_27_code 27 = .ok (.iconst 0, 1) := by decide +kernel
theorem d_Md_needHost_28 : decode prog_10_method_27_code 28 = .ok (.invokevirtual 164, 3) := by decide +kernel
theorem d_Md_needHost_31 : decode prog_10_method_27_code 31 = .ok (.ifCond .ne 10, 3) := by decide +kernel
theorem d_Md_needHost_34 : decode prog_10_method_27_code 34 = .ok (.aload_n 0, 1) := by decide +kernel
theorem d_Md_needHost_35 : decode prog_10_method_27_code 35 = .ok (.bipush (-3), 2) := by decide +kernel
theorem d_Md_needHost_37 : decode prog_10_method_27_code 37 = .ok (.invokevirtual 153, 3) := by decide +kernel
theorem d_Md_needHost_40 : decode prog_10_method_27_code 40 = .ok (.ireturn, 1) := by decide +kernel
theorem d_Md_needHost_41 : decode prog_10_method_27_code 41 = .ok (.aload_n 0, 1) := by decide +kernel
theorem d_Md_needHost_42 : decode prog_10_method_27_code 42 = .ok (.getfield 23, 3) := by decide +kernel
theorem d_Md_needHost_45 : decode prog_10_method_27_code 45 = .ok (.iload_n 3, 1) := by decide +kernel
theorem d_Md_needHost_46 : decode prog_10_method_27_code 46 = .ok (.aload_n 0, 1) := by decide +kernel
theorem d_Md_needHost_47 : decode prog_10_method_27_code 47 = .ok (.getfield 13, 3) := by decide +kernel
theorem d_Md_needHost_50 : decode prog_10_method_27_code 50 = .ok (.iconst 0, 1) := by decide +kernel
theorem d_Md_needHost_51 : decode prog_10_method_27_code 51 = .ok (.iaload, 1) := by decide +kernel
theorem d_Md_needHost_52 : decode prog_10_method_27_code 52 = .ok (.ifCond .le 7, 3) := by decide +kernel
theorem d_Md_needHost_55 : decode prog_10_method_27_code 55 = .ok (.iconst 1, 1) := by decide +kernel
theorem d_Md_needHost_56 : decode prog_10_method_27_code 56 = .ok (.goto 4, 3) := by decide +kernel
theorem d_Md_needHost_59 : decode prog_10_method_27_code 59 = .ok (.iconst 0, 1) := by decide +kernel
theorem d_Md_needHost_60 : decode prog_10_method_27_code 60 = .ok (.bastore, 1) := by decide +kernel
theorem d_Md_needHost_61 : decode prog_10_method_27_code 61 = .ok (.aload_n 0, 1) := by decide +kernel
theorem d_Md_needHost_62 : decode prog_10_method_27_code 62 = .ok (.bipush 30, 2) := by decide +kernel
theorem d_Md_needHost_64 : decode prog_10_method_27_code 64 = .ok (.iload_n 3, 1) := by decide +kernel
theorem d_Md_needHost_65 : decode prog_10_method_27_code 65 = .ok (.iadd, 1) := by decide +kernel
theorem d_Md_needHost_66 : decode prog_10_method_27_code 66 = .ok (.invokevirtual 156, 3) := by decide +kernel
theorem d_Md_needHost_69 : decode prog_10_method_27_code 69 = .ok (.aload_n 0, 1) := by decide +kernel
theorem d_Md_needHost_70 : decode prog_10_method_27_code 70 = .ok (.iconst 0, 1) := by decide +kernel
theorem d_Md_needHost_71 : decode prog_10_method_27_code 71 = .ok (.invokevirtual 153, 3) := by decide +kernel
theorem d_Md_needHost_74 : decode prog_10_method_27_code 74 = .ok (.ireturn, 1) := by decide +kernel
theorem d_Md_withdraw_0 : decode prog_10_method_28_code 0 = .ok (.aload_n 0, 1) := by decide +kernel
theorem d_Md_withdraw_1 : decode prog_10_method_28_code 1 = .ok (.iload_n 1, 1) := by decide +kernel
theorem d_Md_withdraw_2 : decode prog_10_method_28_code 2 = .ok (.iload_n 2, 1) := by decide +kernel
theorem d_Md_withdraw_3 : decode prog_10_method_28_code 3 = .ok (.invokevirtual 160, 3) := by decide +kernel
theorem d_Md_withdraw_6 : decode prog_10_method_28_code 6 = .ok (.ifCond .eq 5, 3) := by decide +kernel
theorem d_Md_withdraw_9 : decode prog_10_method_28_code 9 = .ok (.iconst (-1), 1) := by decide +kernel
theorem d_Md_withdraw_10 : decode prog_10_method_28_code 10 = .ok (.ireturn, 1) := by decide +kernel
theorem d_Md_withdraw_11 : decode prog_10_method_28_code 11 = .ok (.aload_n 0, 1) := by decide +kernel
theorem d_Md_withdraw_12 : decode prog_10_method_28_code 12 = .ok (.getfield 19, 3) := by decide +kernel
theorem d_Md_withdraw_15 : decode prog_10_method_28_code 15 = .ok (.iconst 4, 1) := by decide +kernel
theorem d_Md_withdraw_16 : decode prog_10_method_28_code 16 = .ok (.iload_n 1, 1) := by decide +kernel
theorem d_Md_withdraw_17 : decode prog_10_method_28_code 17 = .ok (.imul, 1) := by decide +kernel
theorem d_Md_withdraw_18 : decode prog_10_method_28_code 18 = .ok (.iload_n 2, 1) := by decide +kernel
theorem d_Md_withdraw_19 : decode prog_10_method_28_code 19 = .ok (.iadd, 1) := by decide +kernel
theorem d_Md_withdraw_20 : decode prog_10_method_28_code 20 = .ok (.iload_n 3, 1) := by decide +kernel
theorem d_Md_withdraw_21 : decode prog_10_method_28_code 21 = .ok (.bastore, 1) := by decide +kernel
theorem d_Md_withdraw_22 : decode prog_10_method_28_code 22 = .ok (.iconst 0, 1) := by decide +kernel
theorem d_Md_withdraw_23 : decode prog_10_method_28_code 23 = .ok (.ireturn, 1) := by decide +kernel
theorem d_Md_host_0 : decode prog_10_method_29_code 0 = .ok (.aload_n 0, 1) := by decide +kernel
theorem d_Md_host_1 : decode prog_10_method_29_code 1 = .ok (.iconst 0, 1) := by decide +kernel
theorem d_Md_host_2 : decode prog_10_method_29_code 2 = .ok (.iconst 0, 1) := by decide +kernel
theorem d_Md_host_3 : decode prog_10_method_29_code 3 = .ok (.aload_n 0, 1) := by decide +kernel
theorem d_Md_host_4 : decode prog_10_method_29_code 4 = .ok (.getfield 13, 3) := by decide +kernel
theorem d_Md_host_7 : decode prog_10_method_29_code 7 = .ok (.iconst 0, 1) := by decide +kernel
theorem d_Md_host_8 : decode prog_10_method_29_code 8 = .ok (.iaload, 1) := by decide +kernel
theorem d_Md_host_9 : decode prog_10_method_29_code 9 = .ok (.invokevirtual 143, 3) := by decide +kernel
theorem d_Md_host_12 : decode prog_10_method_29_code 12 = .ok (.ifCond .ne 10, 3) := by decide +kernel
theorem d_Md_host_15 : decode prog_10_method_29_code 15 = .ok (.aload_n 0, 1) := by decide +kernel
theorem d_Md_host_16 : decode prog_10_method_29_code 16 = .ok (.bipush (-3), 2) := by decide +kernel
theorem d_Md_host_18 : decode prog_10_method_29_code 18 = .ok (.invokevirtual 153, 3) := by decide +kernel
theorem d_Md_host_21 : decode prog_10_method_29_code 21 = .ok (.ireturn, 1) := by decide +kernel
theorem d_Md_host_22 : decode prog_10_method_29_code 22 = .ok (.aload_n 0, 1) := by decide +kernel
theorem d_Md_host_23 : decode prog_10_method_29_code 23 = .ok (.iconst 1, 1) := by decide +kernel
theorem d_Md_host_24 : decode prog_10_method_29_code 24 = .ok (.invokevirtual 156, 3) := by decide +kernel
theorem d_Md_host_27 : decode prog_10_method_29_code 27 = .ok (.aload_n 0, 1) := by decide +kernel
theorem d_Md_host_28 : decode prog_10_method_29_code 28 = .ok (.iconst 0, 1) := by decide +kernel
theorem d_Md_host_29 : decode prog_10_method_29_code 29 = .ok (.invokevirtual 153, 3) := by decide +kernel
theorem d_Md_host_32 : decode prog_10_method_29_code 32 = .ok (.ireturn, 1) := by decide +kernel
theorem d_Md_ask_0 : decode prog_10_method_30_code 0 = .ok (.iload_n 1, 1) := by decide +kernel
theorem d_Md_ask_1 : decode prog_10_method_30_code 1 = .ok (.iconst 0, 1) := by decide +kernel
theorem d_Md_ask_2 : decode prog_10_method_30_code 2 = .ok (.iconst 5, 1) := by decide +kernel
theorem d_Md_ask_3 : decode prog_10_method_30_code 3 = .ok (.invokestatic 56, 3) := by decide +kernel
theorem d_Md_ask_6 : decode prog_10_method_30_code 6 = .ok (.ifCond .ne 5, 3) := by decide +kernel
theorem d_Md_ask_9 : decode prog_10_method_30_code 9 = .ok (.iconst (-1), 1) := by decide +kernel
theorem d_Md_ask_10 : decode prog_10_method_30_code 10 = .ok (.ireturn, 1) := by decide +kernel
theorem d_Md_ask_11 : decode prog_10_method_30_code 11 = .ok (.aload_n 0, 1) := by decide +kernel
theorem d_Md_ask_12 : decode prog_10_method_30_code 12 = .ok (.iconst 0, 1) := by decide +kernel
theorem d_Md_ask_13 : decode prog_10_method_30_code 13 = .ok (.invokevirtual 164, 3) := by decide +kernel
theorem d_Md_ask_16 : decode prog_10_method_30_code 16 = .ok (.ifCond .ne 10, 3) := by decide +kernel
theorem d_Md_ask_19 : decode prog_10_method_30_code 19 = .ok (.aload_n 0, 1) := by decide +kernel
theorem d_Md_ask_20 : decode prog_10_method_30_code 20 = .ok (.bipush (-3), 2) := by decide +kernel
theorem d_Md_ask_22 : decode prog_10_method_30_code 22 = .ok (.invokevirtual 153, 3) := by decide +kernel
theorem d_Md_ask_25 : decode prog_10_method_30_code 25 = .ok (.ireturn, 1) := by decide +kernel
theorem d_Md_ask_26 : decode prog_10_method_30_code 26 = .ok (.aload_n 0, 1) := by decide +kernel
theorem d_Md_ask_27 : decode prog_10_method_30_code 27 = .ok (.getfield 167, 3) := by decide +kernel
theorem d_Md_ask_30 : decode prog_10_method_30_code 30 = .ok (.iconst 4, 1) := by decide +kernel
theorem d_Md_ask_31 : decode prog_10_method_30_code 31 = .ok (.if_icmp .ne 10, 3) := by decide +kernel
theorem d_Md_ask_34 : decode prog_10_method_30_code 34 = .ok (.aload_n 0, 1) := by decide +kernel
theorem d_Md_ask_35 : decode prog_10_method_30_code 35 = .ok (.bipush (-2), 2) := by decide +kernel
theorem d_Md_ask_37 : decode prog_10_method_30_code 37 = .ok (.invokevirtual 153, 3) := by decide +kernel
theorem d_Md_ask_40 : decode prog_10_method_30_code 40 = .ok (.ireturn, 1) := by decide +kernel
theorem d_Md_ask_41 : decode prog_10_method_30_code 41 = .ok (.aload_n 0, 1) := by decide +kernel
theorem d_Md_ask_42 : decode prog_10_method_30_code 42 = .ok (.iconst 2, 1) := by decide +kernel
theorem d_Md_ask_43 : decode prog_10_method_30_code 43 = .ok (.aload_n 0, 1) := by decide +kernel
theorem d_Md_ask_44 : decode prog_10_method_30_code 44 = .ok (.getfield 167, 3) := by decide +kernel
theorem d_Md_ask_47 : decode prog_10_method_30_code 47 = .ok (.iadd, 1) := by decide +kernel
theorem d_Md_ask_48 : decode prog_10_method_30_code 48 = .ok (.invokevirtual 156, 3) := by decide +kernel
theorem d_Md_ask_51 : decode prog_10_method_30_code 51 = .ok (.aload_n 0, 1) := by decide +kernel
theorem d_Md_ask_52 : decode prog_10_method_30_code 52 = .ok (.getfield 35, 3) := by decide +kernel
theorem d_Md_ask_55 : decode prog_10_method_30_code 55 = .ok (.aload_n 0, 1) := by decide +kernel
theorem d_Md_ask_56 : decode prog_10_method_30_code 56 = .ok (.getfield 167, 3) := by decide +kernel
theorem d_Md_ask_59 : decode prog_10_method_30_code 59 = .ok (.iload_n 1, 1) := by decide +kernel
theorem d_Md_ask_60 : decode prog_10_method_30_code 60 = .ok (.iastore, 1) := by decide +kernel
theorem d_Md_ask_61 : decode prog_10_method_30_code 61 = .ok (.aload_n 0, 1) := by decide +kernel
theorem d_Md_ask_62 : decode prog_10_method_30_code 62 = .ok (.dup, 1) := by decide +kernel
theorem d_Md_ask_63 : decode prog_10_method_30_code 63 = .ok (.getfield 167, 3) := by decide +kernel
theorem d_Md_ask_66 : decode prog_10_method_30_code 66 = .ok (.iconst 1, 1) := by decide +kernel
theorem d_Md_ask_67 : decode prog_10_method_30_code 67 = .ok (.iadd, 1) := by decide +kernel
theorem d_Md_ask_68 : decode prog_10_method_30_code 68 = .ok (.putfield 167, 3) := by decide +kernel
theorem d_Md_ask_71 : decode prog_10_method_30_code 71 = .ok (.aload_n 0, 1) := by decide +kernel
theorem d_Md_ask_72 : decode prog_10_method_30_code 72 = .ok (.aload_n 0, 1) := by decide +kernel
theorem d_Md_ask_73 : decode prog_10_method_30_code 73 = .ok (.getfield 167, 3) := by decide +kernel
theorem d_Md_ask_76 : decode prog_10_method_30_code 76 = .ok (.iconst 1, 1) := by decide +kernel
theorem d_Md_ask_77 : decode prog_10_method_30_code 77 = .ok (.isub, 1) := by decide +kernel
theorem d_Md_ask_78 : decode prog_10_method_30_code 78 = .ok (.invokevirtual 153, 3) := by decide +kernel
theorem d_Md_ask_81 : decode prog_10_method_30_code 81 = .ok (.ireturn, 1) := by decide +kernel
theorem d_Md_unask_0 : decode prog_10_method_31_code 0 = .ok (.iload_n 1, 1) := by decide +kernel
theorem d_Md_unask_1 : decode prog_10_method_31_code 1 = .ok (.iconst 0, 1) := by decide +kernel
theorem d_Md_unask_2 : decode prog_10_method_31_code 2 = .ok (.aload_n 0, 1) := by decide +kernel
theorem d_Md_unask_3 : decode prog_10_method_31_code 3 = .ok (.getfield 167, 3) := by decide +kernel
theorem d_Md_unask_6 : decode prog_10_method_31_code 6 = .ok (.iconst 1, 1) := by decide +kernel
theorem d_Md_unask_7 : decode prog_10_method_31_code 7 = .ok (.isub, 1) := by decide +kernel
theorem d_Md_unask_8 : decode prog_10_method_31_code 8 = .ok (.invokestatic 56, 3) := by decide +kernel
theorem d_Md_unask_11 : decode prog_10_method_31_code 11 = .ok (.ifCond .ne 5, 3) := by decide +kernel
theorem d_Md_unask_14 : decode prog_10_method_31_code 14 = .ok (.iconst (-1), 1) := by decide +kernel
theorem d_Md_unask_15 : decode prog_10_method_31_code 15 = .ok (.ireturn, 1) := by decide +kernel
theorem d_Md_unask_16 : decode prog_10_method_31_code 16 = .ok (.aload_n 0, 1) := by decide +kernel
theorem d_Md_unask_17 : decode prog_10_method_31_code 17 = .ok (.dup, 1) := by decide +kernel
theorem d_Md_unask_18 : decode prog_10_method_31_code 18 = .ok (.getfield 167, 3) := by decide +kernel
theorem d_Md_unask_21 : decode prog_10_method_31_code 21 = .ok (.iconst 1, 1) := by decide +kernel
theorem d_Md_unask_22 : decode prog_10_method_31_code 22 = .ok (.isub, 1) := by decide +kernel
theorem d_Md_unask_23 : decode prog_10_method_31_code 23 = .ok (.putfield 167, 3) := by decide +kernel
theorem d_Md_unask_26 : decode prog_10_method_31_code 26 = .ok (.iload_n 1, 1) := by decide +kernel
theorem d_Md_unask_27 : decode prog_10_method_31_code 27 = .ok (.istore_n 2, 1) := by decide +kernel
theorem d_Md_unask_28 : decode prog_10_method_31_code 28 = .ok (.iload_n 2, 1) := by decide +kernel
theorem d_Md_unask_29 : decode prog_10_method_31_code 29 = .ok (.aload_n 0, 1) := by decide +kernel
theorem d_Md_unask_30 : decode prog_10_method_31_code 30 = .ok (.getfield 167, 3) := by decide +kernel
theorem d_Md_unask_33 : decode prog_10_method_31_code 33 = .ok (.if_icmp .ge 81, 3) := by decide +kernel
theorem d_Md_unask_36 : decode prog_10_method_31_code 36 = .ok (.aload_n 0, 1) := by decide +kernel
theorem d_Md_unask_37 : decode prog_10_method_31_code 37 = .ok (.getfield 35, 3) := by decide +kernel
theorem d_Md_unask_40 : decode prog_10_method_31_code 40 = .ok (.iload_n 2, 1) := by decide +kernel
theorem d_Md_unask_41 : decode prog_10_method_31_code 41 = .ok (.aload_n 0, 1) := by decide +kernel
theorem d_Md_unask_42 : decode prog_10_method_31_code 42 = .ok (.getfield 35, 3) := by decide +kernel
theorem d_Md_unask_45 : decode prog_10_method_31_code 45 = .ok (.iload_n 2, 1) := by decide +kernel
theorem d_Md_unask_46 : decode prog_10_method_31_code 46 = .ok (.iconst 1, 1) := by decide +kernel
theorem d_Md_unask_47 : decode prog_10_method_31_code 47 = .ok (.iadd, 1) := by decide +kernel
theorem d_Md_unask_48 : decode prog_10_method_31_code 48 = .ok (.iaload, 1) := by decide +kernel
theorem d_Md_unask_49 : decode prog_10_method_31_code 49 = .ok (.iastore, 1) := by decide +kernel
theorem d_Md_unask_50 : decode prog_10_method_31_code 50 = .ok (.aload_n 0, 1) := by decide +kernel
theorem d_Md_unask_51 : decode prog_10_method_31_code 51 = .ok (.getfield 13, 3) := by decide +kernel
theorem d_Md_unask_54 : decode prog_10_method_31_code 54 = .ok (.iconst 2, 1) := by decide +kernel
theorem d_Md_unask_55 : decode prog_10_method_31_code 55 = .ok (.iload_n 2, 1) := by decide +kernel
theorem d_Md_unask_56 : decode prog_10_method_31_code 56 = .ok (.iadd, 1) := by decide +kernel
theorem d_Md_unask_57 : decode prog_10_method_31_code 57 = .ok (.aload_n 0, 1) := by decide +kernel
theorem d_Md_unask_58 : decode prog_10_method_31_code 58 = .ok (.getfield 13, 3) := by decide +kernel
theorem d_Md_unask_61 : decode prog_10_method_31_code 61 = .ok (.iconst 3, 1) := by decide +kernel
theorem d_Md_unask_62 : decode prog_10_method_31_code 62 = .ok (.iload_n 2, 1) := by decide +kernel
theorem d_Md_unask_63 : decode prog_10_method_31_code 63 = .ok (.iadd, 1) := by decide +kernel
theorem d_Md_unask_64 : decode prog_10_method_31_code 64 = .ok (.iaload, 1) := by decide +kernel
theorem d_Md_unask_65 : decode prog_10_method_31_code 65 = .ok (.iastore, 1) := by decide +kernel
theorem d_Md_unask_66 : decode prog_10_method_31_code 66 = .ok (.iconst 0, 1) := by decide +kernel
theorem d_Md_unask_67 : decode prog_10_method_31_code 67 = .ok (.istore_n 3, 1) := by decide +kernel
theorem d_Md_unask_68 : decode prog_10_method_31_code 68 = .ok (.iload_n 3, 1) := by decide +kernel
theorem d_Md_unask_69 : decode prog_10_method_31_code 69 = .ok (.bipush 24, 2) := by decide +kernel
theorem d_Md_unask_71 : decode prog_10_method_31_code 71 = .ok (.if_icmp .ge 37, 3) := by decide +kernel
theorem d_Md_unask_74 : decode prog_10_method_31_code 74 = .ok (.aload_n 0, 1) := by decide +kernel
theorem d_Md_unask_75 : decode prog_10_method_31_code 75 = .ok (.getfield 7, 3) := by decide +kernel
theorem d_Md_unask_78 : decode prog_10_method_31_code 78 = .ok (.bipush 48, 2) := by decide +kernel
theorem d_Md_unask_80 : decode prog_10_method_31_code 80 = .ok (.bipush 24, 2) := by decide +kernel
theorem d_Md_unask_82 : decode prog_10_method_31_code 82 = .ok (.iload_n 2, 1) := by decide +kernel
theorem d_Md_unask_83 : decode prog_10_method_31_code 83 = .ok (.imul, 1) := by decide +kernel
theorem d_Md_unask_84 : decode prog_10_method_31_code 84 = .ok (.iadd, 1) := by decide +kernel
theorem d_Md_unask_85 : decode prog_10_method_31_code 85 = .ok (.iload_n 3, 1) := by decide +kernel
theorem d_Md_unask_86 : decode prog_10_method_31_code 86 = .ok (.iadd, 1) := by decide +kernel
theorem d_Md_unask_87 : decode prog_10_method_31_code 87 = .ok (.aload_n 0, 1) := by decide +kernel
theorem d_Md_unask_88 : decode prog_10_method_31_code 88 = .ok (.getfield 7, 3) := by decide +kernel
theorem d_Md_unask_91 : decode prog_10_method_31_code 91 = .ok (.bipush 72, 2) := by decide +kernel
theorem d_Md_unask_93 : decode prog_10_method_31_code 93 = .ok (.bipush 24, 2) := by decide +kernel
theorem d_Md_unask_95 : decode prog_10_method_31_code 95 = .ok (.iload_n 2, 1) := by decide +kernel
theorem d_Md_unask_96 : decode prog_10_method_31_code 96 = .ok (.imul, 1) := by decide +kernel
theorem d_Md_unask_97 : decode prog_10_method_31_code 97 = .ok (.iadd, 1) := by decide +kernel
theorem d_Md_unask_98 : decode prog_10_method_31_code 98 = .ok (.iload_n 3, 1) := by decide +kernel
theorem d_Md_unask_99 : decode prog_10_method_31_code 99 = .ok (.iadd, 1) := by decide +kernel
theorem d_Md_unask_100 : decode prog_10_method_31_code 100 = .ok (.iaload, 1) := by decide +kernel
theorem d_Md_unask_101 : decode prog_10_method_31_code 101 = .ok (.iastore, 1) := by decide +kernel
theorem d_Md_unask_102 : decode prog_10_method_31_code 102 = .ok (.iinc 3 1, 3) := by decide +kernel
theorem d_Md_unask_105 : decode prog_10_method_31_code 105 = .ok (.goto (-37), 3) := by decide +kernel
theorem d_Md_unask_108 : decode prog_10_method_31_code 108 = .ok (.iinc 2 1, 3) := by decide +kernel
theorem d_Md_unask_111 : decode prog_10_method_31_code 111 = .ok (.goto (-83), 3) := by decide +kernel
theorem d_Md_unask_114 : decode prog_10_method_31_code 114 = .ok (.aload_n 0, 1) := by decide +kernel
theorem d_Md_unask_115 : decode prog_10_method_31_code 115 = .ok (.getfield 167, 3) := by decide +kernel
theorem d_Md_unask_118 : decode prog_10_method_31_code 118 = .ok (.ireturn, 1) := by decide +kernel
theorem d_Md_compare_0 : decode prog_10_method_32_code 0 = .ok (.aload_n 0, 1) := by decide +kernel
theorem d_Md_compare_1 : decode prog_10_method_32_code 1 = .ok (.iload_n 1, 1) := by decide +kernel
theorem d_Md_compare_2 : decode prog_10_method_32_code 2 = .ok (.iload_n 2, 1) := by decide +kernel
theorem d_Md_compare_3 : decode prog_10_method_32_code 3 = .ok (.invokevirtual 160, 3) := by decide +kernel
theorem d_Md_compare_6 : decode prog_10_method_32_code 6 = .ok (.ifCond .ne 13, 3) := by decide +kernel
theorem d_Md_compare_9 : decode prog_10_method_32_code 9 = .ok (.aload_n 0, 1) := by decide +kernel
theorem d_Md_compare_10 : decode prog_10_method_32_code 10 = .ok (.iload_n 3, 1) := by decide +kernel
theorem d_Md_compare_11 : decode prog_10_method_32_code 11 = .ok (.iload 4, 2) := by decide +kernel
theorem d_Md_compare_13 : decode prog_10_method_32_code 13 = .ok (.invokevirtual 160, 3) := by decide +kernel
theorem d_Md_compare_16 : decode prog_10_method_32_code 16 = .ok (.ifCond .eq 6, 3) := by decide +kernel
theorem d_Md_compare_19 : decode prog_10_method_32_code 19 = .ok (.bipush (-9), 2) := by decide +kernel
theorem d_Md_compare_21 : decode prog_10_method_32_code 21 = .ok (.ireturn, 1) := by decide +kernel
theorem d_Md_compare_22 : decode prog_10_method_32_code 22 = .ok (.bipush 6, 2) := by decide +kernel
theorem d_Md_compare_24 : decode prog_10_method_32_code 24 = .ok (.iconst 4, 1) := by decide +kernel
theorem d_Md_compare_25 : decode prog_10_method_32_code 25 = .ok (.iload_n 3, 1) := by decide +kernel
theorem d_Md_compare_26 : decode prog_10_method_32_code 26 = .ok (.imul, 1) := by decide +kernel
theorem d_Md_compare_27 : decode prog_10_method_32_code 27 = .ok (.iadd, 1) := by decide +kernel
theorem d_Md_compare_28 : decode prog_10_method_32_code 28 = .ok (.iload 4, 2) := by decide +kernel
theorem d_Md_compare_30 : decode prog_10_method_32_code 30 = .ok (.iadd, 1) := by decide +kernel
theorem d_Md_compare_31 : decode prog_10_method_32_code 31 = .ok (.istore 5, 2) := by decide +kernel
theorem d_Md_compare_33 : decode prog_10_method_32_code 33 = .ok (.aload_n 0, 1) := by decide +kernel
theorem d_Md_compare_34 : decode prog_10_method_32_code 34 = .ok (.bipush 6, 2) := by decide +kernel
theorem d_Md_compare_36 : decode prog_10_method_32_code 36 = .ok (.iconst 4, 1) := by decide +kernel
theorem d_Md_compare_37 : decode prog_10_method_32_code 37 = .ok (.iload_n 1, 1) := by decide +kernel
theorem d_Md_compare_38 : decode prog_10_method_32_code 38 = .ok (.imul, 1) := by decide +kernel
theorem d_Md_compare_39 : decode prog_10_method_32_code 39 = .ok (.iadd, 1) := by decide +kernel
theorem d_Md_compare_40 : decode prog_10_method_32_code 40 = .ok (.iload_n 2, 1) := by decide +kernel
theorem d_Md_compare_41 : decode prog_10_method_32_code 41 = .ok (.iadd, 1) := by decide +kernel
theorem d_Md_compare_42 : decode prog_10_method_32_code 42 = .ok (.iload 5, 2) := by decide +kernel
theorem d_Md_compare_44 : decode prog_10_method_32_code 44 = .ok (.invokevirtual 170, 3) := by decide +kernel
theorem d_Md_compare_47 : decode prog_10_method_32_code 47 = .ok (.ireturn, 1) := by decide +kernel
theorem d_Md_compareTexts_0 : decode prog_10_method_33_code 0 = .ok (.aload_n 0, 1) := by decide +kernel
theorem d_Md_compareTexts_1 : decode prog_10_method_33_code 1 = .ok (.iload_n 1, 1) := by decide +kernel
theorem d_Md_compareTexts_2 : decode prog_10_method_33_code 2 = .ok (.iload_n 2, 1) := by decide +kernel
theorem d_Md_compareTexts_3 : decode prog_10_method_33_code 3 = .ok (.iconst 0, 1) := by decide +kernel
theorem d_Md_compareTexts_4 : decode prog_10_method_33_code 4 = .ok (.aload_n 0, 1) := by decide +kernel
theorem d_Md_compareTexts_5 : decode prog_10_method_33_code 5 = .ok (.getfield 13, 3) := by decide +kernel
theorem d_Md_compareTexts_8 : decode prog_10_method_33_code 8 = .ok (.iload_n 2, 1) := by decide +kernel
theorem d_Md_compareTexts_9 : decode prog_10_method_33_code 9 = .ok (.iaload, 1) := by decide +kernel
theorem d_Md_compareTexts_10 : decode prog_10_method_33_code 10 = .ok (.invokevirtual 149, 3) := by decide +kernel
theorem d_Md_compareTexts_13 : decode prog_10_method_33_code 13 = .ok (.ireturn, 1) := by decide +kernel
theorem d_Md_rank_0 : decode prog_10_method_34_code 0 = .ok (.aload_n 0, 1) := by decide +kernel
theorem d_Md_rank_1 : decode prog_10_method_34_code 1 = .ok (.iconst 0, 1) := by decide +kernel
theorem d_Md_rank_2 : decode prog_10_method_34_code 2 = .ok (.iconst 0, 1) := by decide +kernel
theorem d_Md_rank_3 : decode prog_10_method_34_code 3 = .ok (.aload_n 0, 1) := by decide +kernel
theorem d_Md_rank_4 : decode prog_10_method_34_code 4 = .ok (.getfield 13, 3) := by decide +kernel
theorem d_Md_rank_7 : decode prog_10_method_34_code 7 = .ok (.iconst 0, 1) := by decide +kernel
theorem d_Md_rank_8 : decode prog_10_method_34_code 8 = .ok (.iaload, 1) := by decide +kernel
theorem d_Md_rank_9 : decode prog_10_method_34_code 9 = .ok (.invokevirtual 143, 3) := by decide +kernel
theorem d_Md_rank_12 : decode prog_10_method_34_code 12 = .ok (.ifCond .ne 10, 3) := by decide +kernel
theorem d_Md_rank_15 : decode prog_10_method_34_code 15 = .ok (.aload_n 0, 1) := by decide +kernel
theorem d_Md_rank_16 : decode prog_10_method_34_code 16 = .ok (.bipush (-3), 2) := by decide +kernel
theorem d_Md_rank_18 : decode prog_10_method_34_code 18 = .ok (.invokevirtual 153, 3) := by decide +kernel
theorem d_Md_rank_21 : decode prog_10_method_34_code 21 = .ok (.ireturn, 1) := by decide +kernel
theorem d_Md_rank_22 : decode prog_10_method_34_code 22 = .ok (.iconst 0, 1) := by decide +kernel
theorem d_Md_rank_23 : decode prog_10_method_34_code 23 = .ok (.istore_n 2, 1) := by decide +kernel
theorem d_Md_rank_24 : decode prog_10_method_34_code 24 = .ok (.iconst 1, 1) := by decide +kernel
theorem d_Md_rank_25 : decode prog_10_method_34_code 25 = .ok (.istore_n 3, 1) := by decide +kernel
theorem d_Md_rank_26 : decode prog_10_method_34_code 26 = .ok (.iconst 0, 1) := by decide +kernel
theorem d_Md_rank_27 : decode prog_10_method_34_code 27 = .ok (.istore 4, 2) := by decide +kernel
theorem d_Md_rank_29 : decode prog_10_method_34_code 29 = .ok (.iload 4, 2) := by decide +kernel
theorem d_Md_rank_31 : decode prog_10_method_34_code 31 = .ok (.bipush 12, 2) := by decide +kernel
theorem d_Md_rank_33 : decode prog_10_method_34_code 33 = .ok (.if_icmp .gt 46, 3) := by decide +kernel
theorem d_Md_rank_36 : decode prog_10_method_34_code 36 = .ok (.iload 4, 2) := by decide +kernel
theorem d_Md_rank_38 : decode prog_10_method_34_code 38 = .ok (.iload_n 1, 1) := by decide +kernel
theorem d_Md_rank_39 : decode prog_10_method_34_code 39 = .ok (.if_icmp .gt 40, 3) := by decide +kernel
theorem d_Md_rank_42 : decode prog_10_method_34_code 42 = .ok (.aload_n 0, 1) := by decide +kernel
theorem d_Md_rank_43 : decode prog_10_method_34_code 43 = .ok (.iconst 0, 1) := by decide +kernel
theorem d_Md_rank_44 : decode prog_10_method_34_code 44 = .ok (.iload_n 2, 1) := by decide +kernel
theorem d_Md_rank_45 : decode prog_10_method_34_code 45 = .ok (.aload_n 0, 1) := by decide +kernel
theorem d_Md_rank_46 : decode prog_10_method_34_code 46 = .ok (.getfield 13, 3) := by decide +kernel
theorem d_Md_rank_49 : decode prog_10_method_34_code 49 = .ok (.iconst 0, 1) := by decide +kernel
theorem d_Md_rank_50 : decode prog_10_method_34_code 50 = .ok (.iaload, 1) := by decide +kernel
theorem d_Md_rank_51 : decode prog_10_method_34_code 51 = .ok (.invokevirtual 129, 3) := by decide +kernel
theorem d_Md_rank_54 : decode prog_10_method_34_code 54 = .ok (.istore_n 3, 1) := by decide +kernel
theorem d_Md_rank_55 : decode prog_10_method_34_code 55 = .ok (.iload_n 3, 1) := by decide +kernel
theorem d_Md_rank_56 : decode prog_10_method_34_code 56 = .ok (.ifCond .eq 10, 3) := by decide +kernel
theorem d_Md_rank_59 : decode prog_10_method_34_code 59 = .ok (.aload_n 0, 1) := by decide +kernel
theorem d_Md_rank_60 : decode prog_10_method_34_code 60 = .ok (.getfield 82, 3) := by decide +kernel
theorem d_Md_rank_63 : decode prog_10_method_34_code 63 = .ok (.goto 9, 3) := by decide +kernel
theorem d_Md_rank_66 : decode prog_10_method_34_code 66 = .ok (.aload_n 0, 1) := by decide +kernel
theorem d_Md_rank_67 : decode prog_10_method_34_code 67 = .ok (.getfield 13, 3) := by decide +kernel
theorem d_Md_rank_70 : decode prog_10_method_34_code 70 = .ok (.iconst 0, 1) := by decide +kernel
theorem d_Md_rank_71 : decode prog_10_method_34_code 71 = .ok (.iaload, 1) := by decide +kernel
theorem d_Md_rank_72 : decode prog_10_method_34_code 72 = .ok (.istore_n 2, 1) := by decide +kernel
theorem d_Md_rank_73 : decode prog_10_method_34_code 73 = .ok (.iinc 4 1, 3) := by decide +kernel
theorem d_Md_rank_76 : decode prog_10_method_34_code 76 = .ok (.goto (-47), 3) := by decide +kernel
theorem d_Md_rank_79 : decode prog_10_method_34_code 79 = .ok (.aload_n 0, 1) := by decide +kernel
theorem d_Md_rank_80 : decode prog_10_method_34_code 80 = .ok (.iload_n 1, 1) := by decide +kernel
theorem d_Md_rank_81 : decode prog_10_method_34_code 81 = .ok (.ifCond .lt 9, 3) := by decide +kernel
theorem d_Md_rank_84 : decode prog_10_method_34_code 84 = .ok (.iload_n 1, 1) := by decide +kernel
theorem d_Md_rank_85 : decode prog_10_method_34_code 85 = .ok (.bipush 12, 2) := by decide +kernel
theorem d_Md_rank_87 : decode prog_10_method_34_code 87 = .ok (.if_icmp .le 8, 3) := by decide +kernel
theorem d_Md_rank_90 : decode prog_10_method_34_code 90 = .ok (.bipush 6, 2) := by decide +kernel
theorem d_Md_rank_92 : decode prog_10_method_34_code 92 = .ok (.goto 9, 3) := by decide +kernel
theorem d_Md_rank_95 : decode prog_10_method_34_code 95 = .ok (.aload_n 0, 1) := by decide +kernel
theorem d_Md_rank_96 : decode prog_10_method_34_code 96 = .ok (.iconst 0, 1) := by decide +kernel
theorem d_Md_rank_97 : decode prog_10_method_34_code 97 = .ok (.iload_n 3, 1) := by decide +kernel
theorem d_Md_rank_98 : decode prog_10_method_34_code 98 = .ok (.invokevirtual 132, 3) := by decide +kernel
theorem d_Md_rank_101 : decode prog_10_method_34_code 101 = .ok (.invokevirtual 153, 3) := by decide +kernel
theorem d_Md_rank_104 : decode prog_10_method_34_code 104 = .ok (.ireturn, 1) := by decide +kernel
theorem d_Md_within_0 : decode prog_10_method_35_code 0 = .ok (.aload_n 0, 1) := by decide +kernel
theorem d_Md_within_1 : decode prog_10_method_35_code 1 = .ok (.iload_n 1, 1) := by decide +kernel
theorem d_Md_within_2 : decode prog_10_method_35_code 2 = .ok (.iload_n 2, 1) := by decide +kernel
theorem d_Md_within_3 : decode prog_10_method_35_code 3 = .ok (.invokevirtual 160, 3) := by decide +kernel
theorem d_Md_within_6 : decode prog_10_method_35_code 6 = .ok (.ifCond .eq 5, 3) := by decide +kernel
theorem d_Md_within_9 : decode prog_10_method_35_code 9 = .ok (.iconst (-1), 1) := by decide +kernel
theorem d_Md_within_10 : decode prog_10_method_35_code 10 = .ok (.ireturn, 1) := by decide +kernel
theorem d_Md_within_11 : decode prog_10_method_35_code 11 = .ok (.aload_n 0, 1) := by decide +kernel
theorem d_Md_within_12 : decode prog_10_method_35_code 12 = .ok (.iconst 0, 1) := by decide +kernel
theorem d_Md_within_13 : decode prog_10_method_35_code 13 = .ok (.invokevirtual 164, 3) := by decide +kernel
theorem d_Md_within_16 : decode prog_10_method_35_code 16 = .ok (.ifCond .ne 10, 3) := by decide +kernel
theorem d_Md_within_19 : decode prog_10_method_35_code 19 = .ok (.aload_n 0, 1) := by decide +kernel
theorem d_Md_within_20 : decode prog_10_method_35_code 20 = .ok (.bipush (-3), 2) := by decide +kernel
theorem d_Md_within_22 : decode prog_10_method_35_code 22 = .ok (.invokevirtual 153, 3) := by decide +kernel
theorem d_Md_within_25 : decode prog_10_method_35_code 25 = .ok (.ireturn, 1) := by decide +kernel
theorem d_Md_within_26 : decode prog_10_method_35_code 26 = .ok (.aload_n 0, 1) := by decide +kernel
theorem d_Md_within_27 : decode prog_10_method_35_code 27 = .ok (.aload_n 0, 1) := by decide +kernel
theorem d_Md_within_28 : decode prog_10_method_35_code 28 = .ok (.bipush 6, 2) := by decide +kernel
theorem d_Md_within_30 : decode prog_10_method_35_code 30 = .ok (.iconst 4, 1) := by decide +kernel
theorem d_Md_within_31 : decode prog_10_method_35_code 31 = .ok (.iload_n 1, 1) := by decide +kernel
theorem d_Md_within_32 : decode prog_10_method_35_code 32 = .ok (.imul, 1) := by decide +kernel
theorem d_Md_within_33 : decode prog_10_method_35_code 33 = .ok (.iadd, 1) := by decide +kernel
theorem d_Md_within_34 : decode prog_10_method_35_code 34 = .ok (.iload_n 2, 1) := by decide +kernel
theorem d_Md_within_35 : decode prog_10_method_35_code 35 = .ok (.iadd, 1) := by decide +kernel
theorem d_Md_within_36 : decode prog_10_method_35_code 36 = .ok (.iconst 0, 1) := by decide +kernel
theorem d_Md_within_37 : decode prog_10_method_35_code 37 = .ok (.invokevirtual 173, 3) := by decide +kernel
theorem d_Md_within_40 : decode prog_10_method_35_code 40 = .ok (.ifCond .eq 7, 3) := by decide +kernel
theorem d_Md_within_43 : decode prog_10_method_35_code 43 = .ok (.iconst 1, 1) := by decide +kernel
theorem d_Md_within_44 : decode prog_10_method_35_code 44 = .ok (.goto 4, 3) := by decide +kernel
theorem d_Md_within_47 : decode prog_10_method_35_code 47 = .ok (.iconst 0, 1) := by decide +kernel
theorem d_Md_within_48 : decode prog_10_method_35_code 48 = .ok (.invokevirtual 153, 3) := by decide +kernel
theorem d_Md_within_51 : decode prog_10_method_35_code 51 = .ok (.ireturn, 1) := by decide +kernel
theorem d_Md_inside_0 : decode prog_10_method_22_code 0 = .ok (.aload_n 0, 1) := by decide +kernel
theorem d_Md_inside_1 : decode prog_10_method_22_code 1 = .ok (.getfield 13, 3) := by decide +kernel
theorem d_Md_inside_4 : decode prog_10_method_22_code 4 = .ok (.iload_n 2, 1) := by decide +kernel
theorem d_Md_inside_5 : decode prog_10_method_22_code 5 = .ok (.iaload, 1) := by decide +kernel
theorem d_Md_inside_6 : decode prog_10_method_22_code 6 = .ok (.istore_n 3, 1) := by decide +kernel
theorem d_Md_inside_7 : decode prog_10_method_22_code 7 = .ok (.aload_n 0, 1) := by decide +kernel
theorem d_Md_inside_8 : decode prog_10_method_22_code 8 = .ok (.iload_n 2, 1) := by decide +kernel
theorem d_Md_inside_9 : decode prog_10_method_22_code 9 = .ok (.iconst 0, 1) := by decide +kernel
theorem d_Md_inside_10 : decode prog_10_method_22_code 10 = .ok (.invokevirtual 74, 3) := by decide +kernel
theorem d_Md_inside_13 : decode prog_10_method_22_code 13 = .ok (.istore 4, 2) := by decide +kernel
theorem d_Md_inside_15 : decode prog_10_method_22_code 15 = .ok (.aload_n 0, 1) := by decide +kernel
theorem d_Md_inside_16 : decode prog_10_method_22_code 16 = .ok (.iload_n 2, 1) := by decide +kernel
theorem d_Md_inside_17 : decode prog_10_method_22_code 17 = .ok (.invokevirtual 146, 3) := by decide +kernel
theorem d_Md_inside_20 : decode prog_10_method_22_code 20 = .ok (.istore 5, 2) := by decide +kernel
theorem d_Md_inside_22 : decode prog_10_method_22_code 22 = .ok (.iload 4, 2) := by decide +kernel
theorem d_Md_inside_24 : decode prog_10_method_22_code 24 = .ok (.bipush 91, 2) := by decide +kernel
theorem d_Md_inside_26 : decode prog_10_method_22_code 26 = .ok (.if_icmp .eq 27, 3) := by decide +kernel
theorem d_Md_inside_29 : decode prog_10_method_22_code 29 = .ok (.iload 4, 2) := by decide +kernel
theorem d_Md_inside_31 : decode prog_10_method_22_code 31 = .ok (.bipush 40, 2) := by decide +kernel
theorem d_Md_inside_33 : decode prog_10_method_22_code 33 = .ok (.if_icmp .eq 20, 3) := by decide +kernel
theorem d_Md_inside_36 : decode prog_10_method_22_code 36 = .ok (.aload_n 0, 1) := by decide +kernel
theorem d_Md_inside_37 : decode prog_10_method_22_code 37 = .ok (.iload_n 1, 1) := by decide +kernel
theorem d_Md_inside_38 : decode prog_10_method_22_code 38 = .ok (.iload_n 2, 1) := by decide +kernel
theorem d_Md_inside_39 : decode prog_10_method_22_code 39 = .ok (.iconst 0, 1) := by decide +kernel
theorem d_Md_inside_40 : decode prog_10_method_22_code 40 = .ok (.iload_n 3, 1) := by decide +kernel
theorem d_Md_inside_41 : decode prog_10_method_22_code 41 = .ok (.invokevirtual 149, 3) := by decide +kernel
theorem d_Md_inside_44 : decode prog_10_method_22_code 44 = .ok (.ifCond .lt 7, 3) := by decide +kernel
theorem d_Md_inside_47 : decode prog_10_method_22_code 47 = .ok (.iconst 1, 1) := by decide +kernel
theorem d_Md_inside_48 : decode prog_10_method_22_code 48 = .ok (.goto 4, 3) := by decide +kernel
theorem d_Md_inside_51 : decode prog_10_method_22_code 51 = .ok (.iconst 0, 1) := by decide +kernel
theorem d_Md_inside_52 : decode prog_10_method_22_code 52 = .ok (.ireturn, 1) := by decide +kernel
theorem d_Md_inside_53 : decode prog_10_method_22_code 53 = .ok (.iload 5, 2) := by decide +kernel
theorem d_Md_inside_55 : decode prog_10_method_22_code 55 = .ok (.ifCond .ge 22, 3) := by decide +kernel
theorem d_Md_inside_58 : decode prog_10_method_22_code 58 = .ok (.aload_n 0, 1) := by decide +kernel
theorem d_Md_inside_59 : decode prog_10_method_22_code 59 = .ok (.iload_n 1, 1) := by decide +kernel
theorem d_Md_inside_60 : decode prog_10_method_22_code 60 = .ok (.iload_n 2, 1) := by decide +kernel
theorem d_Md_inside_61 : decode prog_10_method_22_code 61 = .ok (.iconst 1, 1) := by decide +kernel
theorem d_Md_inside_62 : decode prog_10_method_22_code 62 = .ok (.iload_n 3, 1) := by decide +kernel
theorem d_Md_inside_63 : decode prog_10_method_22_code 63 = .ok (.iconst 1, 1) := by decide +kernel
theorem d_Md_inside_64 : decode prog_10_method_22_code 64 = .ok (.isub, 1) := by decide +kernel
theorem d_Md_inside_65 : decode prog_10_method_22_code 65 = .ok (.invokevirtual 149, 3) := by decide +kernel
theorem d_Md_inside_68 : decode prog_10_method_22_code 68 = .ok (.ifCond .ne 7, 3) := by decide +kernel
