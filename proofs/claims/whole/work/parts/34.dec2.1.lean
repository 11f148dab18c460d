theorem d_Rs_countWithdrawn_16 : decode prog_1_method_33_code 16 = .ok (.if_icmp .ge 23, 3) := by decide +kernel
theorem d_Rs_countWithdrawn_19 : decode prog_1_method_33_code 19 = .ok (.aload_n 2, 1) := by decide +kernel
theorem d_Rs_countWithdrawn_20 : decode prog_1_method_33_code 20 = .ok (.iload 4, 2) := by decide +kernel
theorem d_Rs_countWithdrawn_22 : decode prog_1_method_33_code 22 = .ok (.aaload, 1) := by decide +kernel
theorem d_Rs_countWithdrawn_23 : decode prog_1_method_33_code 23 = .ok (.astore 5, 2) := by decide +kernel
theorem d_Rs_countWithdrawn_25 : decode prog_1_method_33_code 25 = .ok (.iload_n 1, 1) := by decide +kernel
theorem d_Rs_countWithdrawn_26 : decode prog_1_method_33_code 26 = .ok (.aload 5, 2) := by decide +kernel
theorem d_Rs_countWithdrawn_28 : decode prog_1_method_33_code 28 = .ok (.invokevirtual 229, 3) := by decide +kernel
theorem d_Rs_countWithdrawn_31 : decode prog_1_method_33_code 31 = .ok (.iadd, 1) := by decide +kernel
theorem d_Rs_countWithdrawn_32 : decode prog_1_method_33_code 32 = .ok (.istore_n 1, 1) := by decide +kernel
theorem d_Rs_countWithdrawn_33 : decode prog_1_method_33_code 33 = .ok (.iinc 4 1, 3) := by decide +kernel
theorem d_Rs_countWithdrawn_36 : decode prog_1_method_33_code 36 = .ok (.goto (-23), 3) := by decide +kernel
theorem d_Rs_countWithdrawn_39 : decode prog_1_method_33_code 39 = .ok (.iload_n 1, 1) := by decide +kernel
theorem d_Rs_countWithdrawn_40 : decode prog_1_method_33_code 40 = .ok (.ireturn, 1) := by decide +kernel
theorem d_Rs_countNeeds_0 : decode prog_1_method_34_code 0 = .ok (.iconst 0, 1) := by decide +kernel
theorem d_Rs_countNeeds_1 : decode prog_1_method_34_code 1 = .ok (.istore_n 1, 1) := by decide +kernel
theorem d_Rs_countNeeds_2 : decode prog_1_method_34_code 2 = .ok (.aload_n 0, 1) := by decide +kernel
theorem d_Rs_countNeeds_3 : decode prog_1_method_34_code 3 = .ok (.getfield 18, 3) := by decide +kernel
theorem d_Rs_countNeeds_6 : decode prog_1_method_34_code 6 = .ok (.astore_n 2, 1) := by decide +kernel
theorem d_Rs_countNeeds_7 : decode prog_1_method_34_code 7 = .ok (.aload_n 2, 1) := by decide +kernel
theorem d_Rs_countNeeds_8 : decode prog_1_method_34_code 8 = .ok (.arraylength, 1) := by decide +kernel
theorem d_Rs_countNeeds_9 : decode prog_1_method_34_code 9 = .ok (.istore_n 3, 1) := by decide +kernel
theorem d_Rs_countNeeds_10 : decode prog_1_method_34_code 10 = .ok (.iconst 0, 1) := by decide +kernel
theorem d_Rs_countNeeds_11 : decode prog_1_method_34_code 11 = .ok (.istore 4, 2) := by decide +kernel
theorem d_Rs_countNeeds_13 : decode prog_1_method_34_code 13 = .ok (.iload 4, 2) := by decide +kernel
theorem d_Rs_countNeeds_15 : decode prog_1_method_34_code 15 = .ok (.iload_n 3, 1) := by decide +kernel
theorem d_Rs_countNeeds_16 : decode prog_1_method_34_code 16 = .ok (.if_icmp .ge 23, 3) := by decide +kernel
theorem d_Rs_countNeeds_19 : decode prog_1_method_34_code 19 = .ok (.aload_n 2, 1) := by decide +kernel
theorem d_Rs_countNeeds_20 : decode prog_1_method_34_code 20 = .ok (.iload 4, 2) := by decide +kernel
theorem d_Rs_countNeeds_22 : decode prog_1_method_34_code 22 = .ok (.aaload, 1) := by decide +kernel
theorem d_Rs_countNeeds_23 : decode prog_1_method_34_code 23 = .ok (.astore 5, 2) := by decide +kernel
theorem d_Rs_countNeeds_25 : decode prog_1_method_34_code 25 = .ok (.iload_n 1, 1) := by decide +kernel
theorem d_Rs_countNeeds_26 : decode prog_1_method_34_code 26 = .ok (.aload 5, 2) := by decide +kernel
theorem d_Rs_countNeeds_28 : decode prog_1_method_34_code 28 = .ok (.invokevirtual 232, 3) := by decide +kernel
theorem d_Rs_countNeeds_31 : decode prog_1_method_34_code 31 = .ok (.iadd, 1) := by decide +kernel
theorem d_Rs_countNeeds_32 : decode prog_1_method_34_code 32 = .ok (.istore_n 1, 1) := by decide +kernel
theorem d_Rs_countNeeds_33 : decode prog_1_method_34_code 33 = .ok (.iinc 4 1, 3) := by decide +kernel
theorem d_Rs_countNeeds_36 : decode prog_1_method_34_code 36 = .ok (.goto (-23), 3) := by decide +kernel
theorem d_Rs_countNeeds_39 : decode prog_1_method_34_code 39 = .ok (.iload_n 1, 1) := by decide +kernel
theorem d_Rs_countNeeds_40 : decode prog_1_method_34_code 40 = .ok (.ireturn, 1) := by decide +kernel
theorem d_Se_init_0 : decode prog_7_method_1_code 0 = .ok (.aload_n 0, 1) := by decide +kernel
theorem d_Se_init_1 : decode prog_7_method_1_code 1 = .ok (.invokespecial 5, 3) := by decide +kernel
theorem d_Se_init_4 : decode prog_7_method_1_code 4 = .ok (.aload_n 0, 1) := by decide +kernel
theorem d_Se_init_5 : decode prog_7_method_1_code 5 = .ok (.bipush 6, 2) := by decide +kernel
theorem d_Se_init_7 : decode prog_7_method_1_code 7 = .ok (.iconst 5, 1) := by decide +kernel
theorem d_Se_init_8 : decode prog_7_method_1_code 8 = .ok (.multianewarray 11 2, 4) := by decide +kernel
theorem d_Se_init_12 : decode prog_7_method_1_code 12 = .ok (.putfield 13, 3) := by decide +kernel
theorem d_Se_init_15 : decode prog_7_method_1_code 15 = .ok (.aload_n 0, 1) := by decide +kernel
theorem d_Se_init_16 : decode prog_7_method_1_code 16 = .ok (.bipush 6, 2) := by decide +kernel
theorem d_Se_init_18 : decode prog_7_method_1_code 18 = .ok (.newarray .int, 2) := by decide +kernel
theorem d_Se_init_20 : decode prog_7_method_1_code 20 = .ok (.putfield 16, 3) := by decide +kernel
theorem d_Se_init_23 : decode prog_7_method_1_code 23 = .ok (.aload_n 0, 1) := by decide +kernel
theorem d_Se_init_24 : decode prog_7_method_1_code 24 = .ok (.bipush 30, 2) := by decide +kernel
theorem d_Se_init_26 : decode prog_7_method_1_code 26 = .ok (.bipush 6, 2) := by decide +kernel
theorem d_Se_init_28 : decode prog_7_method_1_code 28 = .ok (.multianewarray 11 2, 4) := by decide +kernel
theorem d_Se_init_32 : decode prog_7_method_1_code 32 = .ok (.putfield 20, 3) := by decide +kernel
theorem d_Se_init_35 : decode prog_7_method_1_code 35 = .ok (.aload_n 0, 1) := by decide +kernel
theorem d_Se_init_36 : decode prog_7_method_1_code 36 = .ok (.bipush 30, 2) := by decide +kernel
theorem d_Se_init_38 : decode prog_7_method_1_code 38 = .ok (.newarray .int, 2) := by decide +kernel
theorem d_Se_init_40 : decode prog_7_method_1_code 40 = .ok (.putfield 23, 3) := by decide +kernel
theorem d_Se_init_43 : decode prog_7_method_1_code 43 = .ok (.aload_n 0, 1) := by decide +kernel
theorem d_Se_init_44 : decode prog_7_method_1_code 44 = .ok (.iconst 4, 1) := by decide +kernel
theorem d_Se_init_45 : decode prog_7_method_1_code 45 = .ok (.newarray .int, 2) := by decide +kernel
theorem d_Se_init_47 : decode prog_7_method_1_code 47 = .ok (.putfield 26, 3) := by decide +kernel
theorem d_Se_init_50 : decode prog_7_method_1_code 50 = .ok (.aload_n 0, 1) := by decide +kernel
theorem d_Se_init_51 : decode prog_7_method_1_code 51 = .ok (.iconst 4, 1) := by decide +kernel
theorem d_Se_init_52 : decode prog_7_method_1_code 52 = .ok (.newarray .int, 2) := by decide +kernel
theorem d_Se_init_54 : decode prog_7_method_1_code 54 = .ok (.putfield 29, 3) := by decide +kernel
theorem d_Se_init_57 : decode prog_7_method_1_code 57 = .ok (.aload_n 0, 1) := by decide +kernel
theorem d_Se_init_58 : decode prog_7_method_1_code 58 = .ok (.iconst 0, 1) := by decide +kernel
theorem d_Se_init_59 : decode prog_7_method_1_code 59 = .ok (.putfield 32, 3) := by decide +kernel
theorem d_Se_init_62 : decode prog_7_method_1_code 62 = .ok (.aload_n 0, 1) := by decide +kernel
theorem d_Se_init_63 : decode prog_7_method_1_code 63 = .ok (.iconst 0, 1) := by decide +kernel
theorem d_Se_init_64 : decode prog_7_method_1_code 64 = .ok (.putfield 36, 3) := by decide +kernel
theorem d_Se_init_67 : decode prog_7_method_1_code 67 = .ok (.aload_n 0, 1) := by decide +kernel
theorem d_Se_init_68 : decode prog_7_method_1_code 68 = .ok (.bipush 7, 2) := by decide +kernel
theorem d_Se_init_70 : decode prog_7_method_1_code 70 = .ok (.bipush 6, 2) := by decide +kernel
theorem d_Se_init_72 : decode prog_7_method_1_code 72 = .ok (.multianewarray 11 2, 4) := by decide +kernel
theorem d_Se_init_76 : decode prog_7_method_1_code 76 = .ok (.putfield 39, 3) := by decide +kernel
theorem d_Se_init_79 : decode prog_7_method_1_code 79 = .ok (.return_, 1) := by decide +kernel
theorem d_Se_prepare_0 : decode prog_7_method_2_code 0 = .ok (.aload_n 0, 1) := by decide +kernel
theorem d_Se_prepare_1 : decode prog_7_method_2_code 1 = .ok (.getfield 23, 3) := by decide +kernel
theorem d_Se_prepare_4 : decode prog_7_method_2_code 4 = .ok (.iconst 0, 1) := by decide +kernel
theorem d_Se_prepare_5 : decode prog_7_method_2_code 5 = .ok (.invokestatic 42, 3) := by decide +kernel
theorem d_Se_prepare_8 : decode prog_7_method_2_code 8 = .ok (.iconst 0, 1) := by decide +kernel
theorem d_Se_prepare_9 : decode prog_7_method_2_code 9 = .ok (.istore 4, 2) := by decide +kernel
theorem d_Se_prepare_11 : decode prog_7_method_2_code 11 = .ok (.iload 4, 2) := by decide +kernel
theorem d_Se_prepare_13 : decode prog_7_method_2_code 13 = .ok (.bipush 30, 2) := by decide +kernel
theorem d_Se_prepare_15 : decode prog_7_method_2_code 15 = .ok (.if_icmp .ge 21, 3) := by decide +kernel
theorem d_Se_prepare_18 : decode prog_7_method_2_code 18 = .ok (.aload_n 0, 1) := by decide +kernel
theorem d_Se_prepare_19 : decode prog_7_method_2_code 19 = .ok (.getfield 20, 3) := by decide +kernel
theorem d_Se_prepare_22 : decode prog_7_method_2_code 22 = .ok (.iload 4, 2) := by decide +kernel
theorem d_Se_prepare_24 : decode prog_7_method_2_code 24 = .ok (.aaload, 1) := by decide +kernel
theorem d_Se_prepare_25 : decode prog_7_method_2_code 25 = .ok (.bipush 31, 2) := by decide +kernel
theorem d_Se_prepare_27 : decode prog_7_method_2_code 27 = .ok (.invokestatic 42, 3) := by decide +kernel
theorem d_Se_prepare_30 : decode prog_7_method_2_code 30 = .ok (.iinc 4 1, 3) := by decide +kernel
theorem d_Se_prepare_33 : decode prog_7_method_2_code 33 = .ok (.goto (-22), 3) := by decide +kernel
theorem d_Se_prepare_36 : decode prog_7_method_2_code 36 = .ok (.iconst 0, 1) := by decide +kernel
theorem d_Se_prepare_37 : decode prog_7_method_2_code 37 = .ok (.istore 4, 2) := by decide +kernel
theorem d_Se_prepare_39 : decode prog_7_method_2_code 39 = .ok (.iload 4, 2) := by decide +kernel
theorem d_Se_prepare_41 : decode prog_7_method_2_code 41 = .ok (.bipush 6, 2) := by decide +kernel
theorem d_Se_prepare_43 : decode prog_7_method_2_code 43 = .ok (.if_icmp .ge 49, 3) := by decide +kernel
theorem d_Se_prepare_46 : decode prog_7_method_2_code 46 = .ok (.aload_n 0, 1) := by decide +kernel
theorem d_Se_prepare_47 : decode prog_7_method_2_code 47 = .ok (.iload 4, 2) := by decide +kernel
theorem d_Se_prepare_49 : decode prog_7_method_2_code 49 = .ok (.aload_n 1, 1) := by decide +kernel
theorem d_Se_prepare_50 : decode prog_7_method_2_code 50 = .ok (.iload 4, 2) := by decide +kernel
theorem d_Se_prepare_52 : decode prog_7_method_2_code 52 = .ok (.aaload, 1) := by decide +kernel
theorem d_Se_prepare_53 : decode prog_7_method_2_code 53 = .ok (.invokevirtual 48, 3) := by decide +kernel
theorem d_Se_prepare_56 : decode prog_7_method_2_code 56 = .ok (.iconst 0, 1) := by decide +kernel
theorem d_Se_prepare_57 : decode prog_7_method_2_code 57 = .ok (.istore 5, 2) := by decide +kernel
theorem d_Se_prepare_59 : decode prog_7_method_2_code 59 = .ok (.iload 5, 2) := by decide +kernel
theorem d_Se_prepare_61 : decode prog_7_method_2_code 61 = .ok (.aload_n 1, 1) := by decide +kernel
theorem d_Se_prepare_62 : decode prog_7_method_2_code 62 = .ok (.iload 4, 2) := by decide +kernel
theorem d_Se_prepare_64 : decode prog_7_method_2_code 64 = .ok (.aaload, 1) := by decide +kernel
theorem d_Se_prepare_65 : decode prog_7_method_2_code 65 = .ok (.invokevirtual 52, 3) := by decide +kernel
theorem d_Se_prepare_68 : decode prog_7_method_2_code 68 = .ok (.if_icmp .ge 18, 3) := by decide +kernel
theorem d_Se_prepare_71 : decode prog_7_method_2_code 71 = .ok (.aload_n 0, 1) := by decide +kernel
theorem d_Se_prepare_72 : decode prog_7_method_2_code 72 = .ok (.aload_n 1, 1) := by decide +kernel
theorem d_Se_prepare_73 : decode prog_7_method_2_code 73 = .ok (.iload 4, 2) := by decide +kernel
theorem d_Se_prepare_75 : decode prog_7_method_2_code 75 = .ok (.iload 5, 2) := by decide +kernel
theorem d_Se_prepare_77 : decode prog_7_method_2_code 77 = .ok (.invokevirtual 58, 3) := by decide +kernel
theorem d_Se_prepare_80 : decode prog_7_method_2_code 80 = .ok (.iinc 5 1, 3) := by decide +kernel
theorem d_Se_prepare_83 : decode prog_7_method_2_code 83 = .ok (.goto (-24), 3) := by decide +kernel
theorem d_Se_prepare_86 : decode prog_7_method_2_code 86 = .ok (.iinc 4 1, 3) := by decide +kernel
theorem d_Se_prepare_89 : decode prog_7_method_2_code 89 = .ok (.goto (-50), 3) := by decide +kernel
theorem d_Se_prepare_92 : decode prog_7_method_2_code 92 = .ok (.iconst 0, 1) := by decide +kernel
theorem d_Se_prepare_93 : decode prog_7_method_2_code 93 = .ok (.istore 4, 2) := by decide +kernel
theorem d_Se_prepare_95 : decode prog_7_method_2_code 95 = .ok (.iload 4, 2) := by decide +kernel
theorem d_Se_prepare_97 : decode prog_7_method_2_code 97 = .ok (.bipush 6, 2) := by decide +kernel
theorem d_Se_prepare_99 : decode prog_7_method_2_code 99 = .ok (.if_icmp .ge 20, 3) := by decide +kernel
theorem d_Se_prepare_102 : decode prog_7_method_2_code 102 = .ok (.aload_n 0, 1) := by decide +kernel
theorem d_Se_prepare_103 : decode prog_7_method_2_code 103 = .ok (.iload 4, 2) := by decide +kernel
theorem d_Se_prepare_105 : decode prog_7_method_2_code 105 = .ok (.aload_n 1, 1) := by decide +kernel
theorem d_Se_prepare_106 : decode prog_7_method_2_code 106 = .ok (.iload 4, 2) := by decide +kernel
theorem d_Se_prepare_108 : decode prog_7_method_2_code 108 = .ok (.aaload, 1) := by decide +kernel
theorem d_Se_prepare_109 : decode prog_7_method_2_code 109 = .ok (.aload_n 2, 1) := by decide +kernel
theorem d_Se_prepare_110 : decode prog_7_method_2_code 110 = .ok (.invokevirtual 62, 3) := by decide +kernel
theorem d_Se_prepare_113 : decode prog_7_method_2_code 113 = .ok (.iinc 4 1, 3) := by decide +kernel
theorem d_Se_prepare_116 : decode prog_7_method_2_code 116 = .ok (.goto (-21), 3) := by decide +kernel
theorem d_Se_prepare_119 : decode prog_7_method_2_code 119 = .ok (.aload_n 0, 1) := by decide +kernel
theorem d_Se_prepare_120 : decode prog_7_method_2_code 120 = .ok (.aload_n 1, 1) := by decide +kernel
theorem d_Se_prepare_121 : decode prog_7_method_2_code 121 = .ok (.aload_n 3, 1) := by decide +kernel
theorem d_Se_prepare_122 : decode prog_7_method_2_code 122 = .ok (.invokevirtual 66, 3) := by decide +kernel
theorem d_Se_prepare_125 : decode prog_7_method_2_code 125 = .ok (.return_, 1) := by decide +kernel
theorem d_Se_prepareOrder_0 : decode prog_7_method_6_code 0 = .ok (.aload_n 2, 1) := by decide +kernel
theorem d_Se_prepareOrder_1 : decode prog_7_method_6_code 1 = .ok (.getfield 78, 3) := by decide +kernel
theorem d_Se_prepareOrder_4 : decode prog_7_method_6_code 4 = .ok (.iconst 0, 1) := by decide +kernel
theorem d_Se_prepareOrder_5 : decode prog_7_method_6_code 5 = .ok (.aload_n 0, 1) := by decide +kernel
theorem d_Se_prepareOrder_6 : decode prog_7_method_6_code 6 = .ok (.getfield 13, 3) := by decide +kernel
theorem d_Se_prepareOrder_9 : decode prog_7_method_6_code 9 = .ok (.iload_n 1, 1) := by decide +kernel
theorem d_Se_prepareOrder_10 : decode prog_7_method_6_code 10 = .ok (.aaload, 1) := by decide +kernel
theorem d_Se_prepareOrder_11 : decode prog_7_method_6_code 11 = .ok (.iconst 0, 1) := by decide +kernel
theorem d_Se_prepareOrder_12 : decode prog_7_method_6_code 12 = .ok (.iconst 4, 1) := by decide +kernel
theorem d_Se_prepareOrder_13 : decode prog_7_method_6_code 13 = .ok (.invokestatic 81, 3) := by decide +kernel
theorem d_Se_prepareOrder_16 : decode prog_7_method_6_code 16 = .ok (.aload_n 0, 1) := by decide +kernel
theorem d_Se_prepareOrder_17 : decode prog_7_method_6_code 17 = .ok (.getfield 13, 3) := by decide +kernel
theorem d_Se_prepareOrder_20 : decode prog_7_method_6_code 20 = .ok (.iload_n 1, 1) := by decide +kernel
theorem d_Se_prepareOrder_21 : decode prog_7_method_6_code 21 = .ok (.aaload, 1) := by decide +kernel
theorem d_Se_prepareOrder_22 : decode prog_7_method_6_code 22 = .ok (.iconst 4, 1) := by decide +kernel
theorem d_Se_prepareOrder_23 : decode prog_7_method_6_code 23 = .ok (.iconst 4, 1) := by decide +kernel
theorem d_Se_prepareOrder_24 : decode prog_7_method_6_code 24 = .ok (.iastore, 1) := by decide +kernel
theorem d_Se_prepareOrder_25 : decode prog_7_method_6_code 25 = .ok (.return_, 1) := by decide +kernel
theorem d_Se_prepareNeeds_0 : decode prog_7_method_7_code 0 = .ok (.aload_n 1, 1) := by decide +kernel
theorem d_Se_prepareNeeds_1 : decode prog_7_method_7_code 1 = .ok (.iload_n 2, 1) := by decide +kernel
theorem d_Se_prepareNeeds_2 : decode prog_7_method_7_code 2 = .ok (.aaload, 1) := by decide +kernel
theorem d_Se_prepareNeeds_3 : decode prog_7_method_7_code 3 = .ok (.iload_n 3, 1) := by decide +kernel
theorem d_Se_prepareNeeds_4 : decode prog_7_method_7_code 4 = .ok (.invokevirtual 87, 3) := by decide +kernel
theorem d_Se_prepareNeeds_7 : decode prog_7_method_7_code 7 = .ok (.astore 4, 2) := by decide +kernel
theorem d_Se_prepareNeeds_9 : decode prog_7_method_7_code 9 = .ok (.aload 4, 2) := by decide +kernel
theorem d_Se_prepareNeeds_11 : decode prog_7_method_7_code 11 = .ok (.ifnonnull 4, 3) := by decide +kernel
theorem d_Se_prepareNeeds_14 : decode prog_7_method_7_code 14 = .ok (.return_, 1) := by decide +kernel
theorem d_Se_prepareNeeds_15 : decode prog_7_method_7_code 15 = .ok (.iconst 0, 1) := by decide +kernel
theorem d_Se_prepareNeeds_16 : decode prog_7_method_7_code 16 = .ok (.istore 5, 2) := by decide +kernel
theorem d_Se_prepareNeeds_18 : decode prog_7_method_7_code 18 = .ok (.iload 5, 2) := by decide +kernel
theorem d_Se_prepareNeeds_20 : decode prog_7_method_7_code 20 = .ok (.aload 4, 2) := by decide +kernel
theorem d_Se_prepareNeeds_22 : decode prog_7_method_7_code 22 = .ok (.getfield 91, 3) := by decide +kernel
theorem d_Se_prepareNeeds_25 : decode prog_7_method_7_code 25 = .ok (.invokevirtual 97, 3) := by decide +kernel
theorem d_Se_prepareNeeds_28 : decode prog_7_method_7_code 28 = .ok (.if_icmp .ge 92, 3) := by decide +kernel
theorem d_Se_prepareNeeds_31 : decode prog_7_method_7_code 31 = .ok (.aload 4, 2) := by decide +kernel
theorem d_Se_prepareNeeds_33 : decode prog_7_method_7_code 33 = .ok (.getfield 91, 3) := by decide +kernel
theorem d_Se_prepareNeeds_36 : decode prog_7_method_7_code 36 = .ok (.iload 5, 2) := by decide +kernel
theorem d_Se_prepareNeeds_38 : decode prog_7_method_7_code 38 = .ok (.invokevirtual 100, 3) := by decide +kernel
theorem d_Se_prepareNeeds_41 : decode prog_7_method_7_code 41 = .ok (.checkcast 104, 3) := by decide +kernel
theorem d_Se_prepareNeeds_44 : decode prog_7_method_7_code 44 = .ok (.astore 6, 2) := by decide +kernel
theorem d_Se_prepareNeeds_46 : decode prog_7_method_7_code 46 = .ok (.aload_n 1, 1) := by decide +kernel
theorem d_Se_prepareNeeds_47 : decode prog_7_method_7_code 47 = .ok (.aload 6, 2) := by decide +kernel
theorem d_Se_prepareNeeds_49 : decode prog_7_method_7_code 49 = .ok (.getfield 106, 3) := by decide +kernel
theorem d_Se_prepareNeeds_52 : decode prog_7_method_7_code 52 = .ok (.aaload, 1) := by decide +kernel
theorem d_Se_prepareNeeds_53 : decode prog_7_method_7_code 53 = .ok (.aload 6, 2) := by decide +kernel
theorem d_Se_prepareNeeds_55 : decode prog_7_method_7_code 55 = .ok (.getfield 109, 3) := by decide +kernel
theorem d_Se_prepareNeeds_58 : decode prog_7_method_7_code 58 = .ok (.invokevirtual 113, 3) := by decide +kernel
theorem d_Se_prepareNeeds_61 : decode prog_7_method_7_code 61 = .ok (.istore 7, 2) := by decide +kernel
theorem d_Se_prepareNeeds_63 : decode prog_7_method_7_code 63 = .ok (.aload 6, 2) := by decide +kernel
theorem d_Se_prepareNeeds_65 : decode prog_7_method_7_code 65 = .ok (.getfield 117, 3) := by decide +kernel
theorem d_Se_prepareNeeds_68 : decode prog_7_method_7_code 68 = .ok (.ifCond .eq 13, 3) := by decide +kernel
theorem d_Se_prepareNeeds_71 : decode prog_7_method_7_code 71 = .ok (.iload 7, 2) := by decide +kernel
theorem d_Se_prepareNeeds_73 : decode prog_7_method_7_code 73 = .ok (.bipush 16, 2) := by decide +kernel
theorem d_Se_prepareNeeds_75 : decode prog_7_method_7_code 75 = .ok (.ior, 1) := by decide +kernel
theorem d_Se_prepareNeeds_76 : decode prog_7_method_7_code 76 = .ok (.istore 7, 2) := by decide +kernel
theorem d_Se_prepareNeeds_78 : decode prog_7_method_7_code 78 = .ok (.goto 23, 3) := by decide +kernel
theorem d_Se_prepareNeeds_81 : decode prog_7_method_7_code 81 = .ok (.aload_n 0, 1) := by decide +kernel
theorem d_Se_prepareNeeds_82 : decode prog_7_method_7_code 82 = .ok (.getfield 23, 3) := by decide +kernel
theorem d_Se_prepareNeeds_85 : decode prog_7_method_7_code 85 = .ok (.iload_n 2, 1) := by decide +kernel
theorem d_Se_prepareNeeds_86 : decode prog_7_method_7_code 86 = .ok (.iload_n 3, 1) := by decide +kernel
theorem d_Se_prepareNeeds_87 : decode prog_7_method_7_code 87 = .ok (.invokestatic 121, 3) := by decide +kernel
theorem d_Se_prepareNeeds_90 : decode prog_7_method_7_code 90 = .ok (.dup2, 1) := by decide +kernel
theorem d_Se_prepareNeeds_91 : decode prog_7_method_7_code 91 = .ok (.iaload, 1) := by decide +kernel
theorem d_Se_prepareNeeds_92 : decode prog_7_method_7_code 92 = .ok (.iconst 1, 1) := by decide +kernel
theorem d_Se_prepareNeeds_93 : decode prog_7_method_7_code 93 = .ok (.aload 6, 2) := by decide +kernel
theorem d_Se_prepareNeeds_95 : decode prog_7_method_7_code 95 = .ok (.getfield 106, 3) := by decide +kernel
theorem d_Se_prepareNeeds_98 : decode prog_7_method_7_code 98 = .ok (.ishl, 1) := by decide +kernel
theorem d_Se_prepareNeeds_99 : decode prog_7_method_7_code 99 = .ok (.ior, 1) := by decide +kernel
theorem d_Se_prepareNeeds_100 : decode prog_7_method_7_code 100 = .ok (.iastore, 1) := by decide +kernel
theorem d_Se_prepareNeeds_101 : decode prog_7_method_7_code 101 = .ok (.aload_n 0, 1) := by decide +kernel
theorem d_Se_prepareNeeds_102 : decode prog_7_method_7_code 102 = .ok (.iload_n 2, 1) := by decide +kernel
theorem d_Se_prepareNeeds_103 : decode prog_7_method_7_code 103 = .ok (.iload_n 3, 1) := by decide +kernel
theorem d_Se_prepareNeeds_104 : decode prog_7_method_7_code 104 = .ok (.aload 6, 2) := by decide +kernel
theorem d_Se_prepareNeeds_106 : decode prog_7_method_7_code 106 = .ok (.getfield 106, 3) := by decide +kernel
theorem d_Se_prepareNeeds_109 : decode prog_7_method_7_code 109 = .ok (.iload 7, 2) := by decide +kernel
theorem d_Se_prepareNeeds_111 : decode prog_7_method_7_code 111 = .ok (.invokevirtual 125, 3) := by decide +kernel
theorem d_Se_prepareNeeds_114 : decode prog_7_method_7_code 114 = .ok (.iinc 5 1, 3) := by decide +kernel
theorem d_Se_prepareNeeds_117 : decode prog_7_method_7_code 117 = .ok (.goto (-99), 3) := by decide +kernel
theorem d_Se_prepareNeeds_120 : decode prog_7_method_7_code 120 = .ok (.return_, 1) := by decide +kernel
theorem d_Se_row_0 : decode prog_7_method_5_code 0 = .ok (.iload_n 0, 1) := by decide +kernel
theorem d_Se_row_1 : decode prog_7_method_5_code 1 = .ok (.iconst 5, 1) := by decide +kernel
theorem d_Se_row_2 : decode prog_7_method_5_code 2 = .ok (.imul, 1) := by decide +kernel
theorem d_Se_row_3 : decode prog_7_method_5_code 3 = .ok (.iload_n 1, 1) := by decide +kernel
theorem d_Se_row_4 : decode prog_7_method_5_code 4 = .ok (.iadd, 1) := by decide +kernel
theorem d_Se_row_5 : decode prog_7_method_5_code 5 = .ok (.ireturn, 1) := by decide +kernel
theorem d_Se_keepOnly_0 : decode prog_7_method_8_code 0 = .ok (.aload_n 0, 1) := by decide +kernel
theorem d_Se_keepOnly_1 : decode prog_7_method_8_code 1 = .ok (.getfield 20, 3) := by decide +kernel
theorem d_Se_keepOnly_4 : decode prog_7_method_8_code 4 = .ok (.iload_n 1, 1) := by decide +kernel
theorem d_Se_keepOnly_5 : decode prog_7_method_8_code 5 = .ok (.iload_n 2, 1) := by decide +kernel
theorem d_Se_keepOnly_6 : decode prog_7_method_8_code 6 = .ok (.invokestatic 121, 3) := by decide +kernel
theorem d_Se_keepOnly_9 : decode prog_7_method_8_code 9 = .ok (.aaload, 1) := by decide +kernel
theorem d_Se_keepOnly_10 : decode prog_7_method_8_code 10 = .ok (.iload_n 3, 1) := by decide +kernel
theorem d_Se_keepOnly_11 : decode prog_7_method_8_code 11 = .ok (.dup2, 1) := by decide +kernel
theorem d_Se_keepOnly_12 : decode prog_7_method_8_code 12 = .ok (.iaload, 1) := by decide +kernel
theorem d_Se_keepOnly_13 : decode prog_7_method_8_code 13 = .ok (.iload 4, 2) := by decide +kernel
theorem d_Se_keepOnly_15 : decode prog_7_method_8_code 15 = .ok (.iand, 1) := by decide +kernel
theorem d_Se_keepOnly_16 : decode prog_7_method_8_code 16 = .ok (.iastore, 1) := by decide +kernel
theorem d_Se_keepOnly_17 : decode prog_7_method_8_code 17 = .ok (.iconst 0, 1) := by decide +kernel
theorem d_Se_keepOnly_18 : decode prog_7_method_8_code 18 = .ok (.istore 5, 2) := by decide +kernel
theorem d_Se_keepOnly_20 : decode prog_7_method_8_code 20 = .ok (.iload 5, 2) := by decide +kernel
theorem d_Se_keepOnly_22 : decode prog_7_method_8_code 22 = .ok (.iconst 5, 1) := by decide +kernel
theorem d_Se_keepOnly_23 : decode prog_7_method_8_code 23 = .ok (.if_icmp .ge 40, 3) := by decide +kernel
theorem d_Se_keepOnly_26 : decode prog_7_method_8_code 26 = .ok (.iload 4, 2) := by decide +kernel
theorem d_Se_keepOnly_28 : decode prog_7_method_8_code 28 = .ok (.iload 5, 2) := by decide +kernel
theorem d_Se_keepOnly_30 : decode prog_7_method_8_code 30 = .ok (.invokestatic 70, 3) := by decide +kernel
theorem d_Se_keepOnly_33 : decode prog_7_method_8_code 33 = .ok (.ifCond .ne 24, 3) := by decide +kernel
theorem d_Se_keepOnly_36 : decode prog_7_method_8_code 36 = .ok (.aload_n 0, 1) := by decide +kernel
theorem d_Se_keepOnly_37 : decode prog_7_method_8_code 37 = .ok (.getfield 20, 3) := by decide +kernel
theorem d_Se_keepOnly_40 : decode prog_7_method_8_code 40 = .ok (.iload_n 3, 1) := by decide +kernel
theorem d_Se_keepOnly_41 : decode prog_7_method_8_code 41 = .ok (.iload 5, 2) := by decide +kernel
theorem d_Se_keepOnly_43 : decode prog_7_method_8_code 43 = .ok (.invokestatic 121, 3) := by decide +kernel
theorem d_Se_keepOnly_46 : decode prog_7_method_8_code 46 = .ok (.aaload, 1) := by decide +kernel
theorem d_Se_keepOnly_47 : decode prog_7_method_8_code 47 = .ok (.iload_n 1, 1) := by decide +kernel
theorem d_Se_keepOnly_48 : decode prog_7_method_8_code 48 = .ok (.dup2, 1) := by decide +kernel
theorem d_Se_keepOnly_49 : decode prog_7_method_8_code 49 = .ok (.iaload, 1) := by decide +kernel
theorem d_Se_keepOnly_50 : decode prog_7_method_8_code 50 = .ok (.iconst 1, 1) := by decide +kernel
theorem d_Se_keepOnly_51 : decode prog_7_method_8_code 51 = .ok (.iload_n 2, 1) := by decide +kernel
theorem d_Se_keepOnly_52 : decode prog_7_method_8_code 52 = .ok (.ishl, 1) := by decide +kernel
theorem d_Se_keepOnly_53 : decode prog_7_method_8_code 53 = .ok (.iconst (-1), 1) := by decide +kernel
theorem d_Se_keepOnly_54 : decode prog_7_method_8_code 54 = .ok (.ixor, 1) := by decide +kernel
theorem d_Se_keepOnly_55 : decode prog_7_method_8_code 55 = .ok (.iand, 1) := by decide +kernel
theorem d_Se_keepOnly_56 : decode prog_7_method_8_code 56 = .ok (.iastore, 1) := by decide +kernel
theorem d_Se_keepOnly_57 : decode prog_7_method_8_code 57 = .ok (.iinc 5 1, 3) := by decide +kernel
theorem d_Se_keepOnly_60 : decode prog_7_method_8_code 60 = .ok (.goto (-40), 3) := by decide +kernel
theorem d_Se_keepOnly_63 : decode prog_7_method_8_code 63 = .ok (.return_, 1) := by decide +kernel
theorem d_Se_prepareUsable_0 : decode prog_7_method_9_code 0 = .ok (.aload_n 0, 1) := by decide +kernel
theorem d_Se_prepareUsable_1 : decode prog_7_method_9_code 1 = .ok (.getfield 16, 3) := by decide +kernel
theorem d_Se_prepareUsable_4 : decode prog_7_method_9_code 4 = .ok (.iload_n 1, 1) := by decide +kernel
theorem d_Se_prepareUsable_5 : decode prog_7_method_9_code 5 = .ok (.bipush 16, 2) := by decide +kernel
theorem d_Se_prepareUsable_7 : decode prog_7_method_9_code 7 = .ok (.iastore, 1) := by decide +kernel
theorem d_Se_prepareUsable_8 : decode prog_7_method_9_code 8 = .ok (.iconst 0, 1) := by decide +kernel
theorem d_Se_prepareUsable_9 : decode prog_7_method_9_code 9 = .ok (.istore 4, 2) := by decide +kernel
theorem d_Se_prepareUsable_11 : decode prog_7_method_9_code 11 = .ok (.iload 4, 2) := by decide +kernel
theorem d_Se_prepareUsable_13 : decode prog_7_method_9_code 13 = .ok (.aload_n 2, 1) := by decide +kernel
theorem d_Se_prepareUsable_14 : decode prog_7_method_9_code 14 = .ok (.invokevirtual 52, 3) := by decide +kernel
theorem d_Se_prepareUsable_17 : decode prog_7_method_9_code 17 = .ok (.if_icmp .ge 69, 3) := by decide +kernel
theorem d_Se_prepareUsable_20 : decode prog_7_method_9_code 20 = .ok (.aload_n 2, 1) := by decide +kernel
theorem d_Se_prepareUsable_21 : decode prog_7_method_9_code 21 = .ok (.iload 4, 2) := by decide +kernel
theorem d_Se_prepareUsable_23 : decode prog_7_method_9_code 23 = .ok (.invokevirtual 87, 3) := by decide +kernel
theorem d_Se_prepareUsable_26 : decode prog_7_method_9_code 26 = .ok (.astore 5, 2) := by decide +kernel
theorem d_Se_prepareUsable_28 : decode prog_7_method_9_code 28 = .ok (.aload_n 0, 1) := by decide +kernel
theorem d_Se_prepareUsable_29 : decode prog_7_method_9_code 29 = .ok (.getfield 20, 3) := by decide +kernel
theorem d_Se_prepareUsable_32 : decode prog_7_method_9_code 32 = .ok (.iload_n 1, 1) := by decide +kernel
theorem d_Se_prepareUsable_33 : decode prog_7_method_9_code 33 = .ok (.iload 4, 2) := by decide +kernel
theorem d_Se_prepareUsable_35 : decode prog_7_method_9_code 35 = .ok (.invokestatic 121, 3) := by decide +kernel
theorem d_Se_prepareUsable_38 : decode prog_7_method_9_code 38 = .ok (.aaload, 1) := by decide +kernel
theorem d_Se_prepareUsable_39 : decode prog_7_method_9_code 39 = .ok (.iload_n 1, 1) := by decide +kernel
theorem d_Se_prepareUsable_40 : decode prog_7_method_9_code 40 = .ok (.iaload, 1) := by decide +kernel
theorem d_Se_prepareUsable_41 : decode prog_7_method_9_code 41 = .ok (.iload 4, 2) := by decide +kernel
theorem d_Se_prepareUsable_43 : decode prog_7_method_9_code 43 = .ok (.invokestatic 70, 3) := by decide +kernel
theorem d_Se_prepareUsable_46 : decode prog_7_method_9_code 46 = .ok (.istore 6, 2) := by decide +kernel
theorem d_Se_prepareUsable_48 : decode prog_7_method_9_code 48 = .ok (.aload 5, 2) := by decide +kernel
theorem d_Se_prepareUsable_50 : decode prog_7_method_9_code 50 = .ok (.ifnull 30, 3) := by decide +kernel
theorem d_Se_prepareUsable_53 : decode prog_7_method_9_code 53 = .ok (.aload 5, 2) := by decide +kernel
theorem d_Se_prepareUsable_55 : decode prog_7_method_9_code 55 = .ok (.aload_n 3, 1) := by decide +kernel
theorem d_Se_prepareUsable_56 : decode prog_7_method_9_code 56 = .ok (.invokevirtual 129, 3) := by decide +kernel
theorem d_Se_prepareUsable_59 : decode prog_7_method_9_code 59 = .ok (.ifCond .eq 21, 3) := by decide +kernel
theorem d_Se_prepareUsable_62 : decode prog_7_method_9_code 62 = .ok (.iload 6, 2) := by decide +kernel
theorem d_Se_prepareUsable_64 : decode prog_7_method_9_code 64 = .ok (.ifCond .eq 16, 3) := by decide +kernel
theorem d_Se_prepareUsable_67 : decode prog_7_method_9_code 67 = .ok (.aload_n 0, 1) := by decide +kernel
theorem d_Se_prepareUsable_68 : decode prog_7_method_9_code 68 = .ok (.getfield 16, 3) := by decide +kernel
theorem d_Se_prepareUsable_71 : decode prog_7_method_9_code 71 = .ok (.iload_n 1, 1) := by decide +kernel
theorem d_Se_prepareUsable_72 : decode prog_7_method_9_code 72 = .ok (.dup2, 1) := by decide +kernel
theorem d_Se_prepareUsable_73 : decode prog_7_method_9_code 73 = .ok (.iaload, 1) := by decide +kernel
theorem d_Se_prepareUsable_74 : decode prog_7_method_9_code 74 = .ok (.iconst 1, 1) := by decide +kernel
theorem d_Se_prepareUsable_75 : decode prog_7_method_9_code 75 = .ok (.iload 4, 2) := by decide +kernel
theorem d_Se_prepareUsable_77 : decode prog_7_method_9_code 77 = .ok (.ishl, 1) := by decide +kernel
theorem d_Se_prepareUsable_78 : decode prog_7_method_9_code 78 = .ok (.ior, 1) := by decide +kernel
theorem d_Se_prepareUsable_79 : decode prog_7_method_9_code 79 = .ok (.iastore, 1) := by decide +kernel
theorem d_Se_prepareUsable_80 : decode prog_7_method_9_code 80 = .ok (.iinc 4 1, 3) := by decide +kernel
theorem d_Se_prepareUsable_83 : decode prog_7_method_9_code 83 = .ok (.goto (-72), 3) := by decide +kernel
theorem d_Se_prepareUsable_86 : decode prog_7_method_9_code 86 = .ok (.return_, 1) := by decide +kernel
theorem d_Se_prepareAsks_0 : decode prog_7_method_10_code 0 = .ok (.aload_n 0, 1) := by decide +kernel
theorem d_Se_prepareAsks_1 : decode prog_7_method_10_code 1 = .ok (.aload_n 2, 1) := by decide +kernel
theorem d_Se_prepareAsks_2 : decode prog_7_method_10_code 2 = .ok (.invokevirtual 97, 3) := by decide +kernel
theorem d_Se_prepareAsks_5 : decode prog_7_method_10_code 5 = .ok (.iconst 4, 1) := by decide +kernel
theorem d_Se_prepareAsks_6 : decode prog_7_method_10_code 6 = .ok (.invokestatic 133, 3) := by decide +kernel
theorem d_Se_prepareAsks_9 : decode prog_7_method_10_code 9 = .ok (.putfield 32, 3) := by decide +kernel
theorem d_Se_prepareAsks_12 : decode prog_7_method_10_code 12 = .ok (.iconst 0, 1) := by decide +kernel
theorem d_Se_prepareAsks_13 : decode prog_7_method_10_code 13 = .ok (.istore_n 3, 1) := by decide +kernel
theorem d_Se_prepareAsks_14 : decode prog_7_method_10_code 14 = .ok (.iload_n 3, 1) := by decide +kernel
theorem d_Se_prepareAsks_15 : decode prog_7_method_10_code 15 = .ok (.aload_n 0, 1) := by decide +kernel
theorem d_Se_prepareAsks_16 : decode prog_7_method_10_code 16 = .ok (.getfield 32, 3) := by decide +kernel
theorem d_Se_prepareAsks_19 : decode prog_7_method_10_code 19 = .ok (.if_icmp .ge 51, 3) := by decide +kernel
theorem d_Se_prepareAsks_22 : decode prog_7_method_10_code 22 = .ok (.aload_n 2, 1) := by decide +kernel
theorem d_Se_prepareAsks_23 : decode prog_7_method_10_code 23 = .ok (.iload_n 3, 1) := by decide +kernel
theorem d_Se_prepareAsks_24 : decode prog_7_method_10_code 24 = .ok (.invokevirtual 100, 3) := by decide +kernel
theorem d_Se_prepareAsks_27 : decode prog_7_method_10_code 27 = .ok (.checkcast 138, 3) := by decide +kernel
theorem d_Se_prepareAsks_30 : decode prog_7_method_10_code 30 = .ok (.astore 4, 2) := by decide +kernel
theorem d_Se_prepareAsks_32 : decode prog_7_method_10_code 32 = .ok (.aload_n 0, 1) := by decide +kernel
theorem d_Se_prepareAsks_33 : decode prog_7_method_10_code 33 = .ok (.getfield 26, 3) := by decide +kernel
theorem d_Se_prepareAsks_36 : decode prog_7_method_10_code 36 = .ok (.iload_n 3, 1) := by decide +kernel
theorem d_Se_prepareAsks_37 : decode prog_7_method_10_code 37 = .ok (.aload 4, 2) := by decide +kernel
theorem d_Se_prepareAsks_39 : decode prog_7_method_10_code 39 = .ok (.getfield 140, 3) := by decide +kernel
theorem d_Se_prepareAsks_42 : decode prog_7_method_10_code 42 = .ok (.iastore, 1) := by decide +kernel
theorem d_Se_prepareAsks_43 : decode prog_7_method_10_code 43 = .ok (.aload_n 0, 1) := by decide +kernel
theorem d_Se_prepareAsks_44 : decode prog_7_method_10_code 44 = .ok (.getfield 29, 3) := by decide +kernel
theorem d_Se_prepareAsks_47 : decode prog_7_method_10_code 47 = .ok (.iload_n 3, 1) := by decide +kernel
theorem d_Se_prepareAsks_48 : decode prog_7_method_10_code 48 = .ok (.aload_n 1, 1) := by decide +kernel
theorem d_Se_prepareAsks_49 : decode prog_7_method_10_code 49 = .ok (.aload 4, 2) := by decide +kernel
theorem d_Se_prepareAsks_51 : decode prog_7_method_10_code 51 = .ok (.getfield 140, 3) := by decide +kernel
theorem d_Se_prepareAsks_54 : decode prog_7_method_10_code 54 = .ok (.aaload, 1) := by decide +kernel
theorem d_Se_prepareAsks_55 : decode prog_7_method_10_code 55 = .ok (.aload 4, 2) := by decide +kernel
theorem d_Se_prepareAsks_57 : decode prog_7_method_10_code 57 = .ok (.getfield 141, 3) := by decide +kernel
theorem d_Se_prepareAsks_60 : decode prog_7_method_10_code 60 = .ok (.invokevirtual 113, 3) := by decide +kernel
theorem d_Se_prepareAsks_63 : decode prog_7_method_10_code 63 = .ok (.iastore, 1) := by decide +kernel
theorem d_Se_prepareAsks_64 : decode prog_7_method_10_code 64 = .ok (.iinc 3 1, 3) := by decide +kernel
theorem d_Se_prepareAsks_67 : decode prog_7_method_10_code 67 = .ok (.goto (-53), 3) := by decide +kernel
theorem d_Se_prepareAsks_70 : decode prog_7_method_10_code 70 = .ok (.return_, 1) := by decide +kernel
theorem d_Se_finds_0 : decode prog_7_method_3_code 0 = .ok (.aload_n 0, 1) := by decide +kernel
theorem d_Se_finds_1 : decode prog_7_method_3_code 1 = .ok (.iconst 0, 1) := by decide +kernel
theorem d_Se_finds_2 : decode prog_7_method_3_code 2 = .ok (.putfield 36, 3) := by decide +kernel
theorem d_Se_finds_5 : decode prog_7_method_3_code 5 = .ok (.iconst 0, 1) := by decide +kernel
theorem d_Se_finds_6 : decode prog_7_method_3_code 6 = .ok (.istore_n 2, 1) := by decide +kernel
theorem d_Se_finds_7 : decode prog_7_method_3_code 7 = .ok (.iload_n 2, 1) := by decide +kernel
theorem d_Se_finds_8 : decode prog_7_method_3_code 8 = .ok (.bipush 6, 2) := by decide +kernel
theorem d_Se_finds_10 : decode prog_7_method_3_code 10 = .ok (.if_icmp .ge 23, 3) := by decide +kernel
theorem d_Se_finds_13 : decode prog_7_method_3_code 13 = .ok (.aload_n 0, 1) := by decide +kernel
theorem d_Se_finds_14 : decode prog_7_method_3_code 14 = .ok (.getfield 39, 3) := by decide +kernel
theorem d_Se_finds_17 : decode prog_7_method_3_code 17 = .ok (.iconst 0, 1) := by decide +kernel
theorem d_Se_finds_18 : decode prog_7_method_3_code 18 = .ok (.aaload, 1) := by decide +kernel
theorem d_Se_finds_19 : decode prog_7_method_3_code 19 = .ok (.iload_n 2, 1) := by decide +kernel
theorem d_Se_finds_20 : decode prog_7_method_3_code 20 = .ok (.aload_n 0, 1) := by decide +kernel
theorem d_Se_finds_21 : decode prog_7_method_3_code 21 = .ok (.getfield 16, 3) := by decide +kernel
theorem d_Se_finds_24 : decode prog_7_method_3_code 24 = .ok (.iload_n 2, 1) := by decide +kernel
theorem d_Se_finds_25 : decode prog_7_method_3_code 25 = .ok (.iaload, 1) := by decide +kernel
theorem d_Se_finds_26 : decode prog_7_method_3_code 26 = .ok (.iastore, 1) := by decide +kernel
theorem d_Se_finds_27 : decode prog_7_method_3_code 27 = .ok (.iinc 2 1, 3) := by decide +kernel
theorem d_Se_finds_30 : decode prog_7_method_3_code 30 = .ok (.goto (-23), 3) := by decide +kernel
theorem d_Se_finds_33 : decode prog_7_method_3_code 33 = .ok (.iconst 0, 1) := by decide +kernel
theorem d_Se_finds_34 : decode prog_7_method_3_code 34 = .ok (.istore_n 2, 1) := by decide +kernel
theorem d_Se_finds_35 : decode prog_7_method_3_code 35 = .ok (.iload_n 2, 1) := by decide +kernel
theorem d_Se_finds_36 : decode prog_7_method_3_code 36 = .ok (.aload_n 0, 1) := by decide +kernel
theorem d_Se_finds_37 : decode prog_7_method_3_code 37 = .ok (.getfield 32, 3) := by decide +kernel
theorem d_Se_finds_40 : decode prog_7_method_3_code 40 = .ok (.if_icmp .ge 56, 3) := by decide +kernel
theorem d_Se_finds_43 : decode prog_7_method_3_code 43 = .ok (.iload_n 1, 1) := by decide +kernel
theorem d_Se_finds_44 : decode prog_7_method_3_code 44 = .ok (.iload_n 2, 1) := by decide +kernel
theorem d_Se_finds_45 : decode prog_7_method_3_code 45 = .ok (.invokestatic 70, 3) := by decide +kernel
theorem d_Se_finds_48 : decode prog_7_method_3_code 48 = .ok (.ifCond .eq 42, 3) := by decide +kernel
theorem d_Se_finds_51 : decode prog_7_method_3_code 51 = .ok (.aload_n 0, 1) := by decide +kernel
theorem d_Se_finds_52 : decode prog_7_method_3_code 52 = .ok (.dup, 1) := by decide +kernel
theorem d_Se_finds_53 : decode prog_7_method_3_code 53 = .ok (.getfield 36, 3) := by decide +kernel
theorem d_Se_finds_56 : decode prog_7_method_3_code 56 = .ok (.iconst 1, 1) := by decide +kernel
theorem d_Se_finds_57 : decode prog_7_method_3_code 57 = .ok (.aload_n 0, 1) := by decide +kernel
theorem d_Se_finds_58 : decode prog_7_method_3_code 58 = .ok (.getfield 26, 3) := by decide +kernel
theorem d_Se_finds_61 : decode prog_7_method_3_code 61 = .ok (.iload_n 2, 1) := by decide +kernel
theorem d_Se_finds_62 : decode prog_7_method_3_code 62 = .ok (.iaload, 1) := by decide +kernel
theorem d_Se_finds_63 : decode prog_7_method_3_code 63 = .ok (.ishl, 1) := by decide +kernel
theorem d_Se_finds_64 : decode prog_7_method_3_code 64 = .ok (.ior, 1) := by decide +kernel
theorem d_Se_finds_65 : decode prog_7_method_3_code 65 = .ok (.putfield 36, 3) := by decide +kernel
theorem d_Se_finds_68 : decode prog_7_method_3_code 68 = .ok (.aload_n 0, 1) := by decide +kernel
theorem d_Se_finds_69 : decode prog_7_method_3_code 69 = .ok (.getfield 39, 3) := by decide +kernel
theorem d_Se_finds_72 : decode prog_7_method_3_code 72 = .ok (.iconst 0, 1) := by decide +kernel
theorem d_Se_finds_73 : decode prog_7_method_3_code 73 = .ok (.aaload, 1) := by decide +kernel
theorem d_Se_finds_74 : decode prog_7_method_3_code 74 = .ok (.aload_n 0, 1) := by decide +kernel
theorem d_Se_finds_75 : decode prog_7_method_3_code 75 = .ok (.getfield 26, 3) := by decide +kernel
theorem d_Se_finds_78 : decode prog_7_method_3_code 78 = .ok (.iload_n 2, 1) := by decide +kernel
theorem d_Se_finds_79 : decode prog_7_method_3_code 79 = .ok (.iaload, 1) := by decide +kernel
theorem d_Se_finds_80 : decode prog_7_method_3_code 80 = .ok (.dup2, 1) := by decide +kernel
theorem d_Se_finds_81 : decode prog_7_method_3_code 81 = .ok (.iaload, 1) := by decide +kernel
theorem d_Se_finds_82 : decode prog_7_method_3_code 82 = .ok (.aload_n 0, 1) := by decide +kernel
theorem d_Se_finds_83 : decode prog_7_method_3_code 83 = .ok (.getfield 29, 3) := by decide +kernel
theorem d_Se_finds_86 : decode prog_7_method_3_code 86 = .ok (.iload_n 2, 1) := by decide +kernel
theorem d_Se_finds_87 : decode prog_7_method_3_code 87 = .ok (.iaload, 1) := by decide +kernel
theorem d_Se_finds_88 : decode prog_7_method_3_code 88 = .ok (.iand, 1) := by decide +kernel
theorem d_Se_finds_89 : decode prog_7_method_3_code 89 = .ok (.iastore, 1) := by decide +kernel
theorem d_Se_finds_90 : decode prog_7_method_3_code 90 = .ok (.iinc 2 1, 3) := by decide +kernel
theorem d_Se_finds_93 : decode prog_7_method_3_code 93 = .ok (.goto (-58), 3) := by decide +kernel
theorem d_Se_finds_96 : decode prog_7_method_3_code 96 = .ok (.aload_n 0, 1) := by decide +kernel
theorem d_Se_finds_97 : decode prog_7_method_3_code 97 = .ok (.iconst 0, 1) := by decide +kernel
theorem d_Se_finds_98 : decode prog_7_method_3_code 98 = .ok (.invokevirtual 74, 3) := by decide +kernel
theorem d_Se_finds_101 : decode prog_7_method_3_code 101 = .ok (.ireturn, 1) := by decide +kernel
theorem d_Se_settle_0 : decode prog_7_method_11_code 0 = .ok (.iload_n 1, 1) := by decide +kernel
theorem d_Se_settle_1 : decode prog_7_method_11_code 1 = .ok (.bipush 6, 2) := by decide +kernel
theorem d_Se_settle_3 : decode prog_7_method_11_code 3 = .ok (.if_icmp .lt 5, 3) := by decide +kernel
theorem d_Se_settle_6 : decode prog_7_method_11_code 6 = .ok (.iconst 1, 1) := by decide +kernel
theorem d_Se_settle_7 : decode prog_7_method_11_code 7 = .ok (.ireturn, 1) := by decide +kernel
theorem d_Se_settle_8 : decode prog_7_method_11_code 8 = .ok (.iconst 0, 1) := by decide +kernel
theorem d_Se_settle_9 : decode prog_7_method_11_code 9 = .ok (.istore_n 2, 1) := by decide +kernel
theorem d_Se_settle_10 : decode prog_7_method_11_code 10 = .ok (.iload_n 2, 1) := by decide +kernel
theorem d_Se_settle_11 : decode prog_7_method_11_code 11 = .ok (.iconst 5, 1) := by decide +kernel
theorem d_Se_settle_12 : decode prog_7_method_11_code 12 = .ok (.if_icmp .ge 37, 3) := by decide +kernel
theorem d_Se_settle_15 : decode prog_7_method_11_code 15 = .ok (.aload_n 0, 1) := by decide +kernel
theorem d_Se_settle_16 : decode prog_7_method_11_code 16 = .ok (.iload_n 1, 1) := by decide +kernel
theorem d_Se_settle_17 : decode prog_7_method_11_code 17 = .ok (.aload_n 0, 1) := by decide +kernel
theorem d_Se_settle_18 : decode prog_7_method_11_code 18 = .ok (.getfield 13, 3) := by decide +kernel
theorem d_Se_settle_21 : decode prog_7_method_11_code 21 = .ok (.iload_n 1, 1) := by decide +kernel
theorem d_Se_settle_22 : decode prog_7_method_11_code 22 = .ok (.aaload, 1) := by decide +kernel
theorem d_Se_settle_23 : decode prog_7_method_11_code 23 = .ok (.iload_n 2, 1) := by decide +kernel
theorem d_Se_settle_24 : decode prog_7_method_11_code 24 = .ok (.iaload, 1) := by decide +kernel
theorem d_Se_settle_25 : decode prog_7_method_11_code 25 = .ok (.invokevirtual 142, 3) := by decide +kernel
theorem d_Se_settle_28 : decode prog_7_method_11_code 28 = .ok (.ifCond .eq 15, 3) := by decide +kernel
theorem d_Se_settle_31 : decode prog_7_method_11_code 31 = .ok (.aload_n 0, 1) := by decide +kernel
theorem d_Se_settle_32 : decode prog_7_method_11_code 32 = .ok (.iload_n 1, 1) := by decide +kernel
theorem d_Se_settle_33 : decode prog_7_method_11_code 33 = .ok (.iconst 1, 1) := by decide +kernel
theorem d_Se_settle_34 : decode prog_7_method_11_code 34 = .ok (.iadd, 1) := by decide +kernel
theorem d_Se_settle_35 : decode prog_7_method_11_code 35 = .ok (.invokevirtual 74, 3) := by decide +kernel
theorem d_Se_settle_38 : decode prog_7_method_11_code 38 = .ok (.ifCond .eq 5, 3) := by decide +kernel
theorem d_Se_settle_41 : decode prog_7_method_11_code 41 = .ok (.iconst 1, 1) := by decide +kernel
theorem d_Se_settle_42 : decode prog_7_method_11_code 42 = .ok (.ireturn, 1) := by decide +kernel
theorem d_Se_settle_43 : decode prog_7_method_11_code 43 = .ok (.iinc 2 1, 3) := by decide +kernel
theorem d_Se_settle_46 : decode prog_7_method_11_code 46 = .ok (.goto (-36), 3) := by decide +kernel
theorem d_Se_settle_49 : decode prog_7_method_11_code 49 = .ok (.iconst 0, 1) := by decide +kernel
theorem d_Se_settle_50 : decode prog_7_method_11_code 50 = .ok (.ireturn, 1) := by decide +kernel
theorem d_Se_tryOption_0 : decode prog_7_method_12_code 0 = .ok (.aload_n 0, 1) := by decide +kernel
theorem d_Se_tryOption_1 : decode prog_7_method_12_code 1 = .ok (.getfield 39, 3) := by decide +kernel
theorem d_Se_tryOption_4 : decode prog_7_method_12_code 4 = .ok (.iload_n 1, 1) := by decide +kernel
theorem d_Se_tryOption_5 : decode prog_7_method_12_code 5 = .ok (.aaload, 1) := by decide +kernel
theorem d_Se_tryOption_6 : decode prog_7_method_12_code 6 = .ok (.astore_n 3, 1) := by decide +kernel
theorem d_Se_tryOption_7 : decode prog_7_method_12_code 7 = .ok (.aload_n 0, 1) := by decide +kernel
theorem d_Se_tryOption_8 : decode prog_7_method_12_code 8 = .ok (.getfield 39, 3) := by decide +kernel
theorem d_Se_tryOption_11 : decode prog_7_method_12_code 11 = .ok (.iload_n 1, 1) := by decide +kernel
theorem d_Se_tryOption_12 : decode prog_7_method_12_code 12 = .ok (.iconst 1, 1) := by decide +kernel
theorem d_Se_tryOption_13 : decode prog_7_method_12_code 13 = .ok (.iadd, 1) := by decide +kernel
theorem d_Se_tryOption_14 : decode prog_7_method_12_code 14 = .ok (.aaload, 1) := by decide +kernel
theorem d_Se_tryOption_15 : decode prog_7_method_12_code 15 = .ok (.astore 4, 2) := by decide +kernel
theorem d_Se_tryOption_17 : decode prog_7_method_12_code 17 = .ok (.aload_n 3, 1) := by decide +kernel
theorem d_Se_tryOption_18 : decode prog_7_method_12_code 18 = .ok (.iload_n 1, 1) := by decide +kernel
theorem d_Se_tryOption_19 : decode prog_7_method_12_code 19 = .ok (.iaload, 1) := by decide +kernel
theorem d_Se_tryOption_20 : decode prog_7_method_12_code 20 = .ok (.iload_n 2, 1) := by decide +kernel
theorem d_Se_tryOption_21 : decode prog_7_method_12_code 21 = .ok (.invokestatic 70, 3) := by decide +kernel
theorem d_Se_tryOption_24 : decode prog_7_method_12_code 24 = .ok (.ifCond .ne 5, 3) := by decide +kernel
theorem d_Se_tryOption_27 : decode prog_7_method_12_code 27 = .ok (.iconst 0, 1) := by decide +kernel
theorem d_Se_tryOption_28 : decode prog_7_method_12_code 28 = .ok (.ireturn, 1) := by decide +kernel
theorem d_Se_tryOption_29 : decode prog_7_method_12_code 29 = .ok (.aload_n 0, 1) := by decide +kernel
theorem d_Se_tryOption_30 : decode prog_7_method_12_code 30 = .ok (.getfield 20, 3) := by decide +kernel
theorem d_Se_tryOption_33 : decode prog_7_method_12_code 33 = .ok (.iload_n 1, 1) := by decide +kernel
theorem d_Se_tryOption_34 : decode prog_7_method_12_code 34 = .ok (.iload_n 2, 1) := by decide +kernel
theorem d_Se_tryOption_35 : decode prog_7_method_12_code 35 = .ok (.invokestatic 121, 3) := by decide +kernel
theorem d_Se_tryOption_38 : decode prog_7_method_12_code 38 = .ok (.aaload, 1) := by decide +kernel
theorem d_Se_tryOption_39 : decode prog_7_method_12_code 39 = .ok (.astore 5, 2) := by decide +kernel
theorem d_Se_tryOption_41 : decode prog_7_method_12_code 41 = .ok (.iconst 0, 1) := by decide +kernel
theorem d_Se_tryOption_42 : decode prog_7_method_12_code 42 = .ok (.istore 6, 2) := by decide +kernel
theorem d_Se_tryOption_44 : decode prog_7_method_12_code 44 = .ok (.iload 6, 2) := by decide +kernel
theorem d_Se_tryOption_46 : decode prog_7_method_12_code 46 = .ok (.bipush 6, 2) := by decide +kernel
theorem d_Se_tryOption_48 : decode prog_7_method_12_code 48 = .ok (.if_icmp .ge 34, 3) := by decide +kernel
theorem d_Se_tryOption_51 : decode prog_7_method_12_code 51 = .ok (.aload 4, 2) := by decide +kernel
theorem d_Se_tryOption_53 : decode prog_7_method_12_code 53 = .ok (.iload 6, 2) := by decide +kernel
theorem d_Se_tryOption_55 : decode prog_7_method_12_code 55 = .ok (.aload_n 3, 1) := by decide +kernel
theorem d_Se_tryOption_56 : decode prog_7_method_12_code 56 = .ok (.iload 6, 2) := by decide +kernel
theorem d_Se_tryOption_58 : decode prog_7_method_12_code 58 = .ok (.iaload, 1) := by decide +kernel
theorem d_Se_tryOption_59 : decode prog_7_method_12_code 59 = .ok (.aload 5, 2) := by decide +kernel
theorem d_Se_tryOption_61 : decode prog_7_method_12_code 61 = .ok (.iload 6, 2) := by decide +kernel
theorem d_Se_tryOption_63 : decode prog_7_method_12_code 63 = .ok (.iaload, 1) := by decide +kernel
theorem d_Se_tryOption_64 : decode prog_7_method_12_code 64 = .ok (.iand, 1) := by decide +kernel
theorem d_Se_tryOption_65 : decode prog_7_method_12_code 65 = .ok (.iastore, 1) := by decide +kernel
theorem d_Se_tryOption_66 : decode prog_7_method_12_code 66 = .ok (.aload 4, 2) := by decide +kernel
theorem d_Se_tryOption_68 : decode prog_7_method_12_code 68 = .ok (.iload 6, 2) := by decide +kernel
theorem d_Se_tryOption_70 : decode prog_7_method_12_code 70 = .ok (.iaload, 1) := by decide +kernel
theorem d_Se_tryOption_71 : decode prog_7_method_12_code 71 = .ok (.ifCond .ne 5, 3) := by decide +kernel
theorem d_Se_tryOption_74 : decode prog_7_method_12_code 74 = .ok (.iconst 0, 1) := by decide +kernel
theorem d_Se_tryOption_75 : decode prog_7_method_12_code 75 = .ok (.ireturn, 1) := by decide +kernel
theorem d_Se_tryOption_76 : decode prog_7_method_12_code 76 = .ok (.iinc 6 1, 3) := by decide +kernel
theorem d_Se_tryOption_79 : decode prog_7_method_12_code 79 = .ok (.goto (-35), 3) := by decide +kernel
theorem d_Se_tryOption_82 : decode prog_7_method_12_code 82 = .ok (.aload 4, 2) := by decide +kernel
theorem d_Se_tryOption_84 : decode prog_7_method_12_code 84 = .ok (.iload_n 1, 1) := by decide +kernel
theorem d_Se_tryOption_85 : decode prog_7_method_12_code 85 = .ok (.iconst 1, 1) := by decide +kernel
theorem d_Se_tryOption_86 : decode prog_7_method_12_code 86 = .ok (.iload_n 2, 1) := by decide +kernel
theorem d_Se_tryOption_87 : decode prog_7_method_12_code 87 = .ok (.ishl, 1) := by decide +kernel
theorem d_Se_tryOption_88 : decode prog_7_method_12_code 88 = .ok (.iastore, 1) := by decide +kernel
theorem d_Se_tryOption_89 : decode prog_7_method_12_code 89 = .ok (.aload_n 0, 1) := by decide +kernel
theorem d_Se_tryOption_90 : decode prog_7_method_12_code 90 = .ok (.aload 4, 2) := by decide +kernel
theorem d_Se_tryOption_92 : decode prog_7_method_12_code 92 = .ok (.invokevirtual 145, 3) := by decide +kernel
theorem d_Se_tryOption_95 : decode prog_7_method_12_code 95 = .ok (.ireturn, 1) := by decide +kernel
theorem d_Se_allMayBeLedTo_0 : decode prog_7_method_13_code 0 = .ok (.aload_n 0, 1) := by decide +kernel
theorem d_Se_allMayBeLedTo_1 : decode prog_7_method_13_code 1 = .ok (.getfield 36, 3) := by decide +kernel
theorem d_Se_allMayBeLedTo_4 : decode prog_7_method_13_code 4 = .ok (.istore_n 2, 1) := by decide +kernel
theorem d_Se_allMayBeLedTo_5 : decode prog_7_method_13_code 5 = .ok (.iconst 1, 1) := by decide +kernel
theorem d_Se_allMayBeLedTo_6 : decode prog_7_method_13_code 6 = .ok (.istore_n 3, 1) := by decide +kernel
theorem d_Se_allMayBeLedTo_7 : decode prog_7_method_13_code 7 = .ok (.iload_n 3, 1) := by decide +kernel
theorem d_Se_allMayBeLedTo_8 : decode prog_7_method_13_code 8 = .ok (.bipush 6, 2) := by decide +kernel
theorem d_Se_allMayBeLedTo_10 : decode prog_7_method_13_code 10 = .ok (.if_icmp .ge 31, 3) := by decide +kernel
theorem d_Se_allMayBeLedTo_13 : decode prog_7_method_13_code 13 = .ok (.iload_n 2, 1) := by decide +kernel
theorem d_Se_allMayBeLedTo_14 : decode prog_7_method_13_code 14 = .ok (.aload_n 0, 1) := by decide +kernel
theorem d_Se_allMayBeLedTo_15 : decode prog_7_method_13_code 15 = .ok (.iload_n 2, 1) := by decide +kernel
theorem d_Se_allMayBeLedTo_16 : decode prog_7_method_13_code 16 = .ok (.aload_n 1, 1) := by decide +kernel
theorem d_Se_allMayBeLedTo_17 : decode prog_7_method_13_code 17 = .ok (.invokevirtual 149, 3) := by decide +kernel
theorem d_Se_allMayBeLedTo_20 : decode prog_7_method_13_code 20 = .ok (.ior, 1) := by decide +kernel
theorem d_Se_allMayBeLedTo_21 : decode prog_7_method_13_code 21 = .ok (.istore 4, 2) := by decide +kernel
theorem d_Se_allMayBeLedTo_23 : decode prog_7_method_13_code 23 = .ok (.iload 4, 2) := by decide +kernel
theorem d_Se_allMayBeLedTo_25 : decode prog_7_method_13_code 25 = .ok (.iload_n 2, 1) := by decide +kernel
theorem d_Se_allMayBeLedTo_26 : decode prog_7_method_13_code 26 = .ok (.if_icmp .ne 6, 3) := by decide +kernel
theorem d_Se_allMayBeLedTo_29 : decode prog_7_method_13_code 29 = .ok (.goto 12, 3) := by decide +kernel
theorem d_Se_allMayBeLedTo_32 : decode prog_7_method_13_code 32 = .ok (.iload 4, 2) := by decide +kernel
theorem d_Se_allMayBeLedTo_34 : decode prog_7_method_13_code 34 = .ok (.istore_n 2, 1) := by decide +kernel
theorem d_Se_allMayBeLedTo_35 : decode prog_7_method_13_code 35 = .ok (.iinc 3 1, 3) := by decide +kernel
theorem d_Se_allMayBeLedTo_38 : decode prog_7_method_13_code 38 = .ok (.goto (-31), 3) := by decide +kernel
theorem d_Se_allMayBeLedTo_41 : decode prog_7_method_13_code 41 = .ok (.iconst 0, 1) := by decide +kernel
theorem d_Se_allMayBeLedTo_42 : decode prog_7_method_13_code 42 = .ok (.istore_n 3, 1) := by decide +kernel
theorem d_Se_allMayBeLedTo_43 : decode prog_7_method_13_code 43 = .ok (.iload_n 3, 1) := by decide +kernel
theorem d_Se_allMayBeLedTo_44 : decode prog_7_method_13_code 44 = .ok (.bipush 6, 2) := by decide +kernel
theorem d_Se_allMayBeLedTo_46 : decode prog_7_method_13_code 46 = .ok (.if_icmp .ge 29, 3) := by decide +kernel
theorem d_Se_allMayBeLedTo_49 : decode prog_7_method_13_code 49 = .ok (.aload_n 1, 1) := by decide +kernel
theorem d_Se_allMayBeLedTo_50 : decode prog_7_method_13_code 50 = .ok (.iload_n 3, 1) := by decide +kernel
theorem d_Se_allMayBeLedTo_51 : decode prog_7_method_13_code 51 = .ok (.iaload, 1) := by decide +kernel
theorem d_Se_allMayBeLedTo_52 : decode prog_7_method_13_code 52 = .ok (.iconst 4, 1) := by decide +kernel
theorem d_Se_allMayBeLedTo_53 : decode prog_7_method_13_code 53 = .ok (.invokestatic 70, 3) := by decide +kernel
theorem d_Se_allMayBeLedTo_56 : decode prog_7_method_13_code 56 = .ok (.ifCond .ne 13, 3) := by decide +kernel
theorem d_Se_allMayBeLedTo_59 : decode prog_7_method_13_code 59 = .ok (.iload_n 2, 1) := by decide +kernel
theorem d_Se_allMayBeLedTo_60 : decode prog_7_method_13_code 60 = .ok (.iload_n 3, 1) := by decide +kernel
theorem d_Se_allMayBeLedTo_61 : decode prog_7_method_13_code 61 = .ok (.invokestatic 70, 3) := by decide +kernel
theorem d_Se_allMayBeLedTo_64 : decode prog_7_method_13_code 64 = .ok (.ifCond .ne 5, 3) := by decide +kernel
theorem d_Se_allMayBeLedTo_67 : decode prog_7_method_13_code 67 = .ok (.iconst 0, 1) := by decide +kernel
theorem d_Se_allMayBeLedTo_68 : decode prog_7_method_13_code 68 = .ok (.ireturn, 1) := by decide +kernel
theorem d_Se_allMayBeLedTo_69 : decode prog_7_method_13_code 69 = .ok (.iinc 3 1, 3) := by decide +kernel
theorem d_Se_allMayBeLedTo_72 : decode prog_7_method_13_code 72 = .ok (.goto (-29), 3) := by decide +kernel
theorem d_Se_allMayBeLedTo_75 : decode prog_7_method_13_code 75 = .ok (.iconst 1, 1) := by decide +kernel
theorem d_Se_allMayBeLedTo_76 : decode prog_7_method_13_code 76 = .ok (.ireturn, 1) := by decide +kernel
theorem d_Se_leadsFrom_0 : decode prog_7_method_14_code 0 = .ok (.iconst 0, 1) := by decide +kernel
theorem d_Se_leadsFrom_1 : decode prog_7_method_14_code 1 = .ok (.istore_n 3, 1) := by decide +kernel
theorem d_Se_leadsFrom_2 : decode prog_7_method_14_code 2 = .ok (.iconst 0, 1) := by decide +kernel
theorem d_Se_leadsFrom_3 : decode prog_7_method_14_code 3 = .ok (.istore 4, 2) := by decide +kernel
theorem d_Se_leadsFrom_5 : decode prog_7_method_14_code 5 = .ok (.iload 4, 2) := by decide +kernel
theorem d_Se_leadsFrom_7 : decode prog_7_method_14_code 7 = .ok (.bipush 6, 2) := by decide +kernel
theorem d_Se_leadsFrom_9 : decode prog_7_method_14_code 9 = .ok (.if_icmp .ge 60, 3) := by decide +kernel
theorem d_Se_leadsFrom_12 : decode prog_7_method_14_code 12 = .ok (.iconst 0, 1) := by decide +kernel
theorem d_Se_leadsFrom_13 : decode prog_7_method_14_code 13 = .ok (.istore 5, 2) := by decide +kernel
theorem d_Se_leadsFrom_15 : decode prog_7_method_14_code 15 = .ok (.iload_n 1, 1) := by decide +kernel
theorem d_Se_leadsFrom_16 : decode prog_7_method_14_code 16 = .ok (.iload 4, 2) := by decide +kernel
theorem d_Se_leadsFrom_18 : decode prog_7_method_14_code 18 = .ok (.invokestatic 70, 3) := by decide +kernel
theorem d_Se_leadsFrom_21 : decode prog_7_method_14_code 21 = .ok (.ifCond .eq 42, 3) := by decide +kernel
theorem d_Se_leadsFrom_24 : decode prog_7_method_14_code 24 = .ok (.iload 5, 2) := by decide +kernel
theorem d_Se_leadsFrom_26 : decode prog_7_method_14_code 26 = .ok (.iconst 4, 1) := by decide +kernel
theorem d_Se_leadsFrom_27 : decode prog_7_method_14_code 27 = .ok (.if_icmp .ge 36, 3) := by decide +kernel
theorem d_Se_leadsFrom_30 : decode prog_7_method_14_code 30 = .ok (.aload_n 2, 1) := by decide +kernel
theorem d_Se_leadsFrom_31 : decode prog_7_method_14_code 31 = .ok (.iload 4, 2) := by decide +kernel
theorem d_Se_leadsFrom_33 : decode prog_7_method_14_code 33 = .ok (.iaload, 1) := by decide +kernel
theorem d_Se_leadsFrom_34 : decode prog_7_method_14_code 34 = .ok (.iload 5, 2) := by decide +kernel
theorem d_Se_leadsFrom_36 : decode prog_7_method_14_code 36 = .ok (.invokestatic 70, 3) := by decide +kernel
theorem d_Se_leadsFrom_39 : decode prog_7_method_14_code 39 = .ok (.ifCond .eq 18, 3) := by decide +kernel
theorem d_Se_leadsFrom_42 : decode prog_7_method_14_code 42 = .ok (.iload_n 3, 1) := by decide +kernel
theorem d_Se_leadsFrom_43 : decode prog_7_method_14_code 43 = .ok (.aload_n 0, 1) := by decide +kernel
theorem d_Se_leadsFrom_44 : decode prog_7_method_14_code 44 = .ok (.getfield 23, 3) := by decide +kernel
theorem d_Se_leadsFrom_47 : decode prog_7_method_14_code 47 = .ok (.iload 4, 2) := by decide +kernel
theorem d_Se_leadsFrom_49 : decode prog_7_method_14_code 49 = .ok (.iload 5, 2) := by decide +kernel
theorem d_Se_leadsFrom_51 : decode prog_7_method_14_code 51 = .ok (.invokestatic 121, 3) := by decide +kernel
theorem d_Se_leadsFrom_54 : decode prog_7_method_14_code 54 = .ok (.iaload, 1) := by decide +kernel
theorem d_Se_leadsFrom_55 : decode prog_7_method_14_code 55 = .ok (.ior, 1) := by decide +kernel
theorem d_Se_leadsFrom_56 : decode prog_7_method_14_code 56 = .ok (.istore_n 3, 1) := by decide +kernel
theorem d_Se_leadsFrom_57 : decode prog_7_method_14_code 57 = .ok (.iinc 5 1, 3) := by decide +kernel
theorem d_Se_leadsFrom_60 : decode prog_7_method_14_code 60 = .ok (.goto (-45), 3) := by decide +kernel
theorem d_Se_leadsFrom_63 : decode prog_7_method_14_code 63 = .ok (.iinc 4 1, 3) := by decide +kernel
theorem d_Se_leadsFrom_66 : decode prog_7_method_14_code 66 = .ok (.goto (-61), 3) := by decide +kernel
theorem d_Se_leadsFrom_69 : decode prog_7_method_14_code 69 = .ok (.iload_n 3, 1) := by decide +kernel
theorem d_Se_leadsFrom_70 : decode prog_7_method_14_code 70 = .ok (.ireturn, 1) := by decide +kernel
theorem d_Se_found_0 : decode prog_7_method_4_code 0 = .ok (.iconst 0, 1) := by decide +kernel
theorem d_Se_found_1 : decode prog_7_method_4_code 1 = .ok (.istore_n 2, 1) := by decide +kernel
theorem d_Se_found_2 : decode prog_7_method_4_code 2 = .ok (.iload_n 2, 1) := by decide +kernel
theorem d_Se_found_3 : decode prog_7_method_4_code 3 = .ok (.iconst 4, 1) := by decide +kernel
theorem d_Se_found_4 : decode prog_7_method_4_code 4 = .ok (.if_icmp .ge 27, 3) := by decide +kernel
theorem d_Se_found_7 : decode prog_7_method_4_code 7 = .ok (.aload_n 0, 1) := by decide +kernel
theorem d_Se_found_8 : decode prog_7_method_4_code 8 = .ok (.getfield 39, 3) := by decide +kernel
theorem d_Se_found_11 : decode prog_7_method_4_code 11 = .ok (.bipush 6, 2) := by decide +kernel
theorem d_Se_found_13 : decode prog_7_method_4_code 13 = .ok (.aaload, 1) := by decide +kernel
theorem d_Se_found_14 : decode prog_7_method_4_code 14 = .ok (.iload_n 1, 1) := by decide +kernel
theorem d_Se_found_15 : decode prog_7_method_4_code 15 = .ok (.iaload, 1) := by decide +kernel
theorem d_Se_found_16 : decode prog_7_method_4_code 16 = .ok (.iload_n 2, 1) := by decide +kernel
theorem d_Se_found_17 : decode prog_7_method_4_code 17 = .ok (.invokestatic 70, 3) := by decide +kernel
theorem d_Se_found_20 : decode prog_7_method_4_code 20 = .ok (.ifCond .eq 5, 3) := by decide +kernel
theorem d_Se_found_23 : decode prog_7_method_4_code 23 = .ok (.iload_n 2, 1) := by decide +kernel
theorem d_Se_found_24 : decode prog_7_method_4_code 24 = .ok (.ireturn, 1) := by decide +kernel
theorem d_Se_found_25 : decode prog_7_method_4_code 25 = .ok (.iinc 2 1, 3) := by decide +kernel
theorem d_Se_found_28 : decode prog_7_method_4_code 28 = .ok (.goto (-26), 3) := by decide +kernel
theorem d_Se_found_31 : decode prog_7_method_4_code 31 = .ok (.bipush (-4), 2) := by decide +kernel
theorem d_Se_found_33 : decode prog_7_method_4_code 33 = .ok (.ireturn, 1) := by decide +kernel
theorem d_Ve_init_0 : decode prog_8_method_1_code 0 = .ok (.aload_n 0, 1) := by decide +kernel
theorem d_Ve_init_1 : decode prog_8_method_1_code 1 = .ok (.invokespecial 1, 3) := by decide +kernel
theorem d_Ve_init_4 : decode prog_8_method_1_code 4 = .ok (.aload_n 0, 1) := by decide +kernel
theorem d_Ve_init_5 : decode prog_8_method_1_code 5 = .ok (.bipush 12, 2) := by decide +kernel
theorem d_Ve_init_7 : decode prog_8_method_1_code 7 = .ok (.newarray .int, 2) := by decide +kernel
theorem d_Ve_init_9 : decode prog_8_method_1_code 9 = .ok (.putfield 9, 3) := by decide +kernel
theorem d_Ve_init_12 : decode prog_8_method_1_code 12 = .ok (.aload_n 0, 1) := by decide +kernel
theorem d_Ve_init_13 : decode prog_8_method_1_code 13 = .ok (.bipush 12, 2) := by decide +kernel
theorem d_Ve_init_15 : decode prog_8_method_1_code 15 = .ok (.newarray .long, 2) := by decide +kernel
theorem d_Ve_init_17 : decode prog_8_method_1_code 17 = .ok (.putfield 13, 3) := by decide +kernel
theorem d_Ve_init_20 : decode prog_8_method_1_code 20 = .ok (.aload_n 0, 1) := by decide +kernel
theorem d_Ve_init_21 : decode prog_8_method_1_code 21 = .ok (.getfield 9, 3) := by decide +kernel
theorem d_Ve_init_24 : decode prog_8_method_1_code 24 = .ok (.bipush 6, 2) := by decide +kernel
theorem d_Ve_init_26 : decode prog_8_method_1_code 26 = .ok (.invokestatic 17, 3) := by decide +kernel
theorem d_Ve_init_29 : decode prog_8_method_1_code 29 = .ok (.iconst 0, 1) := by decide +kernel
theorem d_Ve_init_30 : decode prog_8_method_1_code 30 = .ok (.istore_n 2, 1) := by decide +kernel
theorem d_Ve_init_31 : decode prog_8_method_1_code 31 = .ok (.iconst 0, 1) := by decide +kernel
theorem d_Ve_init_32 : decode prog_8_method_1_code 32 = .ok (.istore_n 3, 1) := by decide +kernel
theorem d_Ve_init_33 : decode prog_8_method_1_code 33 = .ok (.iload_n 3, 1) := by decide +kernel
theorem d_Ve_init_34 : decode prog_8_method_1_code 34 = .ok (.aload_n 1, 1) := by decide +kernel
theorem d_Ve_init_35 : decode prog_8_method_1_code 35 = .ok (.invokevirtual 23, 3) := by decide +kernel
theorem d_Ve_init_38 : decode prog_8_method_1_code 38 = .ok (.if_icmp .ge 33, 3) := by decide +kernel
theorem d_Ve_init_41 : decode prog_8_method_1_code 41 = .ok (.iload_n 2, 1) := by decide +kernel
theorem d_Ve_init_42 : decode prog_8_method_1_code 42 = .ok (.bipush 12, 2) := by decide +kernel
theorem d_Ve_init_44 : decode prog_8_method_1_code 44 = .ok (.if_icmp .ge 27, 3) := by decide +kernel
theorem d_Ve_init_47 : decode prog_8_method_1_code 47 = .ok (.aload_n 1, 1) := by decide +kernel
theorem d_Ve_init_48 : decode prog_8_method_1_code 48 = .ok (.iload_n 3, 1) := by decide +kernel
theorem d_Ve_init_49 : decode prog_8_method_1_code 49 = .ok (.invokestatic 29, 3) := by decide +kernel
theorem d_Ve_init_52 : decode prog_8_method_1_code 52 = .ok (.ifCond .eq 13, 3) := by decide +kernel
theorem d_Ve_init_55 : decode prog_8_method_1_code 55 = .ok (.aload_n 0, 1) := by decide +kernel
theorem d_Ve_init_56 : decode prog_8_method_1_code 56 = .ok (.iload_n 2, 1) := by decide +kernel
theorem d_Ve_init_57 : decode prog_8_method_1_code 57 = .ok (.aload_n 1, 1) := by decide +kernel
theorem d_Ve_init_58 : decode prog_8_method_1_code 58 = .ok (.iload_n 3, 1) := by decide +kernel
theorem d_Ve_init_59 : decode prog_8_method_1_code 59 = .ok (.invokevirtual 33, 3) := by decide +kernel
theorem d_Ve_init_62 : decode prog_8_method_1_code 62 = .ok (.iinc 2 1, 3) := by decide +kernel
theorem d_Ve_init_65 : decode prog_8_method_1_code 65 = .ok (.iinc 3 1, 3) := by decide +kernel
theorem d_Ve_init_68 : decode prog_8_method_1_code 68 = .ok (.goto (-35), 3) := by decide +kernel
theorem d_Ve_init_71 : decode prog_8_method_1_code 71 = .ok (.return_, 1) := by decide +kernel
theorem d_Ve_startsItem_0 : decode prog_8_method_6_code 0 = .ok (.aload_n 0, 1) := by decide +kernel
theorem d_Ve_startsItem_1 : decode prog_8_method_6_code 1 = .ok (.iload_n 1, 1) := by decide +kernel
theorem d_Ve_startsItem_2 : decode prog_8_method_6_code 2 = .ok (.invokevirtual 48, 3) := by decide +kernel
theorem d_Ve_startsItem_5 : decode prog_8_method_6_code 5 = .ok (.istore_n 2, 1) := by decide +kernel
theorem d_Ve_startsItem_6 : decode prog_8_method_6_code 6 = .ok (.iload_n 2, 1) := by decide +kernel
theorem d_Ve_startsItem_7 : decode prog_8_method_6_code 7 = .ok (.invokestatic 52, 3) := by decide +kernel
theorem d_Ve_startsItem_10 : decode prog_8_method_6_code 10 = .ok (.ifCond .ne 25, 3) := by decide +kernel
theorem d_Ve_startsItem_13 : decode prog_8_method_6_code 13 = .ok (.iload_n 1, 1) := by decide +kernel
theorem d_Ve_startsItem_14 : decode prog_8_method_6_code 14 = .ok (.ifCond .eq 17, 3) := by decide +kernel
theorem d_Ve_startsItem_17 : decode prog_8_method_6_code 17 = .ok (.aload_n 0, 1) := by decide +kernel
theorem d_Ve_startsItem_18 : decode prog_8_method_6_code 18 = .ok (.iload_n 1, 1) := by decide +kernel
theorem d_Ve_startsItem_19 : decode prog_8_method_6_code 19 = .ok (.iconst 1, 1) := by decide +kernel
theorem d_Ve_startsItem_20 : decode prog_8_method_6_code 20 = .ok (.isub, 1) := by decide +kernel
theorem d_Ve_startsItem_21 : decode prog_8_method_6_code 21 = .ok (.invokevirtual 48, 3) := by decide +kernel
theorem d_Ve_startsItem_24 : decode prog_8_method_6_code 24 = .ok (.iload_n 2, 1) := by decide +kernel
theorem d_Ve_startsItem_25 : decode prog_8_method_6_code 25 = .ok (.invokestatic 64, 3) := by decide +kernel
theorem d_Ve_startsItem_28 : decode prog_8_method_6_code 28 = .ok (.ifCond .ne 7, 3) := by decide +kernel
theorem d_Ve_startsItem_31 : decode prog_8_method_6_code 31 = .ok (.iconst 1, 1) := by decide +kernel
theorem d_Ve_startsItem_32 : decode prog_8_method_6_code 32 = .ok (.goto 4, 3) := by decide +kernel
theorem d_Ve_startsItem_35 : decode prog_8_method_6_code 35 = .ok (.iconst 0, 1) := by decide +kernel
theorem d_Ve_startsItem_36 : decode prog_8_method_6_code 36 = .ok (.ireturn, 1) := by decide +kernel
theorem d_Ve_isOneKind_0 : decode prog_8_method_7_code 0 = .ok (.iload_n 0, 1) := by decide +kernel
theorem d_Ve_isOneKind_1 : decode prog_8_method_7_code 1 = .ok (.invokestatic 58, 3) := by decide +kernel
theorem d_Ve_isOneKind_4 : decode prog_8_method_7_code 4 = .ok (.ifCond .eq 10, 3) := by decide +kernel
theorem d_Ve_isOneKind_7 : decode prog_8_method_7_code 7 = .ok (.iload_n 1, 1) := by decide +kernel
theorem d_Ve_isOneKind_8 : decode prog_8_method_7_code 8 = .ok (.invokestatic 58, 3) := by decide +kernel
theorem d_Ve_isOneKind_11 : decode prog_8_method_7_code 11 = .ok (.ifCond .ne 17, 3) := by decide +kernel
theorem d_Ve_isOneKind_14 : decode prog_8_method_7_code 14 = .ok (.iload_n 0, 1) := by decide +kernel
theorem d_Ve_isOneKind_15 : decode prog_8_method_7_code 15 = .ok (.invokestatic 61, 3) := by decide +kernel
theorem d_Ve_isOneKind_18 : decode prog_8_method_7_code 18 = .ok (.ifCond .eq 14, 3) := by decide +kernel
theorem d_Ve_isOneKind_21 : decode prog_8_method_7_code 21 = .ok (.iload_n 1, 1) := by decide +kernel
theorem d_Ve_isOneKind_22 : decode prog_8_method_7_code 22 = .ok (.invokestatic 61, 3) := by decide +kernel
theorem d_Ve_isOneKind_25 : decode prog_8_method_7_code 25 = .ok (.ifCond .eq 7, 3) := by decide +kernel
theorem d_Ve_isOneKind_28 : decode prog_8_method_7_code 28 = .ok (.iconst 1, 1) := by decide +kernel
theorem d_Ve_isOneKind_29 : decode prog_8_method_7_code 29 = .ok (.goto 4, 3) := by decide +kernel
theorem d_Ve_isOneKind_32 : decode prog_8_method_7_code 32 = .ok (.iconst 0, 1) := by decide +kernel
theorem d_Ve_isOneKind_33 : decode prog_8_method_7_code 33 = .ok (.ireturn, 1) := by decide +kernel
theorem d_Ve_readItem_0 : decode prog_8_method_8_code 0 = .ok (.iload_n 3, 1) := by decide +kernel
theorem d_Ve_readItem_1 : decode prog_8_method_8_code 1 = .ok (.iconst 1, 1) := by decide +kernel
theorem d_Ve_readItem_2 : decode prog_8_method_8_code 2 = .ok (.iadd, 1) := by decide +kernel
theorem d_Ve_readItem_3 : decode prog_8_method_8_code 3 = .ok (.istore 4, 2) := by decide +kernel
theorem d_Ve_readItem_5 : decode prog_8_method_8_code 5 = .ok (.iload 4, 2) := by decide +kernel
theorem d_Ve_readItem_7 : decode prog_8_method_8_code 7 = .ok (.aload_n 2, 1) := by decide +kernel
theorem d_Ve_readItem_8 : decode prog_8_method_8_code 8 = .ok (.invokevirtual 23, 3) := by decide +kernel
theorem d_Ve_readItem_11 : decode prog_8_method_8_code 11 = .ok (.if_icmp .ge 26, 3) := by decide +kernel
theorem d_Ve_readItem_14 : decode prog_8_method_8_code 14 = .ok (.aload_n 2, 1) := by decide +kernel
theorem d_Ve_readItem_15 : decode prog_8_method_8_code 15 = .ok (.iload_n 3, 1) := by decide +kernel
theorem d_Ve_readItem_16 : decode prog_8_method_8_code 16 = .ok (.invokevirtual 48, 3) := by decide +kernel
theorem d_Ve_readItem_19 : decode prog_8_method_8_code 19 = .ok (.aload_n 2, 1) := by decide +kernel
theorem d_Ve_readItem_20 : decode prog_8_method_8_code 20 = .ok (.iload 4, 2) := by decide +kernel
theorem d_Ve_readItem_22 : decode prog_8_method_8_code 22 = .ok (.invokevirtual 48, 3) := by decide +kernel
theorem d_Ve_readItem_25 : decode prog_8_method_8_code 25 = .ok (.invokestatic 64, 3) := by decide +kernel
theorem d_Ve_readItem_28 : decode prog_8_method_8_code 28 = .ok (.ifCond .eq 9, 3) := by decide +kernel
