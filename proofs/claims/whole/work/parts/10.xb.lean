/-! decode rows -/
theorem d_JM_max_0 : decode prog_16_method_65_code 0 = .ok (.iload_n 0, 1) := by decide +kernel
theorem d_JM_max_1 : decode prog_16_method_65_code 1 = .ok (.iload_n 1, 1) := by decide +kernel
theorem d_JM_max_2 : decode prog_16_method_65_code 2 = .ok (.if_icmp .lt 7, 3) := by decide +kernel
theorem d_JM_max_5 : decode prog_16_method_65_code 5 = .ok (.iload_n 0, 1) := by decide +kernel
theorem d_JM_max_6 : decode prog_16_method_65_code 6 = .ok (.goto 4, 3) := by decide +kernel
theorem d_JM_max_9 : decode prog_16_method_65_code 9 = .ok (.iload_n 1, 1) := by decide +kernel
theorem d_JM_max_10 : decode prog_16_method_65_code 10 = .ok (.ireturn, 1) := by decide +kernel
theorem d_X_init_0 : decode prog_1_method_1_code 0 = .ok (.aload_n 0, 1) := by decide +kernel
theorem d_X_init_1 : decode prog_1_method_1_code 1 = .ok (.invokespecial 1, 3) := by decide +kernel
theorem d_X_init_4 : decode prog_1_method_1_code 4 = .ok (.aload_n 0, 1) := by decide +kernel
theorem d_X_init_5 : decode prog_1_method_1_code 5 = .ok (.new 7, 3) := by decide +kernel
theorem d_X_init_8 : decode prog_1_method_1_code 8 = .ok (.dup, 1) := by decide +kernel
theorem d_X_init_9 : decode prog_1_method_1_code 9 = .ok (.invokespecial 9, 3) := by decide +kernel
theorem d_X_init_12 : decode prog_1_method_1_code 12 = .ok (.putfield 10, 3) := by decide +kernel
theorem d_X_init_15 : decode prog_1_method_1_code 15 = .ok (.aload_n 0, 1) := by decide +kernel
theorem d_X_init_16 : decode prog_1_method_1_code 16 = .ok (.new 7, 3) := by decide +kernel
theorem d_X_init_19 : decode prog_1_method_1_code 19 = .ok (.dup, 1) := by decide +kernel
theorem d_X_init_20 : decode prog_1_method_1_code 20 = .ok (.invokespecial 9, 3) := by decide +kernel
theorem d_X_init_23 : decode prog_1_method_1_code 23 = .ok (.putfield 16, 3) := by decide +kernel
theorem d_X_init_26 : decode prog_1_method_1_code 26 = .ok (.aload_n 0, 1) := by decide +kernel
theorem d_X_init_27 : decode prog_1_method_1_code 27 = .ok (.new 7, 3) := by decide +kernel
theorem d_X_init_30 : decode prog_1_method_1_code 30 = .ok (.dup, 1) := by decide +kernel
theorem d_X_init_31 : decode prog_1_method_1_code 31 = .ok (.invokespecial 9, 3) := by decide +kernel
theorem d_X_init_34 : decode prog_1_method_1_code 34 = .ok (.putfield 19, 3) := by decide +kernel
theorem d_X_init_37 : decode prog_1_method_1_code 37 = .ok (.aload_n 0, 1) := by decide +kernel
theorem d_X_init_38 : decode prog_1_method_1_code 38 = .ok (.new 22, 3) := by decide +kernel
theorem d_X_init_41 : decode prog_1_method_1_code 41 = .ok (.dup, 1) := by decide +kernel
theorem d_X_init_42 : decode prog_1_method_1_code 42 = .ok (.invokespecial 24, 3) := by decide +kernel
theorem d_X_init_45 : decode prog_1_method_1_code 45 = .ok (.putfield 25, 3) := by decide +kernel
theorem d_X_init_48 : decode prog_1_method_1_code 48 = .ok (.aload_n 0, 1) := by decide +kernel
theorem d_X_init_49 : decode prog_1_method_1_code 49 = .ok (.new 29, 3) := by decide +kernel
theorem d_X_init_52 : decode prog_1_method_1_code 52 = .ok (.dup, 1) := by decide +kernel
theorem d_X_init_53 : decode prog_1_method_1_code 53 = .ok (.aload_n 0, 1) := by decide +kernel
theorem d_X_init_54 : decode prog_1_method_1_code 54 = .ok (.getfield 25, 3) := by decide +kernel
theorem d_X_init_57 : decode prog_1_method_1_code 57 = .ok (.invokespecial 31, 3) := by decide +kernel
theorem d_X_init_60 : decode prog_1_method_1_code 60 = .ok (.putfield 34, 3) := by decide +kernel
theorem d_X_init_63 : decode prog_1_method_1_code 63 = .ok (.aload_n 0, 1) := by decide +kernel
theorem d_X_init_64 : decode prog_1_method_1_code 64 = .ok (.iconst 4, 1) := by decide +kernel
theorem d_X_init_65 : decode prog_1_method_1_code 65 = .ok (.anewarray 38, 3) := by decide +kernel
theorem d_X_init_68 : decode prog_1_method_1_code 68 = .ok (.dup, 1) := by decide +kernel
theorem d_X_init_69 : decode prog_1_method_1_code 69 = .ok (.iconst 0, 1) := by decide +kernel
theorem d_X_init_70 : decode prog_1_method_1_code 70 = .ok (.new 38, 3) := by decide +kernel
theorem d_X_init_73 : decode prog_1_method_1_code 73 = .ok (.dup, 1) := by decide +kernel
theorem d_X_init_74 : decode prog_1_method_1_code 74 = .ok (.invokespecial 40, 3) := by decide +kernel
theorem d_X_init_77 : decode prog_1_method_1_code 77 = .ok (.aastore, 1) := by decide +kernel
theorem d_X_init_78 : decode prog_1_method_1_code 78 = .ok (.dup, 1) := by decide +kernel
theorem d_X_init_79 : decode prog_1_method_1_code 79 = .ok (.iconst 1, 1) := by decide +kernel
theorem d_X_init_80 : decode prog_1_method_1_code 80 = .ok (.new 38, 3) := by decide +kernel
theorem d_X_init_83 : decode prog_1_method_1_code 83 = .ok (.dup, 1) := by decide +kernel
theorem d_X_init_84 : decode prog_1_method_1_code 84 = .ok (.invokespecial 40, 3) := by decide +kernel
theorem d_X_init_87 : decode prog_1_method_1_code 87 = .ok (.aastore, 1) := by decide +kernel
theorem d_X_init_88 : decode prog_1_method_1_code 88 = .ok (.dup, 1) := by decide +kernel
theorem d_X_init_89 : decode prog_1_method_1_code 89 = .ok (.iconst 2, 1) := by decide +kernel
theorem d_X_init_90 : decode prog_1_method_1_code 90 = .ok (.new 38, 3) := by decide +kernel
theorem d_X_init_93 : decode prog_1_method_1_code 93 = .ok (.dup, 1) := by decide +kernel
theorem d_X_init_94 : decode prog_1_method_1_code 94 = .ok (.invokespecial 40, 3) := by decide +kernel
theorem d_X_init_97 : decode prog_1_method_1_code 97 = .ok (.aastore, 1) := by decide +kernel
theorem d_X_init_98 : decode prog_1_method_1_code 98 = .ok (.dup, 1) := by decide +kernel
theorem d_X_init_99 : decode prog_1_method_1_code 99 = .ok (.iconst 3, 1) := by decide +kernel
theorem d_X_init_100 : decode prog_1_method_1_code 100 = .ok (.new 38, 3) := by decide +kernel
theorem d_X_init_103 : decode prog_1_method_1_code 103 = .ok (.dup, 1) := by decide +kernel
theorem d_X_init_104 : decode prog_1_method_1_code 104 = .ok (.invokespecial 40, 3) := by decide +kernel
theorem d_X_init_107 : decode prog_1_method_1_code 107 = .ok (.aastore, 1) := by decide +kernel
theorem d_X_init_108 : decode prog_1_method_1_code 108 = .ok (.putfield 41, 3) := by decide +kernel
theorem d_X_init_111 : decode prog_1_method_1_code 111 = .ok (.aload_n 0, 1) := by decide +kernel
theorem d_X_init_112 : decode prog_1_method_1_code 112 = .ok (.bipush 60, 2) := by decide +kernel
theorem d_X_init_114 : decode prog_1_method_1_code 114 = .ok (.newarray .int, 2) := by decide +kernel
theorem d_X_init_116 : decode prog_1_method_1_code 116 = .ok (.putfield 45, 3) := by decide +kernel
theorem d_X_init_119 : decode prog_1_method_1_code 119 = .ok (.return_, 1) := by decide +kernel
theorem d_X_within_0 : decode prog_1_method_51_code 0 = .ok (.iload_n 0, 1) := by decide +kernel
theorem d_X_within_1 : decode prog_1_method_51_code 1 = .ok (.iload_n 1, 1) := by decide +kernel
theorem d_X_within_2 : decode prog_1_method_51_code 2 = .ok (.if_icmp .lt 12, 3) := by decide +kernel
theorem d_X_within_5 : decode prog_1_method_51_code 5 = .ok (.iload_n 0, 1) := by decide +kernel
theorem d_X_within_6 : decode prog_1_method_51_code 6 = .ok (.iload_n 2, 1) := by decide +kernel
theorem d_X_within_7 : decode prog_1_method_51_code 7 = .ok (.if_icmp .gt 7, 3) := by decide +kernel
theorem d_X_within_10 : decode prog_1_method_51_code 10 = .ok (.iconst 1, 1) := by decide +kernel
theorem d_X_within_11 : decode prog_1_method_51_code 11 = .ok (.goto 4, 3) := by decide +kernel
theorem d_X_within_14 : decode prog_1_method_51_code 14 = .ok (.iconst 0, 1) := by decide +kernel
theorem d_X_within_15 : decode prog_1_method_51_code 15 = .ok (.ireturn, 1) := by decide +kernel
theorem d_X_person_0 : decode prog_1_method_2_code 0 = .ok (.iload_n 1, 1) := by decide +kernel
theorem d_X_person_1 : decode prog_1_method_2_code 1 = .ok (.iconst 0, 1) := by decide +kernel
theorem d_X_person_2 : decode prog_1_method_2_code 2 = .ok (.bipush 7, 2) := by decide +kernel
theorem d_X_person_4 : decode prog_1_method_2_code 4 = .ok (.invokestatic 49, 3) := by decide +kernel
theorem d_X_person_7 : decode prog_1_method_2_code 7 = .ok (.ifCond .eq 12, 3) := by decide +kernel
theorem d_X_person_10 : decode prog_1_method_2_code 10 = .ok (.iload_n 2, 1) := by decide +kernel
theorem d_X_person_11 : decode prog_1_method_2_code 11 = .ok (.iconst 0, 1) := by decide +kernel
theorem d_X_person_12 : decode prog_1_method_2_code 12 = .ok (.iconst 5, 1) := by decide +kernel
theorem d_X_person_13 : decode prog_1_method_2_code 13 = .ok (.invokestatic 49, 3) := by decide +kernel
theorem d_X_person_16 : decode prog_1_method_2_code 16 = .ok (.ifCond .ne 6, 3) := by decide +kernel
theorem d_X_person_19 : decode prog_1_method_2_code 19 = .ok (.ldc 53, 2) := by decide +kernel
theorem d_X_person_21 : decode prog_1_method_2_code 21 = .ok (.ireturn, 1) := by decide +kernel
theorem d_X_person_22 : decode prog_1_method_2_code 22 = .ok (.iload_n 3, 1) := by decide +kernel
theorem d_X_person_23 : decode prog_1_method_2_code 23 = .ok (.iconst 0, 1) := by decide +kernel
theorem d_X_person_24 : decode prog_1_method_2_code 24 = .ok (.sipush 255, 3) := by decide +kernel
theorem d_X_person_27 : decode prog_1_method_2_code 27 = .ok (.invokestatic 49, 3) := by decide +kernel
theorem d_X_person_30 : decode prog_1_method_2_code 30 = .ok (.ifCond .eq 13, 3) := by decide +kernel
theorem d_X_person_33 : decode prog_1_method_2_code 33 = .ok (.iload 4, 2) := by decide +kernel
theorem d_X_person_35 : decode prog_1_method_2_code 35 = .ok (.iconst 0, 1) := by decide +kernel
theorem d_X_person_36 : decode prog_1_method_2_code 36 = .ok (.iconst 1, 1) := by decide +kernel
theorem d_X_person_37 : decode prog_1_method_2_code 37 = .ok (.invokestatic 49, 3) := by decide +kernel
theorem d_X_person_40 : decode prog_1_method_2_code 40 = .ok (.ifCond .ne 6, 3) := by decide +kernel
theorem d_X_person_43 : decode prog_1_method_2_code 43 = .ok (.ldc 53, 2) := by decide +kernel
theorem d_X_person_45 : decode prog_1_method_2_code 45 = .ok (.ireturn, 1) := by decide +kernel
theorem d_X_person_46 : decode prog_1_method_2_code 46 = .ok (.aload_n 0, 1) := by decide +kernel
theorem d_X_person_47 : decode prog_1_method_2_code 47 = .ok (.getfield 10, 3) := by decide +kernel
theorem d_X_person_50 : decode prog_1_method_2_code 50 = .ok (.getfield 54, 3) := by decide +kernel
theorem d_X_person_53 : decode prog_1_method_2_code 53 = .ok (.invokevirtual 58, 3) := by decide +kernel
theorem d_X_person_56 : decode prog_1_method_2_code 56 = .ok (.ifCond .ne 19, 3) := by decide +kernel
theorem d_X_person_59 : decode prog_1_method_2_code 59 = .ok (.aload_n 0, 1) := by decide +kernel
theorem d_X_person_60 : decode prog_1_method_2_code 60 = .ok (.getfield 10, 3) := by decide +kernel
theorem d_X_person_63 : decode prog_1_method_2_code 63 = .ok (.getfield 64, 3) := by decide +kernel
theorem d_X_person_66 : decode prog_1_method_2_code 66 = .ok (.getfield 68, 3) := by decide +kernel
theorem d_X_person_69 : decode prog_1_method_2_code 69 = .ok (.invokevirtual 58, 3) := by decide +kernel
theorem d_X_person_72 : decode prog_1_method_2_code 72 = .ok (.ifCond .eq 6, 3) := by decide +kernel
theorem d_X_person_75 : decode prog_1_method_2_code 75 = .ok (.ldc 73, 2) := by decide +kernel
theorem d_X_person_77 : decode prog_1_method_2_code 77 = .ok (.ireturn, 1) := by decide +kernel
theorem d_X_person_78 : decode prog_1_method_2_code 78 = .ok (.aload_n 0, 1) := by decide +kernel
theorem d_X_person_79 : decode prog_1_method_2_code 79 = .ok (.getfield 10, 3) := by decide +kernel
theorem d_X_person_82 : decode prog_1_method_2_code 82 = .ok (.getfield 54, 3) := by decide +kernel
theorem d_X_person_85 : decode prog_1_method_2_code 85 = .ok (.iload_n 1, 1) := by decide +kernel
theorem d_X_person_86 : decode prog_1_method_2_code 86 = .ok (.iload_n 2, 1) := by decide +kernel
theorem d_X_person_87 : decode prog_1_method_2_code 87 = .ok (.iload_n 3, 1) := by decide +kernel
theorem d_X_person_88 : decode prog_1_method_2_code 88 = .ok (.iconst 0, 1) := by decide +kernel
theorem d_X_person_89 : decode prog_1_method_2_code 89 = .ok (.invokevirtual 74, 3) := by decide +kernel
theorem d_X_person_92 : decode prog_1_method_2_code 92 = .ok (.istore 5, 2) := by decide +kernel
theorem d_X_person_94 : decode prog_1_method_2_code 94 = .ok (.aload_n 0, 1) := by decide +kernel
theorem d_X_person_95 : decode prog_1_method_2_code 95 = .ok (.getfield 10, 3) := by decide +kernel
theorem d_X_person_98 : decode prog_1_method_2_code 98 = .ok (.getfield 54, 3) := by decide +kernel
theorem d_X_person_101 : decode prog_1_method_2_code 101 = .ok (.iload 5, 2) := by decide +kernel
theorem d_X_person_103 : decode prog_1_method_2_code 103 = .ok (.iconst 4, 1) := by decide +kernel
theorem d_X_person_104 : decode prog_1_method_2_code 104 = .ok (.iload 4, 2) := by decide +kernel
theorem d_X_person_106 : decode prog_1_method_2_code 106 = .ok (.invokevirtual 78, 3) := by decide +kernel
theorem d_X_person_109 : decode prog_1_method_2_code 109 = .ok (.aload_n 0, 1) := by decide +kernel
theorem d_X_person_110 : decode prog_1_method_2_code 110 = .ok (.getfield 10, 3) := by decide +kernel
theorem d_X_person_113 : decode prog_1_method_2_code 113 = .ok (.getfield 64, 3) := by decide +kernel
theorem d_X_person_116 : decode prog_1_method_2_code 116 = .ok (.iload 5, 2) := by decide +kernel
theorem d_X_person_118 : decode prog_1_method_2_code 118 = .ok (.aload_n 0, 1) := by decide +kernel
theorem d_X_person_119 : decode prog_1_method_2_code 119 = .ok (.getfield 10, 3) := by decide +kernel
theorem d_X_person_122 : decode prog_1_method_2_code 122 = .ok (.getfield 82, 3) := by decide +kernel
theorem d_X_person_125 : decode prog_1_method_2_code 125 = .ok (.invokevirtual 86, 3) := by decide +kernel
theorem d_X_person_128 : decode prog_1_method_2_code 128 = .ok (.iload 5, 2) := by decide +kernel
theorem d_X_person_130 : decode prog_1_method_2_code 130 = .ok (.ireturn, 1) := by decide +kernel
theorem d_JI_bitCount_0 : decode prog_15_method_49_code 0 = .ok (.iload_n 0, 1) := by decide +kernel
theorem d_JI_bitCount_1 : decode prog_15_method_49_code 1 = .ok (.iload_n 0, 1) := by decide +kernel
theorem d_JI_bitCount_2 : decode prog_15_method_49_code 2 = .ok (.iconst 1, 1) := by decide +kernel
theorem d_JI_bitCount_3 : decode prog_15_method_49_code 3 = .ok (.iushr, 1) := by decide +kernel
theorem d_JI_bitCount_4 : decode prog_15_method_49_code 4 = .ok (.ldc_w 265, 3) := by decide +kernel
theorem d_JI_bitCount_7 : decode prog_15_method_49_code 7 = .ok (.iand, 1) := by decide +kernel
theorem d_JI_bitCount_8 : decode prog_15_method_49_code 8 = .ok (.isub, 1) := by decide +kernel
theorem d_JI_bitCount_9 : decode prog_15_method_49_code 9 = .ok (.istore_n 0, 1) := by decide +kernel
theorem d_JI_bitCount_10 : decode prog_15_method_49_code 10 = .ok (.iload_n 0, 1) := by decide +kernel
theorem d_JI_bitCount_11 : decode prog_15_method_49_code 11 = .ok (.ldc_w 266, 3) := by decide +kernel
theorem d_JI_bitCount_14 : decode prog_15_method_49_code 14 = .ok (.iand, 1) := by decide +kernel
theorem d_JI_bitCount_15 : decode prog_15_method_49_code 15 = .ok (.iload_n 0, 1) := by decide +kernel
theorem d_JI_bitCount_16 : decode prog_15_method_49_code 16 = .ok (.iconst 2, 1) := by decide +kernel
theorem d_JI_bitCount_17 : decode prog_15_method_49_code 17 = .ok (.iushr, 1) := by decide +kernel
theorem d_JI_bitCount_18 : decode prog_15_method_49_code 18 = .ok (.ldc_w 266, 3) := by decide +kernel
theorem d_JI_bitCount_21 : decode prog_15_method_49_code 21 = .ok (.iand, 1) := by decide +kernel
theorem d_JI_bitCount_22 : decode prog_15_method_49_code 22 = .ok (.iadd, 1) := by decide +kernel
theorem d_JI_bitCount_23 : decode prog_15_method_49_code 23 = .ok (.istore_n 0, 1) := by decide +kernel
theorem d_JI_bitCount_24 : decode prog_15_method_49_code 24 = .ok (.iload_n 0, 1) := by decide +kernel
theorem d_JI_bitCount_25 : decode prog_15_method_49_code 25 = .ok (.iload_n 0, 1) := by decide +kernel
theorem d_JI_bitCount_26 : decode prog_15_method_49_code 26 = .ok (.iconst 4, 1) := by decide +kernel
theorem d_JI_bitCount_27 : decode prog_15_method_49_code 27 = .ok (.iushr, 1) := by decide +kernel
theorem d_JI_bitCount_28 : decode prog_15_method_49_code 28 = .ok (.iadd, 1) := by decide +kernel
theorem d_JI_bitCount_29 : decode prog_15_method_49_code 29 = .ok (.ldc_w 267, 3) := by decide +kernel
theorem d_JI_bitCount_32 : decode prog_15_method_49_code 32 = .ok (.iand, 1) := by decide +kernel
theorem d_JI_bitCount_33 : decode prog_15_method_49_code 33 = .ok (.istore_n 0, 1) := by decide +kernel
theorem d_JI_bitCount_34 : decode prog_15_method_49_code 34 = .ok (.iload_n 0, 1) := by decide +kernel
theorem d_JI_bitCount_35 : decode prog_15_method_49_code 35 = .ok (.iload_n 0, 1) := by decide +kernel
theorem d_JI_bitCount_36 : decode prog_15_method_49_code 36 = .ok (.bipush 8, 2) := by decide +kernel
theorem d_JI_bitCount_38 : decode prog_15_method_49_code 38 = .ok (.iushr, 1) := by decide +kernel
theorem d_JI_bitCount_39 : decode prog_15_method_49_code 39 = .ok (.iadd, 1) := by decide +kernel
theorem d_JI_bitCount_40 : decode prog_15_method_49_code 40 = .ok (.istore_n 0, 1) := by decide +kernel
theorem d_JI_bitCount_41 : decode prog_15_method_49_code 41 = .ok (.iload_n 0, 1) := by decide +kernel
theorem d_JI_bitCount_42 : decode prog_15_method_49_code 42 = .ok (.iload_n 0, 1) := by decide +kernel
theorem d_JI_bitCount_43 : decode prog_15_method_49_code 43 = .ok (.bipush 16, 2) := by decide +kernel
theorem d_JI_bitCount_45 : decode prog_15_method_49_code 45 = .ok (.iushr, 1) := by decide +kernel
theorem d_JI_bitCount_46 : decode prog_15_method_49_code 46 = .ok (.iadd, 1) := by decide +kernel
theorem d_JI_bitCount_47 : decode prog_15_method_49_code 47 = .ok (.istore_n 0, 1) := by decide +kernel
theorem d_JI_bitCount_48 : decode prog_15_method_49_code 48 = .ok (.iload_n 0, 1) := by decide +kernel
theorem d_JI_bitCount_49 : decode prog_15_method_49_code 49 = .ok (.bipush 63, 2) := by decide +kernel
theorem d_JI_bitCount_51 : decode prog_15_method_49_code 51 = .ok (.iand, 1) := by decide +kernel
theorem d_JI_bitCount_52 : decode prog_15_method_49_code 52 = .ok (.ireturn, 1) := by decide +kernel
theorem d_X_hundredths_0 : decode prog_1_method_52_code 0 = .ok (.iload_n 1, 1) := by decide +kernel
theorem d_X_hundredths_1 : decode prog_1_method_52_code 1 = .ok (.ifCond .ne 7, 3) := by decide +kernel
theorem d_X_hundredths_4 : decode prog_1_method_52_code 4 = .ok (.iconst 0, 1) := by decide +kernel
theorem d_X_hundredths_5 : decode prog_1_method_52_code 5 = .ok (.goto 9, 3) := by decide +kernel
theorem d_X_hundredths_8 : decode prog_1_method_52_code 8 = .ok (.iload_n 0, 1) := by decide +kernel
theorem d_X_hundredths_9 : decode prog_1_method_52_code 9 = .ok (.bipush 100, 2) := by decide +kernel
theorem d_X_hundredths_11 : decode prog_1_method_52_code 11 = .ok (.imul, 1) := by decide +kernel
theorem d_X_hundredths_12 : decode prog_1_method_52_code 12 = .ok (.iload_n 1, 1) := by decide +kernel
theorem d_X_hundredths_13 : decode prog_1_method_52_code 13 = .ok (.idiv, 1) := by decide +kernel
theorem d_X_hundredths_14 : decode prog_1_method_52_code 14 = .ok (.ireturn, 1) := by decide +kernel
theorem d_X_told_0 : decode prog_1_method_3_code 0 = .ok (.aload_n 0, 1) := by decide +kernel
theorem d_X_told_1 : decode prog_1_method_3_code 1 = .ok (.getfield 10, 3) := by decide +kernel
theorem d_X_told_4 : decode prog_1_method_3_code 4 = .ok (.getfield 54, 3) := by decide +kernel
theorem d_X_told_7 : decode prog_1_method_3_code 7 = .ok (.iload_n 1, 1) := by decide +kernel
theorem d_X_told_8 : decode prog_1_method_3_code 8 = .ok (.invokevirtual 90, 3) := by decide +kernel
theorem d_X_told_11 : decode prog_1_method_3_code 11 = .ok (.ifCond .ne 6, 3) := by decide +kernel
theorem d_X_told_14 : decode prog_1_method_3_code 14 = .ok (.ldc 53, 2) := by decide +kernel
theorem d_X_told_16 : decode prog_1_method_3_code 16 = .ok (.ireturn, 1) := by decide +kernel
theorem d_X_told_17 : decode prog_1_method_3_code 17 = .ok (.iload_n 2, 1) := by decide +kernel
theorem d_X_told_18 : decode prog_1_method_3_code 18 = .ok (.tableswitch 121 0 9 #[54, 54, 54, 54, 54, 67, 79, 92, 102, 112], 54) := by decide +kernel
theorem d_X_told_72 : decode prog_1_method_3_code 72 = .ok (.aload_n 0, 1) := by decide +kernel
theorem d_X_told_73 : decode prog_1_method_3_code 73 = .ok (.getfield 10, 3) := by decide +kernel
theorem d_X_told_76 : decode prog_1_method_3_code 76 = .ok (.getfield 54, 3) := by decide +kernel
theorem d_X_told_79 : decode prog_1_method_3_code 79 = .ok (.iload_n 1, 1) := by decide +kernel
theorem d_X_told_80 : decode prog_1_method_3_code 80 = .ok (.iload_n 2, 1) := by decide +kernel
theorem d_X_told_81 : decode prog_1_method_3_code 81 = .ok (.invokevirtual 94, 3) := by decide +kernel
theorem d_X_told_84 : decode prog_1_method_3_code 84 = .ok (.ireturn, 1) := by decide +kernel
theorem d_X_told_85 : decode prog_1_method_3_code 85 = .ok (.aload_n 0, 1) := by decide +kernel
theorem d_X_told_86 : decode prog_1_method_3_code 86 = .ok (.getfield 10, 3) := by decide +kernel
theorem d_X_told_89 : decode prog_1_method_3_code 89 = .ok (.getfield 64, 3) := by decide +kernel
theorem d_X_told_92 : decode prog_1_method_3_code 92 = .ok (.iload_n 1, 1) := by decide +kernel
theorem d_X_told_93 : decode prog_1_method_3_code 93 = .ok (.invokevirtual 98, 3) := by decide +kernel
theorem d_X_told_96 : decode prog_1_method_3_code 96 = .ok (.ireturn, 1) := by decide +kernel
theorem d_X_told_97 : decode prog_1_method_3_code 97 = .ok (.aload_n 0, 1) := by decide +kernel
theorem d_X_told_98 : decode prog_1_method_3_code 98 = .ok (.getfield 10, 3) := by decide +kernel
theorem d_X_told_101 : decode prog_1_method_3_code 101 = .ok (.getfield 54, 3) := by decide +kernel
theorem d_X_told_104 : decode prog_1_method_3_code 104 = .ok (.iload_n 1, 1) := by decide +kernel
theorem d_X_told_105 : decode prog_1_method_3_code 105 = .ok (.iconst 5, 1) := by decide +kernel
theorem d_X_told_106 : decode prog_1_method_3_code 106 = .ok (.invokevirtual 94, 3) := by decide +kernel
theorem d_X_told_109 : decode prog_1_method_3_code 109 = .ok (.ireturn, 1) := by decide +kernel
theorem d_X_told_110 : decode prog_1_method_3_code 110 = .ok (.aload_n 0, 1) := by decide +kernel
theorem d_X_told_111 : decode prog_1_method_3_code 111 = .ok (.getfield 10, 3) := by decide +kernel
theorem d_X_told_114 : decode prog_1_method_3_code 114 = .ok (.iload_n 1, 1) := by decide +kernel
theorem d_X_told_115 : decode prog_1_method_3_code 115 = .ok (.iconst 0, 1) := by decide +kernel
theorem d_X_told_116 : decode prog_1_method_3_code 116 = .ok (.invokevirtual 102, 3) := by decide +kernel
theorem d_X_told_119 : decode prog_1_method_3_code 119 = .ok (.ireturn, 1) := by decide +kernel
theorem d_X_told_120 : decode prog_1_method_3_code 120 = .ok (.aload_n 0, 1) := by decide +kernel
theorem d_X_told_121 : decode prog_1_method_3_code 121 = .ok (.getfield 10, 3) := by decide +kernel
theorem d_X_told_124 : decode prog_1_method_3_code 124 = .ok (.iload_n 1, 1) := by decide +kernel
theorem d_X_told_125 : decode prog_1_method_3_code 125 = .ok (.iconst 2, 1) := by decide +kernel
theorem d_X_told_126 : decode prog_1_method_3_code 126 = .ok (.invokevirtual 102, 3) := by decide +kernel
theorem d_X_told_129 : decode prog_1_method_3_code 129 = .ok (.ireturn, 1) := by decide +kernel
theorem d_X_told_130 : decode prog_1_method_3_code 130 = .ok (.aload_n 0, 1) := by decide +kernel
theorem d_X_told_131 : decode prog_1_method_3_code 131 = .ok (.getfield 10, 3) := by decide +kernel
theorem d_X_told_134 : decode prog_1_method_3_code 134 = .ok (.iload_n 1, 1) := by decide +kernel
theorem d_X_told_135 : decode prog_1_method_3_code 135 = .ok (.invokevirtual 105, 3) := by decide +kernel
theorem d_X_told_138 : decode prog_1_method_3_code 138 = .ok (.ireturn, 1) := by decide +kernel
theorem d_X_told_139 : decode prog_1_method_3_code 139 = .ok (.ldc 53, 2) := by decide +kernel
theorem d_X_told_141 : decode prog_1_method_3_code 141 = .ok (.ireturn, 1) := by decide +kernel
theorem d_X_mostOfCase_0 : decode prog_1_method_53_code 0 = .ok (.iload_n 0, 1) := by decide +kernel
theorem d_X_mostOfCase_1 : decode prog_1_method_53_code 1 = .ok (.tableswitch 39 1 4 #[31, 33, 39, 37], 31) := by decide +kernel
theorem d_X_mostOfCase_32 : decode prog_1_method_53_code 32 = .ok (.iconst 5, 1) := by decide +kernel
theorem d_X_mostOfCase_33 : decode prog_1_method_53_code 33 = .ok (.ireturn, 1) := by decide +kernel
theorem d_X_mostOfCase_34 : decode prog_1_method_53_code 34 = .ok (.sipush 255, 3) := by decide +kernel
theorem d_X_mostOfCase_37 : decode prog_1_method_53_code 37 = .ok (.ireturn, 1) := by decide +kernel
theorem d_X_mostOfCase_38 : decode prog_1_method_53_code 38 = .ok (.iconst 1, 1) := by decide +kernel
theorem d_X_mostOfCase_39 : decode prog_1_method_53_code 39 = .ok (.ireturn, 1) := by decide +kernel
theorem d_X_mostOfCase_40 : decode prog_1_method_53_code 40 = .ok (.iconst (-1), 1) := by decide +kernel
theorem d_X_mostOfCase_41 : decode prog_1_method_53_code 41 = .ok (.ireturn, 1) := by decide +kernel
theorem d_X_be_0 : decode prog_1_method_4_code 0 = .ok (.aload_n 0, 1) := by decide +kernel
theorem d_X_be_1 : decode prog_1_method_4_code 1 = .ok (.getfield 10, 3) := by decide +kernel
theorem d_X_be_4 : decode prog_1_method_4_code 4 = .ok (.getfield 54, 3) := by decide +kernel
theorem d_X_be_7 : decode prog_1_method_4_code 7 = .ok (.iload_n 1, 1) := by decide +kernel
theorem d_X_be_8 : decode prog_1_method_4_code 8 = .ok (.invokevirtual 90, 3) := by decide +kernel
theorem d_X_be_11 : decode prog_1_method_4_code 11 = .ok (.ifCond .eq 15, 3) := by decide +kernel
theorem d_X_be_14 : decode prog_1_method_4_code 14 = .ok (.iload_n 3, 1) := by decide +kernel
theorem d_X_be_15 : decode prog_1_method_4_code 15 = .ok (.iconst 0, 1) := by decide +kernel
theorem d_X_be_16 : decode prog_1_method_4_code 16 = .ok (.iload_n 2, 1) := by decide +kernel
theorem d_X_be_17 : decode prog_1_method_4_code 17 = .ok (.invokestatic 108, 3) := by decide +kernel
theorem d_X_be_20 : decode prog_1_method_4_code 20 = .ok (.invokestatic 49, 3) := by decide +kernel
theorem d_X_be_23 : decode prog_1_method_4_code 23 = .ok (.ifCond .ne 6, 3) := by decide +kernel
theorem d_X_be_26 : decode prog_1_method_4_code 26 = .ok (.ldc 53, 2) := by decide +kernel
theorem d_X_be_28 : decode prog_1_method_4_code 28 = .ok (.ireturn, 1) := by decide +kernel
theorem d_X_be_29 : decode prog_1_method_4_code 29 = .ok (.aload_n 0, 1) := by decide +kernel
theorem d_X_be_30 : decode prog_1_method_4_code 30 = .ok (.getfield 10, 3) := by decide +kernel
theorem d_X_be_33 : decode prog_1_method_4_code 33 = .ok (.getfield 54, 3) := by decide +kernel
theorem d_X_be_36 : decode prog_1_method_4_code 36 = .ok (.iload_n 1, 1) := by decide +kernel
theorem d_X_be_37 : decode prog_1_method_4_code 37 = .ok (.iload_n 2, 1) := by decide +kernel
theorem d_X_be_38 : decode prog_1_method_4_code 38 = .ok (.iload_n 3, 1) := by decide +kernel
theorem d_X_be_39 : decode prog_1_method_4_code 39 = .ok (.invokevirtual 111, 3) := by decide +kernel
theorem d_X_be_42 : decode prog_1_method_4_code 42 = .ok (.ireturn, 1) := by decide +kernel
theorem d_X_sentence_0 : decode prog_1_method_5_code 0 = .ok (.aload_n 0, 1) := by decide +kernel
theorem d_X_sentence_1 : decode prog_1_method_5_code 1 = .ok (.getfield 10, 3) := by decide +kernel
theorem d_X_sentence_4 : decode prog_1_method_5_code 4 = .ok (.getfield 54, 3) := by decide +kernel
theorem d_X_sentence_7 : decode prog_1_method_5_code 7 = .ok (.iload_n 1, 1) := by decide +kernel
theorem d_X_sentence_8 : decode prog_1_method_5_code 8 = .ok (.invokevirtual 90, 3) := by decide +kernel
theorem d_X_sentence_11 : decode prog_1_method_5_code 11 = .ok (.ifCond .eq 23, 3) := by decide +kernel
theorem d_X_sentence_14 : decode prog_1_method_5_code 14 = .ok (.iload_n 2, 1) := by decide +kernel
theorem d_X_sentence_15 : decode prog_1_method_5_code 15 = .ok (.iconst 1, 1) := by decide +kernel
theorem d_X_sentence_16 : decode prog_1_method_5_code 16 = .ok (.sipush 9999, 3) := by decide +kernel
theorem d_X_sentence_19 : decode prog_1_method_5_code 19 = .ok (.invokestatic 49, 3) := by decide +kernel
theorem d_X_sentence_22 : decode prog_1_method_5_code 22 = .ok (.ifCond .eq 12, 3) := by decide +kernel
theorem d_X_sentence_25 : decode prog_1_method_5_code 25 = .ok (.iload_n 3, 1) := by decide +kernel
theorem d_X_sentence_26 : decode prog_1_method_5_code 26 = .ok (.iconst 0, 1) := by decide +kernel
theorem d_X_sentence_27 : decode prog_1_method_5_code 27 = .ok (.iconst 1, 1) := by decide +kernel
theorem d_X_sentence_28 : decode prog_1_method_5_code 28 = .ok (.invokestatic 49, 3) := by decide +kernel
theorem d_X_sentence_31 : decode prog_1_method_5_code 31 = .ok (.ifCond .ne 6, 3) := by decide +kernel
theorem d_X_sentence_34 : decode prog_1_method_5_code 34 = .ok (.ldc 53, 2) := by decide +kernel
theorem d_X_sentence_36 : decode prog_1_method_5_code 36 = .ok (.ireturn, 1) := by decide +kernel
theorem d_X_sentence_37 : decode prog_1_method_5_code 37 = .ok (.aload_n 0, 1) := by decide +kernel
theorem d_X_sentence_38 : decode prog_1_method_5_code 38 = .ok (.getfield 10, 3) := by decide +kernel
theorem d_X_sentence_41 : decode prog_1_method_5_code 41 = .ok (.iload_n 1, 1) := by decide +kernel
theorem d_X_sentence_42 : decode prog_1_method_5_code 42 = .ok (.invokevirtual 115, 3) := by decide +kernel
theorem d_X_sentence_45 : decode prog_1_method_5_code 45 = .ok (.iconst 2, 1) := by decide +kernel
theorem d_X_sentence_46 : decode prog_1_method_5_code 46 = .ok (.if_icmp .ne 6, 3) := by decide +kernel
theorem d_X_sentence_49 : decode prog_1_method_5_code 49 = .ok (.ldc 118, 2) := by decide +kernel
theorem d_X_sentence_51 : decode prog_1_method_5_code 51 = .ok (.ireturn, 1) := by decide +kernel
theorem d_X_sentence_52 : decode prog_1_method_5_code 52 = .ok (.aload_n 0, 1) := by decide +kernel
theorem d_X_sentence_53 : decode prog_1_method_5_code 53 = .ok (.getfield 10, 3) := by decide +kernel
theorem d_X_sentence_56 : decode prog_1_method_5_code 56 = .ok (.getfield 64, 3) := by decide +kernel
theorem d_X_sentence_59 : decode prog_1_method_5_code 59 = .ok (.getfield 119, 3) := by decide +kernel
theorem d_X_sentence_62 : decode prog_1_method_5_code 62 = .ok (.invokevirtual 58, 3) := by decide +kernel
theorem d_X_sentence_65 : decode prog_1_method_5_code 65 = .ok (.ifCond .eq 6, 3) := by decide +kernel
theorem d_X_sentence_68 : decode prog_1_method_5_code 68 = .ok (.ldc 73, 2) := by decide +kernel
theorem d_X_sentence_70 : decode prog_1_method_5_code 70 = .ok (.ireturn, 1) := by decide +kernel
theorem d_X_sentence_71 : decode prog_1_method_5_code 71 = .ok (.aload_n 0, 1) := by decide +kernel
theorem d_X_sentence_72 : decode prog_1_method_5_code 72 = .ok (.getfield 10, 3) := by decide +kernel
theorem d_X_sentence_75 : decode prog_1_method_5_code 75 = .ok (.getfield 64, 3) := by decide +kernel
theorem d_X_sentence_78 : decode prog_1_method_5_code 78 = .ok (.getfield 119, 3) := by decide +kernel
theorem d_X_sentence_81 : decode prog_1_method_5_code 81 = .ok (.iload_n 1, 1) := by decide +kernel
theorem d_X_sentence_82 : decode prog_1_method_5_code 82 = .ok (.iload_n 2, 1) := by decide +kernel
theorem d_X_sentence_83 : decode prog_1_method_5_code 83 = .ok (.iload_n 3, 1) := by decide +kernel
theorem d_X_sentence_84 : decode prog_1_method_5_code 84 = .ok (.iconst 0, 1) := by decide +kernel
theorem d_X_sentence_85 : decode prog_1_method_5_code 85 = .ok (.invokevirtual 74, 3) := by decide +kernel
theorem d_X_sentence_88 : decode prog_1_method_5_code 88 = .ok (.ireturn, 1) := by decide +kernel
theorem d_X_gap_0 : decode prog_1_method_6_code 0 = .ok (.aload_n 0, 1) := by decide +kernel
theorem d_X_gap_1 : decode prog_1_method_6_code 1 = .ok (.getfield 10, 3) := by decide +kernel
theorem d_X_gap_4 : decode prog_1_method_6_code 4 = .ok (.getfield 54, 3) := by decide +kernel
theorem d_X_gap_7 : decode prog_1_method_6_code 7 = .ok (.iload_n 1, 1) := by decide +kernel
theorem d_X_gap_8 : decode prog_1_method_6_code 8 = .ok (.invokevirtual 90, 3) := by decide +kernel
theorem d_X_gap_11 : decode prog_1_method_6_code 11 = .ok (.ifCond .ne 6, 3) := by decide +kernel
theorem d_X_gap_14 : decode prog_1_method_6_code 14 = .ok (.ldc 53, 2) := by decide +kernel
theorem d_X_gap_16 : decode prog_1_method_6_code 16 = .ok (.ireturn, 1) := by decide +kernel
theorem d_X_gap_17 : decode prog_1_method_6_code 17 = .ok (.iload_n 2, 1) := by decide +kernel
theorem d_X_gap_18 : decode prog_1_method_6_code 18 = .ok (.iconst 0, 1) := by decide +kernel
theorem d_X_gap_19 : decode prog_1_method_6_code 19 = .ok (.sipush 9999, 3) := by decide +kernel
theorem d_X_gap_22 : decode prog_1_method_6_code 22 = .ok (.invokestatic 49, 3) := by decide +kernel
theorem d_X_gap_25 : decode prog_1_method_6_code 25 = .ok (.ifCond .eq 19, 3) := by decide +kernel
theorem d_X_gap_28 : decode prog_1_method_6_code 28 = .ok (.iload_n 3, 1) := by decide +kernel
theorem d_X_gap_29 : decode prog_1_method_6_code 29 = .ok (.iconst 0, 1) := by decide +kernel
theorem d_X_gap_30 : decode prog_1_method_6_code 30 = .ok (.sipush 9999, 3) := by decide +kernel
theorem d_X_gap_33 : decode prog_1_method_6_code 33 = .ok (.invokestatic 49, 3) := by decide +kernel
theorem d_X_gap_36 : decode prog_1_method_6_code 36 = .ok (.ifCond .eq 8, 3) := by decide +kernel
theorem d_X_gap_39 : decode prog_1_method_6_code 39 = .ok (.iload_n 3, 1) := by decide +kernel
theorem d_X_gap_40 : decode prog_1_method_6_code 40 = .ok (.iload_n 2, 1) := by decide +kernel
theorem d_X_gap_41 : decode prog_1_method_6_code 41 = .ok (.if_icmp .gt 6, 3) := by decide +kernel
theorem d_X_gap_44 : decode prog_1_method_6_code 44 = .ok (.ldc 53, 2) := by decide +kernel
theorem d_X_gap_46 : decode prog_1_method_6_code 46 = .ok (.ireturn, 1) := by decide +kernel
theorem d_X_gap_47 : decode prog_1_method_6_code 47 = .ok (.aload_n 0, 1) := by decide +kernel
theorem d_X_gap_48 : decode prog_1_method_6_code 48 = .ok (.getfield 10, 3) := by decide +kernel
theorem d_X_gap_51 : decode prog_1_method_6_code 51 = .ok (.getfield 64, 3) := by decide +kernel
theorem d_X_gap_54 : decode prog_1_method_6_code 54 = .ok (.getfield 122, 3) := by decide +kernel
theorem d_X_gap_57 : decode prog_1_method_6_code 57 = .ok (.invokevirtual 58, 3) := by decide +kernel
theorem d_X_gap_60 : decode prog_1_method_6_code 60 = .ok (.ifCond .eq 6, 3) := by decide +kernel
theorem d_X_gap_63 : decode prog_1_method_6_code 63 = .ok (.ldc 73, 2) := by decide +kernel
theorem d_X_gap_65 : decode prog_1_method_6_code 65 = .ok (.ireturn, 1) := by decide +kernel
theorem d_X_gap_66 : decode prog_1_method_6_code 66 = .ok (.aload_n 0, 1) := by decide +kernel
theorem d_X_gap_67 : decode prog_1_method_6_code 67 = .ok (.getfield 10, 3) := by decide +kernel
theorem d_X_gap_70 : decode prog_1_method_6_code 70 = .ok (.getfield 64, 3) := by decide +kernel
theorem d_X_gap_73 : decode prog_1_method_6_code 73 = .ok (.getfield 122, 3) := by decide +kernel
theorem d_X_gap_76 : decode prog_1_method_6_code 76 = .ok (.iload_n 1, 1) := by decide +kernel
theorem d_X_gap_77 : decode prog_1_method_6_code 77 = .ok (.iload_n 2, 1) := by decide +kernel
theorem d_X_gap_78 : decode prog_1_method_6_code 78 = .ok (.iload_n 3, 1) := by decide +kernel
theorem d_X_gap_79 : decode prog_1_method_6_code 79 = .ok (.iconst 0, 1) := by decide +kernel
theorem d_X_gap_80 : decode prog_1_method_6_code 80 = .ok (.invokevirtual 74, 3) := by decide +kernel
theorem d_X_gap_83 : decode prog_1_method_6_code 83 = .ok (.iconst 1, 1) := by decide +kernel
theorem d_X_gap_84 : decode prog_1_method_6_code 84 = .ok (.iadd, 1) := by decide +kernel
theorem d_X_gap_85 : decode prog_1_method_6_code 85 = .ok (.ireturn, 1) := by decide +kernel
theorem d_X_flee_0 : decode prog_1_method_7_code 0 = .ok (.aload_n 0, 1) := by decide +kernel
theorem d_X_flee_1 : decode prog_1_method_7_code 1 = .ok (.getfield 10, 3) := by decide +kernel
theorem d_X_flee_4 : decode prog_1_method_7_code 4 = .ok (.getfield 54, 3) := by decide +kernel
theorem d_X_flee_7 : decode prog_1_method_7_code 7 = .ok (.iload_n 1, 1) := by decide +kernel
theorem d_X_flee_8 : decode prog_1_method_7_code 8 = .ok (.invokevirtual 90, 3) := by decide +kernel
theorem d_X_flee_11 : decode prog_1_method_7_code 11 = .ok (.ifCond .ne 6, 3) := by decide +kernel
theorem d_X_flee_14 : decode prog_1_method_7_code 14 = .ok (.ldc 53, 2) := by decide +kernel
theorem d_X_flee_16 : decode prog_1_method_7_code 16 = .ok (.ireturn, 1) := by decide +kernel
theorem d_X_flee_17 : decode prog_1_method_7_code 17 = .ok (.aload_n 0, 1) := by decide +kernel
theorem d_X_flee_18 : decode prog_1_method_7_code 18 = .ok (.getfield 10, 3) := by decide +kernel
theorem d_X_flee_21 : decode prog_1_method_7_code 21 = .ok (.iload_n 1, 1) := by decide +kernel
theorem d_X_flee_22 : decode prog_1_method_7_code 22 = .ok (.invokevirtual 115, 3) := by decide +kernel
theorem d_X_flee_25 : decode prog_1_method_7_code 25 = .ok (.ifCond .ne 14, 3) := by decide +kernel
theorem d_X_flee_28 : decode prog_1_method_7_code 28 = .ok (.aload_n 0, 1) := by decide +kernel
theorem d_X_flee_29 : decode prog_1_method_7_code 29 = .ok (.getfield 10, 3) := by decide +kernel
theorem d_X_flee_32 : decode prog_1_method_7_code 32 = .ok (.iload_n 1, 1) := by decide +kernel
theorem d_X_flee_33 : decode prog_1_method_7_code 33 = .ok (.invokevirtual 125, 3) := by decide +kernel
theorem d_X_flee_36 : decode prog_1_method_7_code 36 = .ok (.ifCond .eq 6, 3) := by decide +kernel
theorem d_X_flee_39 : decode prog_1_method_7_code 39 = .ok (.ldc 118, 2) := by decide +kernel
theorem d_X_flee_41 : decode prog_1_method_7_code 41 = .ok (.ireturn, 1) := by decide +kernel
theorem d_X_flee_42 : decode prog_1_method_7_code 42 = .ok (.aload_n 0, 1) := by decide +kernel
theorem d_X_flee_43 : decode prog_1_method_7_code 43 = .ok (.getfield 10, 3) := by decide +kernel
theorem d_X_flee_46 : decode prog_1_method_7_code 46 = .ok (.getfield 64, 3) := by decide +kernel
theorem d_X_flee_49 : decode prog_1_method_7_code 49 = .ok (.iload_n 1, 1) := by decide +kernel
theorem d_X_flee_50 : decode prog_1_method_7_code 50 = .ok (.aload_n 0, 1) := by decide +kernel
theorem d_X_flee_51 : decode prog_1_method_7_code 51 = .ok (.getfield 10, 3) := by decide +kernel
theorem d_X_flee_54 : decode prog_1_method_7_code 54 = .ok (.getfield 82, 3) := by decide +kernel
theorem d_X_flee_57 : decode prog_1_method_7_code 57 = .ok (.invokevirtual 128, 3) := by decide +kernel
theorem d_X_flee_60 : decode prog_1_method_7_code 60 = .ok (.iconst 1, 1) := by decide +kernel
theorem d_X_flee_61 : decode prog_1_method_7_code 61 = .ok (.ireturn, 1) := by decide +kernel
theorem d_X_caught_0 : decode prog_1_method_8_code 0 = .ok (.aload_n 0, 1) := by decide +kernel
theorem d_X_caught_1 : decode prog_1_method_8_code 1 = .ok (.getfield 10, 3) := by decide +kernel
theorem d_X_caught_4 : decode prog_1_method_8_code 4 = .ok (.getfield 54, 3) := by decide +kernel
theorem d_X_caught_7 : decode prog_1_method_8_code 7 = .ok (.iload_n 1, 1) := by decide +kernel
theorem d_X_caught_8 : decode prog_1_method_8_code 8 = .ok (.invokevirtual 90, 3) := by decide +kernel
theorem d_X_caught_11 : decode prog_1_method_8_code 11 = .ok (.ifCond .ne 6, 3) := by decide +kernel
theorem d_X_caught_14 : decode prog_1_method_8_code 14 = .ok (.ldc 53, 2) := by decide +kernel
theorem d_X_caught_16 : decode prog_1_method_8_code 16 = .ok (.ireturn, 1) := by decide +kernel
theorem d_X_caught_17 : decode prog_1_method_8_code 17 = .ok (.aload_n 0, 1) := by decide +kernel
theorem d_X_caught_18 : decode prog_1_method_8_code 18 = .ok (.getfield 10, 3) := by decide +kernel
theorem d_X_caught_21 : decode prog_1_method_8_code 21 = .ok (.iload_n 1, 1) := by decide +kernel
theorem d_X_caught_22 : decode prog_1_method_8_code 22 = .ok (.invokevirtual 125, 3) := by decide +kernel
theorem d_X_caught_25 : decode prog_1_method_8_code 25 = .ok (.ifCond .ne 6, 3) := by decide +kernel
theorem d_X_caught_28 : decode prog_1_method_8_code 28 = .ok (.ldc 118, 2) := by decide +kernel
theorem d_X_caught_30 : decode prog_1_method_8_code 30 = .ok (.ireturn, 1) := by decide +kernel
theorem d_X_caught_31 : decode prog_1_method_8_code 31 = .ok (.aload_n 0, 1) := by decide +kernel
theorem d_X_caught_32 : decode prog_1_method_8_code 32 = .ok (.getfield 10, 3) := by decide +kernel
theorem d_X_caught_35 : decode prog_1_method_8_code 35 = .ok (.getfield 64, 3) := by decide +kernel
theorem d_X_caught_38 : decode prog_1_method_8_code 38 = .ok (.getfield 68, 3) := by decide +kernel
theorem d_X_caught_41 : decode prog_1_method_8_code 41 = .ok (.invokevirtual 58, 3) := by decide +kernel
theorem d_X_caught_44 : decode prog_1_method_8_code 44 = .ok (.ifCond .eq 6, 3) := by decide +kernel
theorem d_X_caught_47 : decode prog_1_method_8_code 47 = .ok (.ldc 73, 2) := by decide +kernel
theorem d_X_caught_49 : decode prog_1_method_8_code 49 = .ok (.ireturn, 1) := by decide +kernel
theorem d_X_caught_50 : decode prog_1_method_8_code 50 = .ok (.aload_n 0, 1) := by decide +kernel
theorem d_X_caught_51 : decode prog_1_method_8_code 51 = .ok (.getfield 10, 3) := by decide +kernel
theorem d_X_caught_54 : decode prog_1_method_8_code 54 = .ok (.getfield 64, 3) := by decide +kernel
theorem d_X_caught_57 : decode prog_1_method_8_code 57 = .ok (.iload_n 1, 1) := by decide +kernel
theorem d_X_caught_58 : decode prog_1_method_8_code 58 = .ok (.aload_n 0, 1) := by decide +kernel
theorem d_X_caught_59 : decode prog_1_method_8_code 59 = .ok (.getfield 10, 3) := by decide +kernel
theorem d_X_caught_62 : decode prog_1_method_8_code 62 = .ok (.getfield 82, 3) := by decide +kernel
theorem d_X_caught_65 : decode prog_1_method_8_code 65 = .ok (.invokevirtual 86, 3) := by decide +kernel
theorem d_X_caught_68 : decode prog_1_method_8_code 68 = .ok (.iconst 1, 1) := by decide +kernel
theorem d_X_caught_69 : decode prog_1_method_8_code 69 = .ok (.ireturn, 1) := by decide +kernel
theorem d_X_gone_0 : decode prog_1_method_9_code 0 = .ok (.aload_n 0, 1) := by decide +kernel
theorem d_X_gone_1 : decode prog_1_method_9_code 1 = .ok (.getfield 10, 3) := by decide +kernel
theorem d_X_gone_4 : decode prog_1_method_9_code 4 = .ok (.getfield 54, 3) := by decide +kernel
theorem d_X_gone_7 : decode prog_1_method_9_code 7 = .ok (.iload_n 1, 1) := by decide +kernel
theorem d_X_gone_8 : decode prog_1_method_9_code 8 = .ok (.invokevirtual 90, 3) := by decide +kernel
theorem d_X_gone_11 : decode prog_1_method_9_code 11 = .ok (.ifCond .ne 6, 3) := by decide +kernel
theorem d_X_gone_14 : decode prog_1_method_9_code 14 = .ok (.ldc 53, 2) := by decide +kernel
theorem d_X_gone_16 : decode prog_1_method_9_code 16 = .ok (.ireturn, 1) := by decide +kernel
theorem d_X_gone_17 : decode prog_1_method_9_code 17 = .ok (.aload_n 0, 1) := by decide +kernel
theorem d_X_gone_18 : decode prog_1_method_9_code 18 = .ok (.getfield 10, 3) := by decide +kernel
theorem d_X_gone_21 : decode prog_1_method_9_code 21 = .ok (.iload_n 1, 1) := by decide +kernel
theorem d_X_gone_22 : decode prog_1_method_9_code 22 = .ok (.invokevirtual 115, 3) := by decide +kernel
theorem d_X_gone_25 : decode prog_1_method_9_code 25 = .ok (.iconst 2, 1) := by decide +kernel
theorem d_X_gone_26 : decode prog_1_method_9_code 26 = .ok (.if_icmp .ne 6, 3) := by decide +kernel
theorem d_X_gone_29 : decode prog_1_method_9_code 29 = .ok (.ldc 118, 2) := by decide +kernel
theorem d_X_gone_31 : decode prog_1_method_9_code 31 = .ok (.ireturn, 1) := by decide +kernel
theorem d_X_gone_32 : decode prog_1_method_9_code 32 = .ok (.aload_n 0, 1) := by decide +kernel
theorem d_X_gone_33 : decode prog_1_method_9_code 33 = .ok (.getfield 10, 3) := by decide +kernel
theorem d_X_gone_36 : decode prog_1_method_9_code 36 = .ok (.iload_n 1, 1) := by decide +kernel
theorem d_X_gone_37 : decode prog_1_method_9_code 37 = .ok (.iconst 2, 1) := by decide +kernel
theorem d_X_gone_38 : decode prog_1_method_9_code 38 = .ok (.invokevirtual 131, 3) := by decide +kernel
theorem d_X_gone_41 : decode prog_1_method_9_code 41 = .ok (.iconst 1, 1) := by decide +kernel
theorem d_X_gone_42 : decode prog_1_method_9_code 42 = .ok (.ireturn, 1) := by decide +kernel
theorem d_JM_min_0 : decode prog_16_method_69_code 0 = .ok (.iload_n 0, 1) := by decide +kernel
theorem d_JM_min_1 : decode prog_16_method_69_code 1 = .ok (.iload_n 1, 1) := by decide +kernel
theorem d_JM_min_2 : decode prog_16_method_69_code 2 = .ok (.if_icmp .gt 7, 3) := by decide +kernel
theorem d_JM_min_5 : decode prog_16_method_69_code 5 = .ok (.iload_n 0, 1) := by decide +kernel
theorem d_JM_min_6 : decode prog_16_method_69_code 6 = .ok (.goto 4, 3) := by decide +kernel
theorem d_JM_min_9 : decode prog_16_method_69_code 9 = .ok (.iload_n 1, 1) := by decide +kernel
theorem d_JM_min_10 : decode prog_16_method_69_code 10 = .ok (.ireturn, 1) := by decide +kernel
theorem d_X_served_0 : decode prog_1_method_10_code 0 = .ok (.aload_n 0, 1) := by decide +kernel
theorem d_X_served_1 : decode prog_1_method_10_code 1 = .ok (.getfield 10, 3) := by decide +kernel
theorem d_X_served_4 : decode prog_1_method_10_code 4 = .ok (.getfield 54, 3) := by decide +kernel
theorem d_X_served_7 : decode prog_1_method_10_code 7 = .ok (.iload_n 1, 1) := by decide +kernel
theorem d_X_served_8 : decode prog_1_method_10_code 8 = .ok (.invokevirtual 90, 3) := by decide +kernel
theorem d_X_served_11 : decode prog_1_method_10_code 11 = .ok (.ifCond .eq 14, 3) := by decide +kernel
theorem d_X_served_14 : decode prog_1_method_10_code 14 = .ok (.iload_n 2, 1) := by decide +kernel
theorem d_X_served_15 : decode prog_1_method_10_code 15 = .ok (.iconst 0, 1) := by decide +kernel
theorem d_X_served_16 : decode prog_1_method_10_code 16 = .ok (.sipush 9999, 3) := by decide +kernel
theorem d_X_served_19 : decode prog_1_method_10_code 19 = .ok (.invokestatic 49, 3) := by decide +kernel
theorem d_X_served_22 : decode prog_1_method_10_code 22 = .ok (.ifCond .ne 6, 3) := by decide +kernel
theorem d_X_served_25 : decode prog_1_method_10_code 25 = .ok (.ldc 53, 2) := by decide +kernel
theorem d_X_served_27 : decode prog_1_method_10_code 27 = .ok (.ireturn, 1) := by decide +kernel
theorem d_X_served_28 : decode prog_1_method_10_code 28 = .ok (.aload_n 0, 1) := by decide +kernel
theorem d_X_served_29 : decode prog_1_method_10_code 29 = .ok (.getfield 10, 3) := by decide +kernel
theorem d_X_served_32 : decode prog_1_method_10_code 32 = .ok (.getfield 64, 3) := by decide +kernel
theorem d_X_served_35 : decode prog_1_method_10_code 35 = .ok (.iload_n 1, 1) := by decide +kernel
theorem d_X_served_36 : decode prog_1_method_10_code 36 = .ok (.iload_n 2, 1) := by decide +kernel
theorem d_X_served_37 : decode prog_1_method_10_code 37 = .ok (.invokevirtual 134, 3) := by decide +kernel
theorem d_X_served_40 : decode prog_1_method_10_code 40 = .ok (.ireturn, 1) := by decide +kernel
theorem d_X_credit_0 : decode prog_1_method_11_code 0 = .ok (.aload_n 0, 1) := by decide +kernel
theorem d_X_credit_1 : decode prog_1_method_11_code 1 = .ok (.getfield 10, 3) := by decide +kernel
theorem d_X_credit_4 : decode prog_1_method_11_code 4 = .ok (.getfield 54, 3) := by decide +kernel
theorem d_X_credit_7 : decode prog_1_method_11_code 7 = .ok (.iload_n 1, 1) := by decide +kernel
theorem d_X_credit_8 : decode prog_1_method_11_code 8 = .ok (.invokevirtual 90, 3) := by decide +kernel
theorem d_X_credit_11 : decode prog_1_method_11_code 11 = .ok (.ifCond .eq 18, 3) := by decide +kernel
theorem d_X_credit_14 : decode prog_1_method_11_code 14 = .ok (.iload_n 2, 1) := by decide +kernel
theorem d_X_credit_15 : decode prog_1_method_11_code 15 = .ok (.bipush (-99), 2) := by decide +kernel
theorem d_X_credit_17 : decode prog_1_method_11_code 17 = .ok (.bipush 99, 2) := by decide +kernel
theorem d_X_credit_19 : decode prog_1_method_11_code 19 = .ok (.invokestatic 49, 3) := by decide +kernel
theorem d_X_credit_22 : decode prog_1_method_11_code 22 = .ok (.ifCond .eq 7, 3) := by decide +kernel
theorem d_X_credit_25 : decode prog_1_method_11_code 25 = .ok (.iload_n 2, 1) := by decide +kernel
theorem d_X_credit_26 : decode prog_1_method_11_code 26 = .ok (.ifCond .ne 6, 3) := by decide +kernel
theorem d_X_credit_29 : decode prog_1_method_11_code 29 = .ok (.ldc 53, 2) := by decide +kernel
theorem d_X_credit_31 : decode prog_1_method_11_code 31 = .ok (.ireturn, 1) := by decide +kernel
theorem d_X_credit_32 : decode prog_1_method_11_code 32 = .ok (.aload_n 0, 1) := by decide +kernel
theorem d_X_credit_33 : decode prog_1_method_11_code 33 = .ok (.getfield 10, 3) := by decide +kernel
theorem d_X_credit_36 : decode prog_1_method_11_code 36 = .ok (.iload_n 1, 1) := by decide +kernel
theorem d_X_credit_37 : decode prog_1_method_11_code 37 = .ok (.invokevirtual 115, 3) := by decide +kernel
theorem d_X_credit_40 : decode prog_1_method_11_code 40 = .ok (.iconst 2, 1) := by decide +kernel
theorem d_X_credit_41 : decode prog_1_method_11_code 41 = .ok (.if_icmp .ne 6, 3) := by decide +kernel
theorem d_X_credit_44 : decode prog_1_method_11_code 44 = .ok (.ldc 118, 2) := by decide +kernel
theorem d_X_credit_46 : decode prog_1_method_11_code 46 = .ok (.ireturn, 1) := by decide +kernel
theorem d_X_credit_47 : decode prog_1_method_11_code 47 = .ok (.aload_n 0, 1) := by decide +kernel
theorem d_X_credit_48 : decode prog_1_method_11_code 48 = .ok (.getfield 10, 3) := by decide +kernel
theorem d_X_credit_51 : decode prog_1_method_11_code 51 = .ok (.getfield 64, 3) := by decide +kernel
theorem d_X_credit_54 : decode prog_1_method_11_code 54 = .ok (.getfield 137, 3) := by decide +kernel
theorem d_X_credit_57 : decode prog_1_method_11_code 57 = .ok (.invokevirtual 58, 3) := by decide +kernel
theorem d_X_credit_60 : decode prog_1_method_11_code 60 = .ok (.ifCond .eq 6, 3) := by decide +kernel
theorem d_X_credit_63 : decode prog_1_method_11_code 63 = .ok (.ldc 73, 2) := by decide +kernel
theorem d_X_credit_65 : decode prog_1_method_11_code 65 = .ok (.ireturn, 1) := by decide +kernel
theorem d_X_credit_66 : decode prog_1_method_11_code 66 = .ok (.aload_n 0, 1) := by decide +kernel
theorem d_X_credit_67 : decode prog_1_method_11_code 67 = .ok (.getfield 10, 3) := by decide +kernel
theorem d_X_credit_70 : decode prog_1_method_11_code 70 = .ok (.getfield 64, 3) := by decide +kernel
theorem d_X_credit_73 : decode prog_1_method_11_code 73 = .ok (.getfield 137, 3) := by decide +kernel
theorem d_X_credit_76 : decode prog_1_method_11_code 76 = .ok (.iload_n 1, 1) := by decide +kernel
theorem d_X_credit_77 : decode prog_1_method_11_code 77 = .ok (.iload_n 2, 1) := by decide +kernel
theorem d_X_credit_78 : decode prog_1_method_11_code 78 = .ok (.aload_n 0, 1) := by decide +kernel
theorem d_X_credit_79 : decode prog_1_method_11_code 79 = .ok (.getfield 10, 3) := by decide +kernel
theorem d_X_credit_82 : decode prog_1_method_11_code 82 = .ok (.getfield 82, 3) := by decide +kernel
theorem d_X_credit_85 : decode prog_1_method_11_code 85 = .ok (.ldc 140, 2) := by decide +kernel
theorem d_X_credit_87 : decode prog_1_method_11_code 87 = .ok (.invokevirtual 74, 3) := by decide +kernel
theorem d_X_credit_90 : decode prog_1_method_11_code 90 = .ok (.ireturn, 1) := by decide +kernel
theorem d_X_back_0 : decode prog_1_method_12_code 0 = .ok (.aload_n 0, 1) := by decide +kernel
theorem d_X_back_1 : decode prog_1_method_12_code 1 = .ok (.getfield 10, 3) := by decide +kernel
theorem d_X_back_4 : decode prog_1_method_12_code 4 = .ok (.getfield 64, 3) := by decide +kernel
theorem d_X_back_7 : decode prog_1_method_12_code 7 = .ok (.getfield 137, 3) := by decide +kernel
theorem d_X_back_10 : decode prog_1_method_12_code 10 = .ok (.astore_n 2, 1) := by decide +kernel
theorem d_X_back_11 : decode prog_1_method_12_code 11 = .ok (.aload_n 2, 1) := by decide +kernel
theorem d_X_back_12 : decode prog_1_method_12_code 12 = .ok (.iload_n 1, 1) := by decide +kernel
theorem d_X_back_13 : decode prog_1_method_12_code 13 = .ok (.invokevirtual 90, 3) := by decide +kernel
theorem d_X_back_16 : decode prog_1_method_12_code 16 = .ok (.ifCond .ne 6, 3) := by decide +kernel
theorem d_X_back_19 : decode prog_1_method_12_code 19 = .ok (.ldc 53, 2) := by decide +kernel
theorem d_X_back_21 : decode prog_1_method_12_code 21 = .ok (.ireturn, 1) := by decide +kernel
theorem d_X_back_22 : decode prog_1_method_12_code 22 = .ok (.aload_n 2, 1) := by decide +kernel
theorem d_X_back_23 : decode prog_1_method_12_code 23 = .ok (.iload_n 1, 1) := by decide +kernel
theorem d_X_back_24 : decode prog_1_method_12_code 24 = .ok (.iconst 1, 1) := by decide +kernel
theorem d_X_back_25 : decode prog_1_method_12_code 25 = .ok (.invokevirtual 94, 3) := by decide +kernel
theorem d_X_back_28 : decode prog_1_method_12_code 28 = .ok (.ifCond .le 6, 3) := by decide +kernel
theorem d_X_back_31 : decode prog_1_method_12_code 31 = .ok (.ldc 141, 2) := by decide +kernel
theorem d_X_back_33 : decode prog_1_method_12_code 33 = .ok (.ireturn, 1) := by decide +kernel
theorem d_X_back_34 : decode prog_1_method_12_code 34 = .ok (.aload_n 2, 1) := by decide +kernel
theorem d_X_back_35 : decode prog_1_method_12_code 35 = .ok (.iload_n 1, 1) := by decide +kernel
theorem d_X_back_36 : decode prog_1_method_12_code 36 = .ok (.iconst 3, 1) := by decide +kernel
theorem d_X_back_37 : decode prog_1_method_12_code 37 = .ok (.invokevirtual 94, 3) := by decide +kernel
theorem d_X_back_40 : decode prog_1_method_12_code 40 = .ok (.ldc 140, 2) := by decide +kernel
theorem d_X_back_42 : decode prog_1_method_12_code 42 = .ok (.if_icmp .eq 6, 3) := by decide +kernel
theorem d_X_back_45 : decode prog_1_method_12_code 45 = .ok (.ldc 118, 2) := by decide +kernel
theorem d_X_back_47 : decode prog_1_method_12_code 47 = .ok (.ireturn, 1) := by decide +kernel
theorem d_X_back_48 : decode prog_1_method_12_code 48 = .ok (.aload_n 2, 1) := by decide +kernel
theorem d_X_back_49 : decode prog_1_method_12_code 49 = .ok (.iload_n 1, 1) := by decide +kernel
theorem d_X_back_50 : decode prog_1_method_12_code 50 = .ok (.iconst 3, 1) := by decide +kernel
theorem d_X_back_51 : decode prog_1_method_12_code 51 = .ok (.aload_n 0, 1) := by decide +kernel
theorem d_X_back_52 : decode prog_1_method_12_code 52 = .ok (.getfield 10, 3) := by decide +kernel
theorem d_X_back_55 : decode prog_1_method_12_code 55 = .ok (.getfield 82, 3) := by decide +kernel
theorem d_X_back_58 : decode prog_1_method_12_code 58 = .ok (.invokevirtual 78, 3) := by decide +kernel
theorem d_X_back_61 : decode prog_1_method_12_code 61 = .ok (.iconst 1, 1) := by decide +kernel
theorem d_X_back_62 : decode prog_1_method_12_code 62 = .ok (.ireturn, 1) := by decide +kernel
theorem d_X_credits_0 : decode prog_1_method_13_code 0 = .ok (.aload_n 0, 1) := by decide +kernel
theorem d_X_credits_1 : decode prog_1_method_13_code 1 = .ok (.getfield 10, 3) := by decide +kernel
theorem d_X_credits_4 : decode prog_1_method_13_code 4 = .ok (.getfield 54, 3) := by decide +kernel
theorem d_X_credits_7 : decode prog_1_method_13_code 7 = .ok (.iload_n 1, 1) := by decide +kernel
theorem d_X_credits_8 : decode prog_1_method_13_code 8 = .ok (.invokevirtual 90, 3) := by decide +kernel
theorem d_X_credits_11 : decode prog_1_method_13_code 11 = .ok (.ifCond .eq 14, 3) := by decide +kernel
theorem d_X_credits_14 : decode prog_1_method_13_code 14 = .ok (.iload_n 2, 1) := by decide +kernel
theorem d_X_credits_15 : decode prog_1_method_13_code 15 = .ok (.iconst 0, 1) := by decide +kernel
theorem d_X_credits_16 : decode prog_1_method_13_code 16 = .ok (.sipush 2999, 3) := by decide +kernel
theorem d_X_credits_19 : decode prog_1_method_13_code 19 = .ok (.invokestatic 49, 3) := by decide +kernel
theorem d_X_credits_22 : decode prog_1_method_13_code 22 = .ok (.ifCond .ne 6, 3) := by decide +kernel
theorem d_X_credits_25 : decode prog_1_method_13_code 25 = .ok (.ldc 53, 2) := by decide +kernel
theorem d_X_credits_27 : decode prog_1_method_13_code 27 = .ok (.ireturn, 1) := by decide +kernel
theorem d_X_credits_28 : decode prog_1_method_13_code 28 = .ok (.aload_n 0, 1) := by decide +kernel
theorem d_X_credits_29 : decode prog_1_method_13_code 29 = .ok (.getfield 10, 3) := by decide +kernel
theorem d_X_credits_32 : decode prog_1_method_13_code 32 = .ok (.getfield 64, 3) := by decide +kernel
theorem d_X_credits_35 : decode prog_1_method_13_code 35 = .ok (.iload_n 1, 1) := by decide +kernel
theorem d_X_credits_36 : decode prog_1_method_13_code 36 = .ok (.iload_n 2, 1) := by decide +kernel
theorem d_X_credits_37 : decode prog_1_method_13_code 37 = .ok (.invokevirtual 142, 3) := by decide +kernel
theorem d_X_credits_40 : decode prog_1_method_13_code 40 = .ok (.ireturn, 1) := by decide +kernel
theorem d_X_due_0 : decode prog_1_method_14_code 0 = .ok (.aload_n 0, 1) := by decide +kernel
theorem d_X_due_1 : decode prog_1_method_14_code 1 = .ok (.getfield 10, 3) := by decide +kernel
theorem d_X_due_4 : decode prog_1_method_14_code 4 = .ok (.getfield 54, 3) := by decide +kernel
theorem d_X_due_7 : decode prog_1_method_14_code 7 = .ok (.iload_n 1, 1) := by decide +kernel
theorem d_X_due_8 : decode prog_1_method_14_code 8 = .ok (.invokevirtual 90, 3) := by decide +kernel
theorem d_X_due_11 : decode prog_1_method_14_code 11 = .ok (.ifCond .eq 14, 3) := by decide +kernel
theorem d_X_due_14 : decode prog_1_method_14_code 14 = .ok (.iload_n 2, 1) := by decide +kernel
theorem d_X_due_15 : decode prog_1_method_14_code 15 = .ok (.iconst 0, 1) := by decide +kernel
theorem d_X_due_16 : decode prog_1_method_14_code 16 = .ok (.sipush 9999, 3) := by decide +kernel
theorem d_X_due_19 : decode prog_1_method_14_code 19 = .ok (.invokestatic 49, 3) := by decide +kernel
theorem d_X_due_22 : decode prog_1_method_14_code 22 = .ok (.ifCond .ne 6, 3) := by decide +kernel
theorem d_X_due_25 : decode prog_1_method_14_code 25 = .ok (.ldc 53, 2) := by decide +kernel
theorem d_X_due_27 : decode prog_1_method_14_code 27 = .ok (.ireturn, 1) := by decide +kernel
theorem d_X_due_28 : decode prog_1_method_14_code 28 = .ok (.aload_n 0, 1) := by decide +kernel
theorem d_X_due_29 : decode prog_1_method_14_code 29 = .ok (.getfield 10, 3) := by decide +kernel
theorem d_X_due_32 : decode prog_1_method_14_code 32 = .ok (.iload_n 1, 1) := by decide +kernel
theorem d_X_due_33 : decode prog_1_method_14_code 33 = .ok (.iload_n 2, 1) := by decide +kernel
theorem d_X_due_34 : decode prog_1_method_14_code 34 = .ok (.invokevirtual 145, 3) := by decide +kernel
theorem d_X_due_37 : decode prog_1_method_14_code 37 = .ok (.ifCond .eq 7, 3) := by decide +kernel
theorem d_X_due_40 : decode prog_1_method_14_code 40 = .ok (.iconst 1, 1) := by decide +kernel
theorem d_X_due_41 : decode prog_1_method_14_code 41 = .ok (.goto 4, 3) := by decide +kernel
theorem d_X_due_44 : decode prog_1_method_14_code 44 = .ok (.iconst 0, 1) := by decide +kernel
theorem d_X_due_45 : decode prog_1_method_14_code 45 = .ok (.ireturn, 1) := by decide +kernel
theorem d_X_date_0 : decode prog_1_method_15_code 0 = .ok (.aload_n 0, 1) := by decide +kernel
theorem d_X_date_1 : decode prog_1_method_15_code 1 = .ok (.getfield 10, 3) := by decide +kernel
theorem d_X_date_4 : decode prog_1_method_15_code 4 = .ok (.getfield 54, 3) := by decide +kernel
theorem d_X_date_7 : decode prog_1_method_15_code 7 = .ok (.iload_n 1, 1) := by decide +kernel
theorem d_X_date_8 : decode prog_1_method_15_code 8 = .ok (.invokevirtual 90, 3) := by decide +kernel
theorem d_X_date_11 : decode prog_1_method_15_code 11 = .ok (.ifCond .ne 6, 3) := by decide +kernel
theorem d_X_date_14 : decode prog_1_method_15_code 14 = .ok (.ldc 53, 2) := by decide +kernel
theorem d_X_date_16 : decode prog_1_method_15_code 16 = .ok (.ireturn, 1) := by decide +kernel
theorem d_X_date_17 : decode prog_1_method_15_code 17 = .ok (.aload_n 0, 1) := by decide +kernel
theorem d_X_date_18 : decode prog_1_method_15_code 18 = .ok (.getfield 10, 3) := by decide +kernel
theorem d_X_date_21 : decode prog_1_method_15_code 21 = .ok (.iload_n 1, 1) := by decide +kernel
theorem d_X_date_22 : decode prog_1_method_15_code 22 = .ok (.invokevirtual 149, 3) := by decide +kernel
theorem d_X_date_25 : decode prog_1_method_15_code 25 = .ok (.ireturn, 1) := by decide +kernel
theorem d_X_feed_0 : decode prog_1_method_16_code 0 = .ok (.aload_n 0, 1) := by decide +kernel
theorem d_X_feed_1 : decode prog_1_method_16_code 1 = .ok (.getfield 25, 3) := by decide +kernel
theorem d_X_feed_4 : decode prog_1_method_16_code 4 = .ok (.invokevirtual 152, 3) := by decide +kernel
theorem d_X_feed_7 : decode prog_1_method_16_code 7 = .ok (.ifCond .ne 6, 3) := by decide +kernel
theorem d_X_feed_10 : decode prog_1_method_16_code 10 = .ok (.ldc 73, 2) := by decide +kernel
theorem d_X_feed_12 : decode prog_1_method_16_code 12 = .ok (.ireturn, 1) := by decide +kernel
theorem d_X_feed_13 : decode prog_1_method_16_code 13 = .ok (.aload_n 0, 1) := by decide +kernel
theorem d_X_feed_14 : decode prog_1_method_16_code 14 = .ok (.getfield 25, 3) := by decide +kernel
theorem d_X_feed_17 : decode prog_1_method_16_code 17 = .ok (.iload_n 1, 1) := by decide +kernel
theorem d_X_feed_18 : decode prog_1_method_16_code 18 = .ok (.invokevirtual 155, 3) := by decide +kernel
theorem d_X_feed_21 : decode prog_1_method_16_code 21 = .ok (.aload_n 0, 1) := by decide +kernel
theorem d_X_feed_22 : decode prog_1_method_16_code 22 = .ok (.getfield 25, 3) := by decide +kernel
theorem d_X_feed_25 : decode prog_1_method_16_code 25 = .ok (.iload_n 2, 1) := by decide +kernel
theorem d_X_feed_26 : decode prog_1_method_16_code 26 = .ok (.invokevirtual 155, 3) := by decide +kernel
theorem d_X_feed_29 : decode prog_1_method_16_code 29 = .ok (.aload_n 0, 1) := by decide +kernel
theorem d_X_feed_30 : decode prog_1_method_16_code 30 = .ok (.getfield 25, 3) := by decide +kernel
theorem d_X_feed_33 : decode prog_1_method_16_code 33 = .ok (.iload_n 3, 1) := by decide +kernel
theorem d_X_feed_34 : decode prog_1_method_16_code 34 = .ok (.invokevirtual 155, 3) := by decide +kernel
theorem d_X_feed_37 : decode prog_1_method_16_code 37 = .ok (.aload_n 0, 1) := by decide +kernel
theorem d_X_feed_38 : decode prog_1_method_16_code 38 = .ok (.getfield 25, 3) := by decide +kernel
theorem d_X_feed_41 : decode prog_1_method_16_code 41 = .ok (.getfield 159, 3) := by decide +kernel
theorem d_X_feed_44 : decode prog_1_method_16_code 44 = .ok (.ireturn, 1) := by decide +kernel
theorem d_X_trim_0 : decode prog_1_method_17_code 0 = .ok (.iload_n 1, 1) := by decide +kernel
theorem d_X_trim_1 : decode prog_1_method_17_code 1 = .ok (.iconst 0, 1) := by decide +kernel
theorem d_X_trim_2 : decode prog_1_method_17_code 2 = .ok (.aload_n 0, 1) := by decide +kernel
theorem d_X_trim_3 : decode prog_1_method_17_code 3 = .ok (.getfield 25, 3) := by decide +kernel
theorem d_X_trim_6 : decode prog_1_method_17_code 6 = .ok (.getfield 159, 3) := by decide +kernel
theorem d_X_trim_9 : decode prog_1_method_17_code 9 = .ok (.invokestatic 49, 3) := by decide +kernel
theorem d_X_trim_12 : decode prog_1_method_17_code 12 = .ok (.ifCond .ne 6, 3) := by decide +kernel
theorem d_X_trim_15 : decode prog_1_method_17_code 15 = .ok (.ldc 53, 2) := by decide +kernel
theorem d_X_trim_17 : decode prog_1_method_17_code 17 = .ok (.ireturn, 1) := by decide +kernel
theorem d_X_trim_18 : decode prog_1_method_17_code 18 = .ok (.aload_n 0, 1) := by decide +kernel
theorem d_X_trim_19 : decode prog_1_method_17_code 19 = .ok (.getfield 25, 3) := by decide +kernel
theorem d_X_trim_22 : decode prog_1_method_17_code 22 = .ok (.iload_n 1, 1) := by decide +kernel
theorem d_X_trim_23 : decode prog_1_method_17_code 23 = .ok (.putfield 159, 3) := by decide +kernel
theorem d_X_trim_26 : decode prog_1_method_17_code 26 = .ok (.iload_n 1, 1) := by decide +kernel
theorem d_X_trim_27 : decode prog_1_method_17_code 27 = .ok (.ireturn, 1) := by decide +kernel
theorem d_JS_coder_0 : decode prog_17_method_152_code 0 = .ok (.getstatic 38, 3) := by decide +kernel
theorem d_JS_coder_3 : decode prog_17_method_152_code 3 = .ok (.ifCond .eq 10, 3) := by decide +kernel
theorem d_JS_coder_6 : decode prog_17_method_152_code 6 = .ok (.aload_n 0, 1) := by decide +kernel
theorem d_JS_coder_7 : decode prog_17_method_152_code 7 = .ok (.getfield 15, 3) := by decide +kernel
theorem d_JS_coder_10 : decode prog_17_method_152_code 10 = .ok (.goto 4, 3) := by decide +kernel
theorem d_JS_coder_13 : decode prog_17_method_152_code 13 = .ok (.iconst 1, 1) := by decide +kernel
theorem d_JS_coder_14 : decode prog_17_method_152_code 14 = .ok (.ireturn, 1) := by decide +kernel
theorem d_JS_length_0 : decode prog_17_method_54_code 0 = .ok (.aload_n 0, 1) := by decide +kernel
theorem d_JS_length_1 : decode prog_17_method_54_code 1 = .ok (.getfield 9, 3) := by decide +kernel
theorem d_JS_length_4 : decode prog_17_method_54_code 4 = .ok (.arraylength, 1) := by decide +kernel
theorem d_JS_length_5 : decode prog_17_method_54_code 5 = .ok (.aload_n 0, 1) := by decide +kernel
theorem d_JS_length_6 : decode prog_17_method_54_code 6 = .ok (.invokevirtual 335, 3) := by decide +kernel
theorem d_JS_length_9 : decode prog_17_method_54_code 9 = .ok (.ishr, 1) := by decide +kernel
theorem d_JS_length_10 : decode prog_17_method_54_code 10 = .ok (.ireturn, 1) := by decide +kernel
theorem d_JS_isLatin1_0 : decode prog_17_method_154_code 0 = .ok (.getstatic 38, 3) := by decide +kernel
theorem d_JS_isLatin1_3 : decode prog_17_method_154_code 3 = .ok (.ifCond .eq 14, 3) := by decide +kernel
theorem d_JS_isLatin1_6 : decode prog_17_method_154_code 6 = .ok (.aload_n 0, 1) := by decide +kernel
theorem d_JS_isLatin1_7 : decode prog_17_method_154_code 7 = .ok (.getfield 15, 3) := by decide +kernel
theorem d_JS_isLatin1_10 : decode prog_17_method_154_code 10 = .ok (.ifCond .ne 7, 3) := by decide +kernel
theorem d_JS_isLatin1_13 : decode prog_17_method_154_code 13 = .ok (.iconst 1, 1) := by decide +kernel
theorem d_JS_isLatin1_14 : decode prog_17_method_154_code 14 = .ok (.goto 4, 3) := by decide +kernel
theorem d_JS_isLatin1_17 : decode prog_17_method_154_code 17 = .ok (.iconst 0, 1) := by decide +kernel
theorem d_JS_isLatin1_18 : decode prog_17_method_154_code 18 = .ok (.ireturn, 1) := by decide +kernel
theorem d_JP_checkIndex_0 : decode prog_22_method_11_code 0 = .ok (.iload_n 0, 1) := by decide +kernel
theorem d_JP_checkIndex_1 : decode prog_22_method_11_code 1 = .ok (.ifCond .lt 8, 3) := by decide +kernel
theorem d_JP_checkIndex_4 : decode prog_22_method_11_code 4 = .ok (.iload_n 0, 1) := by decide +kernel
theorem d_JP_checkIndex_5 : decode prog_22_method_11_code 5 = .ok (.iload_n 1, 1) := by decide +kernel
theorem d_JP_checkIndex_6 : decode prog_22_method_11_code 6 = .ok (.if_icmp .lt 10, 3) := by decide +kernel
theorem d_JP_checkIndex_9 : decode prog_22_method_11_code 9 = .ok (.aload_n 2, 1) := by decide +kernel
theorem d_JP_checkIndex_10 : decode prog_22_method_11_code 10 = .ok (.iload_n 0, 1) := by decide +kernel
theorem d_JP_checkIndex_11 : decode prog_22_method_11_code 11 = .ok (.iload_n 1, 1) := by decide +kernel
theorem d_JP_checkIndex_16 : decode prog_22_method_11_code 16 = .ok (.iload_n 0, 1) := by decide +kernel
theorem d_JP_checkIndex_17 : decode prog_22_method_11_code 17 = .ok (.ireturn, 1) := by decide +kernel
theorem d_JS_checkIndex_0 : decode prog_17_method_155_code 0 = .ok (.iload_n 0, 1) := by decide +kernel
theorem d_JS_checkIndex_1 : decode prog_17_method_155_code 1 = .ok (.iload_n 1, 1) := by decide +kernel
theorem d_JS_checkIndex_2 : decode prog_17_method_155_code 2 = .ok (.getstatic 1053, 3) := by decide +kernel
theorem d_JS_checkIndex_5 : decode prog_17_method_155_code 5 = .ok (.invokestatic 1059, 3) := by decide +kernel
theorem d_JS_checkIndex_8 : decode prog_17_method_155_code 8 = .ok (.pop, 1) := by decide +kernel
theorem d_JS_checkIndex_9 : decode prog_17_method_155_code 9 = .ok (.return_, 1) := by decide +kernel
theorem d_JL_charAt_0 : decode prog_18_method_2_code 0 = .ok (.iload_n 1, 1) := by decide +kernel
theorem d_JL_charAt_1 : decode prog_18_method_2_code 1 = .ok (.aload_n 0, 1) := by decide +kernel
theorem d_JL_charAt_2 : decode prog_18_method_2_code 2 = .ok (.arraylength, 1) := by decide +kernel
theorem d_JL_charAt_3 : decode prog_18_method_2_code 3 = .ok (.invokestatic 9, 3) := by decide +kernel
theorem d_JL_charAt_6 : decode prog_18_method_2_code 6 = .ok (.aload_n 0, 1) := by decide +kernel
theorem d_JL_charAt_7 : decode prog_18_method_2_code 7 = .ok (.iload_n 1, 1) := by decide +kernel
theorem d_JL_charAt_8 : decode prog_18_method_2_code 8 = .ok (.baload, 1) := by decide +kernel
theorem d_JL_charAt_9 : decode prog_18_method_2_code 9 = .ok (.sipush 255, 3) := by decide +kernel
theorem d_JL_charAt_12 : decode prog_18_method_2_code 12 = .ok (.iand, 1) := by decide +kernel
theorem d_JL_charAt_13 : decode prog_18_method_2_code 13 = .ok (.i2c, 1) := by decide +kernel
theorem d_JL_charAt_14 : decode prog_18_method_2_code 14 = .ok (.ireturn, 1) := by decide +kernel
theorem d_JS_charAt_0 : decode prog_17_method_56_code 0 = .ok (.aload_n 0, 1) := by decide +kernel
theorem d_JS_charAt_1 : decode prog_17_method_56_code 1 = .ok (.invokevirtual 492, 3) := by decide +kernel
theorem d_JS_charAt_4 : decode prog_17_method_56_code 4 = .ok (.ifCond .eq 12, 3) := by decide +kernel
theorem d_JS_charAt_7 : decode prog_17_method_56_code 7 = .ok (.aload_n 0, 1) := by decide +kernel
theorem d_JS_charAt_8 : decode prog_17_method_56_code 8 = .ok (.getfield 9, 3) := by decide +kernel
theorem d_JS_charAt_11 : decode prog_17_method_56_code 11 = .ok (.iload_n 1, 1) := by decide +kernel
theorem d_JS_charAt_12 : decode prog_17_method_56_code 12 = .ok (.invokestatic 495, 3) := by decide +kernel
theorem d_JS_charAt_15 : decode prog_17_method_56_code 15 = .ok (.ireturn, 1) := by decide +kernel
theorem d_JS_charAt_16 : decode prog_17_method_56_code 16 = .ok (.aload_n 0, 1) := by decide +kernel
theorem d_JS_charAt_17 : decode prog_17_method_56_code 17 = .ok (.getfield 9, 3) := by decide +kernel
theorem d_JS_charAt_20 : decode prog_17_method_56_code 20 = .ok (.iload_n 1, 1) := by decide +kernel
theorem d_JS_charAt_24 : decode prog_17_method_56_code 24 = .ok (.ireturn, 1) := by decide +kernel
theorem d_JL_canEncode_0 : decode prog_18_method_4_code 0 = .ok (.iload_n 0, 1) := by decide +kernel
theorem d_JL_canEncode_1 : decode prog_18_method_4_code 1 = .ok (.ifCond .lt 14, 3) := by decide +kernel
theorem d_JL_canEncode_4 : decode prog_18_method_4_code 4 = .ok (.iload_n 0, 1) := by decide +kernel
theorem d_JL_canEncode_5 : decode prog_18_method_4_code 5 = .ok (.sipush 255, 3) := by decide +kernel
theorem d_JL_canEncode_8 : decode prog_18_method_4_code 8 = .ok (.if_icmp .gt 7, 3) := by decide +kernel
theorem d_JL_canEncode_11 : decode prog_18_method_4_code 11 = .ok (.iconst 1, 1) := by decide +kernel
theorem d_JL_canEncode_12 : decode prog_18_method_4_code 12 = .ok (.goto 4, 3) := by decide +kernel
theorem d_JL_canEncode_15 : decode prog_18_method_4_code 15 = .ok (.iconst 0, 1) := by decide +kernel
theorem d_JL_canEncode_16 : decode prog_18_method_4_code 16 = .ok (.ireturn, 1) := by decide +kernel
theorem d_JL_indexOfChar_0 : decode prog_18_method_23_code 0 = .ok (.iload_n 1, 1) := by decide +kernel
theorem d_JL_indexOfChar_1 : decode prog_18_method_23_code 1 = .ok (.i2b, 1) := by decide +kernel
theorem d_JL_indexOfChar_2 : decode prog_18_method_23_code 2 = .ok (.istore 4, 2) := by decide +kernel
theorem d_JL_indexOfChar_4 : decode prog_18_method_23_code 4 = .ok (.iload_n 2, 1) := by decide +kernel
theorem d_JL_indexOfChar_5 : decode prog_18_method_23_code 5 = .ok (.istore 5, 2) := by decide +kernel
theorem d_JL_indexOfChar_7 : decode prog_18_method_23_code 7 = .ok (.iload 5, 2) := by decide +kernel
theorem d_JL_indexOfChar_9 : decode prog_18_method_23_code 9 = .ok (.iload_n 3, 1) := by decide +kernel
theorem d_JL_indexOfChar_10 : decode prog_18_method_23_code 10 = .ok (.if_icmp .ge 21, 3) := by decide +kernel
theorem d_JL_indexOfChar_13 : decode prog_18_method_23_code 13 = .ok (.aload_n 0, 1) := by decide +kernel
theorem d_JL_indexOfChar_14 : decode prog_18_method_23_code 14 = .ok (.iload 5, 2) := by decide +kernel
theorem d_JL_indexOfChar_16 : decode prog_18_method_23_code 16 = .ok (.baload, 1) := by decide +kernel
theorem d_JL_indexOfChar_17 : decode prog_18_method_23_code 17 = .ok (.iload 4, 2) := by decide +kernel
theorem d_JL_indexOfChar_19 : decode prog_18_method_23_code 19 = .ok (.if_icmp .ne 6, 3) := by decide +kernel
theorem d_JL_indexOfChar_22 : decode prog_18_method_23_code 22 = .ok (.iload 5, 2) := by decide +kernel
theorem d_JL_indexOfChar_24 : decode prog_18_method_23_code 24 = .ok (.ireturn, 1) := by decide +kernel
theorem d_JL_indexOfChar_25 : decode prog_18_method_23_code 25 = .ok (.iinc 5 1, 3) := by decide +kernel
theorem d_JL_indexOfChar_28 : decode prog_18_method_23_code 28 = .ok (.goto (-21), 3) := by decide +kernel
theorem d_JL_indexOfChar_31 : decode prog_18_method_23_code 31 = .ok (.iconst (-1), 1) := by decide +kernel
theorem d_JL_indexOfChar_32 : decode prog_18_method_23_code 32 = .ok (.ireturn, 1) := by decide +kernel
theorem d_JL_indexOf_0 : decode prog_18_method_22_code 0 = .ok (.iload_n 1, 1) := by decide +kernel
theorem d_JL_indexOf_1 : decode prog_18_method_22_code 1 = .ok (.invokestatic 88, 3) := by decide +kernel
theorem d_JL_indexOf_4 : decode prog_18_method_22_code 4 = .ok (.ifCond .ne 5, 3) := by decide +kernel
theorem d_JL_indexOf_7 : decode prog_18_method_22_code 7 = .ok (.iconst (-1), 1) := by decide +kernel
theorem d_JL_indexOf_8 : decode prog_18_method_22_code 8 = .ok (.ireturn, 1) := by decide +kernel
theorem d_JL_indexOf_9 : decode prog_18_method_22_code 9 = .ok (.iload_n 2, 1) := by decide +kernel
theorem d_JL_indexOf_10 : decode prog_18_method_22_code 10 = .ok (.iconst 0, 1) := by decide +kernel
theorem d_JL_indexOf_11 : decode prog_18_method_22_code 11 = .ok (.invokestatic 92, 3) := by decide +kernel
theorem d_JL_indexOf_14 : decode prog_18_method_22_code 14 = .ok (.istore_n 2, 1) := by decide +kernel
theorem d_JL_indexOf_15 : decode prog_18_method_22_code 15 = .ok (.iload_n 3, 1) := by decide +kernel
theorem d_JL_indexOf_16 : decode prog_18_method_22_code 16 = .ok (.aload_n 0, 1) := by decide +kernel
theorem d_JL_indexOf_17 : decode prog_18_method_22_code 17 = .ok (.arraylength, 1) := by decide +kernel
theorem d_JL_indexOf_18 : decode prog_18_method_22_code 18 = .ok (.invokestatic 38, 3) := by decide +kernel
theorem d_JL_indexOf_21 : decode prog_18_method_22_code 21 = .ok (.istore_n 3, 1) := by decide +kernel
theorem d_JL_indexOf_22 : decode prog_18_method_22_code 22 = .ok (.iload_n 2, 1) := by decide +kernel
theorem d_JL_indexOf_23 : decode prog_18_method_22_code 23 = .ok (.iload_n 3, 1) := by decide +kernel
theorem d_JL_indexOf_24 : decode prog_18_method_22_code 24 = .ok (.if_icmp .lt 5, 3) := by decide +kernel
theorem d_JL_indexOf_27 : decode prog_18_method_22_code 27 = .ok (.iconst (-1), 1) := by decide +kernel
theorem d_JL_indexOf_28 : decode prog_18_method_22_code 28 = .ok (.ireturn, 1) := by decide +kernel
theorem d_JL_indexOf_29 : decode prog_18_method_22_code 29 = .ok (.aload_n 0, 1) := by decide +kernel
theorem d_JL_indexOf_30 : decode prog_18_method_22_code 30 = .ok (.iload_n 1, 1) := by decide +kernel
theorem d_JL_indexOf_31 : decode prog_18_method_22_code 31 = .ok (.iload_n 2, 1) := by decide +kernel
theorem d_JL_indexOf_32 : decode prog_18_method_22_code 32 = .ok (.iload_n 3, 1) := by decide +kernel
theorem d_JL_indexOf_33 : decode prog_18_method_22_code 33 = .ok (.invokestatic 95, 3) := by decide +kernel
theorem d_JL_indexOf_36 : decode prog_18_method_22_code 36 = .ok (.ireturn, 1) := by decide +kernel
theorem d_JS_indexOf_0 : decode prog_17_method_80_code 0 = .ok (.aload_n 0, 1) := by decide +kernel
theorem d_JS_indexOf_1 : decode prog_17_method_80_code 1 = .ok (.invokevirtual 492, 3) := by decide +kernel
theorem d_JS_indexOf_4 : decode prog_17_method_80_code 4 = .ok (.ifCond .eq 19, 3) := by decide +kernel
theorem d_JS_indexOf_7 : decode prog_17_method_80_code 7 = .ok (.aload_n 0, 1) := by decide +kernel
theorem d_JS_indexOf_8 : decode prog_17_method_80_code 8 = .ok (.getfield 9, 3) := by decide +kernel
theorem d_JS_indexOf_11 : decode prog_17_method_80_code 11 = .ok (.iload_n 1, 1) := by decide +kernel
theorem d_JS_indexOf_12 : decode prog_17_method_80_code 12 = .ok (.iload_n 2, 1) := by decide +kernel
theorem d_JS_indexOf_13 : decode prog_17_method_80_code 13 = .ok (.aload_n 0, 1) := by decide +kernel
theorem d_JS_indexOf_14 : decode prog_17_method_80_code 14 = .ok (.invokevirtual 505, 3) := by decide +kernel
theorem d_JS_indexOf_17 : decode prog_17_method_80_code 17 = .ok (.invokestatic 637, 3) := by decide +kernel
theorem d_JS_indexOf_20 : decode prog_17_method_80_code 20 = .ok (.goto 16, 3) := by decide +kernel
theorem d_JS_indexOf_23 : decode prog_17_method_80_code 23 = .ok (.aload_n 0, 1) := by decide +kernel
theorem d_JS_indexOf_24 : decode prog_17_method_80_code 24 = .ok (.getfield 9, 3) := by decide +kernel
theorem d_JS_indexOf_27 : decode prog_17_method_80_code 27 = .ok (.iload_n 1, 1) := by decide +kernel
theorem d_JS_indexOf_28 : decode prog_17_method_80_code 28 = .ok (.iload_n 2, 1) := by decide +kernel
theorem d_JS_indexOf_29 : decode prog_17_method_80_code 29 = .ok (.aload_n 0, 1) := by decide +kernel
theorem d_JS_indexOf_30 : decode prog_17_method_80_code 30 = .ok (.invokevirtual 505, 3) := by decide +kernel
theorem d_JS_indexOf_36 : decode prog_17_method_80_code 36 = .ok (.ireturn, 1) := by decide +kernel
theorem d_JS_indexOf1_0 : decode prog_17_method_79_code 0 = .ok (.aload_n 0, 1) := by decide +kernel
theorem d_JS_indexOf1_1 : decode prog_17_method_79_code 1 = .ok (.iload_n 1, 1) := by decide +kernel
theorem d_JS_indexOf1_2 : decode prog_17_method_79_code 2 = .ok (.iconst 0, 1) := by decide +kernel
theorem d_JS_indexOf1_3 : decode prog_17_method_79_code 3 = .ok (.invokevirtual 633, 3) := by decide +kernel
theorem d_JS_indexOf1_6 : decode prog_17_method_79_code 6 = .ok (.ireturn, 1) := by decide +kernel
theorem d_JA_copyOf_0 : decode prog_21_method_123_code 0 = .ok (.iload_n 1, 1) := by decide +kernel
theorem d_JA_copyOf_1 : decode prog_21_method_123_code 1 = .ok (.aload_n 0, 1) := by decide +kernel
theorem d_JA_copyOf_2 : decode prog_21_method_123_code 2 = .ok (.arraylength, 1) := by decide +kernel
theorem d_JA_copyOf_3 : decode prog_21_method_123_code 3 = .ok (.if_icmp .ne 11, 3) := by decide +kernel
theorem d_JA_copyOf_6 : decode prog_21_method_123_code 6 = .ok (.aload_n 0, 1) := by decide +kernel
theorem d_JA_copyOf_13 : decode prog_21_method_123_code 13 = .ok (.areturn, 1) := by decide +kernel
theorem d_JA_copyOf_14 : decode prog_21_method_123_code 14 = .ok (.iload_n 1, 1) := by decide +kernel
theorem d_JA_copyOf_15 : decode prog_21_method_123_code 15 = .ok (.newarray .int, 2) := by decide +kernel
theorem d_JA_copyOf_17 : decode prog_21_method_123_code 17 = .ok (.astore_n 2, 1) := by decide +kernel
theorem d_JA_copyOf_18 : decode prog_21_method_123_code 18 = .ok (.aload_n 0, 1) := by decide +kernel
theorem d_JA_copyOf_19 : decode prog_21_method_123_code 19 = .ok (.iconst 0, 1) := by decide +kernel
theorem d_JA_copyOf_20 : decode prog_21_method_123_code 20 = .ok (.aload_n 2, 1) := by decide +kernel
theorem d_JA_copyOf_21 : decode prog_21_method_123_code 21 = .ok (.iconst 0, 1) := by decide +kernel
theorem d_JA_copyOf_22 : decode prog_21_method_123_code 22 = .ok (.aload_n 0, 1) := by decide +kernel
theorem d_JA_copyOf_23 : decode prog_21_method_123_code 23 = .ok (.arraylength, 1) := by decide +kernel
theorem d_JA_copyOf_24 : decode prog_21_method_123_code 24 = .ok (.iload_n 1, 1) := by decide +kernel
theorem d_JA_copyOf_25 : decode prog_21_method_123_code 25 = .ok (.invokestatic 304, 3) := by decide +kernel
theorem d_JA_copyOf_28 : decode prog_21_method_123_code 28 = .ok (.invokestatic 150, 3) := by decide +kernel
theorem d_JA_copyOf_31 : decode prog_21_method_123_code 31 = .ok (.aload_n 2, 1) := by decide +kernel
theorem d_JA_copyOf_32 : decode prog_21_method_123_code 32 = .ok (.areturn, 1) := by decide +kernel
theorem d_X_text_0 : decode prog_1_method_18_code 0 = .ok (.iload_n 1, 1) := by decide +kernel
theorem d_X_text_1 : decode prog_1_method_18_code 1 = .ok (.iconst 0, 1) := by decide +kernel
theorem d_X_text_2 : decode prog_1_method_18_code 2 = .ok (.bipush 8, 2) := by decide +kernel
theorem d_X_text_4 : decode prog_1_method_18_code 4 = .ok (.invokestatic 49, 3) := by decide +kernel
theorem d_X_text_7 : decode prog_1_method_18_code 7 = .ok (.ifCond .eq 14, 3) := by decide +kernel
theorem d_X_text_10 : decode prog_1_method_18_code 10 = .ok (.iload_n 2, 1) := by decide +kernel
theorem d_X_text_11 : decode prog_1_method_18_code 11 = .ok (.iconst 0, 1) := by decide +kernel
theorem d_X_text_12 : decode prog_1_method_18_code 12 = .ok (.sipush 2999, 3) := by decide +kernel
theorem d_X_text_15 : decode prog_1_method_18_code 15 = .ok (.invokestatic 49, 3) := by decide +kernel
theorem d_X_text_18 : decode prog_1_method_18_code 18 = .ok (.ifCond .ne 7, 3) := by decide +kernel
theorem d_X_text_21 : decode prog_1_method_18_code 21 = .ok (.iconst 1, 1) := by decide +kernel
theorem d_X_text_22 : decode prog_1_method_18_code 22 = .ok (.goto 4, 3) := by decide +kernel
theorem d_X_text_25 : decode prog_1_method_18_code 25 = .ok (.iconst 0, 1) := by decide +kernel
theorem d_X_text_26 : decode prog_1_method_18_code 26 = .ok (.istore_n 3, 1) := by decide +kernel
theorem d_X_text_27 : decode prog_1_method_18_code 27 = .ok (.iload_n 3, 1) := by decide +kernel
theorem d_X_text_28 : decode prog_1_method_18_code 28 = .ok (.ifCond .eq 7, 3) := by decide +kernel
theorem d_X_text_31 : decode prog_1_method_18_code 31 = .ok (.iconst 0, 1) := by decide +kernel
theorem d_X_text_32 : decode prog_1_method_18_code 32 = .ok (.goto 10, 3) := by decide +kernel
theorem d_X_text_35 : decode prog_1_method_18_code 35 = .ok (.aload_n 0, 1) := by decide +kernel
theorem d_X_text_36 : decode prog_1_method_18_code 36 = .ok (.getfield 34, 3) := by decide +kernel
theorem d_X_text_39 : decode prog_1_method_18_code 39 = .ok (.invokevirtual 162, 3) := by decide +kernel
theorem d_X_text_42 : decode prog_1_method_18_code 42 = .ok (.istore 4, 2) := by decide +kernel
theorem d_X_text_44 : decode prog_1_method_18_code 44 = .ok (.aload_n 0, 1) := by decide +kernel
theorem d_X_text_45 : decode prog_1_method_18_code 45 = .ok (.getfield 25, 3) := by decide +kernel
theorem d_X_text_48 : decode prog_1_method_18_code 48 = .ok (.iconst 0, 1) := by decide +kernel
theorem d_X_text_49 : decode prog_1_method_18_code 49 = .ok (.putfield 159, 3) := by decide +kernel
theorem d_X_text_52 : decode prog_1_method_18_code 52 = .ok (.iload_n 3, 1) := by decide +kernel
theorem d_X_text_53 : decode prog_1_method_18_code 53 = .ok (.ifCond .eq 6, 3) := by decide +kernel
theorem d_X_text_56 : decode prog_1_method_18_code 56 = .ok (.ldc 53, 2) := by decide +kernel
theorem d_X_text_58 : decode prog_1_method_18_code 58 = .ok (.ireturn, 1) := by decide +kernel
theorem d_X_text_59 : decode prog_1_method_18_code 59 = .ok (.iload 4, 2) := by decide +kernel
theorem d_X_text_61 : decode prog_1_method_18_code 61 = .ok (.iconst (-1), 1) := by decide +kernel
theorem d_X_text_62 : decode prog_1_method_18_code 62 = .ok (.if_icmp .eq 9, 3) := by decide +kernel
theorem d_X_text_65 : decode prog_1_method_18_code 65 = .ok (.bipush (-100), 2) := by decide +kernel
theorem d_X_text_67 : decode prog_1_method_18_code 67 = .ok (.iload 4, 2) := by decide +kernel
theorem d_X_text_69 : decode prog_1_method_18_code 69 = .ok (.isub, 1) := by decide +kernel
theorem d_X_text_70 : decode prog_1_method_18_code 70 = .ok (.ireturn, 1) := by decide +kernel
theorem d_X_text_71 : decode prog_1_method_18_code 71 = .ok (.aload_n 0, 1) := by decide +kernel
theorem d_X_text_72 : decode prog_1_method_18_code 72 = .ok (.getfield 10, 3) := by decide +kernel
theorem d_X_text_75 : decode prog_1_method_18_code 75 = .ok (.getfield 166, 3) := by decide +kernel
theorem d_X_text_78 : decode prog_1_method_18_code 78 = .ok (.aload_n 0, 1) := by decide +kernel
theorem d_X_text_79 : decode prog_1_method_18_code 79 = .ok (.getfield 34, 3) := by decide +kernel
theorem d_X_text_82 : decode prog_1_method_18_code 82 = .ok (.iload_n 1, 1) := by decide +kernel
theorem d_X_text_83 : decode prog_1_method_18_code 83 = .ok (.iload_n 2, 1) := by decide +kernel
theorem d_X_text_84 : decode prog_1_method_18_code 84 = .ok (.invokevirtual 170, 3) := by decide +kernel
theorem d_X_text_87 : decode prog_1_method_18_code 87 = .ok (.invokevirtual 174, 3) := by decide +kernel
theorem d_X_text_90 : decode prog_1_method_18_code 90 = .ok (.ireturn, 1) := by decide +kernel
theorem d_X_of_0 : decode prog_1_method_19_code 0 = .ok (.aload_n 0, 1) := by decide +kernel
theorem d_X_of_1 : decode prog_1_method_19_code 1 = .ok (.getfield 10, 3) := by decide +kernel
theorem d_X_of_4 : decode prog_1_method_19_code 4 = .ok (.getfield 166, 3) := by decide +kernel
theorem d_X_of_7 : decode prog_1_method_19_code 7 = .ok (.iload_n 1, 1) := by decide +kernel
theorem d_X_of_8 : decode prog_1_method_19_code 8 = .ok (.invokevirtual 180, 3) := by decide +kernel
theorem d_X_of_11 : decode prog_1_method_19_code 11 = .ok (.astore_n 3, 1) := by decide +kernel
theorem d_X_of_12 : decode prog_1_method_19_code 12 = .ok (.aload_n 3, 1) := by decide +kernel
theorem d_X_of_13 : decode prog_1_method_19_code 13 = .ok (.ifnonnull 6, 3) := by decide +kernel
theorem d_X_of_16 : decode prog_1_method_19_code 16 = .ok (.ldc 53, 2) := by decide +kernel
theorem d_X_of_18 : decode prog_1_method_19_code 18 = .ok (.ireturn, 1) := by decide +kernel
theorem d_X_of_19 : decode prog_1_method_19_code 19 = .ok (.iload_n 2, 1) := by decide +kernel
theorem d_X_of_20 : decode prog_1_method_19_code 20 = .ok (.tableswitch 52 0 3 #[32, 37, 42, 47], 32) := by decide +kernel
theorem d_X_of_52 : decode prog_1_method_19_code 52 = .ok (.aload_n 3, 1) := by decide +kernel
theorem d_X_of_53 : decode prog_1_method_19_code 53 = .ok (.getfield 184, 3) := by decide +kernel
theorem d_X_of_56 : decode prog_1_method_19_code 56 = .ok (.ireturn, 1) := by decide +kernel
theorem d_X_of_57 : decode prog_1_method_19_code 57 = .ok (.aload_n 3, 1) := by decide +kernel
theorem d_X_of_58 : decode prog_1_method_19_code 58 = .ok (.getfield 189, 3) := by decide +kernel
theorem d_X_of_61 : decode prog_1_method_19_code 61 = .ok (.ireturn, 1) := by decide +kernel
theorem d_X_of_62 : decode prog_1_method_19_code 62 = .ok (.aload_n 3, 1) := by decide +kernel
theorem d_X_of_63 : decode prog_1_method_19_code 63 = .ok (.getfield 192, 3) := by decide +kernel
theorem d_X_of_66 : decode prog_1_method_19_code 66 = .ok (.ireturn, 1) := by decide +kernel
theorem d_X_of_67 : decode prog_1_method_19_code 67 = .ok (.aload_n 3, 1) := by decide +kernel
theorem d_X_of_68 : decode prog_1_method_19_code 68 = .ok (.getfield 195, 3) := by decide +kernel
theorem d_X_of_71 : decode prog_1_method_19_code 71 = .ok (.ireturn, 1) := by decide +kernel
theorem d_X_of_72 : decode prog_1_method_19_code 72 = .ok (.ldc 53, 2) := by decide +kernel
theorem d_X_of_74 : decode prog_1_method_19_code 74 = .ok (.ireturn, 1) := by decide +kernel
theorem d_X_why_0 : decode prog_1_method_20_code 0 = .ok (.iload_n 1, 1) := by decide +kernel
theorem d_X_why_1 : decode prog_1_method_20_code 1 = .ok (.iconst 0, 1) := by decide +kernel
theorem d_X_why_2 : decode prog_1_method_20_code 2 = .ok (.bipush 7, 2) := by decide +kernel
theorem d_X_why_4 : decode prog_1_method_20_code 4 = .ok (.invokestatic 49, 3) := by decide +kernel
theorem d_X_why_7 : decode prog_1_method_20_code 7 = .ok (.ifCond .eq 12, 3) := by decide +kernel
theorem d_X_why_10 : decode prog_1_method_20_code 10 = .ok (.iload_n 2, 1) := by decide +kernel
theorem d_X_why_11 : decode prog_1_method_20_code 11 = .ok (.iconst 0, 1) := by decide +kernel
theorem d_X_why_12 : decode prog_1_method_20_code 12 = .ok (.iconst 4, 1) := by decide +kernel
theorem d_X_why_13 : decode prog_1_method_20_code 13 = .ok (.invokestatic 49, 3) := by decide +kernel
theorem d_X_why_16 : decode prog_1_method_20_code 16 = .ok (.ifCond .ne 6, 3) := by decide +kernel
theorem d_X_why_19 : decode prog_1_method_20_code 19 = .ok (.ldc 53, 2) := by decide +kernel
theorem d_X_why_21 : decode prog_1_method_20_code 21 = .ok (.ireturn, 1) := by decide +kernel
theorem d_X_why_22 : decode prog_1_method_20_code 22 = .ok (.aload_n 0, 1) := by decide +kernel
theorem d_X_why_23 : decode prog_1_method_20_code 23 = .ok (.getfield 10, 3) := by decide +kernel
theorem d_X_why_26 : decode prog_1_method_20_code 26 = .ok (.getfield 166, 3) := by decide +kernel
theorem d_X_why_29 : decode prog_1_method_20_code 29 = .ok (.iload_n 1, 1) := by decide +kernel
theorem d_X_why_30 : decode prog_1_method_20_code 30 = .ok (.iload_n 2, 1) := by decide +kernel
theorem d_X_why_31 : decode prog_1_method_20_code 31 = .ok (.aload_n 0, 1) := by decide +kernel
theorem d_X_why_32 : decode prog_1_method_20_code 32 = .ok (.getfield 10, 3) := by decide +kernel
theorem d_X_why_35 : decode prog_1_method_20_code 35 = .ok (.getfield 82, 3) := by decide +kernel
theorem d_X_why_38 : decode prog_1_method_20_code 38 = .ok (.invokevirtual 198, 3) := by decide +kernel
theorem d_X_why_41 : decode prog_1_method_20_code 41 = .ok (.ireturn, 1) := by decide +kernel
theorem d_X_rules_0 : decode prog_1_method_21_code 0 = .ok (.iload_n 1, 1) := by decide +kernel
theorem d_X_rules_1 : decode prog_1_method_21_code 1 = .ok (.iconst 0, 1) := by decide +kernel
theorem d_X_rules_2 : decode prog_1_method_21_code 2 = .ok (.bipush 7, 2) := by decide +kernel
theorem d_X_rules_4 : decode prog_1_method_21_code 4 = .ok (.invokestatic 49, 3) := by decide +kernel
theorem d_X_rules_7 : decode prog_1_method_21_code 7 = .ok (.ifCond .eq 12, 3) := by decide +kernel
theorem d_X_rules_10 : decode prog_1_method_21_code 10 = .ok (.iload_n 2, 1) := by decide +kernel
theorem d_X_rules_11 : decode prog_1_method_21_code 11 = .ok (.iconst 0, 1) := by decide +kernel
theorem d_X_rules_12 : decode prog_1_method_21_code 12 = .ok (.iconst 4, 1) := by decide +kernel
theorem d_X_rules_13 : decode prog_1_method_21_code 13 = .ok (.invokestatic 49, 3) := by decide +kernel
theorem d_X_rules_16 : decode prog_1_method_21_code 16 = .ok (.ifCond .ne 6, 3) := by decide +kernel
theorem d_X_rules_19 : decode prog_1_method_21_code 19 = .ok (.ldc 53, 2) := by decide +kernel
theorem d_X_rules_21 : decode prog_1_method_21_code 21 = .ok (.ireturn, 1) := by decide +kernel
theorem d_X_rules_22 : decode prog_1_method_21_code 22 = .ok (.aload_n 0, 1) := by decide +kernel
theorem d_X_rules_23 : decode prog_1_method_21_code 23 = .ok (.getfield 10, 3) := by decide +kernel
theorem d_X_rules_26 : decode prog_1_method_21_code 26 = .ok (.getfield 166, 3) := by decide +kernel
theorem d_X_rules_29 : decode prog_1_method_21_code 29 = .ok (.iload_n 1, 1) := by decide +kernel
theorem d_X_rules_30 : decode prog_1_method_21_code 30 = .ok (.iload_n 2, 1) := by decide +kernel
theorem d_X_rules_31 : decode prog_1_method_21_code 31 = .ok (.aload_n 0, 1) := by decide +kernel
theorem d_X_rules_32 : decode prog_1_method_21_code 32 = .ok (.getfield 10, 3) := by decide +kernel
theorem d_X_rules_35 : decode prog_1_method_21_code 35 = .ok (.getfield 82, 3) := by decide +kernel
theorem d_X_rules_38 : decode prog_1_method_21_code 38 = .ok (.iload_n 3, 1) := by decide +kernel
theorem d_X_rules_39 : decode prog_1_method_21_code 39 = .ok (.iload 4, 2) := by decide +kernel
theorem d_X_rules_41 : decode prog_1_method_21_code 41 = .ok (.iload 5, 2) := by decide +kernel
theorem d_X_rules_43 : decode prog_1_method_21_code 43 = .ok (.iload 6, 2) := by decide +kernel
theorem d_X_rules_45 : decode prog_1_method_21_code 45 = .ok (.invokevirtual 201, 3) := by decide +kernel
theorem d_X_rules_48 : decode prog_1_method_21_code 48 = .ok (.ireturn, 1) := by decide +kernel
theorem d_X_fitsKind_0 : decode prog_1_method_54_code 0 = .ok (.iload_n 1, 1) := by decide +kernel
theorem d_X_fitsKind_1 : decode prog_1_method_54_code 1 = .ok (.tableswitch 77 0 4 #[35, 45, 45, 54, 69], 35) := by decide +kernel
theorem d_X_fitsKind_36 : decode prog_1_method_54_code 36 = .ok (.iload_n 2, 1) := by decide +kernel
theorem d_X_fitsKind_37 : decode prog_1_method_54_code 37 = .ok (.ifCond .ne 7, 3) := by decide +kernel
theorem d_X_fitsKind_40 : decode prog_1_method_54_code 40 = .ok (.iconst 1, 1) := by decide +kernel
theorem d_X_fitsKind_41 : decode prog_1_method_54_code 41 = .ok (.goto 4, 3) := by decide +kernel
theorem d_X_fitsKind_44 : decode prog_1_method_54_code 44 = .ok (.iconst 0, 1) := by decide +kernel
theorem d_X_fitsKind_45 : decode prog_1_method_54_code 45 = .ok (.ireturn, 1) := by decide +kernel
theorem d_X_fitsKind_46 : decode prog_1_method_54_code 46 = .ok (.iload_n 2, 1) := by decide +kernel
theorem d_X_fitsKind_47 : decode prog_1_method_54_code 47 = .ok (.iconst 1, 1) := by decide +kernel
theorem d_X_fitsKind_48 : decode prog_1_method_54_code 48 = .ok (.sipush 999, 3) := by decide +kernel
theorem d_X_fitsKind_51 : decode prog_1_method_54_code 51 = .ok (.invokestatic 49, 3) := by decide +kernel
theorem d_X_fitsKind_54 : decode prog_1_method_54_code 54 = .ok (.ireturn, 1) := by decide +kernel
theorem d_X_fitsKind_55 : decode prog_1_method_54_code 55 = .ok (.iload_n 2, 1) := by decide +kernel
theorem d_X_fitsKind_56 : decode prog_1_method_54_code 56 = .ok (.aload_n 0, 1) := by decide +kernel
theorem d_X_fitsKind_57 : decode prog_1_method_54_code 57 = .ok (.getfield 10, 3) := by decide +kernel
theorem d_X_fitsKind_60 : decode prog_1_method_54_code 60 = .ok (.getfield 82, 3) := by decide +kernel
theorem d_X_fitsKind_63 : decode prog_1_method_54_code 63 = .ok (.sipush 9999, 3) := by decide +kernel
theorem d_X_fitsKind_66 : decode prog_1_method_54_code 66 = .ok (.invokestatic 49, 3) := by decide +kernel
theorem d_X_fitsKind_69 : decode prog_1_method_54_code 69 = .ok (.ireturn, 1) := by decide +kernel
theorem d_X_fitsKind_70 : decode prog_1_method_54_code 70 = .ok (.iload_n 2, 1) := by decide +kernel
theorem d_X_fitsKind_71 : decode prog_1_method_54_code 71 = .ok (.iconst 0, 1) := by decide +kernel
theorem d_X_fitsKind_72 : decode prog_1_method_54_code 72 = .ok (.bipush 9, 2) := by decide +kernel
theorem d_X_fitsKind_74 : decode prog_1_method_54_code 74 = .ok (.invokestatic 49, 3) := by decide +kernel
theorem d_X_fitsKind_77 : decode prog_1_method_54_code 77 = .ok (.ireturn, 1) := by decide +kernel
theorem d_X_fitsKind_78 : decode prog_1_method_54_code 78 = .ok (.iconst 0, 1) := by decide +kernel
theorem d_X_fitsKind_79 : decode prog_1_method_54_code 79 = .ok (.ireturn, 1) := by decide +kernel
theorem d_X_paper_0 : decode prog_1_method_22_code 0 = .ok (.iload_n 1, 1) := by decide +kernel
theorem d_X_paper_1 : decode prog_1_method_22_code 1 = .ok (.iconst 0, 1) := by decide +kernel
theorem d_X_paper_2 : decode prog_1_method_22_code 2 = .ok (.iconst 4, 1) := by decide +kernel
theorem d_X_paper_3 : decode prog_1_method_22_code 3 = .ok (.invokestatic 49, 3) := by decide +kernel
theorem d_X_paper_6 : decode prog_1_method_22_code 6 = .ok (.ifCond .eq 26, 3) := by decide +kernel
theorem d_X_paper_9 : decode prog_1_method_22_code 9 = .ok (.aload_n 0, 1) := by decide +kernel
theorem d_X_paper_10 : decode prog_1_method_22_code 10 = .ok (.getfield 10, 3) := by decide +kernel
theorem d_X_paper_13 : decode prog_1_method_22_code 13 = .ok (.getfield 54, 3) := by decide +kernel
theorem d_X_paper_16 : decode prog_1_method_22_code 16 = .ok (.iload_n 2, 1) := by decide +kernel
theorem d_X_paper_17 : decode prog_1_method_22_code 17 = .ok (.invokevirtual 90, 3) := by decide +kernel
theorem d_X_paper_20 : decode prog_1_method_22_code 20 = .ok (.ifCond .eq 12, 3) := by decide +kernel
theorem d_X_paper_23 : decode prog_1_method_22_code 23 = .ok (.aload_n 0, 1) := by decide +kernel
theorem d_X_paper_24 : decode prog_1_method_22_code 24 = .ok (.iload_n 1, 1) := by decide +kernel
theorem d_X_paper_25 : decode prog_1_method_22_code 25 = .ok (.iload_n 3, 1) := by decide +kernel
theorem d_X_paper_26 : decode prog_1_method_22_code 26 = .ok (.invokevirtual 205, 3) := by decide +kernel
theorem d_X_paper_29 : decode prog_1_method_22_code 29 = .ok (.ifCond .ne 6, 3) := by decide +kernel
theorem d_X_paper_32 : decode prog_1_method_22_code 32 = .ok (.ldc 53, 2) := by decide +kernel
theorem d_X_paper_34 : decode prog_1_method_22_code 34 = .ok (.ireturn, 1) := by decide +kernel
theorem d_X_paper_35 : decode prog_1_method_22_code 35 = .ok (.aload_n 0, 1) := by decide +kernel
theorem d_X_paper_36 : decode prog_1_method_22_code 36 = .ok (.getfield 10, 3) := by decide +kernel
theorem d_X_paper_39 : decode prog_1_method_22_code 39 = .ok (.getfield 208, 3) := by decide +kernel
theorem d_X_paper_42 : decode prog_1_method_22_code 42 = .ok (.invokevirtual 58, 3) := by decide +kernel
theorem d_X_paper_45 : decode prog_1_method_22_code 45 = .ok (.ifCond .eq 6, 3) := by decide +kernel
theorem d_X_paper_48 : decode prog_1_method_22_code 48 = .ok (.ldc 73, 2) := by decide +kernel
theorem d_X_paper_50 : decode prog_1_method_22_code 50 = .ok (.ireturn, 1) := by decide +kernel
theorem d_X_paper_51 : decode prog_1_method_22_code 51 = .ok (.aload_n 0, 1) := by decide +kernel
theorem d_X_paper_52 : decode prog_1_method_22_code 52 = .ok (.getfield 10, 3) := by decide +kernel
theorem d_X_paper_55 : decode prog_1_method_22_code 55 = .ok (.getfield 208, 3) := by decide +kernel
theorem d_X_paper_58 : decode prog_1_method_22_code 58 = .ok (.iload_n 1, 1) := by decide +kernel
theorem d_X_paper_59 : decode prog_1_method_22_code 59 = .ok (.iload_n 2, 1) := by decide +kernel
theorem d_X_paper_60 : decode prog_1_method_22_code 60 = .ok (.iload_n 3, 1) := by decide +kernel
theorem d_X_paper_61 : decode prog_1_method_22_code 61 = .ok (.aload_n 0, 1) := by decide +kernel
theorem d_X_paper_62 : decode prog_1_method_22_code 62 = .ok (.getfield 10, 3) := by decide +kernel
theorem d_X_paper_65 : decode prog_1_method_22_code 65 = .ok (.getfield 82, 3) := by decide +kernel
theorem d_X_paper_68 : decode prog_1_method_22_code 68 = .ok (.invokevirtual 74, 3) := by decide +kernel
theorem d_X_paper_71 : decode prog_1_method_22_code 71 = .ok (.ireturn, 1) := by decide +kernel
theorem d_X_isUnder_0 : decode prog_1_method_55_code 0 = .ok (.iload_n 0, 1) := by decide +kernel
theorem d_X_isUnder_1 : decode prog_1_method_55_code 1 = .ok (.istore_n 2, 1) := by decide +kernel
theorem d_X_isUnder_2 : decode prog_1_method_55_code 2 = .ok (.iconst 0, 1) := by decide +kernel
theorem d_X_isUnder_3 : decode prog_1_method_55_code 3 = .ok (.istore_n 3, 1) := by decide +kernel
theorem d_X_isUnder_4 : decode prog_1_method_55_code 4 = .ok (.iload_n 3, 1) := by decide +kernel
theorem d_X_isUnder_5 : decode prog_1_method_55_code 5 = .ok (.iconst 5, 1) := by decide +kernel
theorem d_X_isUnder_6 : decode prog_1_method_55_code 6 = .ok (.if_icmp .ge 36, 3) := by decide +kernel
theorem d_X_isUnder_9 : decode prog_1_method_55_code 9 = .ok (.iload_n 2, 1) := by decide +kernel
theorem d_X_isUnder_10 : decode prog_1_method_55_code 10 = .ok (.iconst 0, 1) := by decide +kernel
theorem d_X_isUnder_11 : decode prog_1_method_55_code 11 = .ok (.getstatic 326, 3) := by decide +kernel
theorem d_X_isUnder_14 : decode prog_1_method_55_code 14 = .ok (.arraylength, 1) := by decide +kernel
theorem d_X_isUnder_15 : decode prog_1_method_55_code 15 = .ok (.iconst 1, 1) := by decide +kernel
theorem d_X_isUnder_16 : decode prog_1_method_55_code 16 = .ok (.isub, 1) := by decide +kernel
theorem d_X_isUnder_17 : decode prog_1_method_55_code 17 = .ok (.invokestatic 49, 3) := by decide +kernel
theorem d_X_isUnder_20 : decode prog_1_method_55_code 20 = .ok (.ifCond .eq 22, 3) := by decide +kernel
theorem d_X_isUnder_23 : decode prog_1_method_55_code 23 = .ok (.iload_n 2, 1) := by decide +kernel
theorem d_X_isUnder_24 : decode prog_1_method_55_code 24 = .ok (.iload_n 1, 1) := by decide +kernel
theorem d_X_isUnder_25 : decode prog_1_method_55_code 25 = .ok (.if_icmp .ne 5, 3) := by decide +kernel
theorem d_X_isUnder_28 : decode prog_1_method_55_code 28 = .ok (.iconst 1, 1) := by decide +kernel
theorem d_X_isUnder_29 : decode prog_1_method_55_code 29 = .ok (.ireturn, 1) := by decide +kernel
theorem d_X_isUnder_30 : decode prog_1_method_55_code 30 = .ok (.getstatic 326, 3) := by decide +kernel
theorem d_X_isUnder_33 : decode prog_1_method_55_code 33 = .ok (.iload_n 2, 1) := by decide +kernel
theorem d_X_isUnder_34 : decode prog_1_method_55_code 34 = .ok (.iaload, 1) := by decide +kernel
theorem d_X_isUnder_35 : decode prog_1_method_55_code 35 = .ok (.istore_n 2, 1) := by decide +kernel
theorem d_X_isUnder_36 : decode prog_1_method_55_code 36 = .ok (.iinc 3 1, 3) := by decide +kernel
theorem d_X_isUnder_39 : decode prog_1_method_55_code 39 = .ok (.goto (-35), 3) := by decide +kernel
theorem d_X_isUnder_42 : decode prog_1_method_55_code 42 = .ok (.iconst 0, 1) := by decide +kernel
theorem d_X_isUnder_43 : decode prog_1_method_55_code 43 = .ok (.ireturn, 1) := by decide +kernel
theorem d_X_paperTold_0 : decode prog_1_method_23_code 0 = .ok (.aload_n 0, 1) := by decide +kernel
theorem d_X_paperTold_1 : decode prog_1_method_23_code 1 = .ok (.getfield 10, 3) := by decide +kernel
theorem d_X_paperTold_4 : decode prog_1_method_23_code 4 = .ok (.getfield 208, 3) := by decide +kernel
theorem d_X_paperTold_7 : decode prog_1_method_23_code 7 = .ok (.iload_n 1, 1) := by decide +kernel
theorem d_X_paperTold_8 : decode prog_1_method_23_code 8 = .ok (.invokevirtual 90, 3) := by decide +kernel
theorem d_X_paperTold_11 : decode prog_1_method_23_code 11 = .ok (.ifCond .eq 12, 3) := by decide +kernel
theorem d_X_paperTold_14 : decode prog_1_method_23_code 14 = .ok (.iload_n 2, 1) := by decide +kernel
theorem d_X_paperTold_15 : decode prog_1_method_23_code 15 = .ok (.iconst 0, 1) := by decide +kernel
theorem d_X_paperTold_16 : decode prog_1_method_23_code 16 = .ok (.iconst 4, 1) := by decide +kernel
theorem d_X_paperTold_17 : decode prog_1_method_23_code 17 = .ok (.invokestatic 49, 3) := by decide +kernel
theorem d_X_paperTold_20 : decode prog_1_method_23_code 20 = .ok (.ifCond .ne 6, 3) := by decide +kernel
theorem d_X_paperTold_23 : decode prog_1_method_23_code 23 = .ok (.ldc 53, 2) := by decide +kernel
theorem d_X_paperTold_25 : decode prog_1_method_23_code 25 = .ok (.ireturn, 1) := by decide +kernel
theorem d_X_paperTold_26 : decode prog_1_method_23_code 26 = .ok (.iload_n 2, 1) := by decide +kernel
theorem d_X_paperTold_27 : decode prog_1_method_23_code 27 = .ok (.iconst 3, 1) := by decide +kernel
theorem d_X_paperTold_28 : decode prog_1_method_23_code 28 = .ok (.if_icmp .gt 16, 3) := by decide +kernel
theorem d_X_paperTold_31 : decode prog_1_method_23_code 31 = .ok (.aload_n 0, 1) := by decide +kernel
theorem d_X_paperTold_32 : decode prog_1_method_23_code 32 = .ok (.getfield 10, 3) := by decide +kernel
theorem d_X_paperTold_35 : decode prog_1_method_23_code 35 = .ok (.getfield 208, 3) := by decide +kernel
theorem d_X_paperTold_38 : decode prog_1_method_23_code 38 = .ok (.iload_n 1, 1) := by decide +kernel
theorem d_X_paperTold_39 : decode prog_1_method_23_code 39 = .ok (.iload_n 2, 1) := by decide +kernel
theorem d_X_paperTold_40 : decode prog_1_method_23_code 40 = .ok (.invokevirtual 94, 3) := by decide +kernel
theorem d_X_paperTold_43 : decode prog_1_method_23_code 43 = .ok (.ireturn, 1) := by decide +kernel
theorem d_X_paperTold_44 : decode prog_1_method_23_code 44 = .ok (.aload_n 0, 1) := by decide +kernel
theorem d_X_paperTold_45 : decode prog_1_method_23_code 45 = .ok (.getfield 10, 3) := by decide +kernel
theorem d_X_paperTold_48 : decode prog_1_method_23_code 48 = .ok (.getfield 208, 3) := by decide +kernel
theorem d_X_paperTold_51 : decode prog_1_method_23_code 51 = .ok (.iload_n 1, 1) := by decide +kernel
theorem d_X_paperTold_52 : decode prog_1_method_23_code 52 = .ok (.iconst 0, 1) := by decide +kernel
theorem d_X_paperTold_53 : decode prog_1_method_23_code 53 = .ok (.invokevirtual 94, 3) := by decide +kernel
theorem d_X_paperTold_56 : decode prog_1_method_23_code 56 = .ok (.iconst 1, 1) := by decide +kernel
theorem d_X_paperTold_57 : decode prog_1_method_23_code 57 = .ok (.invokestatic 211, 3) := by decide +kernel
theorem d_X_paperTold_60 : decode prog_1_method_23_code 60 = .ok (.ifCond .eq 14, 3) := by decide +kernel
theorem d_X_paperTold_63 : decode prog_1_method_23_code 63 = .ok (.aload_n 0, 1) := by decide +kernel
theorem d_X_paperTold_64 : decode prog_1_method_23_code 64 = .ok (.getfield 10, 3) := by decide +kernel
theorem d_X_paperTold_67 : decode prog_1_method_23_code 67 = .ok (.iload_n 1, 1) := by decide +kernel
theorem d_X_paperTold_68 : decode prog_1_method_23_code 68 = .ok (.invokevirtual 214, 3) := by decide +kernel
theorem d_X_paperTold_71 : decode prog_1_method_23_code 71 = .ok (.goto 5, 3) := by decide +kernel
theorem d_X_paperTold_74 : decode prog_1_method_23_code 74 = .ok (.ldc 217, 2) := by decide +kernel
theorem d_X_paperTold_76 : decode prog_1_method_23_code 76 = .ok (.ireturn, 1) := by decide +kernel
theorem d_X_as_0 : decode prog_1_method_24_code 0 = .ok (.aload_n 0, 1) := by decide +kernel
theorem d_X_as_1 : decode prog_1_method_24_code 1 = .ok (.getfield 10, 3) := by decide +kernel
theorem d_X_as_4 : decode prog_1_method_24_code 4 = .ok (.getfield 208, 3) := by decide +kernel
theorem d_X_as_7 : decode prog_1_method_24_code 7 = .ok (.iload_n 1, 1) := by decide +kernel
theorem d_X_as_8 : decode prog_1_method_24_code 8 = .ok (.invokevirtual 90, 3) := by decide +kernel
theorem d_X_as_11 : decode prog_1_method_24_code 11 = .ok (.ifCond .eq 12, 3) := by decide +kernel
theorem d_X_as_14 : decode prog_1_method_24_code 14 = .ok (.iload_n 2, 1) := by decide +kernel
theorem d_X_as_15 : decode prog_1_method_24_code 15 = .ok (.iconst 0, 1) := by decide +kernel
theorem d_X_as_16 : decode prog_1_method_24_code 16 = .ok (.iconst 4, 1) := by decide +kernel
theorem d_X_as_17 : decode prog_1_method_24_code 17 = .ok (.invokestatic 49, 3) := by decide +kernel
theorem d_X_as_20 : decode prog_1_method_24_code 20 = .ok (.ifCond .ne 6, 3) := by decide +kernel
theorem d_X_as_23 : decode prog_1_method_24_code 23 = .ok (.ldc 53, 2) := by decide +kernel
theorem d_X_as_25 : decode prog_1_method_24_code 25 = .ok (.ireturn, 1) := by decide +kernel
theorem d_X_as_26 : decode prog_1_method_24_code 26 = .ok (.aload_n 0, 1) := by decide +kernel
theorem d_X_as_27 : decode prog_1_method_24_code 27 = .ok (.getfield 10, 3) := by decide +kernel
theorem d_X_as_30 : decode prog_1_method_24_code 30 = .ok (.getfield 208, 3) := by decide +kernel
theorem d_X_as_33 : decode prog_1_method_24_code 33 = .ok (.iload_n 1, 1) := by decide +kernel
theorem d_X_as_34 : decode prog_1_method_24_code 34 = .ok (.iconst 0, 1) := by decide +kernel
theorem d_X_as_35 : decode prog_1_method_24_code 35 = .ok (.invokevirtual 94, 3) := by decide +kernel
theorem d_X_as_38 : decode prog_1_method_24_code 38 = .ok (.iload_n 2, 1) := by decide +kernel
theorem d_X_as_39 : decode prog_1_method_24_code 39 = .ok (.invokestatic 211, 3) := by decide +kernel
theorem d_X_as_42 : decode prog_1_method_24_code 42 = .ok (.ifCond .ne 6, 3) := by decide +kernel
theorem d_X_as_45 : decode prog_1_method_24_code 45 = .ok (.ldc 141, 2) := by decide +kernel
theorem d_X_as_47 : decode prog_1_method_24_code 47 = .ok (.ireturn, 1) := by decide +kernel
theorem d_X_as_48 : decode prog_1_method_24_code 48 = .ok (.aload_n 0, 1) := by decide +kernel
theorem d_X_as_49 : decode prog_1_method_24_code 49 = .ok (.getfield 10, 3) := by decide +kernel
theorem d_X_as_52 : decode prog_1_method_24_code 52 = .ok (.getfield 208, 3) := by decide +kernel
theorem d_X_as_55 : decode prog_1_method_24_code 55 = .ok (.iload_n 1, 1) := by decide +kernel
theorem d_X_as_56 : decode prog_1_method_24_code 56 = .ok (.iconst 2, 1) := by decide +kernel
theorem d_X_as_57 : decode prog_1_method_24_code 57 = .ok (.invokevirtual 94, 3) := by decide +kernel
theorem d_X_as_60 : decode prog_1_method_24_code 60 = .ok (.ireturn, 1) := by decide +kernel
theorem d_X_member_0 : decode prog_1_method_25_code 0 = .ok (.iload_n 1, 1) := by decide +kernel
theorem d_X_member_1 : decode prog_1_method_25_code 1 = .ok (.iconst 0, 1) := by decide +kernel
theorem d_X_member_2 : decode prog_1_method_25_code 2 = .ok (.bipush 127, 2) := by decide +kernel
theorem d_X_member_4 : decode prog_1_method_25_code 4 = .ok (.invokestatic 49, 3) := by decide +kernel
theorem d_X_member_7 : decode prog_1_method_25_code 7 = .ok (.ifCond .eq 13, 3) := by decide +kernel
theorem d_X_member_10 : decode prog_1_method_25_code 10 = .ok (.iload_n 2, 1) := by decide +kernel
theorem d_X_member_11 : decode prog_1_method_25_code 11 = .ok (.iconst 0, 1) := by decide +kernel
theorem d_X_member_12 : decode prog_1_method_25_code 12 = .ok (.bipush 63, 2) := by decide +kernel
theorem d_X_member_14 : decode prog_1_method_25_code 14 = .ok (.invokestatic 49, 3) := by decide +kernel
theorem d_X_member_17 : decode prog_1_method_25_code 17 = .ok (.ifCond .ne 6, 3) := by decide +kernel
theorem d_X_member_20 : decode prog_1_method_25_code 20 = .ok (.ldc 53, 2) := by decide +kernel
theorem d_X_member_22 : decode prog_1_method_25_code 22 = .ok (.ireturn, 1) := by decide +kernel
theorem d_X_member_23 : decode prog_1_method_25_code 23 = .ok (.aload_n 0, 1) := by decide +kernel
theorem d_X_member_24 : decode prog_1_method_25_code 24 = .ok (.getfield 10, 3) := by decide +kernel
theorem d_X_member_27 : decode prog_1_method_25_code 27 = .ok (.getfield 218, 3) := by decide +kernel
theorem d_X_member_30 : decode prog_1_method_25_code 30 = .ok (.invokevirtual 58, 3) := by decide +kernel
theorem d_X_member_33 : decode prog_1_method_25_code 33 = .ok (.ifCond .eq 6, 3) := by decide +kernel
theorem d_X_member_36 : decode prog_1_method_25_code 36 = .ok (.ldc 73, 2) := by decide +kernel
theorem d_X_member_38 : decode prog_1_method_25_code 38 = .ok (.ireturn, 1) := by decide +kernel
theorem d_X_member_39 : decode prog_1_method_25_code 39 = .ok (.aload_n 0, 1) := by decide +kernel
theorem d_X_member_40 : decode prog_1_method_25_code 40 = .ok (.getfield 10, 3) := by decide +kernel
theorem d_X_member_43 : decode prog_1_method_25_code 43 = .ok (.getfield 218, 3) := by decide +kernel
theorem d_X_member_46 : decode prog_1_method_25_code 46 = .ok (.iload_n 1, 1) := by decide +kernel
theorem d_X_member_47 : decode prog_1_method_25_code 47 = .ok (.iload_n 2, 1) := by decide +kernel
theorem d_X_member_48 : decode prog_1_method_25_code 48 = .ok (.iconst 0, 1) := by decide +kernel
theorem d_X_member_49 : decode prog_1_method_25_code 49 = .ok (.iconst 0, 1) := by decide +kernel
theorem d_X_member_50 : decode prog_1_method_25_code 50 = .ok (.invokevirtual 74, 3) := by decide +kernel
theorem d_X_member_53 : decode prog_1_method_25_code 53 = .ok (.ireturn, 1) := by decide +kernel
theorem d_X_conflict_0 : decode prog_1_method_26_code 0 = .ok (.aload_n 0, 1) := by decide +kernel
theorem d_X_conflict_1 : decode prog_1_method_26_code 1 = .ok (.getfield 10, 3) := by decide +kernel
theorem d_X_conflict_4 : decode prog_1_method_26_code 4 = .ok (.getfield 218, 3) := by decide +kernel
theorem d_X_conflict_7 : decode prog_1_method_26_code 7 = .ok (.iload_n 1, 1) := by decide +kernel
theorem d_X_conflict_8 : decode prog_1_method_26_code 8 = .ok (.invokevirtual 90, 3) := by decide +kernel
theorem d_X_conflict_11 : decode prog_1_method_26_code 11 = .ok (.ifCond .eq 26, 3) := by decide +kernel
theorem d_X_conflict_14 : decode prog_1_method_26_code 14 = .ok (.aload_n 0, 1) := by decide +kernel
theorem d_X_conflict_15 : decode prog_1_method_26_code 15 = .ok (.getfield 10, 3) := by decide +kernel
theorem d_X_conflict_18 : decode prog_1_method_26_code 18 = .ok (.getfield 54, 3) := by decide +kernel
theorem d_X_conflict_21 : decode prog_1_method_26_code 21 = .ok (.iload_n 2, 1) := by decide +kernel
theorem d_X_conflict_22 : decode prog_1_method_26_code 22 = .ok (.invokevirtual 90, 3) := by decide +kernel
theorem d_X_conflict_25 : decode prog_1_method_26_code 25 = .ok (.ifCond .eq 12, 3) := by decide +kernel
theorem d_X_conflict_28 : decode prog_1_method_26_code 28 = .ok (.iload_n 3, 1) := by decide +kernel
theorem d_X_conflict_29 : decode prog_1_method_26_code 29 = .ok (.iconst 0, 1) := by decide +kernel
theorem d_X_conflict_30 : decode prog_1_method_26_code 30 = .ok (.iconst 1, 1) := by decide +kernel
theorem d_X_conflict_31 : decode prog_1_method_26_code 31 = .ok (.invokestatic 49, 3) := by decide +kernel
theorem d_X_conflict_34 : decode prog_1_method_26_code 34 = .ok (.ifCond .ne 6, 3) := by decide +kernel
theorem d_X_conflict_37 : decode prog_1_method_26_code 37 = .ok (.ldc 53, 2) := by decide +kernel
theorem d_X_conflict_39 : decode prog_1_method_26_code 39 = .ok (.ireturn, 1) := by decide +kernel
theorem d_X_conflict_40 : decode prog_1_method_26_code 40 = .ok (.iconst 1, 1) := by decide +kernel
theorem d_X_conflict_41 : decode prog_1_method_26_code 41 = .ok (.iload_n 2, 1) := by decide +kernel
theorem d_X_conflict_42 : decode prog_1_method_26_code 42 = .ok (.ishl, 1) := by decide +kernel
theorem d_X_conflict_43 : decode prog_1_method_26_code 43 = .ok (.istore 4, 2) := by decide +kernel
theorem d_X_conflict_45 : decode prog_1_method_26_code 45 = .ok (.aload_n 0, 1) := by decide +kernel
theorem d_X_conflict_46 : decode prog_1_method_26_code 46 = .ok (.getfield 10, 3) := by decide +kernel
theorem d_X_conflict_49 : decode prog_1_method_26_code 49 = .ok (.getfield 218, 3) := by decide +kernel
theorem d_X_conflict_52 : decode prog_1_method_26_code 52 = .ok (.iload_n 1, 1) := by decide +kernel
theorem d_X_conflict_53 : decode prog_1_method_26_code 53 = .ok (.iconst 2, 1) := by decide +kernel
theorem d_X_conflict_54 : decode prog_1_method_26_code 54 = .ok (.invokevirtual 94, 3) := by decide +kernel
theorem d_X_conflict_57 : decode prog_1_method_26_code 57 = .ok (.istore 5, 2) := by decide +kernel
theorem d_X_conflict_59 : decode prog_1_method_26_code 59 = .ok (.aload_n 0, 1) := by decide +kernel
theorem d_X_conflict_60 : decode prog_1_method_26_code 60 = .ok (.getfield 10, 3) := by decide +kernel
theorem d_X_conflict_63 : decode prog_1_method_26_code 63 = .ok (.getfield 218, 3) := by decide +kernel
theorem d_X_conflict_66 : decode prog_1_method_26_code 66 = .ok (.iload_n 1, 1) := by decide +kernel
theorem d_X_conflict_67 : decode prog_1_method_26_code 67 = .ok (.iconst 2, 1) := by decide +kernel
theorem d_X_conflict_68 : decode prog_1_method_26_code 68 = .ok (.iload_n 3, 1) := by decide +kernel
theorem d_X_conflict_69 : decode prog_1_method_26_code 69 = .ok (.iconst 1, 1) := by decide +kernel
theorem d_X_conflict_70 : decode prog_1_method_26_code 70 = .ok (.if_icmp .ne 11, 3) := by decide +kernel
theorem d_X_conflict_73 : decode prog_1_method_26_code 73 = .ok (.iload 5, 2) := by decide +kernel
theorem d_X_conflict_75 : decode prog_1_method_26_code 75 = .ok (.iload 4, 2) := by decide +kernel
theorem d_X_conflict_77 : decode prog_1_method_26_code 77 = .ok (.ior, 1) := by decide +kernel
theorem d_X_conflict_78 : decode prog_1_method_26_code 78 = .ok (.goto 10, 3) := by decide +kernel
theorem d_X_conflict_81 : decode prog_1_method_26_code 81 = .ok (.iload 5, 2) := by decide +kernel
theorem d_X_conflict_83 : decode prog_1_method_26_code 83 = .ok (.iload 4, 2) := by decide +kernel
theorem d_X_conflict_85 : decode prog_1_method_26_code 85 = .ok (.iconst (-1), 1) := by decide +kernel
theorem d_X_conflict_86 : decode prog_1_method_26_code 86 = .ok (.ixor, 1) := by decide +kernel
theorem d_X_conflict_87 : decode prog_1_method_26_code 87 = .ok (.iand, 1) := by decide +kernel
theorem d_X_conflict_88 : decode prog_1_method_26_code 88 = .ok (.invokevirtual 78, 3) := by decide +kernel
theorem d_X_conflict_91 : decode prog_1_method_26_code 91 = .ok (.iload 5, 2) := by decide +kernel
theorem d_X_conflict_93 : decode prog_1_method_26_code 93 = .ok (.iload 4, 2) := by decide +kernel
theorem d_X_conflict_95 : decode prog_1_method_26_code 95 = .ok (.iand, 1) := by decide +kernel
theorem d_X_conflict_96 : decode prog_1_method_26_code 96 = .ok (.ifCond .ne 7, 3) := by decide +kernel
theorem d_X_conflict_99 : decode prog_1_method_26_code 99 = .ok (.iconst 0, 1) := by decide +kernel
theorem d_X_conflict_100 : decode prog_1_method_26_code 100 = .ok (.goto 4, 3) := by decide +kernel
theorem d_X_conflict_103 : decode prog_1_method_26_code 103 = .ok (.iconst 1, 1) := by decide +kernel
theorem d_X_conflict_104 : decode prog_1_method_26_code 104 = .ok (.ireturn, 1) := by decide +kernel
theorem d_X_is_0 : decode prog_1_method_27_code 0 = .ok (.aload_n 0, 1) := by decide +kernel
theorem d_X_is_1 : decode prog_1_method_27_code 1 = .ok (.getfield 10, 3) := by decide +kernel
theorem d_X_is_4 : decode prog_1_method_27_code 4 = .ok (.getfield 218, 3) := by decide +kernel
theorem d_X_is_7 : decode prog_1_method_27_code 7 = .ok (.iload_n 1, 1) := by decide +kernel
theorem d_X_is_8 : decode prog_1_method_27_code 8 = .ok (.invokevirtual 90, 3) := by decide +kernel
theorem d_X_is_11 : decode prog_1_method_27_code 11 = .ok (.ifCond .eq 12, 3) := by decide +kernel
theorem d_X_is_14 : decode prog_1_method_27_code 14 = .ok (.iload_n 2, 1) := by decide +kernel
theorem d_X_is_15 : decode prog_1_method_27_code 15 = .ok (.iconst 0, 1) := by decide +kernel
theorem d_X_is_16 : decode prog_1_method_27_code 16 = .ok (.iconst 3, 1) := by decide +kernel
theorem d_X_is_17 : decode prog_1_method_27_code 17 = .ok (.invokestatic 49, 3) := by decide +kernel
theorem d_X_is_20 : decode prog_1_method_27_code 20 = .ok (.ifCond .ne 6, 3) := by decide +kernel
theorem d_X_is_23 : decode prog_1_method_27_code 23 = .ok (.ldc 53, 2) := by decide +kernel
theorem d_X_is_25 : decode prog_1_method_27_code 25 = .ok (.ireturn, 1) := by decide +kernel
theorem d_X_is_26 : decode prog_1_method_27_code 26 = .ok (.aload_n 0, 1) := by decide +kernel
theorem d_X_is_27 : decode prog_1_method_27_code 27 = .ok (.getfield 10, 3) := by decide +kernel
theorem d_X_is_30 : decode prog_1_method_27_code 30 = .ok (.getfield 218, 3) := by decide +kernel
theorem d_X_is_33 : decode prog_1_method_27_code 33 = .ok (.iload_n 1, 1) := by decide +kernel
theorem d_X_is_34 : decode prog_1_method_27_code 34 = .ok (.iload_n 2, 1) := by decide +kernel
theorem d_X_is_35 : decode prog_1_method_27_code 35 = .ok (.invokevirtual 94, 3) := by decide +kernel
theorem d_X_is_38 : decode prog_1_method_27_code 38 = .ok (.ireturn, 1) := by decide +kernel
theorem d_X_board_0 : decode prog_1_method_28_code 0 = .ok (.iconst 1, 1) := by decide +kernel
theorem d_X_board_1 : decode prog_1_method_28_code 1 = .ok (.aload_n 0, 1) := by decide +kernel
theorem d_X_board_2 : decode prog_1_method_28_code 2 = .ok (.getfield 10, 3) := by decide +kernel
theorem d_X_board_5 : decode prog_1_method_28_code 5 = .ok (.getfield 54, 3) := by decide +kernel
theorem d_X_board_8 : decode prog_1_method_28_code 8 = .ok (.getfield 221, 3) := by decide +kernel
theorem d_X_board_11 : decode prog_1_method_28_code 11 = .ok (.ishl, 1) := by decide +kernel
theorem d_X_board_12 : decode prog_1_method_28_code 12 = .ok (.iconst 1, 1) := by decide +kernel
theorem d_X_board_13 : decode prog_1_method_28_code 13 = .ok (.isub, 1) := by decide +kernel
theorem d_X_board_14 : decode prog_1_method_28_code 14 = .ok (.istore 4, 2) := by decide +kernel
theorem d_X_board_16 : decode prog_1_method_28_code 16 = .ok (.iload_n 1, 1) := by decide +kernel
theorem d_X_board_17 : decode prog_1_method_28_code 17 = .ok (.iload 4, 2) := by decide +kernel
theorem d_X_board_19 : decode prog_1_method_28_code 19 = .ok (.iconst (-1), 1) := by decide +kernel
theorem d_X_board_20 : decode prog_1_method_28_code 20 = .ok (.ixor, 1) := by decide +kernel
theorem d_X_board_21 : decode prog_1_method_28_code 21 = .ok (.iand, 1) := by decide +kernel
theorem d_X_board_22 : decode prog_1_method_28_code 22 = .ok (.ifCond .ne 23, 3) := by decide +kernel
theorem d_X_board_25 : decode prog_1_method_28_code 25 = .ok (.iload_n 2, 1) := by decide +kernel
theorem d_X_board_26 : decode prog_1_method_28_code 26 = .ok (.iconst 0, 1) := by decide +kernel
theorem d_X_board_27 : decode prog_1_method_28_code 27 = .ok (.iconst 5, 1) := by decide +kernel
theorem d_X_board_28 : decode prog_1_method_28_code 28 = .ok (.invokestatic 49, 3) := by decide +kernel
theorem d_X_board_31 : decode prog_1_method_28_code 31 = .ok (.ifCond .eq 14, 3) := by decide +kernel
theorem d_X_board_34 : decode prog_1_method_28_code 34 = .ok (.iload_n 3, 1) := by decide +kernel
theorem d_X_board_35 : decode prog_1_method_28_code 35 = .ok (.iconst 0, 1) := by decide +kernel
theorem d_X_board_36 : decode prog_1_method_28_code 36 = .ok (.sipush 9999, 3) := by decide +kernel
theorem d_X_board_39 : decode prog_1_method_28_code 39 = .ok (.invokestatic 49, 3) := by decide +kernel
theorem d_X_board_42 : decode prog_1_method_28_code 42 = .ok (.ifCond .ne 6, 3) := by decide +kernel
theorem d_X_board_45 : decode prog_1_method_28_code 45 = .ok (.ldc 53, 2) := by decide +kernel
theorem d_X_board_47 : decode prog_1_method_28_code 47 = .ok (.ireturn, 1) := by decide +kernel
theorem d_X_board_48 : decode prog_1_method_28_code 48 = .ok (.aload_n 0, 1) := by decide +kernel
theorem d_X_board_49 : decode prog_1_method_28_code 49 = .ok (.getfield 10, 3) := by decide +kernel
theorem d_X_board_52 : decode prog_1_method_28_code 52 = .ok (.iload_n 1, 1) := by decide +kernel
theorem d_X_board_53 : decode prog_1_method_28_code 53 = .ok (.iload_n 2, 1) := by decide +kernel
theorem d_X_board_54 : decode prog_1_method_28_code 54 = .ok (.iload_n 3, 1) := by decide +kernel
theorem d_X_board_55 : decode prog_1_method_28_code 55 = .ok (.invokevirtual 222, 3) := by decide +kernel
theorem d_X_board_58 : decode prog_1_method_28_code 58 = .ok (.ireturn, 1) := by decide +kernel
theorem d_X_hearing_0 : decode prog_1_method_29_code 0 = .ok (.aload_n 0, 1) := by decide +kernel
theorem d_X_hearing_1 : decode prog_1_method_29_code 1 = .ok (.getfield 10, 3) := by decide +kernel
theorem d_X_hearing_4 : decode prog_1_method_29_code 4 = .ok (.getfield 54, 3) := by decide +kernel
theorem d_X_hearing_7 : decode prog_1_method_29_code 7 = .ok (.iload_n 1, 1) := by decide +kernel
theorem d_X_hearing_8 : decode prog_1_method_29_code 8 = .ok (.invokevirtual 90, 3) := by decide +kernel
theorem d_X_hearing_11 : decode prog_1_method_29_code 11 = .ok (.ifCond .eq 20, 3) := by decide +kernel
theorem d_X_hearing_14 : decode prog_1_method_29_code 14 = .ok (.iload_n 2, 1) := by decide +kernel
theorem d_X_hearing_15 : decode prog_1_method_29_code 15 = .ok (.aload_n 0, 1) := by decide +kernel
theorem d_X_hearing_16 : decode prog_1_method_29_code 16 = .ok (.getfield 10, 3) := by decide +kernel
theorem d_X_hearing_19 : decode prog_1_method_29_code 19 = .ok (.getfield 82, 3) := by decide +kernel
theorem d_X_hearing_22 : decode prog_1_method_29_code 22 = .ok (.sipush 2999, 3) := by decide +kernel
theorem d_X_hearing_25 : decode prog_1_method_29_code 25 = .ok (.invokestatic 49, 3) := by decide +kernel
theorem d_X_hearing_28 : decode prog_1_method_29_code 28 = .ok (.ifCond .ne 6, 3) := by decide +kernel
theorem d_X_hearing_31 : decode prog_1_method_29_code 31 = .ok (.ldc 53, 2) := by decide +kernel
theorem d_X_hearing_33 : decode prog_1_method_29_code 33 = .ok (.ireturn, 1) := by decide +kernel
theorem d_X_hearing_34 : decode prog_1_method_29_code 34 = .ok (.aload_n 0, 1) := by decide +kernel
theorem d_X_hearing_35 : decode prog_1_method_29_code 35 = .ok (.getfield 10, 3) := by decide +kernel
theorem d_X_hearing_38 : decode prog_1_method_29_code 38 = .ok (.iload_n 1, 1) := by decide +kernel
theorem d_X_hearing_39 : decode prog_1_method_29_code 39 = .ok (.invokevirtual 115, 3) := by decide +kernel
theorem d_X_hearing_42 : decode prog_1_method_29_code 42 = .ok (.ifCond .ne 16, 3) := by decide +kernel
theorem d_X_hearing_45 : decode prog_1_method_29_code 45 = .ok (.aload_n 0, 1) := by decide +kernel
theorem d_X_hearing_46 : decode prog_1_method_29_code 46 = .ok (.getfield 10, 3) := by decide +kernel
theorem d_X_hearing_49 : decode prog_1_method_29_code 49 = .ok (.iload_n 1, 1) := by decide +kernel
theorem d_X_hearing_50 : decode prog_1_method_29_code 50 = .ok (.invokevirtual 105, 3) := by decide +kernel
theorem d_X_hearing_53 : decode prog_1_method_29_code 53 = .ok (.ldc 217, 2) := by decide +kernel
theorem d_X_hearing_55 : decode prog_1_method_29_code 55 = .ok (.if_icmp .eq 6, 3) := by decide +kernel
theorem d_X_hearing_58 : decode prog_1_method_29_code 58 = .ok (.ldc 118, 2) := by decide +kernel
theorem d_X_hearing_60 : decode prog_1_method_29_code 60 = .ok (.ireturn, 1) := by decide +kernel
theorem d_X_hearing_61 : decode prog_1_method_29_code 61 = .ok (.aload_n 0, 1) := by decide +kernel
theorem d_X_hearing_62 : decode prog_1_method_29_code 62 = .ok (.getfield 10, 3) := by decide +kernel
theorem d_X_hearing_65 : decode prog_1_method_29_code 65 = .ok (.getfield 225, 3) := by decide +kernel
theorem d_X_hearing_68 : decode prog_1_method_29_code 68 = .ok (.invokevirtual 58, 3) := by decide +kernel
theorem d_X_hearing_71 : decode prog_1_method_29_code 71 = .ok (.ifCond .eq 6, 3) := by decide +kernel
theorem d_X_hearing_74 : decode prog_1_method_29_code 74 = .ok (.ldc 73, 2) := by decide +kernel
theorem d_X_hearing_76 : decode prog_1_method_29_code 76 = .ok (.ireturn, 1) := by decide +kernel
theorem d_X_hearing_77 : decode prog_1_method_29_code 77 = .ok (.aload_n 0, 1) := by decide +kernel
theorem d_X_hearing_78 : decode prog_1_method_29_code 78 = .ok (.getfield 10, 3) := by decide +kernel
theorem d_X_hearing_81 : decode prog_1_method_29_code 81 = .ok (.getfield 225, 3) := by decide +kernel
theorem d_X_hearing_84 : decode prog_1_method_29_code 84 = .ok (.iload_n 1, 1) := by decide +kernel
theorem d_X_hearing_85 : decode prog_1_method_29_code 85 = .ok (.iload_n 2, 1) := by decide +kernel
theorem d_X_hearing_86 : decode prog_1_method_29_code 86 = .ok (.iconst 0, 1) := by decide +kernel
theorem d_X_hearing_87 : decode prog_1_method_29_code 87 = .ok (.iconst 0, 1) := by decide +kernel
theorem d_X_hearing_88 : decode prog_1_method_29_code 88 = .ok (.invokevirtual 74, 3) := by decide +kernel
theorem d_X_hearing_91 : decode prog_1_method_29_code 91 = .ok (.ireturn, 1) := by decide +kernel
theorem d_X_heard_0 : decode prog_1_method_30_code 0 = .ok (.aload_n 0, 1) := by decide +kernel
theorem d_X_heard_1 : decode prog_1_method_30_code 1 = .ok (.getfield 10, 3) := by decide +kernel
theorem d_X_heard_4 : decode prog_1_method_30_code 4 = .ok (.getfield 225, 3) := by decide +kernel
theorem d_X_heard_7 : decode prog_1_method_30_code 7 = .ok (.iload_n 1, 1) := by decide +kernel
theorem d_X_heard_8 : decode prog_1_method_30_code 8 = .ok (.invokevirtual 90, 3) := by decide +kernel
theorem d_X_heard_11 : decode prog_1_method_30_code 11 = .ok (.ifCond .eq 12, 3) := by decide +kernel
theorem d_X_heard_14 : decode prog_1_method_30_code 14 = .ok (.iload_n 2, 1) := by decide +kernel
theorem d_X_heard_15 : decode prog_1_method_30_code 15 = .ok (.iconst 0, 1) := by decide +kernel
theorem d_X_heard_16 : decode prog_1_method_30_code 16 = .ok (.iconst 4, 1) := by decide +kernel
theorem d_X_heard_17 : decode prog_1_method_30_code 17 = .ok (.invokestatic 49, 3) := by decide +kernel
theorem d_X_heard_20 : decode prog_1_method_30_code 20 = .ok (.ifCond .ne 6, 3) := by decide +kernel
theorem d_X_heard_23 : decode prog_1_method_30_code 23 = .ok (.ldc 53, 2) := by decide +kernel
theorem d_X_heard_25 : decode prog_1_method_30_code 25 = .ok (.ireturn, 1) := by decide +kernel
theorem d_X_heard_26 : decode prog_1_method_30_code 26 = .ok (.aload_n 0, 1) := by decide +kernel
theorem d_X_heard_27 : decode prog_1_method_30_code 27 = .ok (.getfield 10, 3) := by decide +kernel
theorem d_X_heard_30 : decode prog_1_method_30_code 30 = .ok (.getfield 225, 3) := by decide +kernel
theorem d_X_heard_33 : decode prog_1_method_30_code 33 = .ok (.iload_n 1, 1) := by decide +kernel
theorem d_X_heard_34 : decode prog_1_method_30_code 34 = .ok (.iload_n 2, 1) := by decide +kernel
theorem d_X_heard_35 : decode prog_1_method_30_code 35 = .ok (.invokevirtual 94, 3) := by decide +kernel
theorem d_X_heard_38 : decode prog_1_method_30_code 38 = .ok (.ireturn, 1) := by decide +kernel
theorem d_X_cause_0 : decode prog_1_method_31_code 0 = .ok (.aload_n 0, 1) := by decide +kernel
theorem d_X_cause_1 : decode prog_1_method_31_code 1 = .ok (.getfield 10, 3) := by decide +kernel
theorem d_X_cause_4 : decode prog_1_method_31_code 4 = .ok (.getfield 54, 3) := by decide +kernel
theorem d_X_cause_7 : decode prog_1_method_31_code 7 = .ok (.iload_n 1, 1) := by decide +kernel
theorem d_X_cause_8 : decode prog_1_method_31_code 8 = .ok (.invokevirtual 90, 3) := by decide +kernel
theorem d_X_cause_11 : decode prog_1_method_31_code 11 = .ok (.ifCond .ne 6, 3) := by decide +kernel
theorem d_X_cause_14 : decode prog_1_method_31_code 14 = .ok (.ldc 53, 2) := by decide +kernel
theorem d_X_cause_16 : decode prog_1_method_31_code 16 = .ok (.ireturn, 1) := by decide +kernel
theorem d_X_cause_17 : decode prog_1_method_31_code 17 = .ok (.aload_n 0, 1) := by decide +kernel
theorem d_X_cause_18 : decode prog_1_method_31_code 18 = .ok (.getfield 10, 3) := by decide +kernel
theorem d_X_cause_21 : decode prog_1_method_31_code 21 = .ok (.iload_n 1, 1) := by decide +kernel
theorem d_X_cause_22 : decode prog_1_method_31_code 22 = .ok (.invokevirtual 115, 3) := by decide +kernel
theorem d_X_cause_25 : decode prog_1_method_31_code 25 = .ok (.ifCond .eq 6, 3) := by decide +kernel
theorem d_X_cause_28 : decode prog_1_method_31_code 28 = .ok (.ldc 118, 2) := by decide +kernel
theorem d_X_cause_30 : decode prog_1_method_31_code 30 = .ok (.ireturn, 1) := by decide +kernel
theorem d_X_cause_31 : decode prog_1_method_31_code 31 = .ok (.aload_n 0, 1) := by decide +kernel
theorem d_X_cause_32 : decode prog_1_method_31_code 32 = .ok (.getfield 10, 3) := by decide +kernel
theorem d_X_cause_35 : decode prog_1_method_31_code 35 = .ok (.iload_n 1, 1) := by decide +kernel
theorem d_X_cause_36 : decode prog_1_method_31_code 36 = .ok (.invokevirtual 228, 3) := by decide +kernel
theorem d_X_cause_39 : decode prog_1_method_31_code 39 = .ok (.ireturn, 1) := by decide +kernel
theorem d_X_puts_0 : decode prog_1_method_32_code 0 = .ok (.iload_n 1, 1) := by decide +kernel
theorem d_X_puts_1 : decode prog_1_method_32_code 1 = .ok (.iconst 1, 1) := by decide +kernel
theorem d_X_puts_2 : decode prog_1_method_32_code 2 = .ok (.iconst 4, 1) := by decide +kernel
theorem d_X_puts_3 : decode prog_1_method_32_code 3 = .ok (.invokestatic 49, 3) := by decide +kernel
theorem d_X_puts_6 : decode prog_1_method_32_code 6 = .ok (.ifCond .ne 6, 3) := by decide +kernel
theorem d_X_puts_9 : decode prog_1_method_32_code 9 = .ok (.ldc 53, 2) := by decide +kernel
theorem d_X_puts_11 : decode prog_1_method_32_code 11 = .ok (.ireturn, 1) := by decide +kernel
theorem d_X_puts_12 : decode prog_1_method_32_code 12 = .ok (.aload_n 0, 1) := by decide +kernel
theorem d_X_puts_13 : decode prog_1_method_32_code 13 = .ok (.getfield 10, 3) := by decide +kernel
theorem d_X_puts_16 : decode prog_1_method_32_code 16 = .ok (.iload_n 1, 1) := by decide +kernel
theorem d_X_puts_17 : decode prog_1_method_32_code 17 = .ok (.invokevirtual 231, 3) := by decide +kernel
theorem d_X_puts_20 : decode prog_1_method_32_code 20 = .ok (.ireturn, 1) := by decide +kernel
theorem d_X_recall_0 : decode prog_1_method_33_code 0 = .ok (.aload_n 0, 1) := by decide +kernel
theorem d_X_recall_1 : decode prog_1_method_33_code 1 = .ok (.getfield 10, 3) := by decide +kernel
theorem d_X_recall_4 : decode prog_1_method_33_code 4 = .ok (.getfield 54, 3) := by decide +kernel
theorem d_X_recall_7 : decode prog_1_method_33_code 7 = .ok (.iload_n 1, 1) := by decide +kernel
theorem d_X_recall_8 : decode prog_1_method_33_code 8 = .ok (.invokevirtual 90, 3) := by decide +kernel
theorem d_X_recall_11 : decode prog_1_method_33_code 11 = .ok (.ifCond .ne 6, 3) := by decide +kernel
theorem d_X_recall_14 : decode prog_1_method_33_code 14 = .ok (.ldc 53, 2) := by decide +kernel
theorem d_X_recall_16 : decode prog_1_method_33_code 16 = .ok (.ireturn, 1) := by decide +kernel
theorem d_X_recall_17 : decode prog_1_method_33_code 17 = .ok (.aload_n 0, 1) := by decide +kernel
theorem d_X_recall_18 : decode prog_1_method_33_code 18 = .ok (.getfield 10, 3) := by decide +kernel
theorem d_X_recall_21 : decode prog_1_method_33_code 21 = .ok (.iload_n 1, 1) := by decide +kernel
theorem d_X_recall_22 : decode prog_1_method_33_code 22 = .ok (.invokevirtual 115, 3) := by decide +kernel
theorem d_X_recall_25 : decode prog_1_method_33_code 25 = .ok (.iconst 1, 1) := by decide +kernel
theorem d_X_recall_26 : decode prog_1_method_33_code 26 = .ok (.if_icmp .eq 6, 3) := by decide +kernel
theorem d_X_recall_29 : decode prog_1_method_33_code 29 = .ok (.ldc 118, 2) := by decide +kernel
theorem d_X_recall_31 : decode prog_1_method_33_code 31 = .ok (.ireturn, 1) := by decide +kernel
theorem d_X_recall_32 : decode prog_1_method_33_code 32 = .ok (.aload_n 0, 1) := by decide +kernel
theorem d_X_recall_33 : decode prog_1_method_33_code 33 = .ok (.getfield 10, 3) := by decide +kernel
theorem d_X_recall_36 : decode prog_1_method_33_code 36 = .ok (.getfield 64, 3) := by decide +kernel
theorem d_X_recall_39 : decode prog_1_method_33_code 39 = .ok (.getfield 68, 3) := by decide +kernel
theorem d_X_recall_42 : decode prog_1_method_33_code 42 = .ok (.invokevirtual 58, 3) := by decide +kernel
theorem d_X_recall_45 : decode prog_1_method_33_code 45 = .ok (.ifCond .eq 6, 3) := by decide +kernel
theorem d_X_recall_48 : decode prog_1_method_33_code 48 = .ok (.ldc 73, 2) := by decide +kernel
theorem d_X_recall_50 : decode prog_1_method_33_code 50 = .ok (.ireturn, 1) := by decide +kernel
theorem d_X_recall_51 : decode prog_1_method_33_code 51 = .ok (.aload_n 0, 1) := by decide +kernel
theorem d_X_recall_52 : decode prog_1_method_33_code 52 = .ok (.getfield 10, 3) := by decide +kernel
theorem d_X_recall_55 : decode prog_1_method_33_code 55 = .ok (.getfield 54, 3) := by decide +kernel
theorem d_X_recall_58 : decode prog_1_method_33_code 58 = .ok (.iload_n 1, 1) := by decide +kernel
theorem d_X_recall_59 : decode prog_1_method_33_code 59 = .ok (.iconst 3, 1) := by decide +kernel
theorem d_X_recall_60 : decode prog_1_method_33_code 60 = .ok (.iconst 0, 1) := by decide +kernel
theorem d_X_recall_61 : decode prog_1_method_33_code 61 = .ok (.invokevirtual 78, 3) := by decide +kernel
theorem d_X_recall_64 : decode prog_1_method_33_code 64 = .ok (.aload_n 0, 1) := by decide +kernel
theorem d_X_recall_65 : decode prog_1_method_33_code 65 = .ok (.getfield 10, 3) := by decide +kernel
theorem d_X_recall_68 : decode prog_1_method_33_code 68 = .ok (.getfield 64, 3) := by decide +kernel
theorem d_X_recall_71 : decode prog_1_method_33_code 71 = .ok (.iload_n 1, 1) := by decide +kernel
theorem d_X_recall_72 : decode prog_1_method_33_code 72 = .ok (.aload_n 0, 1) := by decide +kernel
theorem d_X_recall_73 : decode prog_1_method_33_code 73 = .ok (.getfield 10, 3) := by decide +kernel
theorem d_X_recall_76 : decode prog_1_method_33_code 76 = .ok (.getfield 82, 3) := by decide +kernel
theorem d_X_recall_79 : decode prog_1_method_33_code 79 = .ok (.invokevirtual 86, 3) := by decide +kernel
theorem d_X_recall_82 : decode prog_1_method_33_code 82 = .ok (.iconst 1, 1) := by decide +kernel
theorem d_X_recall_83 : decode prog_1_method_33_code 83 = .ok (.ireturn, 1) := by decide +kernel
theorem d_X_unwind_0 : decode prog_1_method_34_code 0 = .ok (.aload_n 0, 1) := by decide +kernel
theorem d_X_unwind_1 : decode prog_1_method_34_code 1 = .ok (.getfield 10, 3) := by decide +kernel
theorem d_X_unwind_4 : decode prog_1_method_34_code 4 = .ok (.getfield 225, 3) := by decide +kernel
theorem d_X_unwind_7 : decode prog_1_method_34_code 7 = .ok (.iload_n 1, 1) := by decide +kernel
theorem d_X_unwind_8 : decode prog_1_method_34_code 8 = .ok (.invokevirtual 90, 3) := by decide +kernel
theorem d_X_unwind_11 : decode prog_1_method_34_code 11 = .ok (.ifCond .ne 6, 3) := by decide +kernel
theorem d_X_unwind_14 : decode prog_1_method_34_code 14 = .ok (.ldc 53, 2) := by decide +kernel
theorem d_X_unwind_16 : decode prog_1_method_34_code 16 = .ok (.ireturn, 1) := by decide +kernel
theorem d_X_unwind_17 : decode prog_1_method_34_code 17 = .ok (.aload_n 0, 1) := by decide +kernel
theorem d_X_unwind_18 : decode prog_1_method_34_code 18 = .ok (.getfield 10, 3) := by decide +kernel
theorem d_X_unwind_21 : decode prog_1_method_34_code 21 = .ok (.iload_n 1, 1) := by decide +kernel
theorem d_X_unwind_22 : decode prog_1_method_34_code 22 = .ok (.invokevirtual 234, 3) := by decide +kernel
theorem d_X_unwind_25 : decode prog_1_method_34_code 25 = .ok (.ifCond .ne 6, 3) := by decide +kernel
theorem d_X_unwind_28 : decode prog_1_method_34_code 28 = .ok (.ldc 118, 2) := by decide +kernel
theorem d_X_unwind_30 : decode prog_1_method_34_code 30 = .ok (.ireturn, 1) := by decide +kernel
theorem d_X_unwind_31 : decode prog_1_method_34_code 31 = .ok (.aload_n 0, 1) := by decide +kernel
theorem d_X_unwind_32 : decode prog_1_method_34_code 32 = .ok (.getfield 10, 3) := by decide +kernel
theorem d_X_unwind_35 : decode prog_1_method_34_code 35 = .ok (.iload_n 1, 1) := by decide +kernel
theorem d_X_unwind_36 : decode prog_1_method_34_code 36 = .ok (.invokevirtual 237, 3) := by decide +kernel
theorem d_X_unwind_39 : decode prog_1_method_34_code 39 = .ok (.ifCond .eq 7, 3) := by decide +kernel
theorem d_X_unwind_42 : decode prog_1_method_34_code 42 = .ok (.iconst 1, 1) := by decide +kernel
theorem d_X_unwind_43 : decode prog_1_method_34_code 43 = .ok (.goto 4, 3) := by decide +kernel
theorem d_X_unwind_46 : decode prog_1_method_34_code 46 = .ok (.iconst 0, 1) := by decide +kernel
theorem d_X_unwind_47 : decode prog_1_method_34_code 47 = .ok (.istore_n 2, 1) := by decide +kernel
theorem d_X_unwind_48 : decode prog_1_method_34_code 48 = .ok (.iload_n 2, 1) := by decide +kernel
theorem d_X_unwind_49 : decode prog_1_method_34_code 49 = .ok (.ifCond .ne 22, 3) := by decide +kernel
theorem d_X_unwind_52 : decode prog_1_method_34_code 52 = .ok (.aload_n 0, 1) := by decide +kernel
theorem d_X_unwind_53 : decode prog_1_method_34_code 53 = .ok (.getfield 10, 3) := by decide +kernel
theorem d_X_unwind_56 : decode prog_1_method_34_code 56 = .ok (.getfield 64, 3) := by decide +kernel
theorem d_X_unwind_59 : decode prog_1_method_34_code 59 = .ok (.getfield 68, 3) := by decide +kernel
theorem d_X_unwind_62 : decode prog_1_method_34_code 62 = .ok (.invokevirtual 58, 3) := by decide +kernel
theorem d_X_unwind_65 : decode prog_1_method_34_code 65 = .ok (.ifCond .eq 6, 3) := by decide +kernel
theorem d_X_unwind_68 : decode prog_1_method_34_code 68 = .ok (.ldc 73, 2) := by decide +kernel
theorem d_X_unwind_70 : decode prog_1_method_34_code 70 = .ok (.ireturn, 1) := by decide +kernel
theorem d_X_unwind_71 : decode prog_1_method_34_code 71 = .ok (.aload_n 0, 1) := by decide +kernel
theorem d_X_unwind_72 : decode prog_1_method_34_code 72 = .ok (.getfield 10, 3) := by decide +kernel
theorem d_X_unwind_75 : decode prog_1_method_34_code 75 = .ok (.iload_n 1, 1) := by decide +kernel
theorem d_X_unwind_76 : decode prog_1_method_34_code 76 = .ok (.iload_n 2, 1) := by decide +kernel
theorem d_X_unwind_77 : decode prog_1_method_34_code 77 = .ok (.invokevirtual 240, 3) := by decide +kernel
theorem d_X_unwind_80 : decode prog_1_method_34_code 80 = .ok (.iload_n 2, 1) := by decide +kernel
theorem d_X_unwind_81 : decode prog_1_method_34_code 81 = .ok (.ifCond .eq 7, 3) := by decide +kernel
theorem d_X_unwind_84 : decode prog_1_method_34_code 84 = .ok (.iconst 1, 1) := by decide +kernel
theorem d_X_unwind_85 : decode prog_1_method_34_code 85 = .ok (.goto 4, 3) := by decide +kernel
theorem d_X_unwind_88 : decode prog_1_method_34_code 88 = .ok (.iconst 0, 1) := by decide +kernel
theorem d_X_unwind_89 : decode prog_1_method_34_code 89 = .ok (.ireturn, 1) := by decide +kernel
theorem d_X_run_0 : decode prog_1_method_35_code 0 = .ok (.iload_n 1, 1) := by decide +kernel
theorem d_X_run_1 : decode prog_1_method_35_code 1 = .ok (.iconst 1, 1) := by decide +kernel
theorem d_X_run_2 : decode prog_1_method_35_code 2 = .ok (.bipush 60, 2) := by decide +kernel
theorem d_X_run_4 : decode prog_1_method_35_code 4 = .ok (.invokestatic 49, 3) := by decide +kernel
theorem d_X_run_7 : decode prog_1_method_35_code 7 = .ok (.ifCond .ne 6, 3) := by decide +kernel
theorem d_X_run_10 : decode prog_1_method_35_code 10 = .ok (.ldc 53, 2) := by decide +kernel
theorem d_X_run_12 : decode prog_1_method_35_code 12 = .ok (.ireturn, 1) := by decide +kernel
theorem d_X_run_13 : decode prog_1_method_35_code 13 = .ok (.aload_n 0, 1) := by decide +kernel
theorem d_X_run_14 : decode prog_1_method_35_code 14 = .ok (.getfield 10, 3) := by decide +kernel
theorem d_X_run_17 : decode prog_1_method_35_code 17 = .ok (.getfield 82, 3) := by decide +kernel
theorem d_X_run_20 : decode prog_1_method_35_code 20 = .ok (.iload_n 1, 1) := by decide +kernel
theorem d_X_run_21 : decode prog_1_method_35_code 21 = .ok (.iadd, 1) := by decide +kernel
theorem d_X_run_22 : decode prog_1_method_35_code 22 = .ok (.sipush 2999, 3) := by decide +kernel
theorem d_X_run_25 : decode prog_1_method_35_code 25 = .ok (.if_icmp .le 6, 3) := by decide +kernel
theorem d_X_run_28 : decode prog_1_method_35_code 28 = .ok (.ldc 73, 2) := by decide +kernel
theorem d_X_run_30 : decode prog_1_method_35_code 30 = .ok (.ireturn, 1) := by decide +kernel
theorem d_X_run_31 : decode prog_1_method_35_code 31 = .ok (.iconst 0, 1) := by decide +kernel
theorem d_X_run_32 : decode prog_1_method_35_code 32 = .ok (.istore_n 2, 1) := by decide +kernel
theorem d_X_run_33 : decode prog_1_method_35_code 33 = .ok (.iload_n 2, 1) := by decide +kernel
theorem d_X_run_34 : decode prog_1_method_35_code 34 = .ok (.iload_n 1, 1) := by decide +kernel
theorem d_X_run_35 : decode prog_1_method_35_code 35 = .ok (.if_icmp .ge 16, 3) := by decide +kernel
theorem d_X_run_38 : decode prog_1_method_35_code 38 = .ok (.aload_n 0, 1) := by decide +kernel
theorem d_X_run_39 : decode prog_1_method_35_code 39 = .ok (.getfield 10, 3) := by decide +kernel
theorem d_X_run_42 : decode prog_1_method_35_code 42 = .ok (.invokevirtual 244, 3) := by decide +kernel
theorem d_X_run_45 : decode prog_1_method_35_code 45 = .ok (.iinc 2 1, 3) := by decide +kernel
theorem d_X_run_48 : decode prog_1_method_35_code 48 = .ok (.goto (-15), 3) := by decide +kernel
theorem d_X_run_51 : decode prog_1_method_35_code 51 = .ok (.aload_n 0, 1) := by decide +kernel
theorem d_X_run_52 : decode prog_1_method_35_code 52 = .ok (.getfield 10, 3) := by decide +kernel
theorem d_X_run_55 : decode prog_1_method_35_code 55 = .ok (.getfield 82, 3) := by decide +kernel
theorem d_X_run_58 : decode prog_1_method_35_code 58 = .ok (.ireturn, 1) := by decide +kernel
theorem d_X_table_0 : decode prog_1_method_36_code 0 = .ok (.iload_n 1, 1) := by decide +kernel
theorem d_X_table_1 : decode prog_1_method_36_code 1 = .ok (.iconst 0, 1) := by decide +kernel
theorem d_X_table_2 : decode prog_1_method_36_code 2 = .ok (.bipush 7, 2) := by decide +kernel
theorem d_X_table_4 : decode prog_1_method_36_code 4 = .ok (.invokestatic 49, 3) := by decide +kernel
theorem d_X_table_7 : decode prog_1_method_36_code 7 = .ok (.ifCond .eq 12, 3) := by decide +kernel
theorem d_X_table_10 : decode prog_1_method_36_code 10 = .ok (.iload_n 2, 1) := by decide +kernel
theorem d_X_table_11 : decode prog_1_method_36_code 11 = .ok (.iconst 0, 1) := by decide +kernel
theorem d_X_table_12 : decode prog_1_method_36_code 12 = .ok (.iconst 2, 1) := by decide +kernel
theorem d_X_table_13 : decode prog_1_method_36_code 13 = .ok (.invokestatic 49, 3) := by decide +kernel
theorem d_X_table_16 : decode prog_1_method_36_code 16 = .ok (.ifCond .ne 6, 3) := by decide +kernel
theorem d_X_table_19 : decode prog_1_method_36_code 19 = .ok (.ldc 53, 2) := by decide +kernel
theorem d_X_table_21 : decode prog_1_method_36_code 21 = .ok (.ireturn, 1) := by decide +kernel
theorem d_X_table_22 : decode prog_1_method_36_code 22 = .ok (.iload_n 3, 1) := by decide +kernel
theorem d_X_table_23 : decode prog_1_method_36_code 23 = .ok (.iconst 0, 1) := by decide +kernel
theorem d_X_table_24 : decode prog_1_method_36_code 24 = .ok (.sipush 9999, 3) := by decide +kernel
theorem d_X_table_27 : decode prog_1_method_36_code 27 = .ok (.invokestatic 49, 3) := by decide +kernel
theorem d_X_table_30 : decode prog_1_method_36_code 30 = .ok (.ifCond .ne 6, 3) := by decide +kernel
theorem d_X_table_33 : decode prog_1_method_36_code 33 = .ok (.ldc 53, 2) := by decide +kernel
theorem d_X_table_35 : decode prog_1_method_36_code 35 = .ok (.ireturn, 1) := by decide +kernel
theorem d_X_table_36 : decode prog_1_method_36_code 36 = .ok (.aload_n 0, 1) := by decide +kernel
theorem d_X_table_37 : decode prog_1_method_36_code 37 = .ok (.getfield 10, 3) := by decide +kernel
theorem d_X_table_40 : decode prog_1_method_36_code 40 = .ok (.getfield 247, 3) := by decide +kernel
theorem d_X_table_43 : decode prog_1_method_36_code 43 = .ok (.iload_n 1, 1) := by decide +kernel
theorem d_X_table_44 : decode prog_1_method_36_code 44 = .ok (.iload_n 2, 1) := by decide +kernel
theorem d_X_table_45 : decode prog_1_method_36_code 45 = .ok (.iload_n 3, 1) := by decide +kernel
theorem d_X_table_46 : decode prog_1_method_36_code 46 = .ok (.invokevirtual 111, 3) := by decide +kernel
theorem d_X_table_49 : decode prog_1_method_36_code 49 = .ok (.ireturn, 1) := by decide +kernel
theorem d_X_like_0 : decode prog_1_method_37_code 0 = .ok (.aload_n 0, 1) := by decide +kernel
theorem d_X_like_1 : decode prog_1_method_37_code 1 = .ok (.getfield 10, 3) := by decide +kernel
theorem d_X_like_4 : decode prog_1_method_37_code 4 = .ok (.getfield 54, 3) := by decide +kernel
theorem d_X_like_7 : decode prog_1_method_37_code 7 = .ok (.iload_n 1, 1) := by decide +kernel
theorem d_X_like_8 : decode prog_1_method_37_code 8 = .ok (.invokevirtual 90, 3) := by decide +kernel
theorem d_X_like_11 : decode prog_1_method_37_code 11 = .ok (.ifCond .eq 12, 3) := by decide +kernel
theorem d_X_like_14 : decode prog_1_method_37_code 14 = .ok (.iload_n 2, 1) := by decide +kernel
theorem d_X_like_15 : decode prog_1_method_37_code 15 = .ok (.iconst 0, 1) := by decide +kernel
theorem d_X_like_16 : decode prog_1_method_37_code 16 = .ok (.iconst 2, 1) := by decide +kernel
theorem d_X_like_17 : decode prog_1_method_37_code 17 = .ok (.invokestatic 49, 3) := by decide +kernel
theorem d_X_like_20 : decode prog_1_method_37_code 20 = .ok (.ifCond .ne 6, 3) := by decide +kernel
theorem d_X_like_23 : decode prog_1_method_37_code 23 = .ok (.ldc 53, 2) := by decide +kernel
theorem d_X_like_25 : decode prog_1_method_37_code 25 = .ok (.ireturn, 1) := by decide +kernel
theorem d_X_like_26 : decode prog_1_method_37_code 26 = .ok (.aload_n 0, 1) := by decide +kernel
theorem d_X_like_27 : decode prog_1_method_37_code 27 = .ok (.getfield 10, 3) := by decide +kernel
theorem d_X_like_30 : decode prog_1_method_37_code 30 = .ok (.iload_n 1, 1) := by decide +kernel
theorem d_X_like_31 : decode prog_1_method_37_code 31 = .ok (.iconst 2, 1) := by decide +kernel
theorem d_X_like_32 : decode prog_1_method_37_code 32 = .ok (.invokevirtual 250, 3) := by decide +kernel
theorem d_X_like_35 : decode prog_1_method_37_code 35 = .ok (.istore_n 3, 1) := by decide +kernel
theorem d_X_like_36 : decode prog_1_method_37_code 36 = .ok (.iload_n 3, 1) := by decide +kernel
theorem d_X_like_37 : decode prog_1_method_37_code 37 = .ok (.aload_n 0, 1) := by decide +kernel
theorem d_X_like_38 : decode prog_1_method_37_code 38 = .ok (.getfield 10, 3) := by decide +kernel
theorem d_X_like_41 : decode prog_1_method_37_code 41 = .ok (.iload_n 1, 1) := by decide +kernel
theorem d_X_like_42 : decode prog_1_method_37_code 42 = .ok (.iconst 1, 1) := by decide +kernel
theorem d_X_like_43 : decode prog_1_method_37_code 43 = .ok (.invokevirtual 250, 3) := by decide +kernel
theorem d_X_like_46 : decode prog_1_method_37_code 46 = .ok (.iadd, 1) := by decide +kernel
theorem d_X_like_47 : decode prog_1_method_37_code 47 = .ok (.istore 4, 2) := by decide +kernel
theorem d_X_like_49 : decode prog_1_method_37_code 49 = .ok (.iload_n 2, 1) := by decide +kernel
theorem d_X_like_50 : decode prog_1_method_37_code 50 = .ok (.ifCond .ne 6, 3) := by decide +kernel
theorem d_X_like_53 : decode prog_1_method_37_code 53 = .ok (.iload 4, 2) := by decide +kernel
theorem d_X_like_55 : decode prog_1_method_37_code 55 = .ok (.ireturn, 1) := by decide +kernel
theorem d_X_like_56 : decode prog_1_method_37_code 56 = .ok (.iload_n 2, 1) := by decide +kernel
theorem d_X_like_57 : decode prog_1_method_37_code 57 = .ok (.iconst 1, 1) := by decide +kernel
theorem d_X_like_58 : decode prog_1_method_37_code 58 = .ok (.if_icmp .ne 5, 3) := by decide +kernel
theorem d_X_like_61 : decode prog_1_method_37_code 61 = .ok (.iload_n 3, 1) := by decide +kernel
theorem d_X_like_62 : decode prog_1_method_37_code 62 = .ok (.ireturn, 1) := by decide +kernel
theorem d_X_like_63 : decode prog_1_method_37_code 63 = .ok (.iload 4, 2) := by decide +kernel
theorem d_X_like_65 : decode prog_1_method_37_code 65 = .ok (.ifCond .ne 8, 3) := by decide +kernel
theorem d_X_like_68 : decode prog_1_method_37_code 68 = .ok (.ldc 217, 2) := by decide +kernel
theorem d_X_like_70 : decode prog_1_method_37_code 70 = .ok (.goto 9, 3) := by decide +kernel
theorem d_X_like_73 : decode prog_1_method_37_code 73 = .ok (.iload_n 3, 1) := by decide +kernel
theorem d_X_like_74 : decode prog_1_method_37_code 74 = .ok (.iload 4, 2) := by decide +kernel
theorem d_X_like_76 : decode prog_1_method_37_code 76 = .ok (.invokestatic 253, 3) := by decide +kernel
theorem d_X_like_79 : decode prog_1_method_37_code 79 = .ok (.ireturn, 1) := by decide +kernel
theorem d_X_twice_0 : decode prog_1_method_38_code 0 = .ok (.iload_n 1, 1) := by decide +kernel
theorem d_X_twice_1 : decode prog_1_method_38_code 1 = .ok (.iconst 0, 1) := by decide +kernel
theorem d_X_twice_2 : decode prog_1_method_38_code 2 = .ok (.iconst 1, 1) := by decide +kernel
theorem d_X_twice_3 : decode prog_1_method_38_code 3 = .ok (.invokestatic 49, 3) := by decide +kernel
theorem d_X_twice_6 : decode prog_1_method_38_code 6 = .ok (.ifCond .eq 12, 3) := by decide +kernel
theorem d_X_twice_9 : decode prog_1_method_38_code 9 = .ok (.iload_n 2, 1) := by decide +kernel
theorem d_X_twice_10 : decode prog_1_method_38_code 10 = .ok (.iconst 0, 1) := by decide +kernel
theorem d_X_twice_11 : decode prog_1_method_38_code 11 = .ok (.iconst 1, 1) := by decide +kernel
theorem d_X_twice_12 : decode prog_1_method_38_code 12 = .ok (.invokestatic 49, 3) := by decide +kernel
theorem d_X_twice_15 : decode prog_1_method_38_code 15 = .ok (.ifCond .ne 6, 3) := by decide +kernel
theorem d_X_twice_18 : decode prog_1_method_38_code 18 = .ok (.ldc 53, 2) := by decide +kernel
theorem d_X_twice_20 : decode prog_1_method_38_code 20 = .ok (.ireturn, 1) := by decide +kernel
theorem d_X_twice_21 : decode prog_1_method_38_code 21 = .ok (.aload_n 0, 1) := by decide +kernel
theorem d_X_twice_22 : decode prog_1_method_38_code 22 = .ok (.getfield 10, 3) := by decide +kernel
theorem d_X_twice_25 : decode prog_1_method_38_code 25 = .ok (.getfield 256, 3) := by decide +kernel
theorem d_X_twice_28 : decode prog_1_method_38_code 28 = .ok (.bipush 20, 2) := by decide +kernel
theorem d_X_twice_30 : decode prog_1_method_38_code 30 = .ok (.if_icmp .lt 6, 3) := by decide +kernel
theorem d_X_twice_33 : decode prog_1_method_38_code 33 = .ok (.ldc 73, 2) := by decide +kernel
theorem d_X_twice_35 : decode prog_1_method_38_code 35 = .ok (.ireturn, 1) := by decide +kernel
theorem d_X_twice_36 : decode prog_1_method_38_code 36 = .ok (.aload_n 0, 1) := by decide +kernel
theorem d_X_twice_37 : decode prog_1_method_38_code 37 = .ok (.getfield 10, 3) := by decide +kernel
theorem d_X_twice_40 : decode prog_1_method_38_code 40 = .ok (.dup, 1) := by decide +kernel
theorem d_X_twice_41 : decode prog_1_method_38_code 41 = .ok (.getfield 256, 3) := by decide +kernel
theorem d_X_twice_44 : decode prog_1_method_38_code 44 = .ok (.iconst 1, 1) := by decide +kernel
theorem d_X_twice_45 : decode prog_1_method_38_code 45 = .ok (.iadd, 1) := by decide +kernel
theorem d_X_twice_46 : decode prog_1_method_38_code 46 = .ok (.putfield 256, 3) := by decide +kernel
theorem d_X_twice_49 : decode prog_1_method_38_code 49 = .ok (.iload_n 1, 1) := by decide +kernel
theorem d_X_twice_50 : decode prog_1_method_38_code 50 = .ok (.iload_n 2, 1) := by decide +kernel
theorem d_X_twice_51 : decode prog_1_method_38_code 51 = .ok (.if_icmp .eq 16, 3) := by decide +kernel
theorem d_X_twice_54 : decode prog_1_method_38_code 54 = .ok (.aload_n 0, 1) := by decide +kernel
theorem d_X_twice_55 : decode prog_1_method_38_code 55 = .ok (.getfield 10, 3) := by decide +kernel
theorem d_X_twice_58 : decode prog_1_method_38_code 58 = .ok (.dup, 1) := by decide +kernel
theorem d_X_twice_59 : decode prog_1_method_38_code 59 = .ok (.getfield 259, 3) := by decide +kernel
theorem d_X_twice_62 : decode prog_1_method_38_code 62 = .ok (.iconst 1, 1) := by decide +kernel
theorem d_X_twice_63 : decode prog_1_method_38_code 63 = .ok (.iadd, 1) := by decide +kernel
theorem d_X_twice_64 : decode prog_1_method_38_code 64 = .ok (.putfield 259, 3) := by decide +kernel
theorem d_X_twice_67 : decode prog_1_method_38_code 67 = .ok (.aload_n 0, 1) := by decide +kernel
theorem d_X_twice_68 : decode prog_1_method_38_code 68 = .ok (.getfield 10, 3) := by decide +kernel
theorem d_X_twice_71 : decode prog_1_method_38_code 71 = .ok (.getfield 256, 3) := by decide +kernel
theorem d_X_twice_74 : decode prog_1_method_38_code 74 = .ok (.ireturn, 1) := by decide +kernel
theorem d_X_spread_0 : decode prog_1_method_39_code 0 = .ok (.aload_n 0, 1) := by decide +kernel
theorem d_X_spread_1 : decode prog_1_method_39_code 1 = .ok (.getfield 10, 3) := by decide +kernel
theorem d_X_spread_4 : decode prog_1_method_39_code 4 = .ok (.getfield 256, 3) := by decide +kernel
theorem d_X_spread_7 : decode prog_1_method_39_code 7 = .ok (.ifCond .ne 8, 3) := by decide +kernel
theorem d_X_spread_10 : decode prog_1_method_39_code 10 = .ok (.ldc 217, 2) := by decide +kernel
theorem d_X_spread_12 : decode prog_1_method_39_code 12 = .ok (.goto 20, 3) := by decide +kernel
theorem d_X_spread_15 : decode prog_1_method_39_code 15 = .ok (.aload_n 0, 1) := by decide +kernel
theorem d_X_spread_16 : decode prog_1_method_39_code 16 = .ok (.getfield 10, 3) := by decide +kernel
theorem d_X_spread_19 : decode prog_1_method_39_code 19 = .ok (.getfield 259, 3) := by decide +kernel
theorem d_X_spread_22 : decode prog_1_method_39_code 22 = .ok (.aload_n 0, 1) := by decide +kernel
theorem d_X_spread_23 : decode prog_1_method_39_code 23 = .ok (.getfield 10, 3) := by decide +kernel
theorem d_X_spread_26 : decode prog_1_method_39_code 26 = .ok (.getfield 256, 3) := by decide +kernel
theorem d_X_spread_29 : decode prog_1_method_39_code 29 = .ok (.invokestatic 253, 3) := by decide +kernel
theorem d_X_spread_32 : decode prog_1_method_39_code 32 = .ok (.ireturn, 1) := by decide +kernel
theorem d_X_seed_0 : decode prog_1_method_40_code 0 = .ok (.iload_n 1, 1) := by decide +kernel
theorem d_X_seed_1 : decode prog_1_method_40_code 1 = .ok (.iconst 0, 1) := by decide +kernel
theorem d_X_seed_2 : decode prog_1_method_40_code 2 = .ok (.ldc_w 262, 3) := by decide +kernel
theorem d_X_seed_5 : decode prog_1_method_40_code 5 = .ok (.invokestatic 49, 3) := by decide +kernel
theorem d_X_seed_8 : decode prog_1_method_40_code 8 = .ok (.ifCond .ne 6, 3) := by decide +kernel
theorem d_X_seed_11 : decode prog_1_method_40_code 11 = .ok (.ldc 53, 2) := by decide +kernel
theorem d_X_seed_13 : decode prog_1_method_40_code 13 = .ok (.ireturn, 1) := by decide +kernel
theorem d_X_seed_14 : decode prog_1_method_40_code 14 = .ok (.aload_n 0, 1) := by decide +kernel
theorem d_X_seed_15 : decode prog_1_method_40_code 15 = .ok (.getfield 10, 3) := by decide +kernel
theorem d_X_seed_18 : decode prog_1_method_40_code 18 = .ok (.getfield 263, 3) := by decide +kernel
theorem d_X_seed_21 : decode prog_1_method_40_code 21 = .ok (.istore_n 2, 1) := by decide +kernel
theorem d_X_seed_22 : decode prog_1_method_40_code 22 = .ok (.aload_n 0, 1) := by decide +kernel
theorem d_X_seed_23 : decode prog_1_method_40_code 23 = .ok (.getfield 10, 3) := by decide +kernel
theorem d_X_seed_26 : decode prog_1_method_40_code 26 = .ok (.iload_n 1, 1) := by decide +kernel
theorem d_X_seed_27 : decode prog_1_method_40_code 27 = .ok (.putfield 263, 3) := by decide +kernel
theorem d_X_seed_30 : decode prog_1_method_40_code 30 = .ok (.iload_n 2, 1) := by decide +kernel
theorem d_X_seed_31 : decode prog_1_method_40_code 31 = .ok (.ireturn, 1) := by decide +kernel
theorem d_X_draw_0 : decode prog_1_method_41_code 0 = .ok (.aload_n 0, 1) := by decide +kernel
theorem d_X_draw_1 : decode prog_1_method_41_code 1 = .ok (.getfield 10, 3) := by decide +kernel
theorem d_X_draw_4 : decode prog_1_method_41_code 4 = .ok (.getfield 218, 3) := by decide +kernel
theorem d_X_draw_7 : decode prog_1_method_41_code 7 = .ok (.getfield 221, 3) := by decide +kernel
theorem d_X_draw_10 : decode prog_1_method_41_code 10 = .ok (.bipush 6, 2) := by decide +kernel
theorem d_X_draw_12 : decode prog_1_method_41_code 12 = .ok (.if_icmp .ge 6, 3) := by decide +kernel
theorem d_X_draw_15 : decode prog_1_method_41_code 15 = .ok (.ldc 118, 2) := by decide +kernel
theorem d_X_draw_17 : decode prog_1_method_41_code 17 = .ok (.ireturn, 1) := by decide +kernel
theorem d_X_draw_18 : decode prog_1_method_41_code 18 = .ok (.aload_n 0, 1) := by decide +kernel
theorem d_X_draw_19 : decode prog_1_method_41_code 19 = .ok (.getfield 10, 3) := by decide +kernel
theorem d_X_draw_22 : decode prog_1_method_41_code 22 = .ok (.iconst 0, 1) := by decide +kernel
theorem d_X_draw_23 : decode prog_1_method_41_code 23 = .ok (.invokevirtual 266, 3) := by decide +kernel
theorem d_X_draw_26 : decode prog_1_method_41_code 26 = .ok (.istore_n 1, 1) := by decide +kernel
theorem d_X_draw_27 : decode prog_1_method_41_code 27 = .ok (.iload_n 1, 1) := by decide +kernel
theorem d_X_draw_28 : decode prog_1_method_41_code 28 = .ok (.sipush 512, 3) := by decide +kernel
theorem d_X_draw_31 : decode prog_1_method_41_code 31 = .ok (.aload_n 0, 1) := by decide +kernel
theorem d_X_draw_32 : decode prog_1_method_41_code 32 = .ok (.getfield 10, 3) := by decide +kernel
theorem d_X_draw_35 : decode prog_1_method_41_code 35 = .ok (.iload_n 1, 1) := by decide +kernel
theorem d_X_draw_36 : decode prog_1_method_41_code 36 = .ok (.invokevirtual 266, 3) := by decide +kernel
theorem d_X_draw_39 : decode prog_1_method_41_code 39 = .ok (.imul, 1) := by decide +kernel
theorem d_X_draw_40 : decode prog_1_method_41_code 40 = .ok (.iadd, 1) := by decide +kernel
theorem d_X_draw_41 : decode prog_1_method_41_code 41 = .ok (.ireturn, 1) := by decide +kernel
theorem d_X_sheetAt_0 : decode prog_1_method_56_code 0 = .ok (.iload_n 1, 1) := by decide +kernel
theorem d_X_sheetAt_1 : decode prog_1_method_56_code 1 = .ok (.iconst 0, 1) := by decide +kernel
theorem d_X_sheetAt_2 : decode prog_1_method_56_code 2 = .ok (.aload_n 0, 1) := by decide +kernel
theorem d_X_sheetAt_3 : decode prog_1_method_56_code 3 = .ok (.getfield 41, 3) := by decide +kernel
theorem d_X_sheetAt_6 : decode prog_1_method_56_code 6 = .ok (.arraylength, 1) := by decide +kernel
theorem d_X_sheetAt_7 : decode prog_1_method_56_code 7 = .ok (.iconst 1, 1) := by decide +kernel
theorem d_X_sheetAt_8 : decode prog_1_method_56_code 8 = .ok (.isub, 1) := by decide +kernel
theorem d_X_sheetAt_9 : decode prog_1_method_56_code 9 = .ok (.invokestatic 49, 3) := by decide +kernel
theorem d_X_sheetAt_12 : decode prog_1_method_56_code 12 = .ok (.ifCond .eq 12, 3) := by decide +kernel
theorem d_X_sheetAt_15 : decode prog_1_method_56_code 15 = .ok (.aload_n 0, 1) := by decide +kernel
theorem d_X_sheetAt_16 : decode prog_1_method_56_code 16 = .ok (.getfield 41, 3) := by decide +kernel
theorem d_X_sheetAt_19 : decode prog_1_method_56_code 19 = .ok (.iload_n 1, 1) := by decide +kernel
theorem d_X_sheetAt_20 : decode prog_1_method_56_code 20 = .ok (.aaload, 1) := by decide +kernel
theorem d_X_sheetAt_21 : decode prog_1_method_56_code 21 = .ok (.goto 4, 3) := by decide +kernel
theorem d_X_sheetAt_24 : decode prog_1_method_56_code 24 = .ok (.aconst_null, 1) := by decide +kernel
theorem d_X_sheetAt_25 : decode prog_1_method_56_code 25 = .ok (.areturn, 1) := by decide +kernel
theorem d_JA_fill_0 : decode prog_21_method_101_code 0 = .ok (.iconst 0, 1) := by decide +kernel
theorem d_JA_fill_1 : decode prog_21_method_101_code 1 = .ok (.istore_n 3, 1) := by decide +kernel
theorem d_JA_fill_2 : decode prog_21_method_101_code 2 = .ok (.aload_n 0, 1) := by decide +kernel
theorem d_JA_fill_3 : decode prog_21_method_101_code 3 = .ok (.arraylength, 1) := by decide +kernel
theorem d_JA_fill_4 : decode prog_21_method_101_code 4 = .ok (.istore 4, 2) := by decide +kernel
theorem d_JA_fill_6 : decode prog_21_method_101_code 6 = .ok (.iload_n 3, 1) := by decide +kernel
theorem d_JA_fill_7 : decode prog_21_method_101_code 7 = .ok (.iload 4, 2) := by decide +kernel
theorem d_JA_fill_9 : decode prog_21_method_101_code 9 = .ok (.if_icmp .ge 13, 3) := by decide +kernel
theorem d_JA_fill_12 : decode prog_21_method_101_code 12 = .ok (.aload_n 0, 1) := by decide +kernel
theorem d_JA_fill_13 : decode prog_21_method_101_code 13 = .ok (.iload_n 3, 1) := by decide +kernel
theorem d_JA_fill_14 : decode prog_21_method_101_code 14 = .ok (.lload_n 1, 1) := by decide +kernel
theorem d_JA_fill_15 : decode prog_21_method_101_code 15 = .ok (.lastore, 1) := by decide +kernel
theorem d_JA_fill_16 : decode prog_21_method_101_code 16 = .ok (.iinc 3 1, 3) := by decide +kernel
theorem d_JA_fill_19 : decode prog_21_method_101_code 19 = .ok (.goto (-13), 3) := by decide +kernel
theorem d_JA_fill_22 : decode prog_21_method_101_code 22 = .ok (.return_, 1) := by decide +kernel
theorem d_X_sheet_0 : decode prog_1_method_42_code 0 = .ok (.aload_n 0, 1) := by decide +kernel
theorem d_X_sheet_1 : decode prog_1_method_42_code 1 = .ok (.iload_n 1, 1) := by decide +kernel
theorem d_X_sheet_2 : decode prog_1_method_42_code 2 = .ok (.invokevirtual 269, 3) := by decide +kernel
theorem d_X_sheet_5 : decode prog_1_method_42_code 5 = .ok (.astore 4, 2) := by decide +kernel
theorem d_X_sheet_7 : decode prog_1_method_42_code 7 = .ok (.aload 4, 2) := by decide +kernel
theorem d_X_sheet_9 : decode prog_1_method_42_code 9 = .ok (.ifnull 12, 3) := by decide +kernel
theorem d_X_sheet_12 : decode prog_1_method_42_code 12 = .ok (.iload_n 2, 1) := by decide +kernel
theorem d_X_sheet_13 : decode prog_1_method_42_code 13 = .ok (.iconst (-1), 1) := by decide +kernel
theorem d_X_sheet_14 : decode prog_1_method_42_code 14 = .ok (.iconst 2, 1) := by decide +kernel
theorem d_X_sheet_15 : decode prog_1_method_42_code 15 = .ok (.invokestatic 49, 3) := by decide +kernel
theorem d_X_sheet_18 : decode prog_1_method_42_code 18 = .ok (.ifCond .ne 6, 3) := by decide +kernel
theorem d_X_sheet_21 : decode prog_1_method_42_code 21 = .ok (.ldc 53, 2) := by decide +kernel
theorem d_X_sheet_23 : decode prog_1_method_42_code 23 = .ok (.ireturn, 1) := by decide +kernel
theorem d_X_sheet_24 : decode prog_1_method_42_code 24 = .ok (.iload_n 2, 1) := by decide +kernel
theorem d_X_sheet_25 : decode prog_1_method_42_code 25 = .ok (.iconst (-1), 1) := by decide +kernel
theorem d_X_sheet_26 : decode prog_1_method_42_code 26 = .ok (.if_icmp .ne 7, 3) := by decide +kernel
theorem d_X_sheet_29 : decode prog_1_method_42_code 29 = .ok (.iconst 0, 1) := by decide +kernel
theorem d_X_sheet_30 : decode prog_1_method_42_code 30 = .ok (.goto 4, 3) := by decide +kernel
theorem d_X_sheet_33 : decode prog_1_method_42_code 33 = .ok (.iload_n 3, 1) := by decide +kernel
theorem d_X_sheet_34 : decode prog_1_method_42_code 34 = .ok (.istore 5, 2) := by decide +kernel
theorem d_X_sheet_36 : decode prog_1_method_42_code 36 = .ok (.iload 5, 2) := by decide +kernel
theorem d_X_sheet_38 : decode prog_1_method_42_code 38 = .ok (.bipush 24, 2) := by decide +kernel
theorem d_X_sheet_40 : decode prog_1_method_42_code 40 = .ok (.if_icmp .le 6, 3) := by decide +kernel
theorem d_X_sheet_43 : decode prog_1_method_42_code 43 = .ok (.ldc 53, 2) := by decide +kernel
theorem d_X_sheet_45 : decode prog_1_method_42_code 45 = .ok (.ireturn, 1) := by decide +kernel
theorem d_X_sheet_46 : decode prog_1_method_42_code 46 = .ok (.iload 5, 2) := by decide +kernel
theorem d_X_sheet_48 : decode prog_1_method_42_code 48 = .ok (.ifCond .ge 7, 3) := by decide +kernel
theorem d_X_sheet_51 : decode prog_1_method_42_code 51 = .ok (.ldc_w 273, 3) := by decide +kernel
theorem d_X_sheet_54 : decode prog_1_method_42_code 54 = .ok (.ireturn, 1) := by decide +kernel
theorem d_X_sheet_55 : decode prog_1_method_42_code 55 = .ok (.aload 4, 2) := by decide +kernel
theorem d_X_sheet_57 : decode prog_1_method_42_code 57 = .ok (.iload_n 2, 1) := by decide +kernel
theorem d_X_sheet_58 : decode prog_1_method_42_code 58 = .ok (.iload 5, 2) := by decide +kernel
theorem d_X_sheet_60 : decode prog_1_method_42_code 60 = .ok (.invokevirtual 274, 3) := by decide +kernel
theorem d_X_sheet_63 : decode prog_1_method_42_code 63 = .ok (.iload 5, 2) := by decide +kernel
theorem d_X_sheet_65 : decode prog_1_method_42_code 65 = .ok (.ireturn, 1) := by decide +kernel
theorem d_X_add_0 : decode prog_1_method_43_code 0 = .ok (.aload_n 0, 1) := by decide +kernel
theorem d_X_add_1 : decode prog_1_method_43_code 1 = .ok (.iload_n 1, 1) := by decide +kernel
theorem d_X_add_2 : decode prog_1_method_43_code 2 = .ok (.invokevirtual 269, 3) := by decide +kernel
theorem d_X_add_5 : decode prog_1_method_43_code 5 = .ok (.astore 4, 2) := by decide +kernel
theorem d_X_add_7 : decode prog_1_method_43_code 7 = .ok (.aload 4, 2) := by decide +kernel
theorem d_X_add_9 : decode prog_1_method_43_code 9 = .ok (.ifnonnull 6, 3) := by decide +kernel
theorem d_X_add_12 : decode prog_1_method_43_code 12 = .ok (.ldc 53, 2) := by decide +kernel
theorem d_X_add_14 : decode prog_1_method_43_code 14 = .ok (.ireturn, 1) := by decide +kernel
theorem d_X_add_15 : decode prog_1_method_43_code 15 = .ok (.aload 4, 2) := by decide +kernel
theorem d_X_add_17 : decode prog_1_method_43_code 17 = .ok (.getfield 277, 3) := by decide +kernel
theorem d_X_add_20 : decode prog_1_method_43_code 20 = .ok (.iconst (-1), 1) := by decide +kernel
theorem d_X_add_21 : decode prog_1_method_43_code 21 = .ok (.if_icmp .ne 7, 3) := by decide +kernel
theorem d_X_add_24 : decode prog_1_method_43_code 24 = .ok (.ldc_w 280, 3) := by decide +kernel
theorem d_X_add_27 : decode prog_1_method_43_code 27 = .ok (.ireturn, 1) := by decide +kernel
theorem d_X_add_28 : decode prog_1_method_43_code 28 = .ok (.aload 4, 2) := by decide +kernel
theorem d_X_add_30 : decode prog_1_method_43_code 30 = .ok (.iload_n 2, 1) := by decide +kernel
theorem d_X_add_31 : decode prog_1_method_43_code 31 = .ok (.invokevirtual 281, 3) := by decide +kernel
theorem d_X_add_34 : decode prog_1_method_43_code 34 = .ok (.ifCond .ne 7, 3) := by decide +kernel
theorem d_X_add_37 : decode prog_1_method_43_code 37 = .ok (.ldc_w 282, 3) := by decide +kernel
theorem d_X_add_40 : decode prog_1_method_43_code 40 = .ok (.ireturn, 1) := by decide +kernel
theorem d_X_add_41 : decode prog_1_method_43_code 41 = .ok (.aload 4, 2) := by decide +kernel
theorem d_X_add_43 : decode prog_1_method_43_code 43 = .ok (.iload_n 2, 1) := by decide +kernel
theorem d_X_add_44 : decode prog_1_method_43_code 44 = .ok (.iload_n 3, 1) := by decide +kernel
theorem d_X_add_45 : decode prog_1_method_43_code 45 = .ok (.invokevirtual 283, 3) := by decide +kernel
theorem d_X_add_48 : decode prog_1_method_43_code 48 = .ok (.l2i, 1) := by decide +kernel
theorem d_X_add_49 : decode prog_1_method_43_code 49 = .ok (.ireturn, 1) := by decide +kernel
theorem d_X_copy_0 : decode prog_1_method_44_code 0 = .ok (.aload_n 0, 1) := by decide +kernel
theorem d_X_copy_1 : decode prog_1_method_44_code 1 = .ok (.iload_n 1, 1) := by decide +kernel
theorem d_X_copy_2 : decode prog_1_method_44_code 2 = .ok (.invokevirtual 269, 3) := by decide +kernel
theorem d_X_copy_5 : decode prog_1_method_44_code 5 = .ok (.astore 6, 2) := by decide +kernel
theorem d_X_copy_7 : decode prog_1_method_44_code 7 = .ok (.aload_n 0, 1) := by decide +kernel
theorem d_X_copy_8 : decode prog_1_method_44_code 8 = .ok (.iload_n 3, 1) := by decide +kernel
theorem d_X_copy_9 : decode prog_1_method_44_code 9 = .ok (.invokevirtual 269, 3) := by decide +kernel
theorem d_X_copy_12 : decode prog_1_method_44_code 12 = .ok (.astore 7, 2) := by decide +kernel
theorem d_X_copy_14 : decode prog_1_method_44_code 14 = .ok (.aload 6, 2) := by decide +kernel
theorem d_X_copy_16 : decode prog_1_method_44_code 16 = .ok (.ifnull 8, 3) := by decide +kernel
theorem d_X_copy_19 : decode prog_1_method_44_code 19 = .ok (.aload 7, 2) := by decide +kernel
theorem d_X_copy_21 : decode prog_1_method_44_code 21 = .ok (.ifnonnull 6, 3) := by decide +kernel
theorem d_X_copy_24 : decode prog_1_method_44_code 24 = .ok (.ldc 53, 2) := by decide +kernel
theorem d_X_copy_26 : decode prog_1_method_44_code 26 = .ok (.ireturn, 1) := by decide +kernel
theorem d_X_copy_27 : decode prog_1_method_44_code 27 = .ok (.aload 6, 2) := by decide +kernel
theorem d_X_copy_29 : decode prog_1_method_44_code 29 = .ok (.getfield 277, 3) := by decide +kernel
theorem d_X_copy_32 : decode prog_1_method_44_code 32 = .ok (.iconst (-1), 1) := by decide +kernel
theorem d_X_copy_33 : decode prog_1_method_44_code 33 = .ok (.if_icmp .eq 12, 3) := by decide +kernel
theorem d_X_copy_36 : decode prog_1_method_44_code 36 = .ok (.aload 7, 2) := by decide +kernel
theorem d_X_copy_38 : decode prog_1_method_44_code 38 = .ok (.getfield 277, 3) := by decide +kernel
theorem d_X_copy_41 : decode prog_1_method_44_code 41 = .ok (.iconst (-1), 1) := by decide +kernel
theorem d_X_copy_42 : decode prog_1_method_44_code 42 = .ok (.if_icmp .ne 7, 3) := by decide +kernel
theorem d_X_copy_45 : decode prog_1_method_44_code 45 = .ok (.ldc_w 280, 3) := by decide +kernel
theorem d_X_copy_48 : decode prog_1_method_44_code 48 = .ok (.ireturn, 1) := by decide +kernel
theorem d_X_copy_49 : decode prog_1_method_44_code 49 = .ok (.aload 6, 2) := by decide +kernel
theorem d_X_copy_51 : decode prog_1_method_44_code 51 = .ok (.getfield 277, 3) := by decide +kernel
theorem d_X_copy_54 : decode prog_1_method_44_code 54 = .ok (.aload 7, 2) := by decide +kernel
theorem d_X_copy_56 : decode prog_1_method_44_code 56 = .ok (.getfield 277, 3) := by decide +kernel
theorem d_X_copy_59 : decode prog_1_method_44_code 59 = .ok (.if_icmp .eq 6, 3) := by decide +kernel
theorem d_X_copy_62 : decode prog_1_method_44_code 62 = .ok (.ldc 141, 2) := by decide +kernel
theorem d_X_copy_64 : decode prog_1_method_44_code 64 = .ok (.ireturn, 1) := by decide +kernel
theorem d_X_copy_65 : decode prog_1_method_44_code 65 = .ok (.aload 6, 2) := by decide +kernel
theorem d_X_copy_67 : decode prog_1_method_44_code 67 = .ok (.iload_n 2, 1) := by decide +kernel
theorem d_X_copy_68 : decode prog_1_method_44_code 68 = .ok (.iload 5, 2) := by decide +kernel
theorem d_X_copy_70 : decode prog_1_method_44_code 70 = .ok (.invokevirtual 287, 3) := by decide +kernel
theorem d_X_copy_73 : decode prog_1_method_44_code 73 = .ok (.ifCond .eq 15, 3) := by decide +kernel
theorem d_X_copy_76 : decode prog_1_method_44_code 76 = .ok (.aload 7, 2) := by decide +kernel
theorem d_X_copy_78 : decode prog_1_method_44_code 78 = .ok (.iload 4, 2) := by decide +kernel
theorem d_X_copy_80 : decode prog_1_method_44_code 80 = .ok (.iload 5, 2) := by decide +kernel
theorem d_X_copy_82 : decode prog_1_method_44_code 82 = .ok (.invokevirtual 287, 3) := by decide +kernel
theorem d_X_copy_85 : decode prog_1_method_44_code 85 = .ok (.ifCond .ne 7, 3) := by decide +kernel
theorem d_X_copy_88 : decode prog_1_method_44_code 88 = .ok (.ldc_w 282, 3) := by decide +kernel
theorem d_X_copy_91 : decode prog_1_method_44_code 91 = .ok (.ireturn, 1) := by decide +kernel
theorem d_X_copy_92 : decode prog_1_method_44_code 92 = .ok (.aload 6, 2) := by decide +kernel
theorem d_X_copy_94 : decode prog_1_method_44_code 94 = .ok (.getfield 290, 3) := by decide +kernel
theorem d_X_copy_97 : decode prog_1_method_44_code 97 = .ok (.iload_n 2, 1) := by decide +kernel
theorem d_X_copy_98 : decode prog_1_method_44_code 98 = .ok (.aload 7, 2) := by decide +kernel
theorem d_X_copy_100 : decode prog_1_method_44_code 100 = .ok (.getfield 290, 3) := by decide +kernel
theorem d_X_copy_103 : decode prog_1_method_44_code 103 = .ok (.iload 4, 2) := by decide +kernel
theorem d_X_copy_105 : decode prog_1_method_44_code 105 = .ok (.iload 5, 2) := by decide +kernel
theorem d_X_copy_107 : decode prog_1_method_44_code 107 = .ok (.invokestatic 294, 3) := by decide +kernel
theorem d_X_copy_110 : decode prog_1_method_44_code 110 = .ok (.iload 5, 2) := by decide +kernel
theorem d_X_copy_112 : decode prog_1_method_44_code 112 = .ok (.ireturn, 1) := by decide +kernel
theorem d_X_same_0 : decode prog_1_method_45_code 0 = .ok (.iload_n 1, 1) := by decide +kernel
theorem d_X_same_1 : decode prog_1_method_45_code 1 = .ok (.ifCond .ge 6, 3) := by decide +kernel
theorem d_X_same_4 : decode prog_1_method_45_code 4 = .ok (.ldc 53, 2) := by decide +kernel
theorem d_X_same_6 : decode prog_1_method_45_code 6 = .ok (.ireturn, 1) := by decide +kernel
theorem d_X_same_7 : decode prog_1_method_45_code 7 = .ok (.iconst 0, 1) := by decide +kernel
theorem d_X_same_8 : decode prog_1_method_45_code 8 = .ok (.istore_n 3, 1) := by decide +kernel
theorem d_X_same_9 : decode prog_1_method_45_code 9 = .ok (.iconst 0, 1) := by decide +kernel
theorem d_X_same_10 : decode prog_1_method_45_code 10 = .ok (.istore 4, 2) := by decide +kernel
theorem d_X_same_12 : decode prog_1_method_45_code 12 = .ok (.iload 4, 2) := by decide +kernel
theorem d_X_same_14 : decode prog_1_method_45_code 14 = .ok (.iconst 4, 1) := by decide +kernel
theorem d_X_same_15 : decode prog_1_method_45_code 15 = .ok (.if_icmp .ge 35, 3) := by decide +kernel
theorem d_X_same_18 : decode prog_1_method_45_code 18 = .ok (.aload_n 0, 1) := by decide +kernel
theorem d_X_same_19 : decode prog_1_method_45_code 19 = .ok (.iload 4, 2) := by decide +kernel
theorem d_X_same_21 : decode prog_1_method_45_code 21 = .ok (.invokevirtual 269, 3) := by decide +kernel
theorem d_X_same_24 : decode prog_1_method_45_code 24 = .ok (.astore 5, 2) := by decide +kernel
theorem d_X_same_26 : decode prog_1_method_45_code 26 = .ok (.aload 5, 2) := by decide +kernel
theorem d_X_same_28 : decode prog_1_method_45_code 28 = .ok (.ifnull 16, 3) := by decide +kernel
theorem d_X_same_31 : decode prog_1_method_45_code 31 = .ok (.aload 5, 2) := by decide +kernel
theorem d_X_same_33 : decode prog_1_method_45_code 33 = .ok (.iload_n 1, 1) := by decide +kernel
theorem d_X_same_34 : decode prog_1_method_45_code 34 = .ok (.iload_n 2, 1) := by decide +kernel
theorem d_X_same_35 : decode prog_1_method_45_code 35 = .ok (.invokevirtual 300, 3) := by decide +kernel
theorem d_X_same_38 : decode prog_1_method_45_code 38 = .ok (.ifCond .eq 6, 3) := by decide +kernel
theorem d_X_same_41 : decode prog_1_method_45_code 41 = .ok (.iinc 3 1, 3) := by decide +kernel
theorem d_X_same_44 : decode prog_1_method_45_code 44 = .ok (.iinc 4 1, 3) := by decide +kernel
theorem d_X_same_47 : decode prog_1_method_45_code 47 = .ok (.goto (-35), 3) := by decide +kernel
theorem d_X_same_50 : decode prog_1_method_45_code 50 = .ok (.iload_n 3, 1) := by decide +kernel
theorem d_X_same_51 : decode prog_1_method_45_code 51 = .ok (.ireturn, 1) := by decide +kernel
theorem d_X_tell_0 : decode prog_1_method_46_code 0 = .ok (.aload_n 0, 1) := by decide +kernel
theorem d_X_tell_1 : decode prog_1_method_46_code 1 = .ok (.getfield 303, 3) := by decide +kernel
theorem d_X_tell_4 : decode prog_1_method_46_code 4 = .ok (.iconst 0, 1) := by decide +kernel
theorem d_X_tell_5 : decode prog_1_method_46_code 5 = .ok (.aload_n 0, 1) := by decide +kernel
theorem d_X_tell_6 : decode prog_1_method_46_code 6 = .ok (.getfield 45, 3) := by decide +kernel
theorem d_X_tell_9 : decode prog_1_method_46_code 9 = .ok (.arraylength, 1) := by decide +kernel
theorem d_X_tell_10 : decode prog_1_method_46_code 10 = .ok (.iconst 1, 1) := by decide +kernel
theorem d_X_tell_11 : decode prog_1_method_46_code 11 = .ok (.isub, 1) := by decide +kernel
theorem d_X_tell_12 : decode prog_1_method_46_code 12 = .ok (.invokestatic 49, 3) := by decide +kernel
theorem d_X_tell_15 : decode prog_1_method_46_code 15 = .ok (.ifCond .ne 6, 3) := by decide +kernel
theorem d_X_tell_18 : decode prog_1_method_46_code 18 = .ok (.ldc 73, 2) := by decide +kernel
theorem d_X_tell_20 : decode prog_1_method_46_code 20 = .ok (.ireturn, 1) := by decide +kernel
theorem d_X_tell_21 : decode prog_1_method_46_code 21 = .ok (.aload_n 0, 1) := by decide +kernel
theorem d_X_tell_22 : decode prog_1_method_46_code 22 = .ok (.getfield 45, 3) := by decide +kernel
theorem d_X_tell_25 : decode prog_1_method_46_code 25 = .ok (.aload_n 0, 1) := by decide +kernel
theorem d_X_tell_26 : decode prog_1_method_46_code 26 = .ok (.getfield 303, 3) := by decide +kernel
theorem d_X_tell_29 : decode prog_1_method_46_code 29 = .ok (.iload_n 1, 1) := by decide +kernel
theorem d_X_tell_30 : decode prog_1_method_46_code 30 = .ok (.iastore, 1) := by decide +kernel
theorem d_X_tell_31 : decode prog_1_method_46_code 31 = .ok (.aload_n 0, 1) := by decide +kernel
theorem d_X_tell_32 : decode prog_1_method_46_code 32 = .ok (.dup, 1) := by decide +kernel
theorem d_X_tell_33 : decode prog_1_method_46_code 33 = .ok (.getfield 303, 3) := by decide +kernel
theorem d_X_tell_36 : decode prog_1_method_46_code 36 = .ok (.iconst 1, 1) := by decide +kernel
theorem d_X_tell_37 : decode prog_1_method_46_code 37 = .ok (.iadd, 1) := by decide +kernel
theorem d_X_tell_38 : decode prog_1_method_46_code 38 = .ok (.putfield 303, 3) := by decide +kernel
theorem d_X_tell_41 : decode prog_1_method_46_code 41 = .ok (.aload_n 0, 1) := by decide +kernel
theorem d_X_tell_42 : decode prog_1_method_46_code 42 = .ok (.getfield 303, 3) := by decide +kernel
theorem d_X_tell_45 : decode prog_1_method_46_code 45 = .ok (.ireturn, 1) := by decide +kernel
theorem d_X_waits_0 : decode prog_1_method_57_code 0 = .ok (.iload_n 1, 1) := by decide +kernel
theorem d_X_waits_1 : decode prog_1_method_57_code 1 = .ok (.iload_n 2, 1) := by decide +kernel
theorem d_X_waits_2 : decode prog_1_method_57_code 2 = .ok (.if_icmp .ge 32, 3) := by decide +kernel
theorem d_X_waits_5 : decode prog_1_method_57_code 5 = .ok (.iload_n 1, 1) := by decide +kernel
theorem d_X_waits_6 : decode prog_1_method_57_code 6 = .ok (.iconst 0, 1) := by decide +kernel
theorem d_X_waits_7 : decode prog_1_method_57_code 7 = .ok (.aload_n 0, 1) := by decide +kernel
theorem d_X_waits_8 : decode prog_1_method_57_code 8 = .ok (.getfield 45, 3) := by decide +kernel
theorem d_X_waits_11 : decode prog_1_method_57_code 11 = .ok (.arraylength, 1) := by decide +kernel
theorem d_X_waits_12 : decode prog_1_method_57_code 12 = .ok (.iconst 1, 1) := by decide +kernel
theorem d_X_waits_13 : decode prog_1_method_57_code 13 = .ok (.isub, 1) := by decide +kernel
theorem d_X_waits_14 : decode prog_1_method_57_code 14 = .ok (.invokestatic 49, 3) := by decide +kernel
theorem d_X_waits_17 : decode prog_1_method_57_code 17 = .ok (.ifCond .eq 17, 3) := by decide +kernel
theorem d_X_waits_20 : decode prog_1_method_57_code 20 = .ok (.aload_n 0, 1) := by decide +kernel
theorem d_X_waits_21 : decode prog_1_method_57_code 21 = .ok (.getfield 45, 3) := by decide +kernel
theorem d_X_waits_24 : decode prog_1_method_57_code 24 = .ok (.iload_n 1, 1) := by decide +kernel
theorem d_X_waits_25 : decode prog_1_method_57_code 25 = .ok (.iaload, 1) := by decide +kernel
theorem d_X_waits_26 : decode prog_1_method_57_code 26 = .ok (.iload_n 3, 1) := by decide +kernel
theorem d_X_waits_27 : decode prog_1_method_57_code 27 = .ok (.if_icmp .ne 7, 3) := by decide +kernel
theorem d_X_waits_30 : decode prog_1_method_57_code 30 = .ok (.iconst 1, 1) := by decide +kernel
theorem d_X_waits_31 : decode prog_1_method_57_code 31 = .ok (.goto 4, 3) := by decide +kernel
theorem d_X_waits_34 : decode prog_1_method_57_code 34 = .ok (.iconst 0, 1) := by decide +kernel
theorem d_X_waits_35 : decode prog_1_method_57_code 35 = .ok (.ireturn, 1) := by decide +kernel
theorem d_X_check_0 : decode prog_1_method_47_code 0 = .ok (.aload_n 0, 1) := by decide +kernel
theorem d_X_check_1 : decode prog_1_method_47_code 1 = .ok (.getfield 303, 3) := by decide +kernel
theorem d_X_check_4 : decode prog_1_method_47_code 4 = .ok (.istore_n 2, 1) := by decide +kernel
theorem d_X_check_5 : decode prog_1_method_47_code 5 = .ok (.aload_n 0, 1) := by decide +kernel
theorem d_X_check_6 : decode prog_1_method_47_code 6 = .ok (.iconst 0, 1) := by decide +kernel
theorem d_X_check_7 : decode prog_1_method_47_code 7 = .ok (.putfield 303, 3) := by decide +kernel
theorem d_X_check_10 : decode prog_1_method_47_code 10 = .ok (.iload_n 1, 1) := by decide +kernel
theorem d_X_check_11 : decode prog_1_method_47_code 11 = .ok (.iconst 1, 1) := by decide +kernel
theorem d_X_check_12 : decode prog_1_method_47_code 12 = .ok (.bipush 30, 2) := by decide +kernel
theorem d_X_check_14 : decode prog_1_method_47_code 14 = .ok (.invokestatic 49, 3) := by decide +kernel
theorem d_X_check_17 : decode prog_1_method_47_code 17 = .ok (.ifCond .ne 6, 3) := by decide +kernel
theorem d_X_check_20 : decode prog_1_method_47_code 20 = .ok (.ldc 53, 2) := by decide +kernel
theorem d_X_check_22 : decode prog_1_method_47_code 22 = .ok (.ireturn, 1) := by decide +kernel
theorem d_X_check_23 : decode prog_1_method_47_code 23 = .ok (.aload_n 0, 1) := by decide +kernel
theorem d_X_check_24 : decode prog_1_method_47_code 24 = .ok (.getfield 306, 3) := by decide +kernel
theorem d_X_check_27 : decode prog_1_method_47_code 27 = .ok (.ifCond .ne 6, 3) := by decide +kernel
theorem d_X_check_30 : decode prog_1_method_47_code 30 = .ok (.ldc 118, 2) := by decide +kernel
theorem d_X_check_32 : decode prog_1_method_47_code 32 = .ok (.ireturn, 1) := by decide +kernel
theorem d_X_check_33 : decode prog_1_method_47_code 33 = .ok (.aload_n 0, 1) := by decide +kernel
theorem d_X_check_34 : decode prog_1_method_47_code 34 = .ok (.getfield 19, 3) := by decide +kernel
theorem d_X_check_37 : decode prog_1_method_47_code 37 = .ok (.aload_n 0, 1) := by decide +kernel
theorem d_X_check_38 : decode prog_1_method_47_code 38 = .ok (.getfield 16, 3) := by decide +kernel
theorem d_X_check_41 : decode prog_1_method_47_code 41 = .ok (.invokevirtual 310, 3) := by decide +kernel
theorem d_X_check_44 : decode prog_1_method_47_code 44 = .ok (.iconst 0, 1) := by decide +kernel
theorem d_X_check_45 : decode prog_1_method_47_code 45 = .ok (.istore_n 3, 1) := by decide +kernel
theorem d_X_check_46 : decode prog_1_method_47_code 46 = .ok (.iload_n 3, 1) := by decide +kernel
theorem d_X_check_47 : decode prog_1_method_47_code 47 = .ok (.iload_n 1, 1) := by decide +kernel
theorem d_X_check_48 : decode prog_1_method_47_code 48 = .ok (.if_icmp .ge 67, 3) := by decide +kernel
theorem d_X_check_51 : decode prog_1_method_47_code 51 = .ok (.aload_n 0, 1) := by decide +kernel
theorem d_X_check_52 : decode prog_1_method_47_code 52 = .ok (.getfield 19, 3) := by decide +kernel
theorem d_X_check_55 : decode prog_1_method_47_code 55 = .ok (.invokevirtual 244, 3) := by decide +kernel
theorem d_X_check_58 : decode prog_1_method_47_code 58 = .ok (.aload_n 0, 1) := by decide +kernel
theorem d_X_check_59 : decode prog_1_method_47_code 59 = .ok (.iconst 2, 1) := by decide +kernel
theorem d_X_check_60 : decode prog_1_method_47_code 60 = .ok (.iload_n 3, 1) := by decide +kernel
theorem d_X_check_61 : decode prog_1_method_47_code 61 = .ok (.imul, 1) := by decide +kernel
theorem d_X_check_62 : decode prog_1_method_47_code 62 = .ok (.iload_n 2, 1) := by decide +kernel
theorem d_X_check_63 : decode prog_1_method_47_code 63 = .ok (.aload_n 0, 1) := by decide +kernel
theorem d_X_check_64 : decode prog_1_method_47_code 64 = .ok (.getfield 19, 3) := by decide +kernel
theorem d_X_check_67 : decode prog_1_method_47_code 67 = .ok (.invokevirtual 313, 3) := by decide +kernel
theorem d_X_check_70 : decode prog_1_method_47_code 70 = .ok (.invokevirtual 316, 3) := by decide +kernel
theorem d_X_check_73 : decode prog_1_method_47_code 73 = .ok (.ifCond .ne 9, 3) := by decide +kernel
theorem d_X_check_76 : decode prog_1_method_47_code 76 = .ok (.iconst 1, 1) := by decide +kernel
theorem d_X_check_77 : decode prog_1_method_47_code 77 = .ok (.iconst 2, 1) := by decide +kernel
theorem d_X_check_78 : decode prog_1_method_47_code 78 = .ok (.iload_n 3, 1) := by decide +kernel
theorem d_X_check_79 : decode prog_1_method_47_code 79 = .ok (.imul, 1) := by decide +kernel
theorem d_X_check_80 : decode prog_1_method_47_code 80 = .ok (.iadd, 1) := by decide +kernel
theorem d_X_check_81 : decode prog_1_method_47_code 81 = .ok (.ireturn, 1) := by decide +kernel
theorem d_X_check_82 : decode prog_1_method_47_code 82 = .ok (.aload_n 0, 1) := by decide +kernel
theorem d_X_check_83 : decode prog_1_method_47_code 83 = .ok (.iconst 2, 1) := by decide +kernel
theorem d_X_check_84 : decode prog_1_method_47_code 84 = .ok (.iload_n 3, 1) := by decide +kernel
theorem d_X_check_85 : decode prog_1_method_47_code 85 = .ok (.imul, 1) := by decide +kernel
theorem d_X_check_86 : decode prog_1_method_47_code 86 = .ok (.iconst 1, 1) := by decide +kernel
theorem d_X_check_87 : decode prog_1_method_47_code 87 = .ok (.iadd, 1) := by decide +kernel
theorem d_X_check_88 : decode prog_1_method_47_code 88 = .ok (.iload_n 2, 1) := by decide +kernel
theorem d_X_check_89 : decode prog_1_method_47_code 89 = .ok (.aload_n 0, 1) := by decide +kernel
theorem d_X_check_90 : decode prog_1_method_47_code 90 = .ok (.getfield 19, 3) := by decide +kernel
theorem d_X_check_93 : decode prog_1_method_47_code 93 = .ok (.iconst 1, 1) := by decide +kernel
theorem d_X_check_94 : decode prog_1_method_47_code 94 = .ok (.invokevirtual 319, 3) := by decide +kernel
theorem d_X_check_97 : decode prog_1_method_47_code 97 = .ok (.invokevirtual 316, 3) := by decide +kernel
theorem d_X_check_100 : decode prog_1_method_47_code 100 = .ok (.ifCond .ne 9, 3) := by decide +kernel
theorem d_X_check_103 : decode prog_1_method_47_code 103 = .ok (.iconst 2, 1) := by decide +kernel
theorem d_X_check_104 : decode prog_1_method_47_code 104 = .ok (.iconst 2, 1) := by decide +kernel
theorem d_X_check_105 : decode prog_1_method_47_code 105 = .ok (.iload_n 3, 1) := by decide +kernel
theorem d_X_check_106 : decode prog_1_method_47_code 106 = .ok (.imul, 1) := by decide +kernel
theorem d_X_check_107 : decode prog_1_method_47_code 107 = .ok (.iadd, 1) := by decide +kernel
theorem d_X_check_108 : decode prog_1_method_47_code 108 = .ok (.ireturn, 1) := by decide +kernel
theorem d_X_check_109 : decode prog_1_method_47_code 109 = .ok (.iinc 3 1, 3) := by decide +kernel
theorem d_X_check_112 : decode prog_1_method_47_code 112 = .ok (.goto (-66), 3) := by decide +kernel
theorem d_X_check_115 : decode prog_1_method_47_code 115 = .ok (.iload_n 2, 1) := by decide +kernel
theorem d_X_check_116 : decode prog_1_method_47_code 116 = .ok (.iconst 2, 1) := by decide +kernel
theorem d_X_check_117 : decode prog_1_method_47_code 117 = .ok (.iload_n 1, 1) := by decide +kernel
theorem d_X_check_118 : decode prog_1_method_47_code 118 = .ok (.imul, 1) := by decide +kernel
theorem d_X_check_119 : decode prog_1_method_47_code 119 = .ok (.if_icmp .le 11, 3) := by decide +kernel
theorem d_X_check_122 : decode prog_1_method_47_code 122 = .ok (.iconst 1, 1) := by decide +kernel
theorem d_X_check_123 : decode prog_1_method_47_code 123 = .ok (.iconst 2, 1) := by decide +kernel
theorem d_X_check_124 : decode prog_1_method_47_code 124 = .ok (.iload_n 1, 1) := by decide +kernel
theorem d_X_check_125 : decode prog_1_method_47_code 125 = .ok (.imul, 1) := by decide +kernel
theorem d_X_check_126 : decode prog_1_method_47_code 126 = .ok (.iadd, 1) := by decide +kernel
theorem d_X_check_127 : decode prog_1_method_47_code 127 = .ok (.goto 4, 3) := by decide +kernel
theorem d_X_check_130 : decode prog_1_method_47_code 130 = .ok (.iconst 0, 1) := by decide +kernel
theorem d_X_check_131 : decode prog_1_method_47_code 131 = .ok (.ireturn, 1) := by decide +kernel
theorem d_X_keep_0 : decode prog_1_method_48_code 0 = .ok (.aload_n 0, 1) := by decide +kernel
theorem d_X_keep_1 : decode prog_1_method_48_code 1 = .ok (.getfield 16, 3) := by decide +kernel
theorem d_X_keep_4 : decode prog_1_method_48_code 4 = .ok (.aload_n 0, 1) := by decide +kernel
theorem d_X_keep_5 : decode prog_1_method_48_code 5 = .ok (.getfield 10, 3) := by decide +kernel
theorem d_X_keep_8 : decode prog_1_method_48_code 8 = .ok (.invokevirtual 310, 3) := by decide +kernel
theorem d_X_keep_11 : decode prog_1_method_48_code 11 = .ok (.aload_n 0, 1) := by decide +kernel
theorem d_X_keep_12 : decode prog_1_method_48_code 12 = .ok (.iconst 1, 1) := by decide +kernel
theorem d_X_keep_13 : decode prog_1_method_48_code 13 = .ok (.putfield 306, 3) := by decide +kernel
theorem d_X_keep_16 : decode prog_1_method_48_code 16 = .ok (.aload_n 0, 1) := by decide +kernel
theorem d_X_keep_17 : decode prog_1_method_48_code 17 = .ok (.getfield 10, 3) := by decide +kernel
theorem d_X_keep_20 : decode prog_1_method_48_code 20 = .ok (.getfield 82, 3) := by decide +kernel
theorem d_X_keep_23 : decode prog_1_method_48_code 23 = .ok (.ireturn, 1) := by decide +kernel
theorem d_X_restore_0 : decode prog_1_method_49_code 0 = .ok (.aload_n 0, 1) := by decide +kernel
theorem d_X_restore_1 : decode prog_1_method_49_code 1 = .ok (.getfield 306, 3) := by decide +kernel
theorem d_X_restore_4 : decode prog_1_method_49_code 4 = .ok (.ifCond .ne 6, 3) := by decide +kernel
theorem d_X_restore_7 : decode prog_1_method_49_code 7 = .ok (.ldc 118, 2) := by decide +kernel
theorem d_X_restore_9 : decode prog_1_method_49_code 9 = .ok (.ireturn, 1) := by decide +kernel
theorem d_X_restore_10 : decode prog_1_method_49_code 10 = .ok (.aload_n 0, 1) := by decide +kernel
theorem d_X_restore_11 : decode prog_1_method_49_code 11 = .ok (.getfield 10, 3) := by decide +kernel
theorem d_X_restore_14 : decode prog_1_method_49_code 14 = .ok (.aload_n 0, 1) := by decide +kernel
theorem d_X_restore_15 : decode prog_1_method_49_code 15 = .ok (.getfield 16, 3) := by decide +kernel
theorem d_X_restore_18 : decode prog_1_method_49_code 18 = .ok (.invokevirtual 310, 3) := by decide +kernel
theorem d_X_restore_21 : decode prog_1_method_49_code 21 = .ok (.aload_n 0, 1) := by decide +kernel
theorem d_X_restore_22 : decode prog_1_method_49_code 22 = .ok (.getfield 10, 3) := by decide +kernel
theorem d_X_restore_25 : decode prog_1_method_49_code 25 = .ok (.getfield 82, 3) := by decide +kernel
theorem d_X_restore_28 : decode prog_1_method_49_code 28 = .ok (.ireturn, 1) := by decide +kernel
theorem d_X_count_0 : decode prog_1_method_50_code 0 = .ok (.iload_n 1, 1) := by decide +kernel
theorem d_X_count_1 : decode prog_1_method_50_code 1 = .ok (.tableswitch 270 0 17 #[87, 98, 107, 116, 125, 139, 153, 167, 181, 192, 203, 214, 225, 233, 241, 246, 254, 262], 87) := by decide +kernel
theorem d_X_count_88 : decode prog_1_method_50_code 88 = .ok (.aload_n 0, 1) := by decide +kernel
theorem d_X_count_89 : decode prog_1_method_50_code 89 = .ok (.getfield 10, 3) := by decide +kernel
theorem d_X_count_92 : decode prog_1_method_50_code 92 = .ok (.getfield 54, 3) := by decide +kernel
theorem d_X_count_95 : decode prog_1_method_50_code 95 = .ok (.getfield 221, 3) := by decide +kernel
theorem d_X_count_98 : decode prog_1_method_50_code 98 = .ok (.ireturn, 1) := by decide +kernel
theorem d_X_count_99 : decode prog_1_method_50_code 99 = .ok (.aload_n 0, 1) := by decide +kernel
theorem d_X_count_100 : decode prog_1_method_50_code 100 = .ok (.getfield 10, 3) := by decide +kernel
theorem d_X_count_103 : decode prog_1_method_50_code 103 = .ok (.iconst 0, 1) := by decide +kernel
theorem d_X_count_104 : decode prog_1_method_50_code 104 = .ok (.invokevirtual 319, 3) := by decide +kernel
theorem d_X_count_107 : decode prog_1_method_50_code 107 = .ok (.ireturn, 1) := by decide +kernel
theorem d_X_count_108 : decode prog_1_method_50_code 108 = .ok (.aload_n 0, 1) := by decide +kernel
theorem d_X_count_109 : decode prog_1_method_50_code 109 = .ok (.getfield 10, 3) := by decide +kernel
theorem d_X_count_112 : decode prog_1_method_50_code 112 = .ok (.iconst 1, 1) := by decide +kernel
theorem d_X_count_113 : decode prog_1_method_50_code 113 = .ok (.invokevirtual 319, 3) := by decide +kernel
theorem d_X_count_116 : decode prog_1_method_50_code 116 = .ok (.ireturn, 1) := by decide +kernel
theorem d_X_count_117 : decode prog_1_method_50_code 117 = .ok (.aload_n 0, 1) := by decide +kernel
theorem d_X_count_118 : decode prog_1_method_50_code 118 = .ok (.getfield 10, 3) := by decide +kernel
theorem d_X_count_121 : decode prog_1_method_50_code 121 = .ok (.iconst 2, 1) := by decide +kernel
theorem d_X_count_122 : decode prog_1_method_50_code 122 = .ok (.invokevirtual 319, 3) := by decide +kernel
theorem d_X_count_125 : decode prog_1_method_50_code 125 = .ok (.ireturn, 1) := by decide +kernel
theorem d_X_count_126 : decode prog_1_method_50_code 126 = .ok (.aload_n 0, 1) := by decide +kernel
theorem d_X_count_127 : decode prog_1_method_50_code 127 = .ok (.getfield 10, 3) := by decide +kernel
theorem d_X_count_130 : decode prog_1_method_50_code 130 = .ok (.getfield 64, 3) := by decide +kernel
theorem d_X_count_133 : decode prog_1_method_50_code 133 = .ok (.getfield 119, 3) := by decide +kernel
theorem d_X_count_136 : decode prog_1_method_50_code 136 = .ok (.getfield 221, 3) := by decide +kernel
theorem d_X_count_139 : decode prog_1_method_50_code 139 = .ok (.ireturn, 1) := by decide +kernel
theorem d_X_count_140 : decode prog_1_method_50_code 140 = .ok (.aload_n 0, 1) := by decide +kernel
theorem d_X_count_141 : decode prog_1_method_50_code 141 = .ok (.getfield 10, 3) := by decide +kernel
theorem d_X_count_144 : decode prog_1_method_50_code 144 = .ok (.getfield 64, 3) := by decide +kernel
theorem d_X_count_147 : decode prog_1_method_50_code 147 = .ok (.getfield 68, 3) := by decide +kernel
theorem d_X_count_150 : decode prog_1_method_50_code 150 = .ok (.getfield 221, 3) := by decide +kernel
theorem d_X_count_153 : decode prog_1_method_50_code 153 = .ok (.ireturn, 1) := by decide +kernel
theorem d_X_count_154 : decode prog_1_method_50_code 154 = .ok (.aload_n 0, 1) := by decide +kernel
theorem d_X_count_155 : decode prog_1_method_50_code 155 = .ok (.getfield 10, 3) := by decide +kernel
theorem d_X_count_158 : decode prog_1_method_50_code 158 = .ok (.getfield 64, 3) := by decide +kernel
theorem d_X_count_161 : decode prog_1_method_50_code 161 = .ok (.getfield 122, 3) := by decide +kernel
theorem d_X_count_164 : decode prog_1_method_50_code 164 = .ok (.getfield 221, 3) := by decide +kernel
theorem d_X_count_167 : decode prog_1_method_50_code 167 = .ok (.ireturn, 1) := by decide +kernel
theorem d_X_count_168 : decode prog_1_method_50_code 168 = .ok (.aload_n 0, 1) := by decide +kernel
theorem d_X_count_169 : decode prog_1_method_50_code 169 = .ok (.getfield 10, 3) := by decide +kernel
theorem d_X_count_172 : decode prog_1_method_50_code 172 = .ok (.getfield 64, 3) := by decide +kernel
theorem d_X_count_175 : decode prog_1_method_50_code 175 = .ok (.getfield 137, 3) := by decide +kernel
theorem d_X_count_178 : decode prog_1_method_50_code 178 = .ok (.getfield 221, 3) := by decide +kernel
theorem d_X_count_181 : decode prog_1_method_50_code 181 = .ok (.ireturn, 1) := by decide +kernel
theorem d_X_count_182 : decode prog_1_method_50_code 182 = .ok (.aload_n 0, 1) := by decide +kernel
theorem d_X_count_183 : decode prog_1_method_50_code 183 = .ok (.getfield 10, 3) := by decide +kernel
theorem d_X_count_186 : decode prog_1_method_50_code 186 = .ok (.getfield 166, 3) := by decide +kernel
theorem d_X_count_189 : decode prog_1_method_50_code 189 = .ok (.getfield 322, 3) := by decide +kernel
theorem d_X_count_192 : decode prog_1_method_50_code 192 = .ok (.ireturn, 1) := by decide +kernel
theorem d_X_count_193 : decode prog_1_method_50_code 193 = .ok (.aload_n 0, 1) := by decide +kernel
theorem d_X_count_194 : decode prog_1_method_50_code 194 = .ok (.getfield 10, 3) := by decide +kernel
theorem d_X_count_197 : decode prog_1_method_50_code 197 = .ok (.getfield 208, 3) := by decide +kernel
theorem d_X_count_200 : decode prog_1_method_50_code 200 = .ok (.getfield 221, 3) := by decide +kernel
theorem d_X_count_203 : decode prog_1_method_50_code 203 = .ok (.ireturn, 1) := by decide +kernel
theorem d_X_count_204 : decode prog_1_method_50_code 204 = .ok (.aload_n 0, 1) := by decide +kernel
theorem d_X_count_205 : decode prog_1_method_50_code 205 = .ok (.getfield 10, 3) := by decide +kernel
theorem d_X_count_208 : decode prog_1_method_50_code 208 = .ok (.getfield 218, 3) := by decide +kernel
theorem d_X_count_211 : decode prog_1_method_50_code 211 = .ok (.getfield 221, 3) := by decide +kernel
theorem d_X_count_214 : decode prog_1_method_50_code 214 = .ok (.ireturn, 1) := by decide +kernel
theorem d_X_count_215 : decode prog_1_method_50_code 215 = .ok (.aload_n 0, 1) := by decide +kernel
theorem d_X_count_216 : decode prog_1_method_50_code 216 = .ok (.getfield 10, 3) := by decide +kernel
theorem d_X_count_219 : decode prog_1_method_50_code 219 = .ok (.getfield 225, 3) := by decide +kernel
theorem d_X_count_222 : decode prog_1_method_50_code 222 = .ok (.getfield 221, 3) := by decide +kernel
theorem d_X_count_225 : decode prog_1_method_50_code 225 = .ok (.ireturn, 1) := by decide +kernel
theorem d_X_count_226 : decode prog_1_method_50_code 226 = .ok (.aload_n 0, 1) := by decide +kernel
theorem d_X_count_227 : decode prog_1_method_50_code 227 = .ok (.getfield 10, 3) := by decide +kernel
theorem d_X_count_230 : decode prog_1_method_50_code 230 = .ok (.invokevirtual 323, 3) := by decide +kernel
theorem d_X_count_233 : decode prog_1_method_50_code 233 = .ok (.ireturn, 1) := by decide +kernel
theorem d_X_count_234 : decode prog_1_method_50_code 234 = .ok (.aload_n 0, 1) := by decide +kernel
theorem d_X_count_235 : decode prog_1_method_50_code 235 = .ok (.getfield 10, 3) := by decide +kernel
theorem d_X_count_238 : decode prog_1_method_50_code 238 = .ok (.getfield 256, 3) := by decide +kernel
theorem d_X_count_241 : decode prog_1_method_50_code 241 = .ok (.ireturn, 1) := by decide +kernel
theorem d_X_count_242 : decode prog_1_method_50_code 242 = .ok (.aload_n 0, 1) := by decide +kernel
theorem d_X_count_243 : decode prog_1_method_50_code 243 = .ok (.getfield 303, 3) := by decide +kernel
theorem d_X_count_246 : decode prog_1_method_50_code 246 = .ok (.ireturn, 1) := by decide +kernel
theorem d_X_count_247 : decode prog_1_method_50_code 247 = .ok (.aload_n 0, 1) := by decide +kernel
theorem d_X_count_248 : decode prog_1_method_50_code 248 = .ok (.getfield 25, 3) := by decide +kernel
theorem d_X_count_251 : decode prog_1_method_50_code 251 = .ok (.getfield 159, 3) := by decide +kernel
theorem d_X_count_254 : decode prog_1_method_50_code 254 = .ok (.ireturn, 1) := by decide +kernel
theorem d_X_count_255 : decode prog_1_method_50_code 255 = .ok (.aload_n 0, 1) := by decide +kernel
theorem d_X_count_256 : decode prog_1_method_50_code 256 = .ok (.getfield 10, 3) := by decide +kernel
theorem d_X_count_259 : decode prog_1_method_50_code 259 = .ok (.getfield 82, 3) := by decide +kernel
theorem d_X_count_262 : decode prog_1_method_50_code 262 = .ok (.ireturn, 1) := by decide +kernel
theorem d_X_count_263 : decode prog_1_method_50_code 263 = .ok (.aload_n 0, 1) := by decide +kernel
theorem d_X_count_264 : decode prog_1_method_50_code 264 = .ok (.getfield 10, 3) := by decide +kernel
theorem d_X_count_267 : decode prog_1_method_50_code 267 = .ok (.getfield 263, 3) := by decide +kernel
theorem d_X_count_270 : decode prog_1_method_50_code 270 = .ok (.ireturn, 1) := by decide +kernel
theorem d_X_count_271 : decode prog_1_method_50_code 271 = .ok (.ldc 53, 2) := by decide +kernel
theorem d_X_count_273 : decode prog_1_method_50_code 273 = .ok (.ireturn, 1) := by decide +kernel
