/-! decode rows -/
theorem d_R_init_0 : decode prog_4_method_1_code 0 = .ok (.aload_n 0, 1) := by decide +kernel
theorem d_R_init_1 : decode prog_4_method_1_code 1 = .ok (.invokespecial 1, 3) := by decide +kernel
theorem d_R_init_4 : decode prog_4_method_1_code 4 = .ok (.aload_n 0, 1) := by decide +kernel
theorem d_R_init_5 : decode prog_4_method_1_code 5 = .ok (.iload_n 1, 1) := by decide +kernel
theorem d_R_init_6 : decode prog_4_method_1_code 6 = .ok (.putfield 7, 3) := by decide +kernel
theorem d_R_init_9 : decode prog_4_method_1_code 9 = .ok (.aload_n 0, 1) := by decide +kernel
theorem d_R_init_10 : decode prog_4_method_1_code 10 = .ok (.iload_n 2, 1) := by decide +kernel
theorem d_R_init_11 : decode prog_4_method_1_code 11 = .ok (.putfield 13, 3) := by decide +kernel
theorem d_R_init_14 : decode prog_4_method_1_code 14 = .ok (.aload_n 0, 1) := by decide +kernel
theorem d_R_init_15 : decode prog_4_method_1_code 15 = .ok (.iconst 0, 1) := by decide +kernel
theorem d_R_init_16 : decode prog_4_method_1_code 16 = .ok (.iload_n 1, 1) := by decide +kernel
theorem d_R_init_17 : decode prog_4_method_1_code 17 = .ok (.iload_n 2, 1) := by decide +kernel
theorem d_R_init_18 : decode prog_4_method_1_code 18 = .ok (.imul, 1) := by decide +kernel
theorem d_R_init_19 : decode prog_4_method_1_code 19 = .ok (.invokestatic 16, 3) := by decide +kernel
theorem d_R_init_22 : decode prog_4_method_1_code 22 = .ok (.newarray .int, 2) := by decide +kernel
theorem d_R_init_24 : decode prog_4_method_1_code 24 = .ok (.putfield 22, 3) := by decide +kernel
theorem d_R_init_27 : decode prog_4_method_1_code 27 = .ok (.return_, 1) := by decide +kernel
theorem d_I_init_0 : decode prog_10_method_1_code 0 = .ok (.aload_n 0, 1) := by decide +kernel
theorem d_I_init_1 : decode prog_10_method_1_code 1 = .ok (.invokespecial 3, 3) := by decide +kernel
theorem d_I_init_4 : decode prog_10_method_1_code 4 = .ok (.aload_n 0, 1) := by decide +kernel
theorem d_I_init_5 : decode prog_10_method_1_code 5 = .ok (.new 9, 3) := by decide +kernel
theorem d_I_init_8 : decode prog_10_method_1_code 8 = .ok (.dup, 1) := by decide +kernel
theorem d_I_init_9 : decode prog_10_method_1_code 9 = .ok (.bipush 24, 2) := by decide +kernel
theorem d_I_init_11 : decode prog_10_method_1_code 11 = .ok (.iconst 3, 1) := by decide +kernel
theorem d_I_init_12 : decode prog_10_method_1_code 12 = .ok (.invokespecial 11, 3) := by decide +kernel
theorem d_I_init_15 : decode prog_10_method_1_code 15 = .ok (.putfield 14, 3) := by decide +kernel
theorem d_I_init_18 : decode prog_10_method_1_code 18 = .ok (.aload_n 0, 1) := by decide +kernel
theorem d_I_init_19 : decode prog_10_method_1_code 19 = .ok (.new 9, 3) := by decide +kernel
theorem d_I_init_22 : decode prog_10_method_1_code 22 = .ok (.dup, 1) := by decide +kernel
theorem d_I_init_23 : decode prog_10_method_1_code 23 = .ok (.bipush 30, 2) := by decide +kernel
theorem d_I_init_25 : decode prog_10_method_1_code 25 = .ok (.iconst 3, 1) := by decide +kernel
theorem d_I_init_26 : decode prog_10_method_1_code 26 = .ok (.invokespecial 11, 3) := by decide +kernel
theorem d_I_init_29 : decode prog_10_method_1_code 29 = .ok (.putfield 20, 3) := by decide +kernel
theorem d_I_init_32 : decode prog_10_method_1_code 32 = .ok (.aload_n 0, 1) := by decide +kernel
theorem d_I_init_33 : decode prog_10_method_1_code 33 = .ok (.new 9, 3) := by decide +kernel
theorem d_I_init_36 : decode prog_10_method_1_code 36 = .ok (.dup, 1) := by decide +kernel
theorem d_I_init_37 : decode prog_10_method_1_code 37 = .ok (.bipush 20, 2) := by decide +kernel
theorem d_I_init_39 : decode prog_10_method_1_code 39 = .ok (.iconst 3, 1) := by decide +kernel
theorem d_I_init_40 : decode prog_10_method_1_code 40 = .ok (.invokespecial 11, 3) := by decide +kernel
theorem d_I_init_43 : decode prog_10_method_1_code 43 = .ok (.putfield 23, 3) := by decide +kernel
theorem d_I_init_46 : decode prog_10_method_1_code 46 = .ok (.aload_n 0, 1) := by decide +kernel
theorem d_I_init_47 : decode prog_10_method_1_code 47 = .ok (.new 9, 3) := by decide +kernel
theorem d_I_init_50 : decode prog_10_method_1_code 50 = .ok (.dup, 1) := by decide +kernel
theorem d_I_init_51 : decode prog_10_method_1_code 51 = .ok (.bipush 40, 2) := by decide +kernel
theorem d_I_init_53 : decode prog_10_method_1_code 53 = .ok (.iconst 4, 1) := by decide +kernel
theorem d_I_init_54 : decode prog_10_method_1_code 54 = .ok (.invokespecial 11, 3) := by decide +kernel
theorem d_I_init_57 : decode prog_10_method_1_code 57 = .ok (.putfield 26, 3) := by decide +kernel
theorem d_I_init_60 : decode prog_10_method_1_code 60 = .ok (.return_, 1) := by decide +kernel
theorem d_K_init_0 : decode prog_6_method_1_code 0 = .ok (.aload_n 0, 1) := by decide +kernel
theorem d_K_init_1 : decode prog_6_method_1_code 1 = .ok (.invokespecial 1, 3) := by decide +kernel
theorem d_K_init_4 : decode prog_6_method_1_code 4 = .ok (.aload_n 0, 1) := by decide +kernel
theorem d_K_init_5 : decode prog_6_method_1_code 5 = .ok (.bipush 96, 2) := by decide +kernel
theorem d_K_init_7 : decode prog_6_method_1_code 7 = .ok (.newarray .int, 2) := by decide +kernel
theorem d_K_init_9 : decode prog_6_method_1_code 9 = .ok (.putfield 9, 3) := by decide +kernel
theorem d_K_init_12 : decode prog_6_method_1_code 12 = .ok (.return_, 1) := by decide +kernel
theorem d_L_init_0 : decode prog_3_method_1_code 0 = .ok (.aload_n 0, 1) := by decide +kernel
theorem d_L_init_1 : decode prog_3_method_1_code 1 = .ok (.invokespecial 3, 3) := by decide +kernel
theorem d_L_init_4 : decode prog_3_method_1_code 4 = .ok (.aload_n 0, 1) := by decide +kernel
theorem d_L_init_5 : decode prog_3_method_1_code 5 = .ok (.bipush 16, 2) := by decide +kernel
theorem d_L_init_7 : decode prog_3_method_1_code 7 = .ok (.anewarray 9, 3) := by decide +kernel
theorem d_L_init_10 : decode prog_3_method_1_code 10 = .ok (.putfield 11, 3) := by decide +kernel
theorem d_L_init_13 : decode prog_3_method_1_code 13 = .ok (.aload_n 0, 1) := by decide +kernel
theorem d_L_init_14 : decode prog_3_method_1_code 14 = .ok (.new 17, 3) := by decide +kernel
theorem d_L_init_17 : decode prog_3_method_1_code 17 = .ok (.dup, 1) := by decide +kernel
theorem d_L_init_18 : decode prog_3_method_1_code 18 = .ok (.invokespecial 19, 3) := by decide +kernel
theorem d_L_init_21 : decode prog_3_method_1_code 21 = .ok (.putfield 20, 3) := by decide +kernel
theorem d_L_init_24 : decode prog_3_method_1_code 24 = .ok (.return_, 1) := by decide +kernel
theorem d_B_init_0 : decode prog_2_method_1_code 0 = .ok (.aload_n 0, 1) := by decide +kernel
theorem d_B_init_1 : decode prog_2_method_1_code 1 = .ok (.invokespecial 3, 3) := by decide +kernel
theorem d_B_init_4 : decode prog_2_method_1_code 4 = .ok (.aload_n 0, 1) := by decide +kernel
theorem d_B_init_5 : decode prog_2_method_1_code 5 = .ok (.new 9, 3) := by decide +kernel
theorem d_B_init_8 : decode prog_2_method_1_code 8 = .ok (.dup, 1) := by decide +kernel
theorem d_B_init_9 : decode prog_2_method_1_code 9 = .ok (.bipush 12, 2) := by decide +kernel
theorem d_B_init_11 : decode prog_2_method_1_code 11 = .ok (.bipush 6, 2) := by decide +kernel
theorem d_B_init_13 : decode prog_2_method_1_code 13 = .ok (.invokespecial 11, 3) := by decide +kernel
theorem d_B_init_16 : decode prog_2_method_1_code 16 = .ok (.putfield 14, 3) := by decide +kernel
theorem d_B_init_19 : decode prog_2_method_1_code 19 = .ok (.aload_n 0, 1) := by decide +kernel
theorem d_B_init_20 : decode prog_2_method_1_code 20 = .ok (.new 9, 3) := by decide +kernel
theorem d_B_init_23 : decode prog_2_method_1_code 23 = .ok (.dup, 1) := by decide +kernel
theorem d_B_init_24 : decode prog_2_method_1_code 24 = .ok (.bipush 40, 2) := by decide +kernel
theorem d_B_init_26 : decode prog_2_method_1_code 26 = .ok (.iconst 4, 1) := by decide +kernel
theorem d_B_init_27 : decode prog_2_method_1_code 27 = .ok (.invokespecial 11, 3) := by decide +kernel
theorem d_B_init_30 : decode prog_2_method_1_code 30 = .ok (.putfield 20, 3) := by decide +kernel
theorem d_B_init_33 : decode prog_2_method_1_code 33 = .ok (.aload_n 0, 1) := by decide +kernel
theorem d_B_init_34 : decode prog_2_method_1_code 34 = .ok (.new 9, 3) := by decide +kernel
theorem d_B_init_37 : decode prog_2_method_1_code 37 = .ok (.dup, 1) := by decide +kernel
theorem d_B_init_38 : decode prog_2_method_1_code 38 = .ok (.bipush 9, 2) := by decide +kernel
theorem d_B_init_40 : decode prog_2_method_1_code 40 = .ok (.iconst 4, 1) := by decide +kernel
theorem d_B_init_41 : decode prog_2_method_1_code 41 = .ok (.invokespecial 11, 3) := by decide +kernel
theorem d_B_init_44 : decode prog_2_method_1_code 44 = .ok (.putfield 23, 3) := by decide +kernel
theorem d_B_init_47 : decode prog_2_method_1_code 47 = .ok (.aload_n 0, 1) := by decide +kernel
theorem d_B_init_48 : decode prog_2_method_1_code 48 = .ok (.new 9, 3) := by decide +kernel
theorem d_B_init_51 : decode prog_2_method_1_code 51 = .ok (.dup, 1) := by decide +kernel
theorem d_B_init_52 : decode prog_2_method_1_code 52 = .ok (.bipush 30, 2) := by decide +kernel
theorem d_B_init_54 : decode prog_2_method_1_code 54 = .ok (.iconst 5, 1) := by decide +kernel
theorem d_B_init_55 : decode prog_2_method_1_code 55 = .ok (.invokespecial 11, 3) := by decide +kernel
theorem d_B_init_58 : decode prog_2_method_1_code 58 = .ok (.putfield 26, 3) := by decide +kernel
theorem d_B_init_61 : decode prog_2_method_1_code 61 = .ok (.aload_n 0, 1) := by decide +kernel
theorem d_B_init_62 : decode prog_2_method_1_code 62 = .ok (.new 9, 3) := by decide +kernel
theorem d_B_init_65 : decode prog_2_method_1_code 65 = .ok (.dup, 1) := by decide +kernel
theorem d_B_init_66 : decode prog_2_method_1_code 66 = .ok (.bipush 8, 2) := by decide +kernel
theorem d_B_init_68 : decode prog_2_method_1_code 68 = .ok (.iconst 3, 1) := by decide +kernel
theorem d_B_init_69 : decode prog_2_method_1_code 69 = .ok (.invokespecial 11, 3) := by decide +kernel
theorem d_B_init_72 : decode prog_2_method_1_code 72 = .ok (.putfield 29, 3) := by decide +kernel
theorem d_B_init_75 : decode prog_2_method_1_code 75 = .ok (.aload_n 0, 1) := by decide +kernel
theorem d_B_init_76 : decode prog_2_method_1_code 76 = .ok (.new 9, 3) := by decide +kernel
theorem d_B_init_79 : decode prog_2_method_1_code 79 = .ok (.dup, 1) := by decide +kernel
theorem d_B_init_80 : decode prog_2_method_1_code 80 = .ok (.iconst 5, 1) := by decide +kernel
theorem d_B_init_81 : decode prog_2_method_1_code 81 = .ok (.iconst 1, 1) := by decide +kernel
theorem d_B_init_82 : decode prog_2_method_1_code 82 = .ok (.invokespecial 11, 3) := by decide +kernel
theorem d_B_init_85 : decode prog_2_method_1_code 85 = .ok (.putfield 32, 3) := by decide +kernel
theorem d_B_init_88 : decode prog_2_method_1_code 88 = .ok (.aload_n 0, 1) := by decide +kernel
theorem d_B_init_89 : decode prog_2_method_1_code 89 = .ok (.new 35, 3) := by decide +kernel
theorem d_B_init_92 : decode prog_2_method_1_code 92 = .ok (.dup, 1) := by decide +kernel
theorem d_B_init_93 : decode prog_2_method_1_code 93 = .ok (.invokespecial 37, 3) := by decide +kernel
theorem d_B_init_96 : decode prog_2_method_1_code 96 = .ok (.putfield 38, 3) := by decide +kernel
theorem d_B_init_99 : decode prog_2_method_1_code 99 = .ok (.aload_n 0, 1) := by decide +kernel
theorem d_B_init_100 : decode prog_2_method_1_code 100 = .ok (.new 42, 3) := by decide +kernel
theorem d_B_init_103 : decode prog_2_method_1_code 103 = .ok (.dup, 1) := by decide +kernel
theorem d_B_init_104 : decode prog_2_method_1_code 104 = .ok (.invokespecial 44, 3) := by decide +kernel
theorem d_B_init_107 : decode prog_2_method_1_code 107 = .ok (.putfield 45, 3) := by decide +kernel
theorem d_B_init_110 : decode prog_2_method_1_code 110 = .ok (.return_, 1) := by decide +kernel
theorem d_P_init_0 : decode prog_7_method_1_code 0 = .ok (.aload_n 0, 1) := by decide +kernel
theorem d_P_init_1 : decode prog_7_method_1_code 1 = .ok (.invokespecial 1, 3) := by decide +kernel
theorem d_P_init_4 : decode prog_7_method_1_code 4 = .ok (.aload_n 0, 1) := by decide +kernel
theorem d_P_init_5 : decode prog_7_method_1_code 5 = .ok (.bipush 96, 2) := by decide +kernel
theorem d_P_init_7 : decode prog_7_method_1_code 7 = .ok (.newarray .byte, 2) := by decide +kernel
theorem d_P_init_9 : decode prog_7_method_1_code 9 = .ok (.putfield 9, 3) := by decide +kernel
theorem d_P_init_12 : decode prog_7_method_1_code 12 = .ok (.return_, 1) := by decide +kernel
theorem d_D_init_0 : decode prog_9_method_1_code 0 = .ok (.aload_n 0, 1) := by decide +kernel
theorem d_D_init_1 : decode prog_9_method_1_code 1 = .ok (.invokespecial 3, 3) := by decide +kernel
theorem d_D_init_4 : decode prog_9_method_1_code 4 = .ok (.aload_n 0, 1) := by decide +kernel
theorem d_D_init_5 : decode prog_9_method_1_code 5 = .ok (.bipush 96, 2) := by decide +kernel
theorem d_D_init_7 : decode prog_9_method_1_code 7 = .ok (.newarray .int, 2) := by decide +kernel
theorem d_D_init_9 : decode prog_9_method_1_code 9 = .ok (.putfield 11, 3) := by decide +kernel
theorem d_D_init_12 : decode prog_9_method_1_code 12 = .ok (.aload_n 0, 1) := by decide +kernel
theorem d_D_init_13 : decode prog_9_method_1_code 13 = .ok (.aload_n 1, 1) := by decide +kernel
theorem d_D_init_14 : decode prog_9_method_1_code 14 = .ok (.putfield 17, 3) := by decide +kernel
theorem d_D_init_17 : decode prog_9_method_1_code 17 = .ok (.return_, 1) := by decide +kernel
theorem d_S_init_0 : decode prog_5_method_1_code 0 = .ok (.aload_n 0, 1) := by decide +kernel
theorem d_S_init_1 : decode prog_5_method_1_code 1 = .ok (.invokespecial 1, 3) := by decide +kernel
theorem d_S_init_4 : decode prog_5_method_1_code 4 = .ok (.aload_n 0, 1) := by decide +kernel
theorem d_S_init_5 : decode prog_5_method_1_code 5 = .ok (.bipush 24, 2) := by decide +kernel
theorem d_S_init_7 : decode prog_5_method_1_code 7 = .ok (.newarray .long, 2) := by decide +kernel
theorem d_S_init_9 : decode prog_5_method_1_code 9 = .ok (.putfield 9, 3) := by decide +kernel
theorem d_S_init_12 : decode prog_5_method_1_code 12 = .ok (.aload_n 0, 1) := by decide +kernel
theorem d_S_init_13 : decode prog_5_method_1_code 13 = .ok (.iconst (-1), 1) := by decide +kernel
theorem d_S_init_14 : decode prog_5_method_1_code 14 = .ok (.putfield 13, 3) := by decide +kernel
theorem d_S_init_17 : decode prog_5_method_1_code 17 = .ok (.return_, 1) := by decide +kernel
theorem d_R_isFull_0 : decode prog_4_method_3_code 0 = .ok (.aload_n 0, 1) := by decide +kernel
theorem d_R_isFull_1 : decode prog_4_method_3_code 1 = .ok (.getfield 26, 3) := by decide +kernel
theorem d_R_isFull_4 : decode prog_4_method_3_code 4 = .ok (.aload_n 0, 1) := by decide +kernel
theorem d_R_isFull_5 : decode prog_4_method_3_code 5 = .ok (.getfield 7, 3) := by decide +kernel
theorem d_R_isFull_8 : decode prog_4_method_3_code 8 = .ok (.if_icmp .lt 7, 3) := by decide +kernel
theorem d_R_isFull_11 : decode prog_4_method_3_code 11 = .ok (.iconst 1, 1) := by decide +kernel
theorem d_R_isFull_12 : decode prog_4_method_3_code 12 = .ok (.goto 4, 3) := by decide +kernel
theorem d_R_isFull_15 : decode prog_4_method_3_code 15 = .ok (.iconst 0, 1) := by decide +kernel
theorem d_R_isFull_16 : decode prog_4_method_3_code 16 = .ok (.ireturn, 1) := by decide +kernel
theorem d_R_put_0 : decode prog_4_method_5_code 0 = .ok (.iload_n 1, 1) := by decide +kernel
theorem d_R_put_1 : decode prog_4_method_5_code 1 = .ok (.aload_n 0, 1) := by decide +kernel
theorem d_R_put_2 : decode prog_4_method_5_code 2 = .ok (.getfield 13, 3) := by decide +kernel
theorem d_R_put_5 : decode prog_4_method_5_code 5 = .ok (.imul, 1) := by decide +kernel
theorem d_R_put_6 : decode prog_4_method_5_code 6 = .ok (.iload_n 2, 1) := by decide +kernel
theorem d_R_put_7 : decode prog_4_method_5_code 7 = .ok (.iadd, 1) := by decide +kernel
theorem d_R_put_8 : decode prog_4_method_5_code 8 = .ok (.istore 4, 2) := by decide +kernel
theorem d_R_put_10 : decode prog_4_method_5_code 10 = .ok (.iload_n 2, 1) := by decide +kernel
theorem d_R_put_11 : decode prog_4_method_5_code 11 = .ok (.ifCond .lt 26, 3) := by decide +kernel
theorem d_R_put_14 : decode prog_4_method_5_code 14 = .ok (.iload_n 2, 1) := by decide +kernel
theorem d_R_put_15 : decode prog_4_method_5_code 15 = .ok (.aload_n 0, 1) := by decide +kernel
theorem d_R_put_16 : decode prog_4_method_5_code 16 = .ok (.getfield 13, 3) := by decide +kernel
theorem d_R_put_19 : decode prog_4_method_5_code 19 = .ok (.if_icmp .ge 18, 3) := by decide +kernel
theorem d_R_put_22 : decode prog_4_method_5_code 22 = .ok (.iload 4, 2) := by decide +kernel
theorem d_R_put_24 : decode prog_4_method_5_code 24 = .ok (.ifCond .lt 13, 3) := by decide +kernel
theorem d_R_put_27 : decode prog_4_method_5_code 27 = .ok (.iload 4, 2) := by decide +kernel
theorem d_R_put_29 : decode prog_4_method_5_code 29 = .ok (.aload_n 0, 1) := by decide +kernel
theorem d_R_put_30 : decode prog_4_method_5_code 30 = .ok (.getfield 22, 3) := by decide +kernel
theorem d_R_put_33 : decode prog_4_method_5_code 33 = .ok (.arraylength, 1) := by decide +kernel
theorem d_R_put_34 : decode prog_4_method_5_code 34 = .ok (.if_icmp .lt 4, 3) := by decide +kernel
theorem d_R_put_37 : decode prog_4_method_5_code 37 = .ok (.return_, 1) := by decide +kernel
theorem d_R_put_38 : decode prog_4_method_5_code 38 = .ok (.aload_n 0, 1) := by decide +kernel
theorem d_R_put_39 : decode prog_4_method_5_code 39 = .ok (.getfield 22, 3) := by decide +kernel
theorem d_R_put_42 : decode prog_4_method_5_code 42 = .ok (.iload 4, 2) := by decide +kernel
theorem d_R_put_44 : decode prog_4_method_5_code 44 = .ok (.iload_n 3, 1) := by decide +kernel
theorem d_R_put_45 : decode prog_4_method_5_code 45 = .ok (.iastore, 1) := by decide +kernel
theorem d_R_put_46 : decode prog_4_method_5_code 46 = .ok (.return_, 1) := by decide +kernel
theorem d_R_more_0 : decode prog_4_method_7_code 0 = .ok (.aload_n 0, 1) := by decide +kernel
theorem d_R_more_1 : decode prog_4_method_7_code 1 = .ok (.getfield 26, 3) := by decide +kernel
theorem d_R_more_4 : decode prog_4_method_7_code 4 = .ok (.istore 5, 2) := by decide +kernel
theorem d_R_more_6 : decode prog_4_method_7_code 6 = .ok (.aload_n 0, 1) := by decide +kernel
theorem d_R_more_7 : decode prog_4_method_7_code 7 = .ok (.dup, 1) := by decide +kernel
theorem d_R_more_8 : decode prog_4_method_7_code 8 = .ok (.getfield 26, 3) := by decide +kernel
theorem d_R_more_11 : decode prog_4_method_7_code 11 = .ok (.iconst 1, 1) := by decide +kernel
theorem d_R_more_12 : decode prog_4_method_7_code 12 = .ok (.iadd, 1) := by decide +kernel
theorem d_R_more_13 : decode prog_4_method_7_code 13 = .ok (.putfield 26, 3) := by decide +kernel
theorem d_R_more_16 : decode prog_4_method_7_code 16 = .ok (.aload_n 0, 1) := by decide +kernel
theorem d_R_more_17 : decode prog_4_method_7_code 17 = .ok (.iload 5, 2) := by decide +kernel
theorem d_R_more_19 : decode prog_4_method_7_code 19 = .ok (.iconst 0, 1) := by decide +kernel
theorem d_R_more_20 : decode prog_4_method_7_code 20 = .ok (.iload_n 1, 1) := by decide +kernel
theorem d_R_more_21 : decode prog_4_method_7_code 21 = .ok (.invokevirtual 32, 3) := by decide +kernel
theorem d_R_more_24 : decode prog_4_method_7_code 24 = .ok (.aload_n 0, 1) := by decide +kernel
theorem d_R_more_25 : decode prog_4_method_7_code 25 = .ok (.iload 5, 2) := by decide +kernel
theorem d_R_more_27 : decode prog_4_method_7_code 27 = .ok (.iconst 1, 1) := by decide +kernel
theorem d_R_more_28 : decode prog_4_method_7_code 28 = .ok (.iload_n 2, 1) := by decide +kernel
theorem d_R_more_29 : decode prog_4_method_7_code 29 = .ok (.invokevirtual 32, 3) := by decide +kernel
theorem d_R_more_32 : decode prog_4_method_7_code 32 = .ok (.aload_n 0, 1) := by decide +kernel
theorem d_R_more_33 : decode prog_4_method_7_code 33 = .ok (.iload 5, 2) := by decide +kernel
theorem d_R_more_35 : decode prog_4_method_7_code 35 = .ok (.iconst 2, 1) := by decide +kernel
theorem d_R_more_36 : decode prog_4_method_7_code 36 = .ok (.iload_n 3, 1) := by decide +kernel
theorem d_R_more_37 : decode prog_4_method_7_code 37 = .ok (.invokevirtual 32, 3) := by decide +kernel
theorem d_R_more_40 : decode prog_4_method_7_code 40 = .ok (.aload_n 0, 1) := by decide +kernel
theorem d_R_more_41 : decode prog_4_method_7_code 41 = .ok (.iload 5, 2) := by decide +kernel
theorem d_R_more_43 : decode prog_4_method_7_code 43 = .ok (.iconst 3, 1) := by decide +kernel
theorem d_R_more_44 : decode prog_4_method_7_code 44 = .ok (.iload 4, 2) := by decide +kernel
theorem d_R_more_46 : decode prog_4_method_7_code 46 = .ok (.invokevirtual 32, 3) := by decide +kernel
theorem d_R_more_49 : decode prog_4_method_7_code 49 = .ok (.iconst 4, 1) := by decide +kernel
theorem d_R_more_50 : decode prog_4_method_7_code 50 = .ok (.istore 6, 2) := by decide +kernel
theorem d_R_more_52 : decode prog_4_method_7_code 52 = .ok (.iload 6, 2) := by decide +kernel
theorem d_R_more_54 : decode prog_4_method_7_code 54 = .ok (.aload_n 0, 1) := by decide +kernel
theorem d_R_more_55 : decode prog_4_method_7_code 55 = .ok (.getfield 13, 3) := by decide +kernel
theorem d_R_more_58 : decode prog_4_method_7_code 58 = .ok (.if_icmp .ge 18, 3) := by decide +kernel
theorem d_R_more_61 : decode prog_4_method_7_code 61 = .ok (.aload_n 0, 1) := by decide +kernel
theorem d_R_more_62 : decode prog_4_method_7_code 62 = .ok (.iload 5, 2) := by decide +kernel
theorem d_R_more_64 : decode prog_4_method_7_code 64 = .ok (.iload 6, 2) := by decide +kernel
theorem d_R_more_66 : decode prog_4_method_7_code 66 = .ok (.iconst 0, 1) := by decide +kernel
theorem d_R_more_67 : decode prog_4_method_7_code 67 = .ok (.invokevirtual 32, 3) := by decide +kernel
theorem d_R_more_70 : decode prog_4_method_7_code 70 = .ok (.iinc 6 1, 3) := by decide +kernel
theorem d_R_more_73 : decode prog_4_method_7_code 73 = .ok (.goto (-21), 3) := by decide +kernel
theorem d_R_more_76 : decode prog_4_method_7_code 76 = .ok (.iload 5, 2) := by decide +kernel
theorem d_R_more_78 : decode prog_4_method_7_code 78 = .ok (.ireturn, 1) := by decide +kernel
theorem d_I_beginSpan_0 : decode prog_10_method_7_code 0 = .ok (.aload_n 0, 1) := by decide +kernel
theorem d_I_beginSpan_1 : decode prog_10_method_7_code 1 = .ok (.getfield 20, 3) := by decide +kernel
theorem d_I_beginSpan_4 : decode prog_10_method_7_code 4 = .ok (.iload_n 1, 1) := by decide +kernel
theorem d_I_beginSpan_5 : decode prog_10_method_7_code 5 = .ok (.iload_n 2, 1) := by decide +kernel
theorem d_I_beginSpan_6 : decode prog_10_method_7_code 6 = .ok (.ldc 56, 2) := by decide +kernel
theorem d_I_beginSpan_8 : decode prog_10_method_7_code 8 = .ok (.iconst 0, 1) := by decide +kernel
theorem d_I_beginSpan_9 : decode prog_10_method_7_code 9 = .ok (.invokevirtual 57, 3) := by decide +kernel
theorem d_I_beginSpan_12 : decode prog_10_method_7_code 12 = .ok (.pop, 1) := by decide +kernel
theorem d_I_beginSpan_13 : decode prog_10_method_7_code 13 = .ok (.return_, 1) := by decide +kernel
theorem d_R_has_0 : decode prog_4_method_2_code 0 = .ok (.iload_n 1, 1) := by decide +kernel
theorem d_R_has_1 : decode prog_4_method_2_code 1 = .ok (.ifCond .lt 15, 3) := by decide +kernel
theorem d_R_has_4 : decode prog_4_method_2_code 4 = .ok (.iload_n 1, 1) := by decide +kernel
theorem d_R_has_5 : decode prog_4_method_2_code 5 = .ok (.aload_n 0, 1) := by decide +kernel
theorem d_R_has_6 : decode prog_4_method_2_code 6 = .ok (.getfield 26, 3) := by decide +kernel
theorem d_R_has_9 : decode prog_4_method_2_code 9 = .ok (.if_icmp .ge 7, 3) := by decide +kernel
theorem d_R_has_12 : decode prog_4_method_2_code 12 = .ok (.iconst 1, 1) := by decide +kernel
theorem d_R_has_13 : decode prog_4_method_2_code 13 = .ok (.goto 4, 3) := by decide +kernel
theorem d_R_has_16 : decode prog_4_method_2_code 16 = .ok (.iconst 0, 1) := by decide +kernel
theorem d_R_has_17 : decode prog_4_method_2_code 17 = .ok (.ireturn, 1) := by decide +kernel
theorem d_R_at_0 : decode prog_4_method_4_code 0 = .ok (.iload_n 1, 1) := by decide +kernel
theorem d_R_at_1 : decode prog_4_method_4_code 1 = .ok (.aload_n 0, 1) := by decide +kernel
theorem d_R_at_2 : decode prog_4_method_4_code 2 = .ok (.getfield 13, 3) := by decide +kernel
theorem d_R_at_5 : decode prog_4_method_4_code 5 = .ok (.imul, 1) := by decide +kernel
theorem d_R_at_6 : decode prog_4_method_4_code 6 = .ok (.iload_n 2, 1) := by decide +kernel
theorem d_R_at_7 : decode prog_4_method_4_code 7 = .ok (.iadd, 1) := by decide +kernel
theorem d_R_at_8 : decode prog_4_method_4_code 8 = .ok (.istore_n 3, 1) := by decide +kernel
theorem d_R_at_9 : decode prog_4_method_4_code 9 = .ok (.iload_n 2, 1) := by decide +kernel
theorem d_R_at_10 : decode prog_4_method_4_code 10 = .ok (.ifCond .lt 24, 3) := by decide +kernel
theorem d_R_at_13 : decode prog_4_method_4_code 13 = .ok (.iload_n 2, 1) := by decide +kernel
theorem d_R_at_14 : decode prog_4_method_4_code 14 = .ok (.aload_n 0, 1) := by decide +kernel
theorem d_R_at_15 : decode prog_4_method_4_code 15 = .ok (.getfield 13, 3) := by decide +kernel
theorem d_R_at_18 : decode prog_4_method_4_code 18 = .ok (.if_icmp .ge 16, 3) := by decide +kernel
theorem d_R_at_21 : decode prog_4_method_4_code 21 = .ok (.iload_n 3, 1) := by decide +kernel
theorem d_R_at_22 : decode prog_4_method_4_code 22 = .ok (.ifCond .lt 12, 3) := by decide +kernel
theorem d_R_at_25 : decode prog_4_method_4_code 25 = .ok (.iload_n 3, 1) := by decide +kernel
theorem d_R_at_26 : decode prog_4_method_4_code 26 = .ok (.aload_n 0, 1) := by decide +kernel
theorem d_R_at_27 : decode prog_4_method_4_code 27 = .ok (.getfield 22, 3) := by decide +kernel
theorem d_R_at_30 : decode prog_4_method_4_code 30 = .ok (.arraylength, 1) := by decide +kernel
theorem d_R_at_31 : decode prog_4_method_4_code 31 = .ok (.if_icmp .lt 5, 3) := by decide +kernel
theorem d_R_at_34 : decode prog_4_method_4_code 34 = .ok (.iconst 0, 1) := by decide +kernel
theorem d_R_at_35 : decode prog_4_method_4_code 35 = .ok (.ireturn, 1) := by decide +kernel
theorem d_R_at_36 : decode prog_4_method_4_code 36 = .ok (.aload_n 0, 1) := by decide +kernel
theorem d_R_at_37 : decode prog_4_method_4_code 37 = .ok (.getfield 22, 3) := by decide +kernel
theorem d_R_at_40 : decode prog_4_method_4_code 40 = .ok (.iload_n 3, 1) := by decide +kernel
theorem d_R_at_41 : decode prog_4_method_4_code 41 = .ok (.iaload, 1) := by decide +kernel
theorem d_R_at_42 : decode prog_4_method_4_code 42 = .ok (.ireturn, 1) := by decide +kernel
theorem d_I_totalOf_0 : decode prog_10_method_3_code 0 = .ok (.iconst 0, 1) := by decide +kernel
theorem d_I_totalOf_1 : decode prog_10_method_3_code 1 = .ok (.istore_n 2, 1) := by decide +kernel
theorem d_I_totalOf_2 : decode prog_10_method_3_code 2 = .ok (.iconst 0, 1) := by decide +kernel
theorem d_I_totalOf_3 : decode prog_10_method_3_code 3 = .ok (.istore_n 3, 1) := by decide +kernel
theorem d_I_totalOf_4 : decode prog_10_method_3_code 4 = .ok (.iconst 0, 1) := by decide +kernel
theorem d_I_totalOf_5 : decode prog_10_method_3_code 5 = .ok (.istore 4, 2) := by decide +kernel
theorem d_I_totalOf_7 : decode prog_10_method_3_code 7 = .ok (.iload 4, 2) := by decide +kernel
theorem d_I_totalOf_9 : decode prog_10_method_3_code 9 = .ok (.aload_n 0, 1) := by decide +kernel
theorem d_I_totalOf_10 : decode prog_10_method_3_code 10 = .ok (.getfield 14, 3) := by decide +kernel
theorem d_I_totalOf_13 : decode prog_10_method_3_code 13 = .ok (.getfield 33, 3) := by decide +kernel
theorem d_I_totalOf_16 : decode prog_10_method_3_code 16 = .ok (.if_icmp .ge 67, 3) := by decide +kernel
theorem d_I_totalOf_19 : decode prog_10_method_3_code 19 = .ok (.aload_n 0, 1) := by decide +kernel
theorem d_I_totalOf_20 : decode prog_10_method_3_code 20 = .ok (.getfield 14, 3) := by decide +kernel
theorem d_I_totalOf_23 : decode prog_10_method_3_code 23 = .ok (.iload 4, 2) := by decide +kernel
theorem d_I_totalOf_25 : decode prog_10_method_3_code 25 = .ok (.iconst 0, 1) := by decide +kernel
theorem d_I_totalOf_26 : decode prog_10_method_3_code 26 = .ok (.invokevirtual 37, 3) := by decide +kernel
theorem d_I_totalOf_29 : decode prog_10_method_3_code 29 = .ok (.iload_n 1, 1) := by decide +kernel
theorem d_I_totalOf_30 : decode prog_10_method_3_code 30 = .ok (.if_icmp .eq 6, 3) := by decide +kernel
theorem d_I_totalOf_33 : decode prog_10_method_3_code 33 = .ok (.goto 44, 3) := by decide +kernel
theorem d_I_totalOf_36 : decode prog_10_method_3_code 36 = .ok (.aload_n 0, 1) := by decide +kernel
theorem d_I_totalOf_37 : decode prog_10_method_3_code 37 = .ok (.getfield 14, 3) := by decide +kernel
theorem d_I_totalOf_40 : decode prog_10_method_3_code 40 = .ok (.iload 4, 2) := by decide +kernel
theorem d_I_totalOf_42 : decode prog_10_method_3_code 42 = .ok (.iconst 1, 1) := by decide +kernel
theorem d_I_totalOf_43 : decode prog_10_method_3_code 43 = .ok (.invokevirtual 37, 3) := by decide +kernel
theorem d_I_totalOf_46 : decode prog_10_method_3_code 46 = .ok (.istore 5, 2) := by decide +kernel
theorem d_I_totalOf_48 : decode prog_10_method_3_code 48 = .ok (.aload_n 0, 1) := by decide +kernel
theorem d_I_totalOf_49 : decode prog_10_method_3_code 49 = .ok (.getfield 14, 3) := by decide +kernel
theorem d_I_totalOf_52 : decode prog_10_method_3_code 52 = .ok (.iload 4, 2) := by decide +kernel
theorem d_I_totalOf_54 : decode prog_10_method_3_code 54 = .ok (.iconst 2, 1) := by decide +kernel
theorem d_I_totalOf_55 : decode prog_10_method_3_code 55 = .ok (.invokevirtual 37, 3) := by decide +kernel
theorem d_I_totalOf_58 : decode prog_10_method_3_code 58 = .ok (.iconst 1, 1) := by decide +kernel
theorem d_I_totalOf_59 : decode prog_10_method_3_code 59 = .ok (.if_icmp .ne 11, 3) := by decide +kernel
theorem d_I_totalOf_62 : decode prog_10_method_3_code 62 = .ok (.iload_n 3, 1) := by decide +kernel
theorem d_I_totalOf_63 : decode prog_10_method_3_code 63 = .ok (.iload 5, 2) := by decide +kernel
theorem d_I_totalOf_65 : decode prog_10_method_3_code 65 = .ok (.iadd, 1) := by decide +kernel
theorem d_I_totalOf_66 : decode prog_10_method_3_code 66 = .ok (.istore_n 3, 1) := by decide +kernel
theorem d_I_totalOf_67 : decode prog_10_method_3_code 67 = .ok (.goto 10, 3) := by decide +kernel
theorem d_I_totalOf_70 : decode prog_10_method_3_code 70 = .ok (.iload_n 2, 1) := by decide +kernel
theorem d_I_totalOf_71 : decode prog_10_method_3_code 71 = .ok (.iload 5, 2) := by decide +kernel
theorem d_I_totalOf_73 : decode prog_10_method_3_code 73 = .ok (.invokestatic 41, 3) := by decide +kernel
theorem d_I_totalOf_76 : decode prog_10_method_3_code 76 = .ok (.istore_n 2, 1) := by decide +kernel
theorem d_I_totalOf_77 : decode prog_10_method_3_code 77 = .ok (.iinc 4 1, 3) := by decide +kernel
theorem d_I_totalOf_80 : decode prog_10_method_3_code 80 = .ok (.goto (-73), 3) := by decide +kernel
theorem d_I_totalOf_83 : decode prog_10_method_3_code 83 = .ok (.iload_n 2, 1) := by decide +kernel
theorem d_I_totalOf_84 : decode prog_10_method_3_code 84 = .ok (.iload_n 3, 1) := by decide +kernel
theorem d_I_totalOf_85 : decode prog_10_method_3_code 85 = .ok (.iadd, 1) := by decide +kernel
theorem d_I_totalOf_86 : decode prog_10_method_3_code 86 = .ok (.ireturn, 1) := by decide +kernel
theorem d_B_hundredthsFor_0 : decode prog_2_method_8_code 0 = .ok (.aload_n 0, 1) := by decide +kernel
theorem d_B_hundredthsFor_1 : decode prog_2_method_8_code 1 = .ok (.getfield 14, 3) := by decide +kernel
theorem d_B_hundredthsFor_4 : decode prog_2_method_8_code 4 = .ok (.iload_n 1, 1) := by decide +kernel
theorem d_B_hundredthsFor_5 : decode prog_2_method_8_code 5 = .ok (.iconst 2, 1) := by decide +kernel
theorem d_B_hundredthsFor_6 : decode prog_2_method_8_code 6 = .ok (.invokevirtual 72, 3) := by decide +kernel
theorem d_B_hundredthsFor_9 : decode prog_2_method_8_code 9 = .ok (.invokestatic 100, 3) := by decide +kernel
theorem d_B_hundredthsFor_12 : decode prog_2_method_8_code 12 = .ok (.bipush 8, 2) := by decide +kernel
theorem d_B_hundredthsFor_14 : decode prog_2_method_8_code 14 = .ok (.irem, 1) := by decide +kernel
theorem d_B_hundredthsFor_15 : decode prog_2_method_8_code 15 = .ok (.istore_n 3, 1) := by decide +kernel
theorem d_B_hundredthsFor_16 : decode prog_2_method_8_code 16 = .ok (.aload_n 0, 1) := by decide +kernel
theorem d_B_hundredthsFor_17 : decode prog_2_method_8_code 17 = .ok (.getfield 29, 3) := by decide +kernel
theorem d_B_hundredthsFor_20 : decode prog_2_method_8_code 20 = .ok (.iload_n 3, 1) := by decide +kernel
theorem d_B_hundredthsFor_21 : decode prog_2_method_8_code 21 = .ok (.iload_n 2, 1) := by decide +kernel
theorem d_B_hundredthsFor_22 : decode prog_2_method_8_code 22 = .ok (.invokevirtual 72, 3) := by decide +kernel
theorem d_B_hundredthsFor_25 : decode prog_2_method_8_code 25 = .ok (.aload_n 0, 1) := by decide +kernel
theorem d_B_hundredthsFor_26 : decode prog_2_method_8_code 26 = .ok (.getfield 29, 3) := by decide +kernel
theorem d_B_hundredthsFor_29 : decode prog_2_method_8_code 29 = .ok (.iload_n 3, 1) := by decide +kernel
theorem d_B_hundredthsFor_30 : decode prog_2_method_8_code 30 = .ok (.iconst 1, 1) := by decide +kernel
theorem d_B_hundredthsFor_31 : decode prog_2_method_8_code 31 = .ok (.invokevirtual 72, 3) := by decide +kernel
theorem d_B_hundredthsFor_34 : decode prog_2_method_8_code 34 = .ok (.invokestatic 105, 3) := by decide +kernel
theorem d_B_hundredthsFor_37 : decode prog_2_method_8_code 37 = .ok (.ireturn, 1) := by decide +kernel
theorem d_B_setHearingOf_0 : decode prog_2_method_18_code 0 = .ok (.iconst 0, 1) := by decide +kernel
theorem d_B_setHearingOf_1 : decode prog_2_method_18_code 1 = .ok (.istore_n 2, 1) := by decide +kernel
theorem d_B_setHearingOf_2 : decode prog_2_method_18_code 2 = .ok (.iload_n 2, 1) := by decide +kernel
theorem d_B_setHearingOf_3 : decode prog_2_method_18_code 3 = .ok (.aload_n 0, 1) := by decide +kernel
theorem d_B_setHearingOf_4 : decode prog_2_method_18_code 4 = .ok (.getfield 26, 3) := by decide +kernel
theorem d_B_setHearingOf_7 : decode prog_2_method_18_code 7 = .ok (.getfield 76, 3) := by decide +kernel
theorem d_B_setHearingOf_10 : decode prog_2_method_18_code 10 = .ok (.if_icmp .ge 36, 3) := by decide +kernel
theorem d_B_setHearingOf_13 : decode prog_2_method_18_code 13 = .ok (.aload_n 0, 1) := by decide +kernel
theorem d_B_setHearingOf_14 : decode prog_2_method_18_code 14 = .ok (.getfield 26, 3) := by decide +kernel
theorem d_B_setHearingOf_17 : decode prog_2_method_18_code 17 = .ok (.iload_n 2, 1) := by decide +kernel
theorem d_B_setHearingOf_18 : decode prog_2_method_18_code 18 = .ok (.iconst 0, 1) := by decide +kernel
theorem d_B_setHearingOf_19 : decode prog_2_method_18_code 19 = .ok (.invokevirtual 72, 3) := by decide +kernel
theorem d_B_setHearingOf_22 : decode prog_2_method_18_code 22 = .ok (.iload_n 1, 1) := by decide +kernel
theorem d_B_setHearingOf_23 : decode prog_2_method_18_code 23 = .ok (.if_icmp .ne 17, 3) := by decide +kernel
theorem d_B_setHearingOf_26 : decode prog_2_method_18_code 26 = .ok (.aload_n 0, 1) := by decide +kernel
theorem d_B_setHearingOf_27 : decode prog_2_method_18_code 27 = .ok (.getfield 26, 3) := by decide +kernel
theorem d_B_setHearingOf_30 : decode prog_2_method_18_code 30 = .ok (.iload_n 2, 1) := by decide +kernel
theorem d_B_setHearingOf_31 : decode prog_2_method_18_code 31 = .ok (.iconst 2, 1) := by decide +kernel
theorem d_B_setHearingOf_32 : decode prog_2_method_18_code 32 = .ok (.invokevirtual 72, 3) := by decide +kernel
theorem d_B_setHearingOf_35 : decode prog_2_method_18_code 35 = .ok (.ifCond .ne 5, 3) := by decide +kernel
theorem d_B_setHearingOf_38 : decode prog_2_method_18_code 38 = .ok (.iload_n 2, 1) := by decide +kernel
theorem d_B_setHearingOf_39 : decode prog_2_method_18_code 39 = .ok (.ireturn, 1) := by decide +kernel
theorem d_B_setHearingOf_40 : decode prog_2_method_18_code 40 = .ok (.iinc 2 1, 3) := by decide +kernel
theorem d_B_setHearingOf_43 : decode prog_2_method_18_code 43 = .ok (.goto (-41), 3) := by decide +kernel
theorem d_B_setHearingOf_46 : decode prog_2_method_18_code 46 = .ok (.ldc 122, 2) := by decide +kernel
theorem d_B_setHearingOf_48 : decode prog_2_method_18_code 48 = .ok (.ireturn, 1) := by decide +kernel
theorem d_R_exchange_0 : decode prog_4_method_6_code 0 = .ok (.aload_n 0, 1) := by decide +kernel
theorem d_R_exchange_1 : decode prog_4_method_6_code 1 = .ok (.iload_n 1, 1) := by decide +kernel
theorem d_R_exchange_2 : decode prog_4_method_6_code 2 = .ok (.iload_n 2, 1) := by decide +kernel
theorem d_R_exchange_3 : decode prog_4_method_6_code 3 = .ok (.invokevirtual 29, 3) := by decide +kernel
theorem d_R_exchange_6 : decode prog_4_method_6_code 6 = .ok (.istore 4, 2) := by decide +kernel
theorem d_R_exchange_8 : decode prog_4_method_6_code 8 = .ok (.aload_n 0, 1) := by decide +kernel
theorem d_R_exchange_9 : decode prog_4_method_6_code 9 = .ok (.iload_n 1, 1) := by decide +kernel
theorem d_R_exchange_10 : decode prog_4_method_6_code 10 = .ok (.iload_n 2, 1) := by decide +kernel
theorem d_R_exchange_11 : decode prog_4_method_6_code 11 = .ok (.iload_n 3, 1) := by decide +kernel
theorem d_R_exchange_12 : decode prog_4_method_6_code 12 = .ok (.invokevirtual 32, 3) := by decide +kernel
theorem d_R_exchange_15 : decode prog_4_method_6_code 15 = .ok (.iload 4, 2) := by decide +kernel
theorem d_R_exchange_17 : decode prog_4_method_6_code 17 = .ok (.ireturn, 1) := by decide +kernel
theorem d_B_stateOf_0 : decode prog_2_method_3_code 0 = .ok (.aload_n 0, 1) := by decide +kernel
theorem d_B_stateOf_1 : decode prog_2_method_3_code 1 = .ok (.getfield 14, 3) := by decide +kernel
theorem d_B_stateOf_4 : decode prog_2_method_3_code 4 = .ok (.iload_n 1, 1) := by decide +kernel
theorem d_B_stateOf_5 : decode prog_2_method_3_code 5 = .ok (.iconst 3, 1) := by decide +kernel
theorem d_B_stateOf_6 : decode prog_2_method_3_code 6 = .ok (.invokevirtual 72, 3) := by decide +kernel
theorem d_B_stateOf_9 : decode prog_2_method_3_code 9 = .ok (.ireturn, 1) := by decide +kernel
theorem d_I_latestSpan_0 : decode prog_10_method_11_code 0 = .ok (.aload_n 0, 1) := by decide +kernel
theorem d_I_latestSpan_1 : decode prog_10_method_11_code 1 = .ok (.getfield 20, 3) := by decide +kernel
theorem d_I_latestSpan_4 : decode prog_10_method_11_code 4 = .ok (.getfield 33, 3) := by decide +kernel
theorem d_I_latestSpan_7 : decode prog_10_method_11_code 7 = .ok (.iconst 1, 1) := by decide +kernel
theorem d_I_latestSpan_8 : decode prog_10_method_11_code 8 = .ok (.isub, 1) := by decide +kernel
theorem d_I_latestSpan_9 : decode prog_10_method_11_code 9 = .ok (.istore_n 2, 1) := by decide +kernel
theorem d_I_latestSpan_10 : decode prog_10_method_11_code 10 = .ok (.iload_n 2, 1) := by decide +kernel
theorem d_I_latestSpan_11 : decode prog_10_method_11_code 11 = .ok (.ifCond .lt 24, 3) := by decide +kernel
theorem d_I_latestSpan_14 : decode prog_10_method_11_code 14 = .ok (.aload_n 0, 1) := by decide +kernel
theorem d_I_latestSpan_15 : decode prog_10_method_11_code 15 = .ok (.getfield 20, 3) := by decide +kernel
theorem d_I_latestSpan_18 : decode prog_10_method_11_code 18 = .ok (.iload_n 2, 1) := by decide +kernel
theorem d_I_latestSpan_19 : decode prog_10_method_11_code 19 = .ok (.iconst 0, 1) := by decide +kernel
theorem d_I_latestSpan_20 : decode prog_10_method_11_code 20 = .ok (.invokevirtual 37, 3) := by decide +kernel
theorem d_I_latestSpan_23 : decode prog_10_method_11_code 23 = .ok (.iload_n 1, 1) := by decide +kernel
theorem d_I_latestSpan_24 : decode prog_10_method_11_code 24 = .ok (.if_icmp .ne 5, 3) := by decide +kernel
theorem d_I_latestSpan_27 : decode prog_10_method_11_code 27 = .ok (.iload_n 2, 1) := by decide +kernel
theorem d_I_latestSpan_28 : decode prog_10_method_11_code 28 = .ok (.ireturn, 1) := by decide +kernel
theorem d_I_latestSpan_29 : decode prog_10_method_11_code 29 = .ok (.iinc 2 (-1), 3) := by decide +kernel
theorem d_I_latestSpan_32 : decode prog_10_method_11_code 32 = .ok (.goto (-22), 3) := by decide +kernel
theorem d_I_latestSpan_35 : decode prog_10_method_11_code 35 = .ok (.ldc 76, 2) := by decide +kernel
theorem d_I_latestSpan_37 : decode prog_10_method_11_code 37 = .ok (.ireturn, 1) := by decide +kernel
theorem d_I_goesOn_0 : decode prog_10_method_10_code 0 = .ok (.aload_n 0, 1) := by decide +kernel
theorem d_I_goesOn_1 : decode prog_10_method_10_code 1 = .ok (.getfield 20, 3) := by decide +kernel
theorem d_I_goesOn_4 : decode prog_10_method_10_code 4 = .ok (.iload_n 1, 1) := by decide +kernel
theorem d_I_goesOn_5 : decode prog_10_method_10_code 5 = .ok (.invokevirtual 73, 3) := by decide +kernel
theorem d_I_goesOn_8 : decode prog_10_method_10_code 8 = .ok (.ifCond .eq 21, 3) := by decide +kernel
theorem d_I_goesOn_11 : decode prog_10_method_10_code 11 = .ok (.aload_n 0, 1) := by decide +kernel
theorem d_I_goesOn_12 : decode prog_10_method_10_code 12 = .ok (.getfield 20, 3) := by decide +kernel
theorem d_I_goesOn_15 : decode prog_10_method_10_code 15 = .ok (.iload_n 1, 1) := by decide +kernel
theorem d_I_goesOn_16 : decode prog_10_method_10_code 16 = .ok (.iconst 2, 1) := by decide +kernel
theorem d_I_goesOn_17 : decode prog_10_method_10_code 17 = .ok (.invokevirtual 37, 3) := by decide +kernel
theorem d_I_goesOn_20 : decode prog_10_method_10_code 20 = .ok (.ldc 56, 2) := by decide +kernel
theorem d_I_goesOn_22 : decode prog_10_method_10_code 22 = .ok (.if_icmp .ne 7, 3) := by decide +kernel
theorem d_I_goesOn_25 : decode prog_10_method_10_code 25 = .ok (.iconst 1, 1) := by decide +kernel
theorem d_I_goesOn_26 : decode prog_10_method_10_code 26 = .ok (.goto 4, 3) := by decide +kernel
theorem d_I_goesOn_29 : decode prog_10_method_10_code 29 = .ok (.iconst 0, 1) := by decide +kernel
theorem d_I_goesOn_30 : decode prog_10_method_10_code 30 = .ok (.ireturn, 1) := by decide +kernel
theorem d_B_hasFled_0 : decode prog_2_method_5_code 0 = .ok (.aload_n 0, 1) := by decide +kernel
theorem d_B_hasFled_1 : decode prog_2_method_5_code 1 = .ok (.iload_n 1, 1) := by decide +kernel
theorem d_B_hasFled_2 : decode prog_2_method_5_code 2 = .ok (.invokevirtual 79, 3) := by decide +kernel
theorem d_B_hasFled_5 : decode prog_2_method_5_code 5 = .ok (.ifCond .ne 25, 3) := by decide +kernel
theorem d_B_hasFled_8 : decode prog_2_method_5_code 8 = .ok (.aload_n 0, 1) := by decide +kernel
theorem d_B_hasFled_9 : decode prog_2_method_5_code 9 = .ok (.getfield 38, 3) := by decide +kernel
theorem d_B_hasFled_12 : decode prog_2_method_5_code 12 = .ok (.aload_n 0, 1) := by decide +kernel
theorem d_B_hasFled_13 : decode prog_2_method_5_code 13 = .ok (.getfield 38, 3) := by decide +kernel
theorem d_B_hasFled_16 : decode prog_2_method_5_code 16 = .ok (.iload_n 1, 1) := by decide +kernel
theorem d_B_hasFled_17 : decode prog_2_method_5_code 17 = .ok (.invokevirtual 83, 3) := by decide +kernel
theorem d_B_hasFled_20 : decode prog_2_method_5_code 20 = .ok (.invokevirtual 86, 3) := by decide +kernel
theorem d_B_hasFled_23 : decode prog_2_method_5_code 23 = .ok (.ifCond .ne 7, 3) := by decide +kernel
theorem d_B_hasFled_26 : decode prog_2_method_5_code 26 = .ok (.iconst 1, 1) := by decide +kernel
theorem d_B_hasFled_27 : decode prog_2_method_5_code 27 = .ok (.goto 4, 3) := by decide +kernel
theorem d_B_hasFled_30 : decode prog_2_method_5_code 30 = .ok (.iconst 0, 1) := by decide +kernel
theorem d_B_hasFled_31 : decode prog_2_method_5_code 31 = .ok (.ireturn, 1) := by decide +kernel
theorem d_I_endSpan_0 : decode prog_10_method_8_code 0 = .ok (.aload_n 0, 1) := by decide +kernel
theorem d_I_endSpan_1 : decode prog_10_method_8_code 1 = .ok (.iload_n 1, 1) := by decide +kernel
theorem d_I_endSpan_2 : decode prog_10_method_8_code 2 = .ok (.invokevirtual 61, 3) := by decide +kernel
theorem d_I_endSpan_5 : decode prog_10_method_8_code 5 = .ok (.istore_n 3, 1) := by decide +kernel
theorem d_I_endSpan_6 : decode prog_10_method_8_code 6 = .ok (.aload_n 0, 1) := by decide +kernel
theorem d_I_endSpan_7 : decode prog_10_method_8_code 7 = .ok (.iload_n 3, 1) := by decide +kernel
theorem d_I_endSpan_8 : decode prog_10_method_8_code 8 = .ok (.invokevirtual 65, 3) := by decide +kernel
theorem d_I_endSpan_11 : decode prog_10_method_8_code 11 = .ok (.ifCond .eq 13, 3) := by decide +kernel
theorem d_I_endSpan_14 : decode prog_10_method_8_code 14 = .ok (.aload_n 0, 1) := by decide +kernel
theorem d_I_endSpan_15 : decode prog_10_method_8_code 15 = .ok (.getfield 20, 3) := by decide +kernel
theorem d_I_endSpan_18 : decode prog_10_method_8_code 18 = .ok (.iload_n 3, 1) := by decide +kernel
theorem d_I_endSpan_19 : decode prog_10_method_8_code 19 = .ok (.iconst 2, 1) := by decide +kernel
theorem d_I_endSpan_20 : decode prog_10_method_8_code 20 = .ok (.iload_n 2, 1) := by decide +kernel
theorem d_I_endSpan_21 : decode prog_10_method_8_code 21 = .ok (.invokevirtual 69, 3) := by decide +kernel
theorem d_I_endSpan_24 : decode prog_10_method_8_code 24 = .ok (.return_, 1) := by decide +kernel
theorem d_B_leave_0 : decode prog_2_method_6_code 0 = .ok (.aload_n 0, 1) := by decide +kernel
theorem d_B_leave_1 : decode prog_2_method_6_code 1 = .ok (.getfield 14, 3) := by decide +kernel
theorem d_B_leave_4 : decode prog_2_method_6_code 4 = .ok (.iload_n 1, 1) := by decide +kernel
theorem d_B_leave_5 : decode prog_2_method_6_code 5 = .ok (.iconst 3, 1) := by decide +kernel
theorem d_B_leave_6 : decode prog_2_method_6_code 6 = .ok (.iload_n 2, 1) := by decide +kernel
theorem d_B_leave_7 : decode prog_2_method_6_code 7 = .ok (.invokevirtual 90, 3) := by decide +kernel
theorem d_B_leave_10 : decode prog_2_method_6_code 10 = .ok (.aload_n 0, 1) := by decide +kernel
theorem d_B_leave_11 : decode prog_2_method_6_code 11 = .ok (.getfield 38, 3) := by decide +kernel
theorem d_B_leave_14 : decode prog_2_method_6_code 14 = .ok (.iload_n 1, 1) := by decide +kernel
theorem d_B_leave_15 : decode prog_2_method_6_code 15 = .ok (.aload_n 0, 1) := by decide +kernel
theorem d_B_leave_16 : decode prog_2_method_6_code 16 = .ok (.getfield 59, 3) := by decide +kernel
theorem d_B_leave_19 : decode prog_2_method_6_code 19 = .ok (.invokevirtual 94, 3) := by decide +kernel
theorem d_B_leave_22 : decode prog_2_method_6_code 22 = .ok (.return_, 1) := by decide +kernel
theorem d_I_freeDays_0 : decode prog_10_method_6_code 0 = .ok (.iconst 0, 1) := by decide +kernel
theorem d_I_freeDays_1 : decode prog_10_method_6_code 1 = .ok (.istore 4, 2) := by decide +kernel
theorem d_I_freeDays_3 : decode prog_10_method_6_code 3 = .ok (.iload_n 2, 1) := by decide +kernel
theorem d_I_freeDays_4 : decode prog_10_method_6_code 4 = .ok (.istore 5, 2) := by decide +kernel
theorem d_I_freeDays_6 : decode prog_10_method_6_code 6 = .ok (.iconst 0, 1) := by decide +kernel
theorem d_I_freeDays_7 : decode prog_10_method_6_code 7 = .ok (.istore 6, 2) := by decide +kernel
theorem d_I_freeDays_9 : decode prog_10_method_6_code 9 = .ok (.iload 5, 2) := by decide +kernel
theorem d_I_freeDays_11 : decode prog_10_method_6_code 11 = .ok (.iload_n 3, 1) := by decide +kernel
theorem d_I_freeDays_12 : decode prog_10_method_6_code 12 = .ok (.if_icmp .ge 151, 3) := by decide +kernel
theorem d_I_freeDays_15 : decode prog_10_method_6_code 15 = .ok (.iload 6, 2) := by decide +kernel
theorem d_I_freeDays_17 : decode prog_10_method_6_code 17 = .ok (.iconst 2, 1) := by decide +kernel
theorem d_I_freeDays_18 : decode prog_10_method_6_code 18 = .ok (.aload_n 0, 1) := by decide +kernel
theorem d_I_freeDays_19 : decode prog_10_method_6_code 19 = .ok (.getfield 23, 3) := by decide +kernel
theorem d_I_freeDays_22 : decode prog_10_method_6_code 22 = .ok (.getfield 53, 3) := by decide +kernel
theorem d_I_freeDays_25 : decode prog_10_method_6_code 25 = .ok (.imul, 1) := by decide +kernel
theorem d_I_freeDays_26 : decode prog_10_method_6_code 26 = .ok (.iconst 1, 1) := by decide +kernel
theorem d_I_freeDays_27 : decode prog_10_method_6_code 27 = .ok (.iadd, 1) := by decide +kernel
theorem d_I_freeDays_28 : decode prog_10_method_6_code 28 = .ok (.if_icmp .gt 135, 3) := by decide +kernel
theorem d_I_freeDays_31 : decode prog_10_method_6_code 31 = .ok (.iload 5, 2) := by decide +kernel
theorem d_I_freeDays_33 : decode prog_10_method_6_code 33 = .ok (.istore 7, 2) := by decide +kernel
theorem d_I_freeDays_35 : decode prog_10_method_6_code 35 = .ok (.iload_n 3, 1) := by decide +kernel
theorem d_I_freeDays_36 : decode prog_10_method_6_code 36 = .ok (.istore 8, 2) := by decide +kernel
theorem d_I_freeDays_38 : decode prog_10_method_6_code 38 = .ok (.iconst 0, 1) := by decide +kernel
theorem d_I_freeDays_39 : decode prog_10_method_6_code 39 = .ok (.istore 9, 2) := by decide +kernel
theorem d_I_freeDays_41 : decode prog_10_method_6_code 41 = .ok (.iload 9, 2) := by decide +kernel
theorem d_I_freeDays_43 : decode prog_10_method_6_code 43 = .ok (.aload_n 0, 1) := by decide +kernel
theorem d_I_freeDays_44 : decode prog_10_method_6_code 44 = .ok (.getfield 23, 3) := by decide +kernel
theorem d_I_freeDays_47 : decode prog_10_method_6_code 47 = .ok (.getfield 33, 3) := by decide +kernel
theorem d_I_freeDays_50 : decode prog_10_method_6_code 50 = .ok (.if_icmp .ge 74, 3) := by decide +kernel
theorem d_I_freeDays_53 : decode prog_10_method_6_code 53 = .ok (.aload_n 0, 1) := by decide +kernel
theorem d_I_freeDays_54 : decode prog_10_method_6_code 54 = .ok (.getfield 23, 3) := by decide +kernel
theorem d_I_freeDays_57 : decode prog_10_method_6_code 57 = .ok (.iload 9, 2) := by decide +kernel
theorem d_I_freeDays_59 : decode prog_10_method_6_code 59 = .ok (.iconst 0, 1) := by decide +kernel
theorem d_I_freeDays_60 : decode prog_10_method_6_code 60 = .ok (.invokevirtual 37, 3) := by decide +kernel
theorem d_I_freeDays_63 : decode prog_10_method_6_code 63 = .ok (.iload_n 1, 1) := by decide +kernel
theorem d_I_freeDays_64 : decode prog_10_method_6_code 64 = .ok (.if_icmp .eq 6, 3) := by decide +kernel
theorem d_I_freeDays_67 : decode prog_10_method_6_code 67 = .ok (.goto 51, 3) := by decide +kernel
theorem d_I_freeDays_70 : decode prog_10_method_6_code 70 = .ok (.aload_n 0, 1) := by decide +kernel
theorem d_I_freeDays_71 : decode prog_10_method_6_code 71 = .ok (.getfield 23, 3) := by decide +kernel
theorem d_I_freeDays_74 : decode prog_10_method_6_code 74 = .ok (.iload 9, 2) := by decide +kernel
theorem d_I_freeDays_76 : decode prog_10_method_6_code 76 = .ok (.iconst 1, 1) := by decide +kernel
theorem d_I_freeDays_77 : decode prog_10_method_6_code 77 = .ok (.invokevirtual 37, 3) := by decide +kernel
theorem d_I_freeDays_80 : decode prog_10_method_6_code 80 = .ok (.istore 10, 2) := by decide +kernel
theorem d_I_freeDays_82 : decode prog_10_method_6_code 82 = .ok (.iload 10, 2) := by decide +kernel
theorem d_I_freeDays_84 : decode prog_10_method_6_code 84 = .ok (.iload 5, 2) := by decide +kernel
theorem d_I_freeDays_86 : decode prog_10_method_6_code 86 = .ok (.if_icmp .gt 23, 3) := by decide +kernel
theorem d_I_freeDays_89 : decode prog_10_method_6_code 89 = .ok (.iload 7, 2) := by decide +kernel
theorem d_I_freeDays_91 : decode prog_10_method_6_code 91 = .ok (.aload_n 0, 1) := by decide +kernel
theorem d_I_freeDays_92 : decode prog_10_method_6_code 92 = .ok (.getfield 23, 3) := by decide +kernel
theorem d_I_freeDays_95 : decode prog_10_method_6_code 95 = .ok (.iload 9, 2) := by decide +kernel
theorem d_I_freeDays_97 : decode prog_10_method_6_code 97 = .ok (.iconst 2, 1) := by decide +kernel
theorem d_I_freeDays_98 : decode prog_10_method_6_code 98 = .ok (.invokevirtual 37, 3) := by decide +kernel
theorem d_I_freeDays_101 : decode prog_10_method_6_code 101 = .ok (.invokestatic 41, 3) := by decide +kernel
theorem d_I_freeDays_104 : decode prog_10_method_6_code 104 = .ok (.istore 7, 2) := by decide +kernel
theorem d_I_freeDays_106 : decode prog_10_method_6_code 106 = .ok (.goto 12, 3) := by decide +kernel
theorem d_I_freeDays_109 : decode prog_10_method_6_code 109 = .ok (.iload 8, 2) := by decide +kernel
theorem d_I_freeDays_111 : decode prog_10_method_6_code 111 = .ok (.iload 10, 2) := by decide +kernel
theorem d_I_freeDays_113 : decode prog_10_method_6_code 113 = .ok (.invokestatic 46, 3) := by decide +kernel
theorem d_I_freeDays_116 : decode prog_10_method_6_code 116 = .ok (.istore 8, 2) := by decide +kernel
theorem d_I_freeDays_118 : decode prog_10_method_6_code 118 = .ok (.iinc 9 1, 3) := by decide +kernel
theorem d_I_freeDays_121 : decode prog_10_method_6_code 121 = .ok (.goto (-80), 3) := by decide +kernel
theorem d_I_freeDays_124 : decode prog_10_method_6_code 124 = .ok (.iload 7, 2) := by decide +kernel
theorem d_I_freeDays_126 : decode prog_10_method_6_code 126 = .ok (.iload 5, 2) := by decide +kernel
theorem d_I_freeDays_128 : decode prog_10_method_6_code 128 = .ok (.if_icmp .ne 13, 3) := by decide +kernel
theorem d_I_freeDays_131 : decode prog_10_method_6_code 131 = .ok (.iload 4, 2) := by decide +kernel
theorem d_I_freeDays_133 : decode prog_10_method_6_code 133 = .ok (.iload 8, 2) := by decide +kernel
theorem d_I_freeDays_135 : decode prog_10_method_6_code 135 = .ok (.iload 5, 2) := by decide +kernel
theorem d_I_freeDays_137 : decode prog_10_method_6_code 137 = .ok (.isub, 1) := by decide +kernel
theorem d_I_freeDays_138 : decode prog_10_method_6_code 138 = .ok (.iadd, 1) := by decide +kernel
theorem d_I_freeDays_139 : decode prog_10_method_6_code 139 = .ok (.istore 4, 2) := by decide +kernel
theorem d_I_freeDays_141 : decode prog_10_method_6_code 141 = .ok (.iload 7, 2) := by decide +kernel
theorem d_I_freeDays_143 : decode prog_10_method_6_code 143 = .ok (.iload 5, 2) := by decide +kernel
theorem d_I_freeDays_145 : decode prog_10_method_6_code 145 = .ok (.if_icmp .ne 8, 3) := by decide +kernel
theorem d_I_freeDays_148 : decode prog_10_method_6_code 148 = .ok (.iload 8, 2) := by decide +kernel
theorem d_I_freeDays_150 : decode prog_10_method_6_code 150 = .ok (.goto 5, 3) := by decide +kernel
theorem d_I_freeDays_153 : decode prog_10_method_6_code 153 = .ok (.iload 7, 2) := by decide +kernel
theorem d_I_freeDays_155 : decode prog_10_method_6_code 155 = .ok (.istore 5, 2) := by decide +kernel
theorem d_I_freeDays_157 : decode prog_10_method_6_code 157 = .ok (.iinc 6 1, 3) := by decide +kernel
theorem d_I_freeDays_160 : decode prog_10_method_6_code 160 = .ok (.goto (-151), 3) := by decide +kernel
theorem d_I_freeDays_163 : decode prog_10_method_6_code 163 = .ok (.iload 4, 2) := by decide +kernel
theorem d_I_freeDays_165 : decode prog_10_method_6_code 165 = .ok (.ireturn, 1) := by decide +kernel
theorem d_I_servedOf_0 : decode prog_10_method_5_code 0 = .ok (.iconst 0, 1) := by decide +kernel
theorem d_I_servedOf_1 : decode prog_10_method_5_code 1 = .ok (.istore_n 3, 1) := by decide +kernel
theorem d_I_servedOf_2 : decode prog_10_method_5_code 2 = .ok (.iconst 0, 1) := by decide +kernel
theorem d_I_servedOf_3 : decode prog_10_method_5_code 3 = .ok (.istore 4, 2) := by decide +kernel
theorem d_I_servedOf_5 : decode prog_10_method_5_code 5 = .ok (.iload 4, 2) := by decide +kernel
theorem d_I_servedOf_7 : decode prog_10_method_5_code 7 = .ok (.aload_n 0, 1) := by decide +kernel
theorem d_I_servedOf_8 : decode prog_10_method_5_code 8 = .ok (.getfield 20, 3) := by decide +kernel
theorem d_I_servedOf_11 : decode prog_10_method_5_code 11 = .ok (.getfield 33, 3) := by decide +kernel
theorem d_I_servedOf_14 : decode prog_10_method_5_code 14 = .ok (.if_icmp .ge 58, 3) := by decide +kernel
theorem d_I_servedOf_17 : decode prog_10_method_5_code 17 = .ok (.aload_n 0, 1) := by decide +kernel
theorem d_I_servedOf_18 : decode prog_10_method_5_code 18 = .ok (.getfield 20, 3) := by decide +kernel
theorem d_I_servedOf_21 : decode prog_10_method_5_code 21 = .ok (.iload 4, 2) := by decide +kernel
theorem d_I_servedOf_23 : decode prog_10_method_5_code 23 = .ok (.iconst 0, 1) := by decide +kernel
theorem d_I_servedOf_24 : decode prog_10_method_5_code 24 = .ok (.invokevirtual 37, 3) := by decide +kernel
theorem d_I_servedOf_27 : decode prog_10_method_5_code 27 = .ok (.iload_n 1, 1) := by decide +kernel
theorem d_I_servedOf_28 : decode prog_10_method_5_code 28 = .ok (.if_icmp .eq 6, 3) := by decide +kernel
theorem d_I_servedOf_31 : decode prog_10_method_5_code 31 = .ok (.goto 35, 3) := by decide +kernel
theorem d_I_servedOf_34 : decode prog_10_method_5_code 34 = .ok (.iload_n 3, 1) := by decide +kernel
theorem d_I_servedOf_35 : decode prog_10_method_5_code 35 = .ok (.aload_n 0, 1) := by decide +kernel
theorem d_I_servedOf_36 : decode prog_10_method_5_code 36 = .ok (.iload_n 1, 1) := by decide +kernel
theorem d_I_servedOf_37 : decode prog_10_method_5_code 37 = .ok (.aload_n 0, 1) := by decide +kernel
theorem d_I_servedOf_38 : decode prog_10_method_5_code 38 = .ok (.getfield 20, 3) := by decide +kernel
theorem d_I_servedOf_41 : decode prog_10_method_5_code 41 = .ok (.iload 4, 2) := by decide +kernel
theorem d_I_servedOf_43 : decode prog_10_method_5_code 43 = .ok (.iconst 1, 1) := by decide +kernel
theorem d_I_servedOf_44 : decode prog_10_method_5_code 44 = .ok (.invokevirtual 37, 3) := by decide +kernel
theorem d_I_servedOf_47 : decode prog_10_method_5_code 47 = .ok (.iload_n 2, 1) := by decide +kernel
theorem d_I_servedOf_48 : decode prog_10_method_5_code 48 = .ok (.aload_n 0, 1) := by decide +kernel
theorem d_I_servedOf_49 : decode prog_10_method_5_code 49 = .ok (.getfield 20, 3) := by decide +kernel
theorem d_I_servedOf_52 : decode prog_10_method_5_code 52 = .ok (.iload 4, 2) := by decide +kernel
theorem d_I_servedOf_54 : decode prog_10_method_5_code 54 = .ok (.iconst 2, 1) := by decide +kernel
theorem d_I_servedOf_55 : decode prog_10_method_5_code 55 = .ok (.invokevirtual 37, 3) := by decide +kernel
theorem d_I_servedOf_58 : decode prog_10_method_5_code 58 = .ok (.invokestatic 46, 3) := by decide +kernel
theorem d_I_servedOf_61 : decode prog_10_method_5_code 61 = .ok (.invokevirtual 49, 3) := by decide +kernel
theorem d_I_servedOf_64 : decode prog_10_method_5_code 64 = .ok (.iadd, 1) := by decide +kernel
theorem d_I_servedOf_65 : decode prog_10_method_5_code 65 = .ok (.istore_n 3, 1) := by decide +kernel
theorem d_I_servedOf_66 : decode prog_10_method_5_code 66 = .ok (.iinc 4 1, 3) := by decide +kernel
theorem d_I_servedOf_69 : decode prog_10_method_5_code 69 = .ok (.goto (-64), 3) := by decide +kernel
theorem d_I_servedOf_72 : decode prog_10_method_5_code 72 = .ok (.iload_n 3, 1) := by decide +kernel
theorem d_I_servedOf_73 : decode prog_10_method_5_code 73 = .ok (.ireturn, 1) := by decide +kernel
theorem d_I_creditOf_0 : decode prog_10_method_4_code 0 = .ok (.iconst 0, 1) := by decide +kernel
theorem d_I_creditOf_1 : decode prog_10_method_4_code 1 = .ok (.istore_n 3, 1) := by decide +kernel
theorem d_I_creditOf_2 : decode prog_10_method_4_code 2 = .ok (.iconst 0, 1) := by decide +kernel
theorem d_I_creditOf_3 : decode prog_10_method_4_code 3 = .ok (.istore 4, 2) := by decide +kernel
theorem d_I_creditOf_5 : decode prog_10_method_4_code 5 = .ok (.iload 4, 2) := by decide +kernel
theorem d_I_creditOf_7 : decode prog_10_method_4_code 7 = .ok (.aload_n 0, 1) := by decide +kernel
theorem d_I_creditOf_8 : decode prog_10_method_4_code 8 = .ok (.getfield 26, 3) := by decide +kernel
theorem d_I_creditOf_11 : decode prog_10_method_4_code 11 = .ok (.getfield 33, 3) := by decide +kernel
theorem d_I_creditOf_14 : decode prog_10_method_4_code 14 = .ok (.if_icmp .ge 67, 3) := by decide +kernel
theorem d_I_creditOf_17 : decode prog_10_method_4_code 17 = .ok (.aload_n 0, 1) := by decide +kernel
theorem d_I_creditOf_18 : decode prog_10_method_4_code 18 = .ok (.getfield 26, 3) := by decide +kernel
theorem d_I_creditOf_21 : decode prog_10_method_4_code 21 = .ok (.iload 4, 2) := by decide +kernel
theorem d_I_creditOf_23 : decode prog_10_method_4_code 23 = .ok (.iconst 0, 1) := by decide +kernel
theorem d_I_creditOf_24 : decode prog_10_method_4_code 24 = .ok (.invokevirtual 37, 3) := by decide +kernel
theorem d_I_creditOf_27 : decode prog_10_method_4_code 27 = .ok (.iload_n 1, 1) := by decide +kernel
theorem d_I_creditOf_28 : decode prog_10_method_4_code 28 = .ok (.if_icmp .ne 47, 3) := by decide +kernel
theorem d_I_creditOf_31 : decode prog_10_method_4_code 31 = .ok (.aload_n 0, 1) := by decide +kernel
theorem d_I_creditOf_32 : decode prog_10_method_4_code 32 = .ok (.getfield 26, 3) := by decide +kernel
theorem d_I_creditOf_35 : decode prog_10_method_4_code 35 = .ok (.iload 4, 2) := by decide +kernel
theorem d_I_creditOf_37 : decode prog_10_method_4_code 37 = .ok (.iconst 2, 1) := by decide +kernel
theorem d_I_creditOf_38 : decode prog_10_method_4_code 38 = .ok (.invokevirtual 37, 3) := by decide +kernel
theorem d_I_creditOf_41 : decode prog_10_method_4_code 41 = .ok (.iload_n 2, 1) := by decide +kernel
theorem d_I_creditOf_42 : decode prog_10_method_4_code 42 = .ok (.if_icmp .le 6, 3) := by decide +kernel
theorem d_I_creditOf_45 : decode prog_10_method_4_code 45 = .ok (.goto 30, 3) := by decide +kernel
theorem d_I_creditOf_48 : decode prog_10_method_4_code 48 = .ok (.aload_n 0, 1) := by decide +kernel
theorem d_I_creditOf_49 : decode prog_10_method_4_code 49 = .ok (.getfield 26, 3) := by decide +kernel
theorem d_I_creditOf_52 : decode prog_10_method_4_code 52 = .ok (.iload 4, 2) := by decide +kernel
theorem d_I_creditOf_54 : decode prog_10_method_4_code 54 = .ok (.iconst 3, 1) := by decide +kernel
theorem d_I_creditOf_55 : decode prog_10_method_4_code 55 = .ok (.invokevirtual 37, 3) := by decide +kernel
theorem d_I_creditOf_58 : decode prog_10_method_4_code 58 = .ok (.iload_n 2, 1) := by decide +kernel
theorem d_I_creditOf_59 : decode prog_10_method_4_code 59 = .ok (.if_icmp .le 16, 3) := by decide +kernel
theorem d_I_creditOf_62 : decode prog_10_method_4_code 62 = .ok (.iload_n 3, 1) := by decide +kernel
theorem d_I_creditOf_63 : decode prog_10_method_4_code 63 = .ok (.aload_n 0, 1) := by decide +kernel
theorem d_I_creditOf_64 : decode prog_10_method_4_code 64 = .ok (.getfield 26, 3) := by decide +kernel
theorem d_I_creditOf_67 : decode prog_10_method_4_code 67 = .ok (.iload 4, 2) := by decide +kernel
theorem d_I_creditOf_69 : decode prog_10_method_4_code 69 = .ok (.iconst 1, 1) := by decide +kernel
theorem d_I_creditOf_70 : decode prog_10_method_4_code 70 = .ok (.invokevirtual 37, 3) := by decide +kernel
theorem d_I_creditOf_73 : decode prog_10_method_4_code 73 = .ok (.iadd, 1) := by decide +kernel
theorem d_I_creditOf_74 : decode prog_10_method_4_code 74 = .ok (.istore_n 3, 1) := by decide +kernel
theorem d_I_creditOf_75 : decode prog_10_method_4_code 75 = .ok (.iinc 4 1, 3) := by decide +kernel
theorem d_I_creditOf_78 : decode prog_10_method_4_code 78 = .ok (.goto (-73), 3) := by decide +kernel
theorem d_I_creditOf_81 : decode prog_10_method_4_code 81 = .ok (.iload_n 3, 1) := by decide +kernel
theorem d_I_creditOf_82 : decode prog_10_method_4_code 82 = .ok (.ireturn, 1) := by decide +kernel
theorem d_L_textAt_0 : decode prog_3_method_4_code 0 = .ok (.iload_n 1, 1) := by decide +kernel
theorem d_L_textAt_1 : decode prog_3_method_4_code 1 = .ok (.ifCond .lt 29, 3) := by decide +kernel
theorem d_L_textAt_4 : decode prog_3_method_4_code 4 = .ok (.iload_n 1, 1) := by decide +kernel
theorem d_L_textAt_5 : decode prog_3_method_4_code 5 = .ok (.aload_n 0, 1) := by decide +kernel
theorem d_L_textAt_6 : decode prog_3_method_4_code 6 = .ok (.getfield 24, 3) := by decide +kernel
theorem d_L_textAt_9 : decode prog_3_method_4_code 9 = .ok (.if_icmp .ge 21, 3) := by decide +kernel
theorem d_L_textAt_12 : decode prog_3_method_4_code 12 = .ok (.iload_n 1, 1) := by decide +kernel
theorem d_L_textAt_13 : decode prog_3_method_4_code 13 = .ok (.aload_n 0, 1) := by decide +kernel
theorem d_L_textAt_14 : decode prog_3_method_4_code 14 = .ok (.getfield 11, 3) := by decide +kernel
theorem d_L_textAt_17 : decode prog_3_method_4_code 17 = .ok (.arraylength, 1) := by decide +kernel
theorem d_L_textAt_18 : decode prog_3_method_4_code 18 = .ok (.if_icmp .ge 12, 3) := by decide +kernel
theorem d_L_textAt_21 : decode prog_3_method_4_code 21 = .ok (.aload_n 0, 1) := by decide +kernel
theorem d_L_textAt_22 : decode prog_3_method_4_code 22 = .ok (.getfield 11, 3) := by decide +kernel
theorem d_L_textAt_25 : decode prog_3_method_4_code 25 = .ok (.iload_n 1, 1) := by decide +kernel
theorem d_L_textAt_26 : decode prog_3_method_4_code 26 = .ok (.aaload, 1) := by decide +kernel
theorem d_L_textAt_27 : decode prog_3_method_4_code 27 = .ok (.goto 4, 3) := by decide +kernel
theorem d_L_textAt_30 : decode prog_3_method_4_code 30 = .ok (.aconst_null, 1) := by decide +kernel
theorem d_L_textAt_31 : decode prog_3_method_4_code 31 = .ok (.areturn, 1) := by decide +kernel
theorem d_T_counts_0 : decode prog_8_method_2_code 0 = .ok (.aload_n 0, 1) := by decide +kernel
theorem d_T_counts_1 : decode prog_8_method_2_code 1 = .ok (.getfield 9, 3) := by decide +kernel
theorem d_T_counts_4 : decode prog_8_method_2_code 4 = .ok (.iload_n 2, 1) := by decide +kernel
theorem d_T_counts_5 : decode prog_8_method_2_code 5 = .ok (.if_icmp .ne 32, 3) := by decide +kernel
theorem d_T_counts_8 : decode prog_8_method_2_code 8 = .ok (.aload_n 0, 1) := by decide +kernel
theorem d_T_counts_9 : decode prog_8_method_2_code 9 = .ok (.getfield 18, 3) := by decide +kernel
theorem d_T_counts_12 : decode prog_8_method_2_code 12 = .ok (.iload_n 3, 1) := by decide +kernel
theorem d_T_counts_13 : decode prog_8_method_2_code 13 = .ok (.if_icmp .gt 24, 3) := by decide +kernel
theorem d_T_counts_16 : decode prog_8_method_2_code 16 = .ok (.aload_n 0, 1) := by decide +kernel
theorem d_T_counts_17 : decode prog_8_method_2_code 17 = .ok (.getfield 15, 3) := by decide +kernel
theorem d_T_counts_20 : decode prog_8_method_2_code 20 = .ok (.iload_n 1, 1) := by decide +kernel
theorem d_T_counts_21 : decode prog_8_method_2_code 21 = .ok (.if_icmp .eq 12, 3) := by decide +kernel
theorem d_T_counts_24 : decode prog_8_method_2_code 24 = .ok (.aload_n 0, 1) := by decide +kernel
theorem d_T_counts_25 : decode prog_8_method_2_code 25 = .ok (.getfield 15, 3) := by decide +kernel
theorem d_T_counts_28 : decode prog_8_method_2_code 28 = .ok (.bipush 8, 2) := by decide +kernel
theorem d_T_counts_30 : decode prog_8_method_2_code 30 = .ok (.if_icmp .ne 7, 3) := by decide +kernel
theorem d_T_counts_33 : decode prog_8_method_2_code 33 = .ok (.iconst 1, 1) := by decide +kernel
theorem d_T_counts_34 : decode prog_8_method_2_code 34 = .ok (.goto 4, 3) := by decide +kernel
theorem d_T_counts_37 : decode prog_8_method_2_code 37 = .ok (.iconst 0, 1) := by decide +kernel
theorem d_T_counts_38 : decode prog_8_method_2_code 38 = .ok (.ireturn, 1) := by decide +kernel
theorem d_L_countingText_0 : decode prog_3_method_5_code 0 = .ok (.ldc 29, 2) := by decide +kernel
theorem d_L_countingText_2 : decode prog_3_method_5_code 2 = .ok (.istore 4, 2) := by decide +kernel
theorem d_L_countingText_4 : decode prog_3_method_5_code 4 = .ok (.iconst (-1), 1) := by decide +kernel
theorem d_L_countingText_5 : decode prog_3_method_5_code 5 = .ok (.istore 5, 2) := by decide +kernel
theorem d_L_countingText_7 : decode prog_3_method_5_code 7 = .ok (.iconst 0, 1) := by decide +kernel
theorem d_L_countingText_8 : decode prog_3_method_5_code 8 = .ok (.istore 6, 2) := by decide +kernel
theorem d_L_countingText_10 : decode prog_3_method_5_code 10 = .ok (.iload 6, 2) := by decide +kernel
theorem d_L_countingText_12 : decode prog_3_method_5_code 12 = .ok (.aload_n 0, 1) := by decide +kernel
theorem d_L_countingText_13 : decode prog_3_method_5_code 13 = .ok (.getfield 24, 3) := by decide +kernel
theorem d_L_countingText_16 : decode prog_3_method_5_code 16 = .ok (.if_icmp .ge 57, 3) := by decide +kernel
theorem d_L_countingText_19 : decode prog_3_method_5_code 19 = .ok (.aload_n 0, 1) := by decide +kernel
theorem d_L_countingText_20 : decode prog_3_method_5_code 20 = .ok (.iload 6, 2) := by decide +kernel
theorem d_L_countingText_22 : decode prog_3_method_5_code 22 = .ok (.invokevirtual 30, 3) := by decide +kernel
theorem d_L_countingText_25 : decode prog_3_method_5_code 25 = .ok (.astore 7, 2) := by decide +kernel
theorem d_L_countingText_27 : decode prog_3_method_5_code 27 = .ok (.aload 7, 2) := by decide +kernel
theorem d_L_countingText_29 : decode prog_3_method_5_code 29 = .ok (.ifnull 38, 3) := by decide +kernel
theorem d_L_countingText_32 : decode prog_3_method_5_code 32 = .ok (.aload 7, 2) := by decide +kernel
theorem d_L_countingText_34 : decode prog_3_method_5_code 34 = .ok (.iload_n 1, 1) := by decide +kernel
theorem d_L_countingText_35 : decode prog_3_method_5_code 35 = .ok (.iload_n 2, 1) := by decide +kernel
theorem d_L_countingText_36 : decode prog_3_method_5_code 36 = .ok (.iload_n 3, 1) := by decide +kernel
theorem d_L_countingText_37 : decode prog_3_method_5_code 37 = .ok (.invokevirtual 34, 3) := by decide +kernel
theorem d_L_countingText_40 : decode prog_3_method_5_code 40 = .ok (.ifCond .eq 27, 3) := by decide +kernel
theorem d_L_countingText_43 : decode prog_3_method_5_code 43 = .ok (.aload 7, 2) := by decide +kernel
theorem d_L_countingText_45 : decode prog_3_method_5_code 45 = .ok (.getfield 38, 3) := by decide +kernel
theorem d_L_countingText_48 : decode prog_3_method_5_code 48 = .ok (.iload 5, 2) := by decide +kernel
theorem d_L_countingText_50 : decode prog_3_method_5_code 50 = .ok (.if_icmp .ge 6, 3) := by decide +kernel
theorem d_L_countingText_53 : decode prog_3_method_5_code 53 = .ok (.goto 14, 3) := by decide +kernel
theorem d_L_countingText_56 : decode prog_3_method_5_code 56 = .ok (.iload 6, 2) := by decide +kernel
theorem d_L_countingText_58 : decode prog_3_method_5_code 58 = .ok (.istore 4, 2) := by decide +kernel
theorem d_L_countingText_60 : decode prog_3_method_5_code 60 = .ok (.aload 7, 2) := by decide +kernel
theorem d_L_countingText_62 : decode prog_3_method_5_code 62 = .ok (.getfield 38, 3) := by decide +kernel
theorem d_L_countingText_65 : decode prog_3_method_5_code 65 = .ok (.istore 5, 2) := by decide +kernel
theorem d_L_countingText_67 : decode prog_3_method_5_code 67 = .ok (.iinc 6 1, 3) := by decide +kernel
theorem d_L_countingText_70 : decode prog_3_method_5_code 70 = .ok (.goto (-60), 3) := by decide +kernel
theorem d_L_countingText_73 : decode prog_3_method_5_code 73 = .ok (.iload 4, 2) := by decide +kernel
theorem d_L_countingText_75 : decode prog_3_method_5_code 75 = .ok (.ireturn, 1) := by decide +kernel
theorem d_L_unwritten_0 : decode prog_3_method_7_code 0 = .ok (.iload_n 0, 1) := by decide +kernel
theorem d_L_unwritten_1 : decode prog_3_method_7_code 1 = .ok (.tableswitch 43 0 3 #[31, 35, 43, 40], 31) := by decide +kernel
theorem d_L_unwritten_32 : decode prog_3_method_7_code 32 = .ok (.iload_n 1, 1) := by decide +kernel
theorem d_L_unwritten_33 : decode prog_3_method_7_code 33 = .ok (.iconst 2, 1) := by decide +kernel
theorem d_L_unwritten_34 : decode prog_3_method_7_code 34 = .ok (.idiv, 1) := by decide +kernel
theorem d_L_unwritten_35 : decode prog_3_method_7_code 35 = .ok (.ireturn, 1) := by decide +kernel
theorem d_L_unwritten_36 : decode prog_3_method_7_code 36 = .ok (.bipush 7, 2) := by decide +kernel
theorem d_L_unwritten_38 : decode prog_3_method_7_code 38 = .ok (.iload_n 1, 1) := by decide +kernel
theorem d_L_unwritten_39 : decode prog_3_method_7_code 39 = .ok (.imul, 1) := by decide +kernel
theorem d_L_unwritten_40 : decode prog_3_method_7_code 40 = .ok (.ireturn, 1) := by decide +kernel
theorem d_L_unwritten_41 : decode prog_3_method_7_code 41 = .ok (.bipush 28, 2) := by decide +kernel
theorem d_L_unwritten_43 : decode prog_3_method_7_code 43 = .ok (.ireturn, 1) := by decide +kernel
theorem d_L_unwritten_44 : decode prog_3_method_7_code 44 = .ok (.iconst 0, 1) := by decide +kernel
theorem d_L_unwritten_45 : decode prog_3_method_7_code 45 = .ok (.ireturn, 1) := by decide +kernel
theorem d_K_clear_0 : decode prog_6_method_2_code 0 = .ok (.aload_n 0, 1) := by decide +kernel
theorem d_K_clear_1 : decode prog_6_method_2_code 1 = .ok (.iconst 0, 1) := by decide +kernel
theorem d_K_clear_2 : decode prog_6_method_2_code 2 = .ok (.putfield 15, 3) := by decide +kernel
theorem d_K_clear_5 : decode prog_6_method_2_code 5 = .ok (.return_, 1) := by decide +kernel
theorem d_K_push_0 : decode prog_6_method_3_code 0 = .ok (.aload_n 0, 1) := by decide +kernel
theorem d_K_push_1 : decode prog_6_method_3_code 1 = .ok (.getfield 15, 3) := by decide +kernel
theorem d_K_push_4 : decode prog_6_method_3_code 4 = .ok (.ifCond .lt 15, 3) := by decide +kernel
theorem d_K_push_7 : decode prog_6_method_3_code 7 = .ok (.aload_n 0, 1) := by decide +kernel
theorem d_K_push_8 : decode prog_6_method_3_code 8 = .ok (.getfield 15, 3) := by decide +kernel
theorem d_K_push_11 : decode prog_6_method_3_code 11 = .ok (.aload_n 0, 1) := by decide +kernel
theorem d_K_push_12 : decode prog_6_method_3_code 12 = .ok (.getfield 9, 3) := by decide +kernel
theorem d_K_push_15 : decode prog_6_method_3_code 15 = .ok (.arraylength, 1) := by decide +kernel
theorem d_K_push_16 : decode prog_6_method_3_code 16 = .ok (.if_icmp .lt 4, 3) := by decide +kernel
theorem d_K_push_19 : decode prog_6_method_3_code 19 = .ok (.return_, 1) := by decide +kernel
theorem d_K_push_20 : decode prog_6_method_3_code 20 = .ok (.aload_n 0, 1) := by decide +kernel
theorem d_K_push_21 : decode prog_6_method_3_code 21 = .ok (.getfield 9, 3) := by decide +kernel
theorem d_K_push_24 : decode prog_6_method_3_code 24 = .ok (.aload_n 0, 1) := by decide +kernel
theorem d_K_push_25 : decode prog_6_method_3_code 25 = .ok (.getfield 15, 3) := by decide +kernel
theorem d_K_push_28 : decode prog_6_method_3_code 28 = .ok (.iload_n 1, 1) := by decide +kernel
theorem d_K_push_29 : decode prog_6_method_3_code 29 = .ok (.iastore, 1) := by decide +kernel
theorem d_K_push_30 : decode prog_6_method_3_code 30 = .ok (.aload_n 0, 1) := by decide +kernel
theorem d_K_push_31 : decode prog_6_method_3_code 31 = .ok (.dup, 1) := by decide +kernel
theorem d_K_push_32 : decode prog_6_method_3_code 32 = .ok (.getfield 15, 3) := by decide +kernel
theorem d_K_push_35 : decode prog_6_method_3_code 35 = .ok (.iconst 1, 1) := by decide +kernel
theorem d_K_push_36 : decode prog_6_method_3_code 36 = .ok (.iadd, 1) := by decide +kernel
theorem d_K_push_37 : decode prog_6_method_3_code 37 = .ok (.putfield 15, 3) := by decide +kernel
theorem d_K_push_40 : decode prog_6_method_3_code 40 = .ok (.return_, 1) := by decide +kernel
theorem d_T_named_0 : decode prog_8_method_4_code 0 = .ok (.iload_n 0, 1) := by decide +kernel
theorem d_T_named_1 : decode prog_8_method_4_code 1 = .ok (.tableswitch 33 0 2 #[27, 29, 31], 27) := by decide +kernel
theorem d_T_named_28 : decode prog_8_method_4_code 28 = .ok (.iload_n 1, 1) := by decide +kernel
theorem d_T_named_29 : decode prog_8_method_4_code 29 = .ok (.ireturn, 1) := by decide +kernel
theorem d_T_named_30 : decode prog_8_method_4_code 30 = .ok (.iload_n 2, 1) := by decide +kernel
theorem d_T_named_31 : decode prog_8_method_4_code 31 = .ok (.ireturn, 1) := by decide +kernel
theorem d_T_named_32 : decode prog_8_method_4_code 32 = .ok (.iload_n 3, 1) := by decide +kernel
theorem d_T_named_33 : decode prog_8_method_4_code 33 = .ok (.ireturn, 1) := by decide +kernel
theorem d_T_named_34 : decode prog_8_method_4_code 34 = .ok (.iload 4, 2) := by decide +kernel
theorem d_T_named_36 : decode prog_8_method_4_code 36 = .ok (.ireturn, 1) := by decide +kernel
theorem d_K_pop_0 : decode prog_6_method_4_code 0 = .ok (.aload_n 0, 1) := by decide +kernel
theorem d_K_pop_1 : decode prog_6_method_4_code 1 = .ok (.getfield 15, 3) := by decide +kernel
theorem d_K_pop_4 : decode prog_6_method_4_code 4 = .ok (.ifCond .le 15, 3) := by decide +kernel
theorem d_K_pop_7 : decode prog_6_method_4_code 7 = .ok (.aload_n 0, 1) := by decide +kernel
theorem d_K_pop_8 : decode prog_6_method_4_code 8 = .ok (.getfield 15, 3) := by decide +kernel
theorem d_K_pop_11 : decode prog_6_method_4_code 11 = .ok (.aload_n 0, 1) := by decide +kernel
theorem d_K_pop_12 : decode prog_6_method_4_code 12 = .ok (.getfield 9, 3) := by decide +kernel
theorem d_K_pop_15 : decode prog_6_method_4_code 15 = .ok (.arraylength, 1) := by decide +kernel
theorem d_K_pop_16 : decode prog_6_method_4_code 16 = .ok (.if_icmp .le 5, 3) := by decide +kernel
theorem d_K_pop_19 : decode prog_6_method_4_code 19 = .ok (.iconst 0, 1) := by decide +kernel
theorem d_K_pop_20 : decode prog_6_method_4_code 20 = .ok (.ireturn, 1) := by decide +kernel
theorem d_K_pop_21 : decode prog_6_method_4_code 21 = .ok (.aload_n 0, 1) := by decide +kernel
theorem d_K_pop_22 : decode prog_6_method_4_code 22 = .ok (.dup, 1) := by decide +kernel
theorem d_K_pop_23 : decode prog_6_method_4_code 23 = .ok (.getfield 15, 3) := by decide +kernel
theorem d_K_pop_26 : decode prog_6_method_4_code 26 = .ok (.iconst 1, 1) := by decide +kernel
theorem d_K_pop_27 : decode prog_6_method_4_code 27 = .ok (.isub, 1) := by decide +kernel
theorem d_K_pop_28 : decode prog_6_method_4_code 28 = .ok (.putfield 15, 3) := by decide +kernel
theorem d_K_pop_31 : decode prog_6_method_4_code 31 = .ok (.aload_n 0, 1) := by decide +kernel
theorem d_K_pop_32 : decode prog_6_method_4_code 32 = .ok (.getfield 9, 3) := by decide +kernel
theorem d_K_pop_35 : decode prog_6_method_4_code 35 = .ok (.aload_n 0, 1) := by decide +kernel
theorem d_K_pop_36 : decode prog_6_method_4_code 36 = .ok (.getfield 15, 3) := by decide +kernel
theorem d_K_pop_39 : decode prog_6_method_4_code 39 = .ok (.iaload, 1) := by decide +kernel
theorem d_K_pop_40 : decode prog_6_method_4_code 40 = .ok (.ireturn, 1) := by decide +kernel
theorem d_T_joined_0 : decode prog_8_method_5_code 0 = .ok (.iload_n 1, 1) := by decide +kernel
theorem d_T_joined_1 : decode prog_8_method_5_code 1 = .ok (.lookupswitch 168 #[(38, 140), (42, 83), (43, 99), (45, 103), (47, 87), (60, 107), (61, 118), (62, 129), (124, 154)], 83) := by decide +kernel
theorem d_T_joined_84 : decode prog_8_method_5_code 84 = .ok (.iload_n 0, 1) := by decide +kernel
theorem d_T_joined_85 : decode prog_8_method_5_code 85 = .ok (.iload_n 2, 1) := by decide +kernel
theorem d_T_joined_86 : decode prog_8_method_5_code 86 = .ok (.imul, 1) := by decide +kernel
theorem d_T_joined_87 : decode prog_8_method_5_code 87 = .ok (.ireturn, 1) := by decide +kernel
theorem d_T_joined_88 : decode prog_8_method_5_code 88 = .ok (.iload_n 2, 1) := by decide +kernel
theorem d_T_joined_89 : decode prog_8_method_5_code 89 = .ok (.ifCond .ne 7, 3) := by decide +kernel
theorem d_T_joined_92 : decode prog_8_method_5_code 92 = .ok (.iconst 0, 1) := by decide +kernel
theorem d_T_joined_93 : decode prog_8_method_5_code 93 = .ok (.goto 6, 3) := by decide +kernel
theorem d_T_joined_96 : decode prog_8_method_5_code 96 = .ok (.iload_n 0, 1) := by decide +kernel
theorem d_T_joined_97 : decode prog_8_method_5_code 97 = .ok (.iload_n 2, 1) := by decide +kernel
theorem d_T_joined_98 : decode prog_8_method_5_code 98 = .ok (.idiv, 1) := by decide +kernel
theorem d_T_joined_99 : decode prog_8_method_5_code 99 = .ok (.ireturn, 1) := by decide +kernel
theorem d_T_joined_100 : decode prog_8_method_5_code 100 = .ok (.iload_n 0, 1) := by decide +kernel
theorem d_T_joined_101 : decode prog_8_method_5_code 101 = .ok (.iload_n 2, 1) := by decide +kernel
theorem d_T_joined_102 : decode prog_8_method_5_code 102 = .ok (.iadd, 1) := by decide +kernel
theorem d_T_joined_103 : decode prog_8_method_5_code 103 = .ok (.ireturn, 1) := by decide +kernel
theorem d_T_joined_104 : decode prog_8_method_5_code 104 = .ok (.iload_n 0, 1) := by decide +kernel
theorem d_T_joined_105 : decode prog_8_method_5_code 105 = .ok (.iload_n 2, 1) := by decide +kernel
theorem d_T_joined_106 : decode prog_8_method_5_code 106 = .ok (.isub, 1) := by decide +kernel
theorem d_T_joined_107 : decode prog_8_method_5_code 107 = .ok (.ireturn, 1) := by decide +kernel
theorem d_T_joined_108 : decode prog_8_method_5_code 108 = .ok (.iload_n 0, 1) := by decide +kernel
theorem d_T_joined_109 : decode prog_8_method_5_code 109 = .ok (.iload_n 2, 1) := by decide +kernel
theorem d_T_joined_110 : decode prog_8_method_5_code 110 = .ok (.if_icmp .ge 7, 3) := by decide +kernel
theorem d_T_joined_113 : decode prog_8_method_5_code 113 = .ok (.iconst 1, 1) := by decide +kernel
theorem d_T_joined_114 : decode prog_8_method_5_code 114 = .ok (.goto 4, 3) := by decide +kernel
theorem d_T_joined_117 : decode prog_8_method_5_code 117 = .ok (.iconst 0, 1) := by decide +kernel
theorem d_T_joined_118 : decode prog_8_method_5_code 118 = .ok (.ireturn, 1) := by decide +kernel
theorem d_T_joined_119 : decode prog_8_method_5_code 119 = .ok (.iload_n 0, 1) := by decide +kernel
theorem d_T_joined_120 : decode prog_8_method_5_code 120 = .ok (.iload_n 2, 1) := by decide +kernel
theorem d_T_joined_121 : decode prog_8_method_5_code 121 = .ok (.if_icmp .ne 7, 3) := by decide +kernel
theorem d_T_joined_124 : decode prog_8_method_5_code 124 = .ok (.iconst 1, 1) := by decide +kernel
theorem d_T_joined_125 : decode prog_8_method_5_code 125 = .ok (.goto 4, 3) := by decide +kernel
theorem d_T_joined_128 : decode prog_8_method_5_code 128 = .ok (.iconst 0, 1) := by decide +kernel
theorem d_T_joined_129 : decode prog_8_method_5_code 129 = .ok (.ireturn, 1) := by decide +kernel
theorem d_T_joined_130 : decode prog_8_method_5_code 130 = .ok (.iload_n 0, 1) := by decide +kernel
theorem d_T_joined_131 : decode prog_8_method_5_code 131 = .ok (.iload_n 2, 1) := by decide +kernel
theorem d_T_joined_132 : decode prog_8_method_5_code 132 = .ok (.if_icmp .le 7, 3) := by decide +kernel
theorem d_T_joined_135 : decode prog_8_method_5_code 135 = .ok (.iconst 1, 1) := by decide +kernel
theorem d_T_joined_136 : decode prog_8_method_5_code 136 = .ok (.goto 4, 3) := by decide +kernel
theorem d_T_joined_139 : decode prog_8_method_5_code 139 = .ok (.iconst 0, 1) := by decide +kernel
theorem d_T_joined_140 : decode prog_8_method_5_code 140 = .ok (.ireturn, 1) := by decide +kernel
theorem d_T_joined_141 : decode prog_8_method_5_code 141 = .ok (.iload_n 0, 1) := by decide +kernel
theorem d_T_joined_142 : decode prog_8_method_5_code 142 = .ok (.ifCond .eq 11, 3) := by decide +kernel
theorem d_T_joined_145 : decode prog_8_method_5_code 145 = .ok (.iload_n 2, 1) := by decide +kernel
theorem d_T_joined_146 : decode prog_8_method_5_code 146 = .ok (.ifCond .eq 7, 3) := by decide +kernel
theorem d_T_joined_149 : decode prog_8_method_5_code 149 = .ok (.iconst 1, 1) := by decide +kernel
theorem d_T_joined_150 : decode prog_8_method_5_code 150 = .ok (.goto 4, 3) := by decide +kernel
theorem d_T_joined_153 : decode prog_8_method_5_code 153 = .ok (.iconst 0, 1) := by decide +kernel
theorem d_T_joined_154 : decode prog_8_method_5_code 154 = .ok (.ireturn, 1) := by decide +kernel
theorem d_T_joined_155 : decode prog_8_method_5_code 155 = .ok (.iload_n 0, 1) := by decide +kernel
theorem d_T_joined_156 : decode prog_8_method_5_code 156 = .ok (.ifCond .ne 7, 3) := by decide +kernel
theorem d_T_joined_159 : decode prog_8_method_5_code 159 = .ok (.iload_n 2, 1) := by decide +kernel
theorem d_T_joined_160 : decode prog_8_method_5_code 160 = .ok (.ifCond .eq 7, 3) := by decide +kernel
theorem d_T_joined_163 : decode prog_8_method_5_code 163 = .ok (.iconst 1, 1) := by decide +kernel
theorem d_T_joined_164 : decode prog_8_method_5_code 164 = .ok (.goto 4, 3) := by decide +kernel
theorem d_T_joined_167 : decode prog_8_method_5_code 167 = .ok (.iconst 0, 1) := by decide +kernel
theorem d_T_joined_168 : decode prog_8_method_5_code 168 = .ok (.ireturn, 1) := by decide +kernel
theorem d_T_joined_169 : decode prog_8_method_5_code 169 = .ok (.iconst 0, 1) := by decide +kernel
theorem d_T_joined_170 : decode prog_8_method_5_code 170 = .ok (.ireturn, 1) := by decide +kernel
theorem d_T_value_0 : decode prog_8_method_3_code 0 = .ok (.aload_n 1, 1) := by decide +kernel
theorem d_T_value_1 : decode prog_8_method_3_code 1 = .ok (.invokevirtual 28, 3) := by decide +kernel
theorem d_T_value_4 : decode prog_8_method_3_code 4 = .ok (.iconst 0, 1) := by decide +kernel
theorem d_T_value_5 : decode prog_8_method_3_code 5 = .ok (.istore 6, 2) := by decide +kernel
theorem d_T_value_7 : decode prog_8_method_3_code 7 = .ok (.iload 6, 2) := by decide +kernel
theorem d_T_value_9 : decode prog_8_method_3_code 9 = .ok (.aload_n 0, 1) := by decide +kernel
theorem d_T_value_10 : decode prog_8_method_3_code 10 = .ok (.getfield 24, 3) := by decide +kernel
theorem d_T_value_13 : decode prog_8_method_3_code 13 = .ok (.arraylength, 1) := by decide +kernel
theorem d_T_value_14 : decode prog_8_method_3_code 14 = .ok (.if_icmp .ge 111, 3) := by decide +kernel
theorem d_T_value_17 : decode prog_8_method_3_code 17 = .ok (.aload_n 0, 1) := by decide +kernel
theorem d_T_value_18 : decode prog_8_method_3_code 18 = .ok (.getfield 24, 3) := by decide +kernel
theorem d_T_value_21 : decode prog_8_method_3_code 21 = .ok (.iload 6, 2) := by decide +kernel
theorem d_T_value_23 : decode prog_8_method_3_code 23 = .ok (.iaload, 1) := by decide +kernel
theorem d_T_value_24 : decode prog_8_method_3_code 24 = .ok (.istore 7, 2) := by decide +kernel
theorem d_T_value_26 : decode prog_8_method_3_code 26 = .ok (.iload 7, 2) := by decide +kernel
theorem d_T_value_28 : decode prog_8_method_3_code 28 = .ok (.ifCond .lt 12, 3) := by decide +kernel
theorem d_T_value_31 : decode prog_8_method_3_code 31 = .ok (.aload_n 1, 1) := by decide +kernel
theorem d_T_value_32 : decode prog_8_method_3_code 32 = .ok (.iload 7, 2) := by decide +kernel
theorem d_T_value_34 : decode prog_8_method_3_code 34 = .ok (.invokevirtual 33, 3) := by decide +kernel
theorem d_T_value_37 : decode prog_8_method_3_code 37 = .ok (.goto 82, 3) := by decide +kernel
theorem d_T_value_40 : decode prog_8_method_3_code 40 = .ok (.iload 7, 2) := by decide +kernel
theorem d_T_value_42 : decode prog_8_method_3_code 42 = .ok (.bipush (-4), 2) := by decide +kernel
theorem d_T_value_44 : decode prog_8_method_3_code 44 = .ok (.if_icmp .lt 23, 3) := by decide +kernel
theorem d_T_value_47 : decode prog_8_method_3_code 47 = .ok (.aload_n 1, 1) := by decide +kernel
theorem d_T_value_48 : decode prog_8_method_3_code 48 = .ok (.iconst (-1), 1) := by decide +kernel
theorem d_T_value_49 : decode prog_8_method_3_code 49 = .ok (.iload 7, 2) := by decide +kernel
theorem d_T_value_51 : decode prog_8_method_3_code 51 = .ok (.isub, 1) := by decide +kernel
theorem d_T_value_52 : decode prog_8_method_3_code 52 = .ok (.iload_n 2, 1) := by decide +kernel
theorem d_T_value_53 : decode prog_8_method_3_code 53 = .ok (.iload_n 3, 1) := by decide +kernel
theorem d_T_value_54 : decode prog_8_method_3_code 54 = .ok (.iload 4, 2) := by decide +kernel
theorem d_T_value_56 : decode prog_8_method_3_code 56 = .ok (.iload 5, 2) := by decide +kernel
theorem d_T_value_58 : decode prog_8_method_3_code 58 = .ok (.invokestatic 37, 3) := by decide +kernel
theorem d_T_value_61 : decode prog_8_method_3_code 61 = .ok (.invokevirtual 33, 3) := by decide +kernel
theorem d_T_value_64 : decode prog_8_method_3_code 64 = .ok (.goto 55, 3) := by decide +kernel
theorem d_T_value_67 : decode prog_8_method_3_code 67 = .ok (.iload 7, 2) := by decide +kernel
theorem d_T_value_69 : decode prog_8_method_3_code 69 = .ok (.bipush (-33), 2) := by decide +kernel
theorem d_T_value_71 : decode prog_8_method_3_code 71 = .ok (.if_icmp .ne 22, 3) := by decide +kernel
theorem d_T_value_74 : decode prog_8_method_3_code 74 = .ok (.aload_n 1, 1) := by decide +kernel
theorem d_T_value_75 : decode prog_8_method_3_code 75 = .ok (.aload_n 1, 1) := by decide +kernel
theorem d_T_value_76 : decode prog_8_method_3_code 76 = .ok (.invokevirtual 41, 3) := by decide +kernel
theorem d_T_value_79 : decode prog_8_method_3_code 79 = .ok (.ifCond .ne 7, 3) := by decide +kernel
theorem d_T_value_82 : decode prog_8_method_3_code 82 = .ok (.iconst 1, 1) := by decide +kernel
theorem d_T_value_83 : decode prog_8_method_3_code 83 = .ok (.goto 4, 3) := by decide +kernel
theorem d_T_value_86 : decode prog_8_method_3_code 86 = .ok (.iconst 0, 1) := by decide +kernel
theorem d_T_value_87 : decode prog_8_method_3_code 87 = .ok (.invokevirtual 33, 3) := by decide +kernel
theorem d_T_value_90 : decode prog_8_method_3_code 90 = .ok (.goto 29, 3) := by decide +kernel
theorem d_T_value_93 : decode prog_8_method_3_code 93 = .ok (.aload_n 1, 1) := by decide +kernel
theorem d_T_value_94 : decode prog_8_method_3_code 94 = .ok (.invokevirtual 41, 3) := by decide +kernel
theorem d_T_value_97 : decode prog_8_method_3_code 97 = .ok (.istore 8, 2) := by decide +kernel
theorem d_T_value_99 : decode prog_8_method_3_code 99 = .ok (.aload_n 1, 1) := by decide +kernel
theorem d_T_value_100 : decode prog_8_method_3_code 100 = .ok (.invokevirtual 41, 3) := by decide +kernel
theorem d_T_value_103 : decode prog_8_method_3_code 103 = .ok (.istore 9, 2) := by decide +kernel
theorem d_T_value_105 : decode prog_8_method_3_code 105 = .ok (.aload_n 1, 1) := by decide +kernel
theorem d_T_value_106 : decode prog_8_method_3_code 106 = .ok (.iload 9, 2) := by decide +kernel
theorem d_T_value_108 : decode prog_8_method_3_code 108 = .ok (.iload 7, 2) := by decide +kernel
theorem d_T_value_110 : decode prog_8_method_3_code 110 = .ok (.ineg, 1) := by decide +kernel
theorem d_T_value_111 : decode prog_8_method_3_code 111 = .ok (.iload 8, 2) := by decide +kernel
theorem d_T_value_113 : decode prog_8_method_3_code 113 = .ok (.invokestatic 45, 3) := by decide +kernel
theorem d_T_value_116 : decode prog_8_method_3_code 116 = .ok (.invokevirtual 33, 3) := by decide +kernel
theorem d_T_value_119 : decode prog_8_method_3_code 119 = .ok (.iinc 6 1, 3) := by decide +kernel
theorem d_T_value_122 : decode prog_8_method_3_code 122 = .ok (.goto (-115), 3) := by decide +kernel
theorem d_T_value_125 : decode prog_8_method_3_code 125 = .ok (.aload_n 1, 1) := by decide +kernel
theorem d_T_value_126 : decode prog_8_method_3_code 126 = .ok (.invokevirtual 41, 3) := by decide +kernel
theorem d_T_value_129 : decode prog_8_method_3_code 129 = .ok (.ireturn, 1) := by decide +kernel
theorem d_L_held_0 : decode prog_3_method_8_code 0 = .ok (.iload_n 0, 1) := by decide +kernel
theorem d_L_held_1 : decode prog_3_method_8_code 1 = .ok (.tableswitch 64 0 3 #[31, 42, 64, 53], 31) := by decide +kernel
theorem d_L_held_32 : decode prog_3_method_8_code 32 = .ok (.iconst 0, 1) := by decide +kernel
theorem d_L_held_33 : decode prog_3_method_8_code 33 = .ok (.ldc 56, 2) := by decide +kernel
theorem d_L_held_35 : decode prog_3_method_8_code 35 = .ok (.iload_n 1, 1) := by decide +kernel
theorem d_L_held_36 : decode prog_3_method_8_code 36 = .ok (.invokestatic 57, 3) := by decide +kernel
theorem d_L_held_39 : decode prog_3_method_8_code 39 = .ok (.invokestatic 62, 3) := by decide +kernel
theorem d_L_held_42 : decode prog_3_method_8_code 42 = .ok (.ireturn, 1) := by decide +kernel
theorem d_L_held_43 : decode prog_3_method_8_code 43 = .ok (.iconst 0, 1) := by decide +kernel
theorem d_L_held_44 : decode prog_3_method_8_code 44 = .ok (.bipush 99, 2) := by decide +kernel
theorem d_L_held_46 : decode prog_3_method_8_code 46 = .ok (.iload_n 1, 1) := by decide +kernel
theorem d_L_held_47 : decode prog_3_method_8_code 47 = .ok (.invokestatic 57, 3) := by decide +kernel
theorem d_L_held_50 : decode prog_3_method_8_code 50 = .ok (.invokestatic 62, 3) := by decide +kernel
theorem d_L_held_53 : decode prog_3_method_8_code 53 = .ok (.ireturn, 1) := by decide +kernel
theorem d_L_held_54 : decode prog_3_method_8_code 54 = .ok (.iconst 1, 1) := by decide +kernel
theorem d_L_held_55 : decode prog_3_method_8_code 55 = .ok (.bipush 99, 2) := by decide +kernel
theorem d_L_held_57 : decode prog_3_method_8_code 57 = .ok (.iload_n 1, 1) := by decide +kernel
theorem d_L_held_58 : decode prog_3_method_8_code 58 = .ok (.invokestatic 57, 3) := by decide +kernel
theorem d_L_held_61 : decode prog_3_method_8_code 61 = .ok (.invokestatic 62, 3) := by decide +kernel
theorem d_L_held_64 : decode prog_3_method_8_code 64 = .ok (.ireturn, 1) := by decide +kernel
theorem d_L_held_65 : decode prog_3_method_8_code 65 = .ok (.iload_n 1, 1) := by decide +kernel
theorem d_L_held_66 : decode prog_3_method_8_code 66 = .ok (.ireturn, 1) := by decide +kernel
theorem d_L_ruleOf_0 : decode prog_3_method_6_code 0 = .ok (.aload_n 0, 1) := by decide +kernel
theorem d_L_ruleOf_1 : decode prog_3_method_6_code 1 = .ok (.aload_n 0, 1) := by decide +kernel
theorem d_L_ruleOf_2 : decode prog_3_method_6_code 2 = .ok (.iload_n 1, 1) := by decide +kernel
theorem d_L_ruleOf_3 : decode prog_3_method_6_code 3 = .ok (.iload_n 2, 1) := by decide +kernel
theorem d_L_ruleOf_4 : decode prog_3_method_6_code 4 = .ok (.iload_n 3, 1) := by decide +kernel
theorem d_L_ruleOf_5 : decode prog_3_method_6_code 5 = .ok (.invokevirtual 41, 3) := by decide +kernel
theorem d_L_ruleOf_8 : decode prog_3_method_6_code 8 = .ok (.invokevirtual 30, 3) := by decide +kernel
theorem d_L_ruleOf_11 : decode prog_3_method_6_code 11 = .ok (.astore 8, 2) := by decide +kernel
theorem d_L_ruleOf_13 : decode prog_3_method_6_code 13 = .ok (.iload_n 2, 1) := by decide +kernel
theorem d_L_ruleOf_14 : decode prog_3_method_6_code 14 = .ok (.aload 8, 2) := by decide +kernel
theorem d_L_ruleOf_16 : decode prog_3_method_6_code 16 = .ok (.ifnonnull 12, 3) := by decide +kernel
theorem d_L_ruleOf_19 : decode prog_3_method_6_code 19 = .ok (.iload_n 2, 1) := by decide +kernel
theorem d_L_ruleOf_20 : decode prog_3_method_6_code 20 = .ok (.iload 4, 2) := by decide +kernel
theorem d_L_ruleOf_22 : decode prog_3_method_6_code 22 = .ok (.invokestatic 45, 3) := by decide +kernel
theorem d_L_ruleOf_25 : decode prog_3_method_6_code 25 = .ok (.goto 20, 3) := by decide +kernel
theorem d_L_ruleOf_28 : decode prog_3_method_6_code 28 = .ok (.aload 8, 2) := by decide +kernel
theorem d_L_ruleOf_30 : decode prog_3_method_6_code 30 = .ok (.aload_n 0, 1) := by decide +kernel
theorem d_L_ruleOf_31 : decode prog_3_method_6_code 31 = .ok (.getfield 20, 3) := by decide +kernel
theorem d_L_ruleOf_34 : decode prog_3_method_6_code 34 = .ok (.iload 4, 2) := by decide +kernel
theorem d_L_ruleOf_36 : decode prog_3_method_6_code 36 = .ok (.iload 5, 2) := by decide +kernel
theorem d_L_ruleOf_38 : decode prog_3_method_6_code 38 = .ok (.iload 6, 2) := by decide +kernel
theorem d_L_ruleOf_40 : decode prog_3_method_6_code 40 = .ok (.iload 7, 2) := by decide +kernel
theorem d_L_ruleOf_42 : decode prog_3_method_6_code 42 = .ok (.invokevirtual 49, 3) := by decide +kernel
theorem d_L_ruleOf_45 : decode prog_3_method_6_code 45 = .ok (.invokestatic 53, 3) := by decide +kernel
theorem d_L_ruleOf_48 : decode prog_3_method_6_code 48 = .ok (.ireturn, 1) := by decide +kernel
theorem d_B_isDue_0 : decode prog_2_method_9_code 0 = .ok (.aload_n 0, 1) := by decide +kernel
theorem d_B_isDue_1 : decode prog_2_method_9_code 1 = .ok (.getfield 45, 3) := by decide +kernel
theorem d_B_isDue_4 : decode prog_2_method_9_code 4 = .ok (.aload_n 0, 1) := by decide +kernel
theorem d_B_isDue_5 : decode prog_2_method_9_code 5 = .ok (.getfield 14, 3) := by decide +kernel
theorem d_B_isDue_8 : decode prog_2_method_9_code 8 = .ok (.iload_n 1, 1) := by decide +kernel
theorem d_B_isDue_9 : decode prog_2_method_9_code 9 = .ok (.iconst 0, 1) := by decide +kernel
theorem d_B_isDue_10 : decode prog_2_method_9_code 10 = .ok (.invokevirtual 72, 3) := by decide +kernel
theorem d_B_isDue_13 : decode prog_2_method_9_code 13 = .ok (.iconst 0, 1) := by decide +kernel
theorem d_B_isDue_14 : decode prog_2_method_9_code 14 = .ok (.aload_n 0, 1) := by decide +kernel
theorem d_B_isDue_15 : decode prog_2_method_9_code 15 = .ok (.getfield 59, 3) := by decide +kernel
theorem d_B_isDue_18 : decode prog_2_method_9_code 18 = .ok (.aload_n 0, 1) := by decide +kernel
theorem d_B_isDue_19 : decode prog_2_method_9_code 19 = .ok (.getfield 38, 3) := by decide +kernel
theorem d_B_isDue_22 : decode prog_2_method_9_code 22 = .ok (.iload_n 1, 1) := by decide +kernel
theorem d_B_isDue_23 : decode prog_2_method_9_code 23 = .ok (.invokevirtual 108, 3) := by decide +kernel
theorem d_B_isDue_26 : decode prog_2_method_9_code 26 = .ok (.aload_n 0, 1) := by decide +kernel
theorem d_B_isDue_27 : decode prog_2_method_9_code 27 = .ok (.getfield 38, 3) := by decide +kernel
theorem d_B_isDue_30 : decode prog_2_method_9_code 30 = .ok (.iload_n 1, 1) := by decide +kernel
theorem d_B_isDue_31 : decode prog_2_method_9_code 31 = .ok (.aload_n 0, 1) := by decide +kernel
theorem d_B_isDue_32 : decode prog_2_method_9_code 32 = .ok (.getfield 59, 3) := by decide +kernel
theorem d_B_isDue_35 : decode prog_2_method_9_code 35 = .ok (.invokevirtual 111, 3) := by decide +kernel
theorem d_B_isDue_38 : decode prog_2_method_9_code 38 = .ok (.aload_n 0, 1) := by decide +kernel
theorem d_B_isDue_39 : decode prog_2_method_9_code 39 = .ok (.getfield 14, 3) := by decide +kernel
theorem d_B_isDue_42 : decode prog_2_method_9_code 42 = .ok (.iload_n 1, 1) := by decide +kernel
theorem d_B_isDue_43 : decode prog_2_method_9_code 43 = .ok (.iconst 5, 1) := by decide +kernel
theorem d_B_isDue_44 : decode prog_2_method_9_code 44 = .ok (.invokevirtual 72, 3) := by decide +kernel
theorem d_B_isDue_47 : decode prog_2_method_9_code 47 = .ok (.iconst 0, 1) := by decide +kernel
theorem d_B_isDue_48 : decode prog_2_method_9_code 48 = .ok (.invokevirtual 114, 3) := by decide +kernel
theorem d_B_isDue_51 : decode prog_2_method_9_code 51 = .ok (.istore_n 3, 1) := by decide +kernel
theorem d_B_isDue_52 : decode prog_2_method_9_code 52 = .ok (.aload_n 0, 1) := by decide +kernel
theorem d_B_isDue_53 : decode prog_2_method_9_code 53 = .ok (.getfield 38, 3) := by decide +kernel
theorem d_B_isDue_56 : decode prog_2_method_9_code 56 = .ok (.iload_n 1, 1) := by decide +kernel
theorem d_B_isDue_57 : decode prog_2_method_9_code 57 = .ok (.iload_n 2, 1) := by decide +kernel
theorem d_B_isDue_58 : decode prog_2_method_9_code 58 = .ok (.invokevirtual 97, 3) := by decide +kernel
theorem d_B_isDue_61 : decode prog_2_method_9_code 61 = .ok (.aload_n 0, 1) := by decide +kernel
theorem d_B_isDue_62 : decode prog_2_method_9_code 62 = .ok (.getfield 38, 3) := by decide +kernel
theorem d_B_isDue_65 : decode prog_2_method_9_code 65 = .ok (.iload_n 1, 1) := by decide +kernel
theorem d_B_isDue_66 : decode prog_2_method_9_code 66 = .ok (.iload_n 2, 1) := by decide +kernel
theorem d_B_isDue_67 : decode prog_2_method_9_code 67 = .ok (.invokevirtual 111, 3) := by decide +kernel
theorem d_B_isDue_70 : decode prog_2_method_9_code 70 = .ok (.iadd, 1) := by decide +kernel
theorem d_B_isDue_71 : decode prog_2_method_9_code 71 = .ok (.iload_n 3, 1) := by decide +kernel
theorem d_B_isDue_72 : decode prog_2_method_9_code 72 = .ok (.if_icmp .lt 7, 3) := by decide +kernel
theorem d_B_isDue_75 : decode prog_2_method_9_code 75 = .ok (.iconst 1, 1) := by decide +kernel
theorem d_B_isDue_76 : decode prog_2_method_9_code 76 = .ok (.goto 4, 3) := by decide +kernel
theorem d_B_isDue_79 : decode prog_2_method_9_code 79 = .ok (.iconst 0, 1) := by decide +kernel
theorem d_B_isDue_80 : decode prog_2_method_9_code 80 = .ok (.ireturn, 1) := by decide +kernel
theorem d_B_dateOf_0 : decode prog_2_method_10_code 0 = .ok (.aload_n 0, 1) := by decide +kernel
theorem d_B_dateOf_1 : decode prog_2_method_10_code 1 = .ok (.getfield 59, 3) := by decide +kernel
theorem d_B_dateOf_4 : decode prog_2_method_10_code 4 = .ok (.istore_n 2, 1) := by decide +kernel
theorem d_B_dateOf_5 : decode prog_2_method_10_code 5 = .ok (.aload_n 0, 1) := by decide +kernel
theorem d_B_dateOf_6 : decode prog_2_method_10_code 6 = .ok (.getfield 59, 3) := by decide +kernel
theorem d_B_dateOf_9 : decode prog_2_method_10_code 9 = .ok (.sipush 2999, 3) := by decide +kernel
theorem d_B_dateOf_12 : decode prog_2_method_10_code 12 = .ok (.iadd, 1) := by decide +kernel
theorem d_B_dateOf_13 : decode prog_2_method_10_code 13 = .ok (.istore_n 3, 1) := by decide +kernel
theorem d_B_dateOf_14 : decode prog_2_method_10_code 14 = .ok (.aload_n 0, 1) := by decide +kernel
theorem d_B_dateOf_15 : decode prog_2_method_10_code 15 = .ok (.iload_n 1, 1) := by decide +kernel
theorem d_B_dateOf_16 : decode prog_2_method_10_code 16 = .ok (.invokevirtual 79, 3) := by decide +kernel
theorem d_B_dateOf_19 : decode prog_2_method_10_code 19 = .ok (.ifCond .ne 12, 3) := by decide +kernel
theorem d_B_dateOf_22 : decode prog_2_method_10_code 22 = .ok (.aload_n 0, 1) := by decide +kernel
theorem d_B_dateOf_23 : decode prog_2_method_10_code 23 = .ok (.iload_n 1, 1) := by decide +kernel
theorem d_B_dateOf_24 : decode prog_2_method_10_code 24 = .ok (.iload_n 3, 1) := by decide +kernel
theorem d_B_dateOf_25 : decode prog_2_method_10_code 25 = .ok (.invokevirtual 118, 3) := by decide +kernel
theorem d_B_dateOf_28 : decode prog_2_method_10_code 28 = .ok (.ifCond .ne 6, 3) := by decide +kernel
theorem d_B_dateOf_31 : decode prog_2_method_10_code 31 = .ok (.ldc 122, 2) := by decide +kernel
theorem d_B_dateOf_33 : decode prog_2_method_10_code 33 = .ok (.ireturn, 1) := by decide +kernel
theorem d_B_dateOf_34 : decode prog_2_method_10_code 34 = .ok (.iconst 0, 1) := by decide +kernel
theorem d_B_dateOf_35 : decode prog_2_method_10_code 35 = .ok (.istore 4, 2) := by decide +kernel
theorem d_B_dateOf_37 : decode prog_2_method_10_code 37 = .ok (.iload 4, 2) := by decide +kernel
theorem d_B_dateOf_39 : decode prog_2_method_10_code 39 = .ok (.bipush 12, 2) := by decide +kernel
theorem d_B_dateOf_41 : decode prog_2_method_10_code 41 = .ok (.if_icmp .ge 42, 3) := by decide +kernel
theorem d_B_dateOf_44 : decode prog_2_method_10_code 44 = .ok (.iload_n 2, 1) := by decide +kernel
theorem d_B_dateOf_45 : decode prog_2_method_10_code 45 = .ok (.iload_n 3, 1) := by decide +kernel
theorem d_B_dateOf_46 : decode prog_2_method_10_code 46 = .ok (.if_icmp .ge 37, 3) := by decide +kernel
theorem d_B_dateOf_49 : decode prog_2_method_10_code 49 = .ok (.iload_n 2, 1) := by decide +kernel
theorem d_B_dateOf_50 : decode prog_2_method_10_code 50 = .ok (.iload_n 3, 1) := by decide +kernel
theorem d_B_dateOf_51 : decode prog_2_method_10_code 51 = .ok (.iadd, 1) := by decide +kernel
theorem d_B_dateOf_52 : decode prog_2_method_10_code 52 = .ok (.iconst 2, 1) := by decide +kernel
theorem d_B_dateOf_53 : decode prog_2_method_10_code 53 = .ok (.idiv, 1) := by decide +kernel
theorem d_B_dateOf_54 : decode prog_2_method_10_code 54 = .ok (.istore 5, 2) := by decide +kernel
theorem d_B_dateOf_56 : decode prog_2_method_10_code 56 = .ok (.aload_n 0, 1) := by decide +kernel
theorem d_B_dateOf_57 : decode prog_2_method_10_code 57 = .ok (.iload_n 1, 1) := by decide +kernel
theorem d_B_dateOf_58 : decode prog_2_method_10_code 58 = .ok (.iload 5, 2) := by decide +kernel
theorem d_B_dateOf_60 : decode prog_2_method_10_code 60 = .ok (.invokevirtual 118, 3) := by decide +kernel
theorem d_B_dateOf_63 : decode prog_2_method_10_code 63 = .ok (.ifCond .eq 9, 3) := by decide +kernel
theorem d_B_dateOf_66 : decode prog_2_method_10_code 66 = .ok (.iload 5, 2) := by decide +kernel
theorem d_B_dateOf_68 : decode prog_2_method_10_code 68 = .ok (.istore_n 3, 1) := by decide +kernel
theorem d_B_dateOf_69 : decode prog_2_method_10_code 69 = .ok (.goto 8, 3) := by decide +kernel
theorem d_B_dateOf_72 : decode prog_2_method_10_code 72 = .ok (.iload 5, 2) := by decide +kernel
theorem d_B_dateOf_74 : decode prog_2_method_10_code 74 = .ok (.iconst 1, 1) := by decide +kernel
theorem d_B_dateOf_75 : decode prog_2_method_10_code 75 = .ok (.iadd, 1) := by decide +kernel
theorem d_B_dateOf_76 : decode prog_2_method_10_code 76 = .ok (.istore_n 2, 1) := by decide +kernel
theorem d_B_dateOf_77 : decode prog_2_method_10_code 77 = .ok (.iinc 4 1, 3) := by decide +kernel
theorem d_B_dateOf_80 : decode prog_2_method_10_code 80 = .ok (.goto (-43), 3) := by decide +kernel
theorem d_B_dateOf_83 : decode prog_2_method_10_code 83 = .ok (.iload_n 3, 1) := by decide +kernel
theorem d_B_dateOf_84 : decode prog_2_method_10_code 84 = .ok (.ireturn, 1) := by decide +kernel
theorem d_P_hasRoom_0 : decode prog_7_method_2_code 0 = .ok (.aload_n 0, 1) := by decide +kernel
theorem d_P_hasRoom_1 : decode prog_7_method_2_code 1 = .ok (.getfield 13, 3) := by decide +kernel
theorem d_P_hasRoom_4 : decode prog_7_method_2_code 4 = .ok (.bipush 12, 2) := by decide +kernel
theorem d_P_hasRoom_6 : decode prog_7_method_2_code 6 = .ok (.iadd, 1) := by decide +kernel
theorem d_P_hasRoom_7 : decode prog_7_method_2_code 7 = .ok (.bipush 96, 2) := by decide +kernel
theorem d_P_hasRoom_9 : decode prog_7_method_2_code 9 = .ok (.if_icmp .gt 7, 3) := by decide +kernel
theorem d_P_hasRoom_12 : decode prog_7_method_2_code 12 = .ok (.iconst 1, 1) := by decide +kernel
theorem d_P_hasRoom_13 : decode prog_7_method_2_code 13 = .ok (.goto 4, 3) := by decide +kernel
theorem d_P_hasRoom_16 : decode prog_7_method_2_code 16 = .ok (.iconst 0, 1) := by decide +kernel
theorem d_P_hasRoom_17 : decode prog_7_method_2_code 17 = .ok (.ireturn, 1) := by decide +kernel
theorem d_P_append_0 : decode prog_7_method_3_code 0 = .ok (.bipush 24, 2) := by decide +kernel
theorem d_P_append_2 : decode prog_7_method_3_code 2 = .ok (.istore_n 2, 1) := by decide +kernel
theorem d_P_append_3 : decode prog_7_method_3_code 3 = .ok (.iload_n 2, 1) := by decide +kernel
theorem d_P_append_4 : decode prog_7_method_3_code 4 = .ok (.ifCond .lt 52, 3) := by decide +kernel
theorem d_P_append_7 : decode prog_7_method_3_code 7 = .ok (.aload_n 0, 1) := by decide +kernel
theorem d_P_append_8 : decode prog_7_method_3_code 8 = .ok (.getfield 13, 3) := by decide +kernel
theorem d_P_append_11 : decode prog_7_method_3_code 11 = .ok (.ifCond .lt 15, 3) := by decide +kernel
theorem d_P_append_14 : decode prog_7_method_3_code 14 = .ok (.aload_n 0, 1) := by decide +kernel
theorem d_P_append_15 : decode prog_7_method_3_code 15 = .ok (.getfield 13, 3) := by decide +kernel
theorem d_P_append_18 : decode prog_7_method_3_code 18 = .ok (.aload_n 0, 1) := by decide +kernel
theorem d_P_append_19 : decode prog_7_method_3_code 19 = .ok (.getfield 9, 3) := by decide +kernel
theorem d_P_append_22 : decode prog_7_method_3_code 22 = .ok (.arraylength, 1) := by decide +kernel
theorem d_P_append_23 : decode prog_7_method_3_code 23 = .ok (.if_icmp .lt 4, 3) := by decide +kernel
theorem d_P_append_26 : decode prog_7_method_3_code 26 = .ok (.return_, 1) := by decide +kernel
theorem d_P_append_27 : decode prog_7_method_3_code 27 = .ok (.aload_n 0, 1) := by decide +kernel
theorem d_P_append_28 : decode prog_7_method_3_code 28 = .ok (.getfield 9, 3) := by decide +kernel
theorem d_P_append_31 : decode prog_7_method_3_code 31 = .ok (.aload_n 0, 1) := by decide +kernel
theorem d_P_append_32 : decode prog_7_method_3_code 32 = .ok (.getfield 13, 3) := by decide +kernel
theorem d_P_append_35 : decode prog_7_method_3_code 35 = .ok (.iload_n 1, 1) := by decide +kernel
theorem d_P_append_36 : decode prog_7_method_3_code 36 = .ok (.iload_n 2, 1) := by decide +kernel
theorem d_P_append_37 : decode prog_7_method_3_code 37 = .ok (.ishr, 1) := by decide +kernel
theorem d_P_append_38 : decode prog_7_method_3_code 38 = .ok (.i2b, 1) := by decide +kernel
theorem d_P_append_39 : decode prog_7_method_3_code 39 = .ok (.bastore, 1) := by decide +kernel
theorem d_P_append_40 : decode prog_7_method_3_code 40 = .ok (.aload_n 0, 1) := by decide +kernel
theorem d_P_append_41 : decode prog_7_method_3_code 41 = .ok (.dup, 1) := by decide +kernel
theorem d_P_append_42 : decode prog_7_method_3_code 42 = .ok (.getfield 13, 3) := by decide +kernel
theorem d_P_append_45 : decode prog_7_method_3_code 45 = .ok (.iconst 1, 1) := by decide +kernel
theorem d_P_append_46 : decode prog_7_method_3_code 46 = .ok (.iadd, 1) := by decide +kernel
theorem d_P_append_47 : decode prog_7_method_3_code 47 = .ok (.putfield 13, 3) := by decide +kernel
theorem d_P_append_50 : decode prog_7_method_3_code 50 = .ok (.iinc 2 (-8), 3) := by decide +kernel
theorem d_P_append_53 : decode prog_7_method_3_code 53 = .ok (.goto (-50), 3) := by decide +kernel
theorem d_P_append_56 : decode prog_7_method_3_code 56 = .ok (.return_, 1) := by decide +kernel
theorem d_D_isWord_0 : decode prog_9_method_11_code 0 = .ok (.iload_n 0, 1) := by decide +kernel
theorem d_D_isWord_1 : decode prog_9_method_11_code 1 = .ok (.iconst 3, 1) := by decide +kernel
theorem d_D_isWord_2 : decode prog_9_method_11_code 2 = .ok (.if_icmp .eq 8, 3) := by decide +kernel
theorem d_D_isWord_5 : decode prog_9_method_11_code 5 = .ok (.iload_n 0, 1) := by decide +kernel
theorem d_D_isWord_6 : decode prog_9_method_11_code 6 = .ok (.iconst 4, 1) := by decide +kernel
theorem d_D_isWord_7 : decode prog_9_method_11_code 7 = .ok (.if_icmp .ne 7, 3) := by decide +kernel
theorem d_D_isWord_10 : decode prog_9_method_11_code 10 = .ok (.iconst 1, 1) := by decide +kernel
theorem d_D_isWord_11 : decode prog_9_method_11_code 11 = .ok (.goto 4, 3) := by decide +kernel
theorem d_D_isWord_14 : decode prog_9_method_11_code 14 = .ok (.iconst 0, 1) := by decide +kernel
theorem d_D_isWord_15 : decode prog_9_method_11_code 15 = .ok (.ireturn, 1) := by decide +kernel
theorem d_P_byteAt_0 : decode prog_7_method_4_code 0 = .ok (.iload_n 1, 1) := by decide +kernel
theorem d_P_byteAt_1 : decode prog_7_method_4_code 1 = .ok (.ifCond .lt 20, 3) := by decide +kernel
theorem d_P_byteAt_4 : decode prog_7_method_4_code 4 = .ok (.iload_n 1, 1) := by decide +kernel
theorem d_P_byteAt_5 : decode prog_7_method_4_code 5 = .ok (.aload_n 0, 1) := by decide +kernel
theorem d_P_byteAt_6 : decode prog_7_method_4_code 6 = .ok (.getfield 13, 3) := by decide +kernel
theorem d_P_byteAt_9 : decode prog_7_method_4_code 9 = .ok (.if_icmp .ge 12, 3) := by decide +kernel
theorem d_P_byteAt_12 : decode prog_7_method_4_code 12 = .ok (.iload_n 1, 1) := by decide +kernel
theorem d_P_byteAt_13 : decode prog_7_method_4_code 13 = .ok (.aload_n 0, 1) := by decide +kernel
theorem d_P_byteAt_14 : decode prog_7_method_4_code 14 = .ok (.getfield 9, 3) := by decide +kernel
theorem d_P_byteAt_17 : decode prog_7_method_4_code 17 = .ok (.arraylength, 1) := by decide +kernel
theorem d_P_byteAt_18 : decode prog_7_method_4_code 18 = .ok (.if_icmp .lt 5, 3) := by decide +kernel
theorem d_P_byteAt_21 : decode prog_7_method_4_code 21 = .ok (.iconst (-1), 1) := by decide +kernel
theorem d_P_byteAt_22 : decode prog_7_method_4_code 22 = .ok (.ireturn, 1) := by decide +kernel
theorem d_P_byteAt_23 : decode prog_7_method_4_code 23 = .ok (.aload_n 0, 1) := by decide +kernel
theorem d_P_byteAt_24 : decode prog_7_method_4_code 24 = .ok (.getfield 9, 3) := by decide +kernel
theorem d_P_byteAt_27 : decode prog_7_method_4_code 27 = .ok (.iload_n 1, 1) := by decide +kernel
theorem d_P_byteAt_28 : decode prog_7_method_4_code 28 = .ok (.baload, 1) := by decide +kernel
theorem d_P_byteAt_29 : decode prog_7_method_4_code 29 = .ok (.sipush 255, 3) := by decide +kernel
theorem d_P_byteAt_32 : decode prog_7_method_4_code 32 = .ok (.iand, 1) := by decide +kernel
theorem d_P_byteAt_33 : decode prog_7_method_4_code 33 = .ok (.ireturn, 1) := by decide +kernel
theorem d_D_sortAt_0 : decode prog_9_method_10_code 0 = .ok (.aload_n 0, 1) := by decide +kernel
theorem d_D_sortAt_1 : decode prog_9_method_10_code 1 = .ok (.getfield 17, 3) := by decide +kernel
theorem d_D_sortAt_4 : decode prog_9_method_10_code 4 = .ok (.iload_n 1, 1) := by decide +kernel
theorem d_D_sortAt_5 : decode prog_9_method_10_code 5 = .ok (.invokevirtual 83, 3) := by decide +kernel
theorem d_D_sortAt_8 : decode prog_9_method_10_code 8 = .ok (.istore_n 2, 1) := by decide +kernel
theorem d_D_sortAt_9 : decode prog_9_method_10_code 9 = .ok (.iload_n 2, 1) := by decide +kernel
theorem d_D_sortAt_10 : decode prog_9_method_10_code 10 = .ok (.ifCond .ge 5, 3) := by decide +kernel
theorem d_D_sortAt_13 : decode prog_9_method_10_code 13 = .ok (.iconst 1, 1) := by decide +kernel
theorem d_D_sortAt_14 : decode prog_9_method_10_code 14 = .ok (.ireturn, 1) := by decide +kernel
theorem d_D_sortAt_15 : decode prog_9_method_10_code 15 = .ok (.iload_n 2, 1) := by decide +kernel
theorem d_D_sortAt_16 : decode prog_9_method_10_code 16 = .ok (.bipush 97, 2) := by decide +kernel
theorem d_D_sortAt_18 : decode prog_9_method_10_code 18 = .ok (.if_icmp .lt 11, 3) := by decide +kernel
theorem d_D_sortAt_21 : decode prog_9_method_10_code 21 = .ok (.iload_n 2, 1) := by decide +kernel
theorem d_D_sortAt_22 : decode prog_9_method_10_code 22 = .ok (.bipush 122, 2) := by decide +kernel
theorem d_D_sortAt_24 : decode prog_9_method_10_code 24 = .ok (.if_icmp .gt 5, 3) := by decide +kernel
theorem d_D_sortAt_27 : decode prog_9_method_10_code 27 = .ok (.iconst 3, 1) := by decide +kernel
theorem d_D_sortAt_28 : decode prog_9_method_10_code 28 = .ok (.ireturn, 1) := by decide +kernel
theorem d_D_sortAt_29 : decode prog_9_method_10_code 29 = .ok (.iload_n 2, 1) := by decide +kernel
theorem d_D_sortAt_30 : decode prog_9_method_10_code 30 = .ok (.bipush 48, 2) := by decide +kernel
theorem d_D_sortAt_32 : decode prog_9_method_10_code 32 = .ok (.if_icmp .lt 13, 3) := by decide +kernel
theorem d_D_sortAt_35 : decode prog_9_method_10_code 35 = .ok (.iload_n 2, 1) := by decide +kernel
theorem d_D_sortAt_36 : decode prog_9_method_10_code 36 = .ok (.bipush 57, 2) := by decide +kernel
theorem d_D_sortAt_38 : decode prog_9_method_10_code 38 = .ok (.if_icmp .gt 7, 3) := by decide +kernel
theorem d_D_sortAt_41 : decode prog_9_method_10_code 41 = .ok (.iconst 4, 1) := by decide +kernel
theorem d_D_sortAt_42 : decode prog_9_method_10_code 42 = .ok (.goto 4, 3) := by decide +kernel
theorem d_D_sortAt_45 : decode prog_9_method_10_code 45 = .ok (.iconst 2, 1) := by decide +kernel
theorem d_D_sortAt_46 : decode prog_9_method_10_code 46 = .ok (.ireturn, 1) := by decide +kernel
theorem d_D_advance_0 : decode prog_9_method_9_code 0 = .ok (.aload_n 0, 1) := by decide +kernel
theorem d_D_advance_1 : decode prog_9_method_9_code 1 = .ok (.getfield 34, 3) := by decide +kernel
theorem d_D_advance_4 : decode prog_9_method_9_code 4 = .ok (.istore_n 1, 1) := by decide +kernel
theorem d_D_advance_5 : decode prog_9_method_9_code 5 = .ok (.aload_n 0, 1) := by decide +kernel
theorem d_D_advance_6 : decode prog_9_method_9_code 6 = .ok (.getfield 31, 3) := by decide +kernel
theorem d_D_advance_9 : decode prog_9_method_9_code 9 = .ok (.invokestatic 103, 3) := by decide +kernel
theorem d_D_advance_12 : decode prog_9_method_9_code 12 = .ok (.istore_n 2, 1) := by decide +kernel
theorem d_D_advance_13 : decode prog_9_method_9_code 13 = .ok (.aload_n 0, 1) := by decide +kernel
theorem d_D_advance_14 : decode prog_9_method_9_code 14 = .ok (.iload_n 1, 1) := by decide +kernel
theorem d_D_advance_15 : decode prog_9_method_9_code 15 = .ok (.putfield 48, 3) := by decide +kernel
theorem d_D_advance_18 : decode prog_9_method_9_code 18 = .ok (.aload_n 0, 1) := by decide +kernel
theorem d_D_advance_19 : decode prog_9_method_9_code 19 = .ok (.getfield 48, 3) := by decide +kernel
theorem d_D_advance_22 : decode prog_9_method_9_code 22 = .ok (.bipush 96, 2) := by decide +kernel
theorem d_D_advance_24 : decode prog_9_method_9_code 24 = .ok (.if_icmp .ge 32, 3) := by decide +kernel
theorem d_D_advance_27 : decode prog_9_method_9_code 27 = .ok (.aload_n 0, 1) := by decide +kernel
theorem d_D_advance_28 : decode prog_9_method_9_code 28 = .ok (.getfield 17, 3) := by decide +kernel
theorem d_D_advance_31 : decode prog_9_method_9_code 31 = .ok (.aload_n 0, 1) := by decide +kernel
theorem d_D_advance_32 : decode prog_9_method_9_code 32 = .ok (.getfield 48, 3) := by decide +kernel
theorem d_D_advance_35 : decode prog_9_method_9_code 35 = .ok (.invokevirtual 83, 3) := by decide +kernel
theorem d_D_advance_38 : decode prog_9_method_9_code 38 = .ok (.bipush 32, 2) := by decide +kernel
theorem d_D_advance_40 : decode prog_9_method_9_code 40 = .ok (.if_icmp .ne 16, 3) := by decide +kernel
theorem d_D_advance_43 : decode prog_9_method_9_code 43 = .ok (.aload_n 0, 1) := by decide +kernel
theorem d_D_advance_44 : decode prog_9_method_9_code 44 = .ok (.dup, 1) := by decide +kernel
theorem d_D_advance_45 : decode prog_9_method_9_code 45 = .ok (.getfield 48, 3) := by decide +kernel
theorem d_D_advance_48 : decode prog_9_method_9_code 48 = .ok (.iconst 1, 1) := by decide +kernel
theorem d_D_advance_49 : decode prog_9_method_9_code 49 = .ok (.iadd, 1) := by decide +kernel
theorem d_D_advance_50 : decode prog_9_method_9_code 50 = .ok (.putfield 48, 3) := by decide +kernel
theorem d_D_advance_53 : decode prog_9_method_9_code 53 = .ok (.goto (-35), 3) := by decide +kernel
theorem d_D_advance_56 : decode prog_9_method_9_code 56 = .ok (.aload_n 0, 1) := by decide +kernel
theorem d_D_advance_57 : decode prog_9_method_9_code 57 = .ok (.aload_n 0, 1) := by decide +kernel
theorem d_D_advance_58 : decode prog_9_method_9_code 58 = .ok (.aload_n 0, 1) := by decide +kernel
theorem d_D_advance_59 : decode prog_9_method_9_code 59 = .ok (.getfield 48, 3) := by decide +kernel
theorem d_D_advance_62 : decode prog_9_method_9_code 62 = .ok (.invokevirtual 106, 3) := by decide +kernel
theorem d_D_advance_65 : decode prog_9_method_9_code 65 = .ok (.putfield 31, 3) := by decide +kernel
theorem d_D_advance_68 : decode prog_9_method_9_code 68 = .ok (.aload_n 0, 1) := by decide +kernel
theorem d_D_advance_69 : decode prog_9_method_9_code 69 = .ok (.aload_n 0, 1) := by decide +kernel
theorem d_D_advance_70 : decode prog_9_method_9_code 70 = .ok (.getfield 31, 3) := by decide +kernel
theorem d_D_advance_73 : decode prog_9_method_9_code 73 = .ok (.iconst 1, 1) := by decide +kernel
theorem d_D_advance_74 : decode prog_9_method_9_code 74 = .ok (.if_icmp .ne 10, 3) := by decide +kernel
theorem d_D_advance_77 : decode prog_9_method_9_code 77 = .ok (.aload_n 0, 1) := by decide +kernel
theorem d_D_advance_78 : decode prog_9_method_9_code 78 = .ok (.getfield 48, 3) := by decide +kernel
theorem d_D_advance_81 : decode prog_9_method_9_code 81 = .ok (.goto 9, 3) := by decide +kernel
theorem d_D_advance_84 : decode prog_9_method_9_code 84 = .ok (.aload_n 0, 1) := by decide +kernel
theorem d_D_advance_85 : decode prog_9_method_9_code 85 = .ok (.getfield 48, 3) := by decide +kernel
theorem d_D_advance_88 : decode prog_9_method_9_code 88 = .ok (.iconst 1, 1) := by decide +kernel
theorem d_D_advance_89 : decode prog_9_method_9_code 89 = .ok (.iadd, 1) := by decide +kernel
theorem d_D_advance_90 : decode prog_9_method_9_code 90 = .ok (.putfield 34, 3) := by decide +kernel
theorem d_D_advance_93 : decode prog_9_method_9_code 93 = .ok (.aload_n 0, 1) := by decide +kernel
theorem d_D_advance_94 : decode prog_9_method_9_code 94 = .ok (.getfield 31, 3) := by decide +kernel
theorem d_D_advance_97 : decode prog_9_method_9_code 97 = .ok (.invokestatic 103, 3) := by decide +kernel
theorem d_D_advance_100 : decode prog_9_method_9_code 100 = .ok (.ifCond .ne 4, 3) := by decide +kernel
theorem d_D_advance_103 : decode prog_9_method_9_code 103 = .ok (.return_, 1) := by decide +kernel
theorem d_D_advance_104 : decode prog_9_method_9_code 104 = .ok (.aload_n 0, 1) := by decide +kernel
theorem d_D_advance_105 : decode prog_9_method_9_code 105 = .ok (.getfield 34, 3) := by decide +kernel
theorem d_D_advance_108 : decode prog_9_method_9_code 108 = .ok (.bipush 96, 2) := by decide +kernel
theorem d_D_advance_110 : decode prog_9_method_9_code 110 = .ok (.if_icmp .ge 31, 3) := by decide +kernel
theorem d_D_advance_113 : decode prog_9_method_9_code 113 = .ok (.aload_n 0, 1) := by decide +kernel
theorem d_D_advance_114 : decode prog_9_method_9_code 114 = .ok (.aload_n 0, 1) := by decide +kernel
theorem d_D_advance_115 : decode prog_9_method_9_code 115 = .ok (.getfield 34, 3) := by decide +kernel
theorem d_D_advance_118 : decode prog_9_method_9_code 118 = .ok (.invokevirtual 106, 3) := by decide +kernel
theorem d_D_advance_121 : decode prog_9_method_9_code 121 = .ok (.aload_n 0, 1) := by decide +kernel
theorem d_D_advance_122 : decode prog_9_method_9_code 122 = .ok (.getfield 31, 3) := by decide +kernel
theorem d_D_advance_125 : decode prog_9_method_9_code 125 = .ok (.if_icmp .ne 16, 3) := by decide +kernel
theorem d_D_advance_128 : decode prog_9_method_9_code 128 = .ok (.aload_n 0, 1) := by decide +kernel
theorem d_D_advance_129 : decode prog_9_method_9_code 129 = .ok (.dup, 1) := by decide +kernel
theorem d_D_advance_130 : decode prog_9_method_9_code 130 = .ok (.getfield 34, 3) := by decide +kernel
theorem d_D_advance_133 : decode prog_9_method_9_code 133 = .ok (.iconst 1, 1) := by decide +kernel
theorem d_D_advance_134 : decode prog_9_method_9_code 134 = .ok (.iadd, 1) := by decide +kernel
theorem d_D_advance_135 : decode prog_9_method_9_code 135 = .ok (.putfield 34, 3) := by decide +kernel
theorem d_D_advance_138 : decode prog_9_method_9_code 138 = .ok (.goto (-34), 3) := by decide +kernel
theorem d_D_advance_141 : decode prog_9_method_9_code 141 = .ok (.iload_n 2, 1) := by decide +kernel
theorem d_D_advance_142 : decode prog_9_method_9_code 142 = .ok (.ifCond .eq 16, 3) := by decide +kernel
theorem d_D_advance_145 : decode prog_9_method_9_code 145 = .ok (.aload_n 0, 1) := by decide +kernel
theorem d_D_advance_146 : decode prog_9_method_9_code 146 = .ok (.getfield 48, 3) := by decide +kernel
theorem d_D_advance_149 : decode prog_9_method_9_code 149 = .ok (.iload_n 1, 1) := by decide +kernel
theorem d_D_advance_150 : decode prog_9_method_9_code 150 = .ok (.if_icmp .ne 8, 3) := by decide +kernel
theorem d_D_advance_153 : decode prog_9_method_9_code 153 = .ok (.aload_n 0, 1) := by decide +kernel
theorem d_D_advance_154 : decode prog_9_method_9_code 154 = .ok (.iconst 5, 1) := by decide +kernel
theorem d_D_advance_155 : decode prog_9_method_9_code 155 = .ok (.putfield 31, 3) := by decide +kernel
theorem d_D_advance_158 : decode prog_9_method_9_code 158 = .ok (.return_, 1) := by decide +kernel
theorem d_D_wordOf_0 : decode prog_9_method_18_code 0 = .ok (.iload_n 0, 1) := by decide +kernel
theorem d_D_wordOf_1 : decode prog_9_method_18_code 1 = .ok (.tableswitch 43 0 3 #[31, 34, 37, 40], 31) := by decide +kernel
theorem d_D_wordOf_32 : decode prog_9_method_18_code 32 = .ok (.ldc 135, 2) := by decide +kernel
theorem d_D_wordOf_34 : decode prog_9_method_18_code 34 = .ok (.areturn, 1) := by decide +kernel
theorem d_D_wordOf_35 : decode prog_9_method_18_code 35 = .ok (.ldc 137, 2) := by decide +kernel
theorem d_D_wordOf_37 : decode prog_9_method_18_code 37 = .ok (.areturn, 1) := by decide +kernel
theorem d_D_wordOf_38 : decode prog_9_method_18_code 38 = .ok (.ldc 139, 2) := by decide +kernel
theorem d_D_wordOf_40 : decode prog_9_method_18_code 40 = .ok (.areturn, 1) := by decide +kernel
theorem d_D_wordOf_41 : decode prog_9_method_18_code 41 = .ok (.ldc 141, 2) := by decide +kernel
theorem d_D_wordOf_43 : decode prog_9_method_18_code 43 = .ok (.areturn, 1) := by decide +kernel
theorem d_D_wordOf_44 : decode prog_9_method_18_code 44 = .ok (.ldc 143, 2) := by decide +kernel
theorem d_D_wordOf_46 : decode prog_9_method_18_code 46 = .ok (.areturn, 1) := by decide +kernel
theorem d_D_isWordHere_0 : decode prog_9_method_17_code 0 = .ok (.aload_n 0, 1) := by decide +kernel
theorem d_D_isWordHere_1 : decode prog_9_method_17_code 1 = .ok (.getfield 34, 3) := by decide +kernel
theorem d_D_isWordHere_4 : decode prog_9_method_17_code 4 = .ok (.aload_n 0, 1) := by decide +kernel
theorem d_D_isWordHere_5 : decode prog_9_method_17_code 5 = .ok (.getfield 48, 3) := by decide +kernel
theorem d_D_isWordHere_8 : decode prog_9_method_17_code 8 = .ok (.isub, 1) := by decide +kernel
theorem d_D_isWordHere_9 : decode prog_9_method_17_code 9 = .ok (.aload_n 1, 1) := by decide +kernel
theorem d_D_isWordHere_10 : decode prog_9_method_17_code 10 = .ok (.invokevirtual 128, 3) := by decide +kernel
theorem d_D_isWordHere_13 : decode prog_9_method_17_code 13 = .ok (.if_icmp .eq 5, 3) := by decide +kernel
theorem d_D_isWordHere_16 : decode prog_9_method_17_code 16 = .ok (.iconst 0, 1) := by decide +kernel
theorem d_D_isWordHere_17 : decode prog_9_method_17_code 17 = .ok (.ireturn, 1) := by decide +kernel
theorem d_D_isWordHere_18 : decode prog_9_method_17_code 18 = .ok (.iconst 0, 1) := by decide +kernel
theorem d_D_isWordHere_19 : decode prog_9_method_17_code 19 = .ok (.istore_n 2, 1) := by decide +kernel
theorem d_D_isWordHere_20 : decode prog_9_method_17_code 20 = .ok (.iload_n 2, 1) := by decide +kernel
theorem d_D_isWordHere_21 : decode prog_9_method_17_code 21 = .ok (.aload_n 1, 1) := by decide +kernel
theorem d_D_isWordHere_22 : decode prog_9_method_17_code 22 = .ok (.invokevirtual 128, 3) := by decide +kernel
theorem d_D_isWordHere_25 : decode prog_9_method_17_code 25 = .ok (.if_icmp .ge 32, 3) := by decide +kernel
theorem d_D_isWordHere_28 : decode prog_9_method_17_code 28 = .ok (.aload_n 0, 1) := by decide +kernel
theorem d_D_isWordHere_29 : decode prog_9_method_17_code 29 = .ok (.getfield 17, 3) := by decide +kernel
theorem d_D_isWordHere_32 : decode prog_9_method_17_code 32 = .ok (.aload_n 0, 1) := by decide +kernel
theorem d_D_isWordHere_33 : decode prog_9_method_17_code 33 = .ok (.getfield 48, 3) := by decide +kernel
theorem d_D_isWordHere_36 : decode prog_9_method_17_code 36 = .ok (.iload_n 2, 1) := by decide +kernel
theorem d_D_isWordHere_37 : decode prog_9_method_17_code 37 = .ok (.iadd, 1) := by decide +kernel
theorem d_D_isWordHere_38 : decode prog_9_method_17_code 38 = .ok (.invokevirtual 83, 3) := by decide +kernel
theorem d_D_isWordHere_41 : decode prog_9_method_17_code 41 = .ok (.aload_n 1, 1) := by decide +kernel
theorem d_D_isWordHere_42 : decode prog_9_method_17_code 42 = .ok (.iload_n 2, 1) := by decide +kernel
theorem d_D_isWordHere_43 : decode prog_9_method_17_code 43 = .ok (.invokevirtual 131, 3) := by decide +kernel
theorem d_D_isWordHere_46 : decode prog_9_method_17_code 46 = .ok (.if_icmp .eq 5, 3) := by decide +kernel
theorem d_D_isWordHere_49 : decode prog_9_method_17_code 49 = .ok (.iconst 0, 1) := by decide +kernel
theorem d_D_isWordHere_50 : decode prog_9_method_17_code 50 = .ok (.ireturn, 1) := by decide +kernel
theorem d_D_isWordHere_51 : decode prog_9_method_17_code 51 = .ok (.iinc 2 1, 3) := by decide +kernel
theorem d_D_isWordHere_54 : decode prog_9_method_17_code 54 = .ok (.goto (-34), 3) := by decide +kernel
theorem d_D_isWordHere_57 : decode prog_9_method_17_code 57 = .ok (.iconst 1, 1) := by decide +kernel
theorem d_D_isWordHere_58 : decode prog_9_method_17_code 58 = .ok (.ireturn, 1) := by decide +kernel
theorem d_D_keyHere_0 : decode prog_9_method_16_code 0 = .ok (.aload_n 0, 1) := by decide +kernel
theorem d_D_keyHere_1 : decode prog_9_method_16_code 1 = .ok (.getfield 31, 3) := by decide +kernel
theorem d_D_keyHere_4 : decode prog_9_method_16_code 4 = .ok (.iconst 3, 1) := by decide +kernel
theorem d_D_keyHere_5 : decode prog_9_method_16_code 5 = .ok (.if_icmp .eq 6, 3) := by decide +kernel
theorem d_D_keyHere_8 : decode prog_9_method_16_code 8 = .ok (.ldc 47, 2) := by decide +kernel
theorem d_D_keyHere_10 : decode prog_9_method_16_code 10 = .ok (.ireturn, 1) := by decide +kernel
theorem d_D_keyHere_11 : decode prog_9_method_16_code 11 = .ok (.iconst 0, 1) := by decide +kernel
theorem d_D_keyHere_12 : decode prog_9_method_16_code 12 = .ok (.istore_n 1, 1) := by decide +kernel
theorem d_D_keyHere_13 : decode prog_9_method_16_code 13 = .ok (.iload_n 1, 1) := by decide +kernel
theorem d_D_keyHere_14 : decode prog_9_method_16_code 14 = .ok (.iconst 5, 1) := by decide +kernel
theorem d_D_keyHere_15 : decode prog_9_method_16_code 15 = .ok (.if_icmp .ge 22, 3) := by decide +kernel
theorem d_D_keyHere_18 : decode prog_9_method_16_code 18 = .ok (.aload_n 0, 1) := by decide +kernel
theorem d_D_keyHere_19 : decode prog_9_method_16_code 19 = .ok (.iload_n 1, 1) := by decide +kernel
theorem d_D_keyHere_20 : decode prog_9_method_16_code 20 = .ok (.invokestatic 121, 3) := by decide +kernel
theorem d_D_keyHere_23 : decode prog_9_method_16_code 23 = .ok (.invokevirtual 124, 3) := by decide +kernel
theorem d_D_keyHere_26 : decode prog_9_method_16_code 26 = .ok (.ifCond .eq 5, 3) := by decide +kernel
theorem d_D_keyHere_29 : decode prog_9_method_16_code 29 = .ok (.iload_n 1, 1) := by decide +kernel
theorem d_D_keyHere_30 : decode prog_9_method_16_code 30 = .ok (.ireturn, 1) := by decide +kernel
theorem d_D_keyHere_31 : decode prog_9_method_16_code 31 = .ok (.iinc 1 1, 3) := by decide +kernel
theorem d_D_keyHere_34 : decode prog_9_method_16_code 34 = .ok (.goto (-21), 3) := by decide +kernel
theorem d_D_keyHere_37 : decode prog_9_method_16_code 37 = .ok (.ldc 47, 2) := by decide +kernel
theorem d_D_keyHere_39 : decode prog_9_method_16_code 39 = .ok (.ireturn, 1) := by decide +kernel
theorem d_D_numberHere_0 : decode prog_9_method_14_code 0 = .ok (.iconst 0, 1) := by decide +kernel
theorem d_D_numberHere_1 : decode prog_9_method_14_code 1 = .ok (.istore_n 1, 1) := by decide +kernel
theorem d_D_numberHere_2 : decode prog_9_method_14_code 2 = .ok (.aload_n 0, 1) := by decide +kernel
theorem d_D_numberHere_3 : decode prog_9_method_14_code 3 = .ok (.getfield 48, 3) := by decide +kernel
theorem d_D_numberHere_6 : decode prog_9_method_14_code 6 = .ok (.istore_n 2, 1) := by decide +kernel
theorem d_D_numberHere_7 : decode prog_9_method_14_code 7 = .ok (.iload_n 2, 1) := by decide +kernel
theorem d_D_numberHere_8 : decode prog_9_method_14_code 8 = .ok (.aload_n 0, 1) := by decide +kernel
theorem d_D_numberHere_9 : decode prog_9_method_14_code 9 = .ok (.getfield 34, 3) := by decide +kernel
theorem d_D_numberHere_12 : decode prog_9_method_14_code 12 = .ok (.if_icmp .ge 26, 3) := by decide +kernel
theorem d_D_numberHere_15 : decode prog_9_method_14_code 15 = .ok (.iload_n 1, 1) := by decide +kernel
theorem d_D_numberHere_16 : decode prog_9_method_14_code 16 = .ok (.bipush 10, 2) := by decide +kernel
theorem d_D_numberHere_18 : decode prog_9_method_14_code 18 = .ok (.imul, 1) := by decide +kernel
theorem d_D_numberHere_19 : decode prog_9_method_14_code 19 = .ok (.aload_n 0, 1) := by decide +kernel
theorem d_D_numberHere_20 : decode prog_9_method_14_code 20 = .ok (.getfield 17, 3) := by decide +kernel
theorem d_D_numberHere_23 : decode prog_9_method_14_code 23 = .ok (.iload_n 2, 1) := by decide +kernel
theorem d_D_numberHere_24 : decode prog_9_method_14_code 24 = .ok (.invokevirtual 83, 3) := by decide +kernel
theorem d_D_numberHere_27 : decode prog_9_method_14_code 27 = .ok (.iadd, 1) := by decide +kernel
theorem d_D_numberHere_28 : decode prog_9_method_14_code 28 = .ok (.bipush 48, 2) := by decide +kernel
theorem d_D_numberHere_30 : decode prog_9_method_14_code 30 = .ok (.isub, 1) := by decide +kernel
theorem d_D_numberHere_31 : decode prog_9_method_14_code 31 = .ok (.istore_n 1, 1) := by decide +kernel
theorem d_D_numberHere_32 : decode prog_9_method_14_code 32 = .ok (.iinc 2 1, 3) := by decide +kernel
theorem d_D_numberHere_35 : decode prog_9_method_14_code 35 = .ok (.goto (-28), 3) := by decide +kernel
theorem d_D_numberHere_38 : decode prog_9_method_14_code 38 = .ok (.iload_n 1, 1) := by decide +kernel
theorem d_D_numberHere_39 : decode prog_9_method_14_code 39 = .ok (.ireturn, 1) := by decide +kernel
theorem d_D_emit_0 : decode prog_9_method_8_code 0 = .ok (.aload_n 0, 1) := by decide +kernel
theorem d_D_emit_1 : decode prog_9_method_8_code 1 = .ok (.getfield 21, 3) := by decide +kernel
theorem d_D_emit_4 : decode prog_9_method_8_code 4 = .ok (.ifCond .lt 15, 3) := by decide +kernel
theorem d_D_emit_7 : decode prog_9_method_8_code 7 = .ok (.aload_n 0, 1) := by decide +kernel
theorem d_D_emit_8 : decode prog_9_method_8_code 8 = .ok (.getfield 21, 3) := by decide +kernel
theorem d_D_emit_11 : decode prog_9_method_8_code 11 = .ok (.aload_n 0, 1) := by decide +kernel
theorem d_D_emit_12 : decode prog_9_method_8_code 12 = .ok (.getfield 11, 3) := by decide +kernel
theorem d_D_emit_15 : decode prog_9_method_8_code 15 = .ok (.arraylength, 1) := by decide +kernel
theorem d_D_emit_16 : decode prog_9_method_8_code 16 = .ok (.if_icmp .lt 4, 3) := by decide +kernel
theorem d_D_emit_19 : decode prog_9_method_8_code 19 = .ok (.return_, 1) := by decide +kernel
theorem d_D_emit_20 : decode prog_9_method_8_code 20 = .ok (.aload_n 0, 1) := by decide +kernel
theorem d_D_emit_21 : decode prog_9_method_8_code 21 = .ok (.getfield 11, 3) := by decide +kernel
theorem d_D_emit_24 : decode prog_9_method_8_code 24 = .ok (.aload_n 0, 1) := by decide +kernel
theorem d_D_emit_25 : decode prog_9_method_8_code 25 = .ok (.getfield 21, 3) := by decide +kernel
theorem d_D_emit_28 : decode prog_9_method_8_code 28 = .ok (.iload_n 1, 1) := by decide +kernel
theorem d_D_emit_29 : decode prog_9_method_8_code 29 = .ok (.iastore, 1) := by decide +kernel
theorem d_D_emit_30 : decode prog_9_method_8_code 30 = .ok (.aload_n 0, 1) := by decide +kernel
theorem d_D_emit_31 : decode prog_9_method_8_code 31 = .ok (.dup, 1) := by decide +kernel
theorem d_D_emit_32 : decode prog_9_method_8_code 32 = .ok (.getfield 21, 3) := by decide +kernel
theorem d_D_emit_35 : decode prog_9_method_8_code 35 = .ok (.iconst 1, 1) := by decide +kernel
theorem d_D_emit_36 : decode prog_9_method_8_code 36 = .ok (.iadd, 1) := by decide +kernel
theorem d_D_emit_37 : decode prog_9_method_8_code 37 = .ok (.putfield 21, 3) := by decide +kernel
theorem d_D_emit_40 : decode prog_9_method_8_code 40 = .ok (.return_, 1) := by decide +kernel
theorem d_D_emitLeaf_0 : decode prog_9_method_7_code 0 = .ok (.aload_n 0, 1) := by decide +kernel
theorem d_D_emitLeaf_1 : decode prog_9_method_7_code 1 = .ok (.dup, 1) := by decide +kernel
theorem d_D_emitLeaf_2 : decode prog_9_method_7_code 2 = .ok (.getfield 25, 3) := by decide +kernel
theorem d_D_emitLeaf_5 : decode prog_9_method_7_code 5 = .ok (.iconst 1, 1) := by decide +kernel
theorem d_D_emitLeaf_6 : decode prog_9_method_7_code 6 = .ok (.iadd, 1) := by decide +kernel
theorem d_D_emitLeaf_7 : decode prog_9_method_7_code 7 = .ok (.putfield 25, 3) := by decide +kernel
theorem d_D_emitLeaf_10 : decode prog_9_method_7_code 10 = .ok (.aload_n 0, 1) := by decide +kernel
theorem d_D_emitLeaf_11 : decode prog_9_method_7_code 11 = .ok (.iload_n 1, 1) := by decide +kernel
theorem d_D_emitLeaf_12 : decode prog_9_method_7_code 12 = .ok (.invokevirtual 87, 3) := by decide +kernel
theorem d_D_emitLeaf_15 : decode prog_9_method_7_code 15 = .ok (.aload_n 0, 1) := by decide +kernel
theorem d_D_emitLeaf_16 : decode prog_9_method_7_code 16 = .ok (.invokevirtual 37, 3) := by decide +kernel
theorem d_D_emitLeaf_19 : decode prog_9_method_7_code 19 = .ok (.return_, 1) := by decide +kernel
theorem d_D_namesOf_0 : decode prog_9_method_19_code 0 = .ok (.iload_n 0, 1) := by decide +kernel
theorem d_D_namesOf_1 : decode prog_9_method_19_code 1 = .ok (.tableswitch 43 0 3 #[31, 34, 37, 40], 31) := by decide +kernel
theorem d_D_namesOf_32 : decode prog_9_method_19_code 32 = .ok (.ldc 145, 2) := by decide +kernel
theorem d_D_namesOf_34 : decode prog_9_method_19_code 34 = .ok (.areturn, 1) := by decide +kernel
theorem d_D_namesOf_35 : decode prog_9_method_19_code 35 = .ok (.ldc 147, 2) := by decide +kernel
theorem d_D_namesOf_37 : decode prog_9_method_19_code 37 = .ok (.areturn, 1) := by decide +kernel
theorem d_D_namesOf_38 : decode prog_9_method_19_code 38 = .ok (.ldc 149, 2) := by decide +kernel
theorem d_D_namesOf_40 : decode prog_9_method_19_code 40 = .ok (.areturn, 1) := by decide +kernel
theorem d_D_namesOf_41 : decode prog_9_method_19_code 41 = .ok (.ldc 151, 2) := by decide +kernel
theorem d_D_namesOf_43 : decode prog_9_method_19_code 43 = .ok (.areturn, 1) := by decide +kernel
theorem d_D_namesOf_44 : decode prog_9_method_19_code 44 = .ok (.ldc 153, 2) := by decide +kernel
theorem d_D_namesOf_46 : decode prog_9_method_19_code 46 = .ok (.areturn, 1) := by decide +kernel
theorem d_D_nameHere_0 : decode prog_9_method_15_code 0 = .ok (.aload_n 0, 1) := by decide +kernel
theorem d_D_nameHere_1 : decode prog_9_method_15_code 1 = .ok (.getfield 34, 3) := by decide +kernel
theorem d_D_nameHere_4 : decode prog_9_method_15_code 4 = .ok (.aload_n 0, 1) := by decide +kernel
theorem d_D_nameHere_5 : decode prog_9_method_15_code 5 = .ok (.getfield 48, 3) := by decide +kernel
theorem d_D_nameHere_8 : decode prog_9_method_15_code 8 = .ok (.isub, 1) := by decide +kernel
theorem d_D_nameHere_9 : decode prog_9_method_15_code 9 = .ok (.iconst 1, 1) := by decide +kernel
theorem d_D_nameHere_10 : decode prog_9_method_15_code 10 = .ok (.if_icmp .ne 28, 3) := by decide +kernel
theorem d_D_nameHere_13 : decode prog_9_method_15_code 13 = .ok (.aload_n 0, 1) := by decide +kernel
theorem d_D_nameHere_14 : decode prog_9_method_15_code 14 = .ok (.getfield 44, 3) := by decide +kernel
theorem d_D_nameHere_17 : decode prog_9_method_15_code 17 = .ok (.invokestatic 118, 3) := by decide +kernel
theorem d_D_nameHere_20 : decode prog_9_method_15_code 20 = .ok (.aload_n 0, 1) := by decide +kernel
theorem d_D_nameHere_21 : decode prog_9_method_15_code 21 = .ok (.getfield 17, 3) := by decide +kernel
theorem d_D_nameHere_24 : decode prog_9_method_15_code 24 = .ok (.aload_n 0, 1) := by decide +kernel
theorem d_D_nameHere_25 : decode prog_9_method_15_code 25 = .ok (.getfield 48, 3) := by decide +kernel
theorem d_D_nameHere_28 : decode prog_9_method_15_code 28 = .ok (.invokevirtual 83, 3) := by decide +kernel
theorem d_D_nameHere_31 : decode prog_9_method_15_code 31 = .ok (.i2c, 1) := by decide +kernel
theorem d_D_nameHere_32 : decode prog_9_method_15_code 32 = .ok (.invokevirtual 113, 3) := by decide +kernel
theorem d_D_nameHere_35 : decode prog_9_method_15_code 35 = .ok (.goto 4, 3) := by decide +kernel
theorem d_D_nameHere_38 : decode prog_9_method_15_code 38 = .ok (.iconst (-1), 1) := by decide +kernel
theorem d_D_nameHere_39 : decode prog_9_method_15_code 39 = .ok (.istore_n 1, 1) := by decide +kernel
theorem d_D_nameHere_40 : decode prog_9_method_15_code 40 = .ok (.iload_n 1, 1) := by decide +kernel
theorem d_D_nameHere_41 : decode prog_9_method_15_code 41 = .ok (.ifCond .ge 8, 3) := by decide +kernel
theorem d_D_nameHere_44 : decode prog_9_method_15_code 44 = .ok (.ldc 47, 2) := by decide +kernel
theorem d_D_nameHere_46 : decode prog_9_method_15_code 46 = .ok (.goto 4, 3) := by decide +kernel
theorem d_D_nameHere_49 : decode prog_9_method_15_code 49 = .ok (.iload_n 1, 1) := by decide +kernel
theorem d_D_nameHere_50 : decode prog_9_method_15_code 50 = .ok (.ireturn, 1) := by decide +kernel
theorem d_D_isSign_0 : decode prog_9_method_12_code 0 = .ok (.aload_n 0, 1) := by decide +kernel
theorem d_D_isSign_1 : decode prog_9_method_12_code 1 = .ok (.getfield 31, 3) := by decide +kernel
theorem d_D_isSign_4 : decode prog_9_method_12_code 4 = .ok (.iconst 2, 1) := by decide +kernel
theorem d_D_isSign_5 : decode prog_9_method_12_code 5 = .ok (.if_icmp .ne 22, 3) := by decide +kernel
theorem d_D_isSign_8 : decode prog_9_method_12_code 8 = .ok (.aload_n 0, 1) := by decide +kernel
theorem d_D_isSign_9 : decode prog_9_method_12_code 9 = .ok (.getfield 17, 3) := by decide +kernel
theorem d_D_isSign_12 : decode prog_9_method_12_code 12 = .ok (.aload_n 0, 1) := by decide +kernel
theorem d_D_isSign_13 : decode prog_9_method_12_code 13 = .ok (.getfield 48, 3) := by decide +kernel
theorem d_D_isSign_16 : decode prog_9_method_12_code 16 = .ok (.invokevirtual 83, 3) := by decide +kernel
theorem d_D_isSign_19 : decode prog_9_method_12_code 19 = .ok (.iload_n 1, 1) := by decide +kernel
theorem d_D_isSign_20 : decode prog_9_method_12_code 20 = .ok (.if_icmp .ne 7, 3) := by decide +kernel
theorem d_D_isSign_23 : decode prog_9_method_12_code 23 = .ok (.iconst 1, 1) := by decide +kernel
theorem d_D_isSign_24 : decode prog_9_method_12_code 24 = .ok (.goto 4, 3) := by decide +kernel
theorem d_D_isSign_27 : decode prog_9_method_12_code 27 = .ok (.iconst 0, 1) := by decide +kernel
theorem d_D_isSign_28 : decode prog_9_method_12_code 28 = .ok (.ireturn, 1) := by decide +kernel
theorem d_D_refuse_0 : decode prog_9_method_6_code 0 = .ok (.aload_n 0, 1) := by decide +kernel
theorem d_D_refuse_1 : decode prog_9_method_6_code 1 = .ok (.getfield 28, 3) := by decide +kernel
theorem d_D_refuse_4 : decode prog_9_method_6_code 4 = .ok (.iconst (-1), 1) := by decide +kernel
theorem d_D_refuse_5 : decode prog_9_method_6_code 5 = .ok (.if_icmp .ne 11, 3) := by decide +kernel
theorem d_D_refuse_8 : decode prog_9_method_6_code 8 = .ok (.aload_n 0, 1) := by decide +kernel
theorem d_D_refuse_9 : decode prog_9_method_6_code 9 = .ok (.aload_n 0, 1) := by decide +kernel
theorem d_D_refuse_10 : decode prog_9_method_6_code 10 = .ok (.getfield 48, 3) := by decide +kernel
theorem d_D_refuse_13 : decode prog_9_method_6_code 13 = .ok (.putfield 28, 3) := by decide +kernel
theorem d_D_refuse_16 : decode prog_9_method_6_code 16 = .ok (.return_, 1) := by decide +kernel
theorem d_D_readPart_0 : decode prog_9_method_5_code 0 = .ok (.aload_n 0, 1) := by decide +kernel
theorem d_D_readPart_1 : decode prog_9_method_5_code 1 = .ok (.getfield 31, 3) := by decide +kernel
theorem d_D_readPart_4 : decode prog_9_method_5_code 4 = .ok (.iconst 4, 1) := by decide +kernel
theorem d_D_readPart_5 : decode prog_9_method_5_code 5 = .ok (.if_icmp .ne 27, 3) := by decide +kernel
theorem d_D_readPart_8 : decode prog_9_method_5_code 8 = .ok (.aload_n 0, 1) := by decide +kernel
theorem d_D_readPart_9 : decode prog_9_method_5_code 9 = .ok (.getfield 34, 3) := by decide +kernel
theorem d_D_readPart_12 : decode prog_9_method_5_code 12 = .ok (.aload_n 0, 1) := by decide +kernel
theorem d_D_readPart_13 : decode prog_9_method_5_code 13 = .ok (.getfield 48, 3) := by decide +kernel
theorem d_D_readPart_16 : decode prog_9_method_5_code 16 = .ok (.isub, 1) := by decide +kernel
theorem d_D_readPart_17 : decode prog_9_method_5_code 17 = .ok (.iconst 4, 1) := by decide +kernel
theorem d_D_readPart_18 : decode prog_9_method_5_code 18 = .ok (.if_icmp .gt 14, 3) := by decide +kernel
theorem d_D_readPart_21 : decode prog_9_method_5_code 21 = .ok (.aload_n 0, 1) := by decide +kernel
theorem d_D_readPart_22 : decode prog_9_method_5_code 22 = .ok (.aload_n 0, 1) := by decide +kernel
theorem d_D_readPart_23 : decode prog_9_method_5_code 23 = .ok (.invokevirtual 91, 3) := by decide +kernel
theorem d_D_readPart_26 : decode prog_9_method_5_code 26 = .ok (.invokevirtual 94, 3) := by decide +kernel
theorem d_D_readPart_29 : decode prog_9_method_5_code 29 = .ok (.goto 124, 3) := by decide +kernel
theorem d_D_readPart_32 : decode prog_9_method_5_code 32 = .ok (.aload_n 0, 1) := by decide +kernel
theorem d_D_readPart_33 : decode prog_9_method_5_code 33 = .ok (.getfield 31, 3) := by decide +kernel
theorem d_D_readPart_36 : decode prog_9_method_5_code 36 = .ok (.iconst 3, 1) := by decide +kernel
theorem d_D_readPart_37 : decode prog_9_method_5_code 37 = .ok (.if_icmp .ne 25, 3) := by decide +kernel
theorem d_D_readPart_40 : decode prog_9_method_5_code 40 = .ok (.aload_n 0, 1) := by decide +kernel
theorem d_D_readPart_41 : decode prog_9_method_5_code 41 = .ok (.invokevirtual 97, 3) := by decide +kernel
theorem d_D_readPart_44 : decode prog_9_method_5_code 44 = .ok (.ldc 47, 2) := by decide +kernel
theorem d_D_readPart_46 : decode prog_9_method_5_code 46 = .ok (.if_icmp .eq 16, 3) := by decide +kernel
theorem d_D_readPart_49 : decode prog_9_method_5_code 49 = .ok (.aload_n 0, 1) := by decide +kernel
theorem d_D_readPart_50 : decode prog_9_method_5_code 50 = .ok (.iconst (-1), 1) := by decide +kernel
theorem d_D_readPart_51 : decode prog_9_method_5_code 51 = .ok (.aload_n 0, 1) := by decide +kernel
theorem d_D_readPart_52 : decode prog_9_method_5_code 52 = .ok (.invokevirtual 97, 3) := by decide +kernel
theorem d_D_readPart_55 : decode prog_9_method_5_code 55 = .ok (.isub, 1) := by decide +kernel
theorem d_D_readPart_56 : decode prog_9_method_5_code 56 = .ok (.invokevirtual 94, 3) := by decide +kernel
theorem d_D_readPart_59 : decode prog_9_method_5_code 59 = .ok (.goto 94, 3) := by decide +kernel
theorem d_D_readPart_62 : decode prog_9_method_5_code 62 = .ok (.aload_n 0, 1) := by decide +kernel
theorem d_D_readPart_63 : decode prog_9_method_5_code 63 = .ok (.bipush 33, 2) := by decide +kernel
theorem d_D_readPart_65 : decode prog_9_method_5_code 65 = .ok (.invokevirtual 100, 3) := by decide +kernel
theorem d_D_readPart_68 : decode prog_9_method_5_code 68 = .ok (.ifCond .eq 30, 3) := by decide +kernel
theorem d_D_readPart_71 : decode prog_9_method_5_code 71 = .ok (.iload_n 2, 1) := by decide +kernel
theorem d_D_readPart_72 : decode prog_9_method_5_code 72 = .ok (.bipush 8, 2) := by decide +kernel
theorem d_D_readPart_74 : decode prog_9_method_5_code 74 = .ok (.if_icmp .ge 24, 3) := by decide +kernel
theorem d_D_readPart_77 : decode prog_9_method_5_code 77 = .ok (.aload_n 0, 1) := by decide +kernel
theorem d_D_readPart_78 : decode prog_9_method_5_code 78 = .ok (.invokevirtual 37, 3) := by decide +kernel
theorem d_D_readPart_81 : decode prog_9_method_5_code 81 = .ok (.aload_n 0, 1) := by decide +kernel
theorem d_D_readPart_82 : decode prog_9_method_5_code 82 = .ok (.iload_n 1, 1) := by decide +kernel
theorem d_D_readPart_83 : decode prog_9_method_5_code 83 = .ok (.iload_n 2, 1) := by decide +kernel
theorem d_D_readPart_84 : decode prog_9_method_5_code 84 = .ok (.iconst 1, 1) := by decide +kernel
theorem d_D_readPart_85 : decode prog_9_method_5_code 85 = .ok (.iadd, 1) := by decide +kernel
theorem d_D_readPart_86 : decode prog_9_method_5_code 86 = .ok (.invokevirtual 75, 3) := by decide +kernel
theorem d_D_readPart_89 : decode prog_9_method_5_code 89 = .ok (.aload_n 0, 1) := by decide +kernel
theorem d_D_readPart_90 : decode prog_9_method_5_code 90 = .ok (.bipush (-33), 2) := by decide +kernel
theorem d_D_readPart_92 : decode prog_9_method_5_code 92 = .ok (.invokevirtual 87, 3) := by decide +kernel
theorem d_D_readPart_95 : decode prog_9_method_5_code 95 = .ok (.goto 58, 3) := by decide +kernel
theorem d_D_readPart_98 : decode prog_9_method_5_code 98 = .ok (.aload_n 0, 1) := by decide +kernel
theorem d_D_readPart_99 : decode prog_9_method_5_code 99 = .ok (.bipush 40, 2) := by decide +kernel
theorem d_D_readPart_101 : decode prog_9_method_5_code 101 = .ok (.invokevirtual 100, 3) := by decide +kernel
theorem d_D_readPart_104 : decode prog_9_method_5_code 104 = .ok (.ifCond .eq 45, 3) := by decide +kernel
theorem d_D_readPart_107 : decode prog_9_method_5_code 107 = .ok (.iload_n 1, 1) := by decide +kernel
theorem d_D_readPart_108 : decode prog_9_method_5_code 108 = .ok (.bipush 8, 2) := by decide +kernel
theorem d_D_readPart_110 : decode prog_9_method_5_code 110 = .ok (.if_icmp .ge 39, 3) := by decide +kernel
theorem d_D_readPart_113 : decode prog_9_method_5_code 113 = .ok (.aload_n 0, 1) := by decide +kernel
theorem d_D_readPart_114 : decode prog_9_method_5_code 114 = .ok (.invokevirtual 37, 3) := by decide +kernel
theorem d_D_readPart_117 : decode prog_9_method_5_code 117 = .ok (.aload_n 0, 1) := by decide +kernel
theorem d_D_readPart_118 : decode prog_9_method_5_code 118 = .ok (.iconst 0, 1) := by decide +kernel
theorem d_D_readPart_119 : decode prog_9_method_5_code 119 = .ok (.iload_n 1, 1) := by decide +kernel
theorem d_D_readPart_120 : decode prog_9_method_5_code 120 = .ok (.iconst 1, 1) := by decide +kernel
theorem d_D_readPart_121 : decode prog_9_method_5_code 121 = .ok (.iadd, 1) := by decide +kernel
theorem d_D_readPart_122 : decode prog_9_method_5_code 122 = .ok (.iload_n 2, 1) := by decide +kernel
theorem d_D_readPart_123 : decode prog_9_method_5_code 123 = .ok (.invokevirtual 51, 3) := by decide +kernel
theorem d_D_readPart_126 : decode prog_9_method_5_code 126 = .ok (.aload_n 0, 1) := by decide +kernel
theorem d_D_readPart_127 : decode prog_9_method_5_code 127 = .ok (.bipush 41, 2) := by decide +kernel
theorem d_D_readPart_129 : decode prog_9_method_5_code 129 = .ok (.invokevirtual 100, 3) := by decide +kernel
theorem d_D_readPart_132 : decode prog_9_method_5_code 132 = .ok (.ifCond .eq 10, 3) := by decide +kernel
theorem d_D_readPart_135 : decode prog_9_method_5_code 135 = .ok (.aload_n 0, 1) := by decide +kernel
theorem d_D_readPart_136 : decode prog_9_method_5_code 136 = .ok (.invokevirtual 37, 3) := by decide +kernel
theorem d_D_readPart_139 : decode prog_9_method_5_code 139 = .ok (.goto 14, 3) := by decide +kernel
theorem d_D_readPart_142 : decode prog_9_method_5_code 142 = .ok (.aload_n 0, 1) := by decide +kernel
theorem d_D_readPart_143 : decode prog_9_method_5_code 143 = .ok (.invokevirtual 55, 3) := by decide +kernel
theorem d_D_readPart_146 : decode prog_9_method_5_code 146 = .ok (.goto 7, 3) := by decide +kernel
theorem d_D_readPart_149 : decode prog_9_method_5_code 149 = .ok (.aload_n 0, 1) := by decide +kernel
theorem d_D_readPart_150 : decode prog_9_method_5_code 150 = .ok (.invokevirtual 55, 3) := by decide +kernel
theorem d_D_readPart_153 : decode prog_9_method_5_code 153 = .ok (.return_, 1) := by decide +kernel
theorem d_D_signsOf_0 : decode prog_9_method_20_code 0 = .ok (.iload_n 0, 1) := by decide +kernel
theorem d_D_signsOf_1 : decode prog_9_method_20_code 1 = .ok (.tableswitch 43 0 3 #[31, 34, 37, 40], 31) := by decide +kernel
theorem d_D_signsOf_32 : decode prog_9_method_20_code 32 = .ok (.ldc 155, 2) := by decide +kernel
theorem d_D_signsOf_34 : decode prog_9_method_20_code 34 = .ok (.areturn, 1) := by decide +kernel
theorem d_D_signsOf_35 : decode prog_9_method_20_code 35 = .ok (.ldc 157, 2) := by decide +kernel
theorem d_D_signsOf_37 : decode prog_9_method_20_code 37 = .ok (.areturn, 1) := by decide +kernel
theorem d_D_signsOf_38 : decode prog_9_method_20_code 38 = .ok (.ldc 159, 2) := by decide +kernel
theorem d_D_signsOf_40 : decode prog_9_method_20_code 40 = .ok (.areturn, 1) := by decide +kernel
theorem d_D_signsOf_41 : decode prog_9_method_20_code 41 = .ok (.ldc 161, 2) := by decide +kernel
theorem d_D_signsOf_43 : decode prog_9_method_20_code 43 = .ok (.areturn, 1) := by decide +kernel
theorem d_D_signsOf_44 : decode prog_9_method_20_code 44 = .ok (.ldc 163, 2) := by decide +kernel
theorem d_D_signsOf_46 : decode prog_9_method_20_code 46 = .ok (.areturn, 1) := by decide +kernel
theorem d_D_signIsOf_0 : decode prog_9_method_13_code 0 = .ok (.aload_n 0, 1) := by decide +kernel
theorem d_D_signIsOf_1 : decode prog_9_method_13_code 1 = .ok (.getfield 31, 3) := by decide +kernel
theorem d_D_signIsOf_4 : decode prog_9_method_13_code 4 = .ok (.iconst 2, 1) := by decide +kernel
theorem d_D_signIsOf_5 : decode prog_9_method_13_code 5 = .ok (.if_icmp .ne 29, 3) := by decide +kernel
theorem d_D_signIsOf_8 : decode prog_9_method_13_code 8 = .ok (.iload_n 1, 1) := by decide +kernel
theorem d_D_signIsOf_9 : decode prog_9_method_13_code 9 = .ok (.invokestatic 109, 3) := by decide +kernel
theorem d_D_signIsOf_12 : decode prog_9_method_13_code 12 = .ok (.aload_n 0, 1) := by decide +kernel
theorem d_D_signIsOf_13 : decode prog_9_method_13_code 13 = .ok (.getfield 17, 3) := by decide +kernel
theorem d_D_signIsOf_16 : decode prog_9_method_13_code 16 = .ok (.aload_n 0, 1) := by decide +kernel
theorem d_D_signIsOf_17 : decode prog_9_method_13_code 17 = .ok (.getfield 48, 3) := by decide +kernel
theorem d_D_signIsOf_20 : decode prog_9_method_13_code 20 = .ok (.invokevirtual 83, 3) := by decide +kernel
theorem d_D_signIsOf_23 : decode prog_9_method_13_code 23 = .ok (.i2c, 1) := by decide +kernel
theorem d_D_signIsOf_24 : decode prog_9_method_13_code 24 = .ok (.invokevirtual 113, 3) := by decide +kernel
theorem d_D_signIsOf_27 : decode prog_9_method_13_code 27 = .ok (.ifCond .lt 7, 3) := by decide +kernel
theorem d_D_signIsOf_30 : decode prog_9_method_13_code 30 = .ok (.iconst 1, 1) := by decide +kernel
theorem d_D_signIsOf_31 : decode prog_9_method_13_code 31 = .ok (.goto 4, 3) := by decide +kernel
theorem d_D_signIsOf_34 : decode prog_9_method_13_code 34 = .ok (.iconst 0, 1) := by decide +kernel
theorem d_D_signIsOf_35 : decode prog_9_method_13_code 35 = .ok (.ireturn, 1) := by decide +kernel
theorem d_D_readLevel_0 : decode prog_9_method_4_code 0 = .ok (.iload_n 1, 1) := by decide +kernel
theorem d_D_readLevel_1 : decode prog_9_method_4_code 1 = .ok (.iconst 5, 1) := by decide +kernel
theorem d_D_readLevel_2 : decode prog_9_method_4_code 2 = .ok (.if_icmp .lt 10, 3) := by decide +kernel
theorem d_D_readLevel_5 : decode prog_9_method_4_code 5 = .ok (.aload_n 0, 1) := by decide +kernel
theorem d_D_readLevel_6 : decode prog_9_method_4_code 6 = .ok (.iload_n 2, 1) := by decide +kernel
theorem d_D_readLevel_7 : decode prog_9_method_4_code 7 = .ok (.iload_n 3, 1) := by decide +kernel
theorem d_D_readLevel_8 : decode prog_9_method_4_code 8 = .ok (.invokevirtual 75, 3) := by decide +kernel
theorem d_D_readLevel_11 : decode prog_9_method_4_code 11 = .ok (.return_, 1) := by decide +kernel
theorem d_D_readLevel_12 : decode prog_9_method_4_code 12 = .ok (.aload_n 0, 1) := by decide +kernel
theorem d_D_readLevel_13 : decode prog_9_method_4_code 13 = .ok (.iload_n 1, 1) := by decide +kernel
theorem d_D_readLevel_14 : decode prog_9_method_4_code 14 = .ok (.iconst 1, 1) := by decide +kernel
theorem d_D_readLevel_15 : decode prog_9_method_4_code 15 = .ok (.iadd, 1) := by decide +kernel
theorem d_D_readLevel_16 : decode prog_9_method_4_code 16 = .ok (.iload_n 2, 1) := by decide +kernel
theorem d_D_readLevel_17 : decode prog_9_method_4_code 17 = .ok (.iload_n 3, 1) := by decide +kernel
theorem d_D_readLevel_18 : decode prog_9_method_4_code 18 = .ok (.invokevirtual 51, 3) := by decide +kernel
theorem d_D_readLevel_21 : decode prog_9_method_4_code 21 = .ok (.iload_n 1, 1) := by decide +kernel
theorem d_D_readLevel_22 : decode prog_9_method_4_code 22 = .ok (.iconst 2, 1) := by decide +kernel
theorem d_D_readLevel_23 : decode prog_9_method_4_code 23 = .ok (.if_icmp .ne 7, 3) := by decide +kernel
theorem d_D_readLevel_26 : decode prog_9_method_4_code 26 = .ok (.iconst 1, 1) := by decide +kernel
theorem d_D_readLevel_27 : decode prog_9_method_4_code 27 = .ok (.goto 5, 3) := by decide +kernel
theorem d_D_readLevel_30 : decode prog_9_method_4_code 30 = .ok (.bipush 96, 2) := by decide +kernel
theorem d_D_readLevel_32 : decode prog_9_method_4_code 32 = .ok (.istore 4, 2) := by decide +kernel
theorem d_D_readLevel_34 : decode prog_9_method_4_code 34 = .ok (.iconst 0, 1) := by decide +kernel
theorem d_D_readLevel_35 : decode prog_9_method_4_code 35 = .ok (.istore 5, 2) := by decide +kernel
theorem d_D_readLevel_37 : decode prog_9_method_4_code 37 = .ok (.iload 5, 2) := by decide +kernel
theorem d_D_readLevel_39 : decode prog_9_method_4_code 39 = .ok (.iload 4, 2) := by decide +kernel
theorem d_D_readLevel_41 : decode prog_9_method_4_code 41 = .ok (.if_icmp .ge 58, 3) := by decide +kernel
theorem d_D_readLevel_44 : decode prog_9_method_4_code 44 = .ok (.aload_n 0, 1) := by decide +kernel
theorem d_D_readLevel_45 : decode prog_9_method_4_code 45 = .ok (.getfield 28, 3) := by decide +kernel
theorem d_D_readLevel_48 : decode prog_9_method_4_code 48 = .ok (.iconst (-1), 1) := by decide +kernel
theorem d_D_readLevel_49 : decode prog_9_method_4_code 49 = .ok (.if_icmp .ne 50, 3) := by decide +kernel
theorem d_D_readLevel_52 : decode prog_9_method_4_code 52 = .ok (.aload_n 0, 1) := by decide +kernel
theorem d_D_readLevel_53 : decode prog_9_method_4_code 53 = .ok (.iload_n 1, 1) := by decide +kernel
theorem d_D_readLevel_54 : decode prog_9_method_4_code 54 = .ok (.invokevirtual 79, 3) := by decide +kernel
theorem d_D_readLevel_57 : decode prog_9_method_4_code 57 = .ok (.ifCond .eq 42, 3) := by decide +kernel
theorem d_D_readLevel_60 : decode prog_9_method_4_code 60 = .ok (.aload_n 0, 1) := by decide +kernel
theorem d_D_readLevel_61 : decode prog_9_method_4_code 61 = .ok (.getfield 17, 3) := by decide +kernel
theorem d_D_readLevel_64 : decode prog_9_method_4_code 64 = .ok (.aload_n 0, 1) := by decide +kernel
theorem d_D_readLevel_65 : decode prog_9_method_4_code 65 = .ok (.getfield 48, 3) := by decide +kernel
theorem d_D_readLevel_68 : decode prog_9_method_4_code 68 = .ok (.invokevirtual 83, 3) := by decide +kernel
theorem d_D_readLevel_71 : decode prog_9_method_4_code 71 = .ok (.istore 6, 2) := by decide +kernel
theorem d_D_readLevel_73 : decode prog_9_method_4_code 73 = .ok (.aload_n 0, 1) := by decide +kernel
theorem d_D_readLevel_74 : decode prog_9_method_4_code 74 = .ok (.invokevirtual 37, 3) := by decide +kernel
theorem d_D_readLevel_77 : decode prog_9_method_4_code 77 = .ok (.aload_n 0, 1) := by decide +kernel
theorem d_D_readLevel_78 : decode prog_9_method_4_code 78 = .ok (.iload_n 1, 1) := by decide +kernel
theorem d_D_readLevel_79 : decode prog_9_method_4_code 79 = .ok (.iconst 1, 1) := by decide +kernel
theorem d_D_readLevel_80 : decode prog_9_method_4_code 80 = .ok (.iadd, 1) := by decide +kernel
theorem d_D_readLevel_81 : decode prog_9_method_4_code 81 = .ok (.iload_n 2, 1) := by decide +kernel
theorem d_D_readLevel_82 : decode prog_9_method_4_code 82 = .ok (.iload_n 3, 1) := by decide +kernel
theorem d_D_readLevel_83 : decode prog_9_method_4_code 83 = .ok (.invokevirtual 51, 3) := by decide +kernel
theorem d_D_readLevel_86 : decode prog_9_method_4_code 86 = .ok (.aload_n 0, 1) := by decide +kernel
theorem d_D_readLevel_87 : decode prog_9_method_4_code 87 = .ok (.iload 6, 2) := by decide +kernel
theorem d_D_readLevel_89 : decode prog_9_method_4_code 89 = .ok (.ineg, 1) := by decide +kernel
theorem d_D_readLevel_90 : decode prog_9_method_4_code 90 = .ok (.invokevirtual 87, 3) := by decide +kernel
theorem d_D_readLevel_93 : decode prog_9_method_4_code 93 = .ok (.iinc 5 1, 3) := by decide +kernel
theorem d_D_readLevel_96 : decode prog_9_method_4_code 96 = .ok (.goto (-59), 3) := by decide +kernel
theorem d_D_readLevel_99 : decode prog_9_method_4_code 99 = .ok (.return_, 1) := by decide +kernel
theorem d_D_readTape_0 : decode prog_9_method_2_code 0 = .ok (.aload_n 0, 1) := by decide +kernel
theorem d_D_readTape_1 : decode prog_9_method_2_code 1 = .ok (.iconst 0, 1) := by decide +kernel
theorem d_D_readTape_2 : decode prog_9_method_2_code 2 = .ok (.putfield 21, 3) := by decide +kernel
theorem d_D_readTape_5 : decode prog_9_method_2_code 5 = .ok (.aload_n 0, 1) := by decide +kernel
theorem d_D_readTape_6 : decode prog_9_method_2_code 6 = .ok (.iconst 0, 1) := by decide +kernel
theorem d_D_readTape_7 : decode prog_9_method_2_code 7 = .ok (.putfield 25, 3) := by decide +kernel
theorem d_D_readTape_10 : decode prog_9_method_2_code 10 = .ok (.aload_n 0, 1) := by decide +kernel
theorem d_D_readTape_11 : decode prog_9_method_2_code 11 = .ok (.iconst (-1), 1) := by decide +kernel
theorem d_D_readTape_12 : decode prog_9_method_2_code 12 = .ok (.putfield 28, 3) := by decide +kernel
theorem d_D_readTape_15 : decode prog_9_method_2_code 15 = .ok (.aload_n 0, 1) := by decide +kernel
theorem d_D_readTape_16 : decode prog_9_method_2_code 16 = .ok (.iconst 0, 1) := by decide +kernel
theorem d_D_readTape_17 : decode prog_9_method_2_code 17 = .ok (.putfield 31, 3) := by decide +kernel
theorem d_D_readTape_20 : decode prog_9_method_2_code 20 = .ok (.aload_n 0, 1) := by decide +kernel
theorem d_D_readTape_21 : decode prog_9_method_2_code 21 = .ok (.iconst 0, 1) := by decide +kernel
theorem d_D_readTape_22 : decode prog_9_method_2_code 22 = .ok (.putfield 34, 3) := by decide +kernel
theorem d_D_readTape_25 : decode prog_9_method_2_code 25 = .ok (.aload_n 0, 1) := by decide +kernel
theorem d_D_readTape_26 : decode prog_9_method_2_code 26 = .ok (.invokevirtual 37, 3) := by decide +kernel
theorem d_D_readTape_29 : decode prog_9_method_2_code 29 = .ok (.aload_n 0, 1) := by decide +kernel
theorem d_D_readTape_30 : decode prog_9_method_2_code 30 = .ok (.aload_n 0, 1) := by decide +kernel
theorem d_D_readTape_31 : decode prog_9_method_2_code 31 = .ok (.invokevirtual 40, 3) := by decide +kernel
theorem d_D_readTape_34 : decode prog_9_method_2_code 34 = .ok (.putfield 44, 3) := by decide +kernel
theorem d_D_readTape_37 : decode prog_9_method_2_code 37 = .ok (.aload_n 0, 1) := by decide +kernel
theorem d_D_readTape_38 : decode prog_9_method_2_code 38 = .ok (.getfield 44, 3) := by decide +kernel
theorem d_D_readTape_41 : decode prog_9_method_2_code 41 = .ok (.ldc 47, 2) := by decide +kernel
theorem d_D_readTape_43 : decode prog_9_method_2_code 43 = .ok (.if_icmp .ne 8, 3) := by decide +kernel
theorem d_D_readTape_46 : decode prog_9_method_2_code 46 = .ok (.aload_n 0, 1) := by decide +kernel
theorem d_D_readTape_47 : decode prog_9_method_2_code 47 = .ok (.getfield 48, 3) := by decide +kernel
theorem d_D_readTape_50 : decode prog_9_method_2_code 50 = .ok (.ireturn, 1) := by decide +kernel
theorem d_D_readTape_51 : decode prog_9_method_2_code 51 = .ok (.aload_n 0, 1) := by decide +kernel
theorem d_D_readTape_52 : decode prog_9_method_2_code 52 = .ok (.invokevirtual 37, 3) := by decide +kernel
theorem d_D_readTape_55 : decode prog_9_method_2_code 55 = .ok (.aload_n 0, 1) := by decide +kernel
theorem d_D_readTape_56 : decode prog_9_method_2_code 56 = .ok (.iconst 0, 1) := by decide +kernel
theorem d_D_readTape_57 : decode prog_9_method_2_code 57 = .ok (.iconst 0, 1) := by decide +kernel
theorem d_D_readTape_58 : decode prog_9_method_2_code 58 = .ok (.iconst 0, 1) := by decide +kernel
theorem d_D_readTape_59 : decode prog_9_method_2_code 59 = .ok (.invokevirtual 51, 3) := by decide +kernel
theorem d_D_readTape_62 : decode prog_9_method_2_code 62 = .ok (.aload_n 0, 1) := by decide +kernel
theorem d_D_readTape_63 : decode prog_9_method_2_code 63 = .ok (.getfield 31, 3) := by decide +kernel
theorem d_D_readTape_66 : decode prog_9_method_2_code 66 = .ok (.iconst 1, 1) := by decide +kernel
theorem d_D_readTape_67 : decode prog_9_method_2_code 67 = .ok (.if_icmp .eq 7, 3) := by decide +kernel
theorem d_D_readTape_70 : decode prog_9_method_2_code 70 = .ok (.aload_n 0, 1) := by decide +kernel
theorem d_D_readTape_71 : decode prog_9_method_2_code 71 = .ok (.invokevirtual 55, 3) := by decide +kernel
theorem d_D_readTape_74 : decode prog_9_method_2_code 74 = .ok (.aload_n 0, 1) := by decide +kernel
theorem d_D_readTape_75 : decode prog_9_method_2_code 75 = .ok (.getfield 28, 3) := by decide +kernel
theorem d_D_readTape_78 : decode prog_9_method_2_code 78 = .ok (.ireturn, 1) := by decide +kernel
theorem d_T_init_0 : decode prog_8_method_1_code 0 = .ok (.aload_n 0, 1) := by decide +kernel
theorem d_T_init_1 : decode prog_8_method_1_code 1 = .ok (.invokespecial 3, 3) := by decide +kernel
theorem d_T_init_4 : decode prog_8_method_1_code 4 = .ok (.aload_n 0, 1) := by decide +kernel
theorem d_T_init_5 : decode prog_8_method_1_code 5 = .ok (.iload_n 1, 1) := by decide +kernel
theorem d_T_init_6 : decode prog_8_method_1_code 6 = .ok (.putfield 9, 3) := by decide +kernel
theorem d_T_init_9 : decode prog_8_method_1_code 9 = .ok (.aload_n 0, 1) := by decide +kernel
theorem d_T_init_10 : decode prog_8_method_1_code 10 = .ok (.iload_n 2, 1) := by decide +kernel
theorem d_T_init_11 : decode prog_8_method_1_code 11 = .ok (.putfield 15, 3) := by decide +kernel
theorem d_T_init_14 : decode prog_8_method_1_code 14 = .ok (.aload_n 0, 1) := by decide +kernel
theorem d_T_init_15 : decode prog_8_method_1_code 15 = .ok (.iload_n 3, 1) := by decide +kernel
theorem d_T_init_16 : decode prog_8_method_1_code 16 = .ok (.putfield 18, 3) := by decide +kernel
theorem d_T_init_19 : decode prog_8_method_1_code 19 = .ok (.aload_n 0, 1) := by decide +kernel
theorem d_T_init_20 : decode prog_8_method_1_code 20 = .ok (.iload 4, 2) := by decide +kernel
theorem d_T_init_22 : decode prog_8_method_1_code 22 = .ok (.putfield 21, 3) := by decide +kernel
theorem d_T_init_25 : decode prog_8_method_1_code 25 = .ok (.aload_n 0, 1) := by decide +kernel
theorem d_T_init_26 : decode prog_8_method_1_code 26 = .ok (.aload 5, 2) := by decide +kernel
theorem d_T_init_28 : decode prog_8_method_1_code 28 = .ok (.putfield 24, 3) := by decide +kernel
theorem d_T_init_31 : decode prog_8_method_1_code 31 = .ok (.return_, 1) := by decide +kernel
theorem d_D_made_0 : decode prog_9_method_3_code 0 = .ok (.new 58, 3) := by decide +kernel
theorem d_D_made_3 : decode prog_9_method_3_code 3 = .ok (.dup, 1) := by decide +kernel
theorem d_D_made_4 : decode prog_9_method_3_code 4 = .ok (.aload_n 0, 1) := by decide +kernel
theorem d_D_made_5 : decode prog_9_method_3_code 5 = .ok (.getfield 44, 3) := by decide +kernel
theorem d_D_made_8 : decode prog_9_method_3_code 8 = .ok (.iload_n 1, 1) := by decide +kernel
theorem d_D_made_9 : decode prog_9_method_3_code 9 = .ok (.iload_n 2, 1) := by decide +kernel
theorem d_D_made_10 : decode prog_9_method_3_code 10 = .ok (.aload_n 0, 1) := by decide +kernel
theorem d_D_made_11 : decode prog_9_method_3_code 11 = .ok (.getfield 25, 3) := by decide +kernel
theorem d_D_made_14 : decode prog_9_method_3_code 14 = .ok (.aload_n 0, 1) := by decide +kernel
theorem d_D_made_15 : decode prog_9_method_3_code 15 = .ok (.getfield 11, 3) := by decide +kernel
theorem d_D_made_18 : decode prog_9_method_3_code 18 = .ok (.iconst 0, 1) := by decide +kernel
theorem d_D_made_19 : decode prog_9_method_3_code 19 = .ok (.aload_n 0, 1) := by decide +kernel
theorem d_D_made_20 : decode prog_9_method_3_code 20 = .ok (.getfield 21, 3) := by decide +kernel
theorem d_D_made_23 : decode prog_9_method_3_code 23 = .ok (.invokestatic 60, 3) := by decide +kernel
theorem d_D_made_26 : decode prog_9_method_3_code 26 = .ok (.invokestatic 66, 3) := by decide +kernel
theorem d_D_made_29 : decode prog_9_method_3_code 29 = .ok (.invokespecial 72, 3) := by decide +kernel
theorem d_D_made_32 : decode prog_9_method_3_code 32 = .ok (.areturn, 1) := by decide +kernel
theorem d_L_enact_0 : decode prog_3_method_3_code 0 = .ok (.aload_n 0, 1) := by decide +kernel
theorem d_L_enact_1 : decode prog_3_method_3_code 1 = .ok (.getfield 24, 3) := by decide +kernel
theorem d_L_enact_4 : decode prog_3_method_3_code 4 = .ok (.ifCond .lt 15, 3) := by decide +kernel
theorem d_L_enact_7 : decode prog_3_method_3_code 7 = .ok (.aload_n 0, 1) := by decide +kernel
theorem d_L_enact_8 : decode prog_3_method_3_code 8 = .ok (.getfield 24, 3) := by decide +kernel
theorem d_L_enact_11 : decode prog_3_method_3_code 11 = .ok (.aload_n 0, 1) := by decide +kernel
theorem d_L_enact_12 : decode prog_3_method_3_code 12 = .ok (.getfield 11, 3) := by decide +kernel
theorem d_L_enact_15 : decode prog_3_method_3_code 15 = .ok (.arraylength, 1) := by decide +kernel
theorem d_L_enact_16 : decode prog_3_method_3_code 16 = .ok (.if_icmp .lt 6, 3) := by decide +kernel
theorem d_L_enact_19 : decode prog_3_method_3_code 19 = .ok (.ldc 28, 2) := by decide +kernel
theorem d_L_enact_21 : decode prog_3_method_3_code 21 = .ok (.ireturn, 1) := by decide +kernel
theorem d_L_enact_22 : decode prog_3_method_3_code 22 = .ok (.aload_n 0, 1) := by decide +kernel
theorem d_L_enact_23 : decode prog_3_method_3_code 23 = .ok (.getfield 11, 3) := by decide +kernel
theorem d_L_enact_26 : decode prog_3_method_3_code 26 = .ok (.aload_n 0, 1) := by decide +kernel
theorem d_L_enact_27 : decode prog_3_method_3_code 27 = .ok (.getfield 24, 3) := by decide +kernel
theorem d_L_enact_30 : decode prog_3_method_3_code 30 = .ok (.aload_n 1, 1) := by decide +kernel
theorem d_L_enact_31 : decode prog_3_method_3_code 31 = .ok (.aastore, 1) := by decide +kernel
theorem d_L_enact_32 : decode prog_3_method_3_code 32 = .ok (.aload_n 0, 1) := by decide +kernel
theorem d_L_enact_33 : decode prog_3_method_3_code 33 = .ok (.dup, 1) := by decide +kernel
theorem d_L_enact_34 : decode prog_3_method_3_code 34 = .ok (.getfield 24, 3) := by decide +kernel
theorem d_L_enact_37 : decode prog_3_method_3_code 37 = .ok (.iconst 1, 1) := by decide +kernel
theorem d_L_enact_38 : decode prog_3_method_3_code 38 = .ok (.iadd, 1) := by decide +kernel
theorem d_L_enact_39 : decode prog_3_method_3_code 39 = .ok (.putfield 24, 3) := by decide +kernel
theorem d_L_enact_42 : decode prog_3_method_3_code 42 = .ok (.aload_n 0, 1) := by decide +kernel
theorem d_L_enact_43 : decode prog_3_method_3_code 43 = .ok (.getfield 24, 3) := by decide +kernel
theorem d_L_enact_46 : decode prog_3_method_3_code 46 = .ok (.iconst 1, 1) := by decide +kernel
theorem d_L_enact_47 : decode prog_3_method_3_code 47 = .ok (.isub, 1) := by decide +kernel
theorem d_L_enact_48 : decode prog_3_method_3_code 48 = .ok (.ireturn, 1) := by decide +kernel
theorem d_B_lastDayHeld_0 : decode prog_2_method_20_code 0 = .ok (.aload_n 0, 1) := by decide +kernel
theorem d_B_lastDayHeld_1 : decode prog_2_method_20_code 1 = .ok (.getfield 20, 3) := by decide +kernel
theorem d_B_lastDayHeld_4 : decode prog_2_method_20_code 4 = .ok (.iload_n 1, 1) := by decide +kernel
theorem d_B_lastDayHeld_5 : decode prog_2_method_20_code 5 = .ok (.iconst 3, 1) := by decide +kernel
theorem d_B_lastDayHeld_6 : decode prog_2_method_20_code 6 = .ok (.invokevirtual 72, 3) := by decide +kernel
theorem d_B_lastDayHeld_9 : decode prog_2_method_20_code 9 = .ok (.aload_n 0, 1) := by decide +kernel
theorem d_B_lastDayHeld_10 : decode prog_2_method_20_code 10 = .ok (.getfield 20, 3) := by decide +kernel
theorem d_B_lastDayHeld_13 : decode prog_2_method_20_code 13 = .ok (.iload_n 1, 1) := by decide +kernel
theorem d_B_lastDayHeld_14 : decode prog_2_method_20_code 14 = .ok (.iconst 2, 1) := by decide +kernel
theorem d_B_lastDayHeld_15 : decode prog_2_method_20_code 15 = .ok (.invokevirtual 72, 3) := by decide +kernel
theorem d_B_lastDayHeld_18 : decode prog_2_method_20_code 18 = .ok (.iadd, 1) := by decide +kernel
theorem d_B_lastDayHeld_19 : decode prog_2_method_20_code 19 = .ok (.iconst 1, 1) := by decide +kernel
theorem d_B_lastDayHeld_20 : decode prog_2_method_20_code 20 = .ok (.isub, 1) := by decide +kernel
theorem d_B_lastDayHeld_21 : decode prog_2_method_20_code 21 = .ok (.ireturn, 1) := by decide +kernel
theorem d_B_membersFor_0 : decode prog_2_method_12_code 0 = .ok (.iconst 0, 1) := by decide +kernel
theorem d_B_membersFor_1 : decode prog_2_method_12_code 1 = .ok (.istore 4, 2) := by decide +kernel
theorem d_B_membersFor_3 : decode prog_2_method_12_code 3 = .ok (.iconst 0, 1) := by decide +kernel
theorem d_B_membersFor_4 : decode prog_2_method_12_code 4 = .ok (.istore 5, 2) := by decide +kernel
theorem d_B_membersFor_6 : decode prog_2_method_12_code 6 = .ok (.iload 5, 2) := by decide +kernel
theorem d_B_membersFor_8 : decode prog_2_method_12_code 8 = .ok (.aload_n 0, 1) := by decide +kernel
theorem d_B_membersFor_9 : decode prog_2_method_12_code 9 = .ok (.getfield 23, 3) := by decide +kernel
theorem d_B_membersFor_12 : decode prog_2_method_12_code 12 = .ok (.getfield 76, 3) := by decide +kernel
theorem d_B_membersFor_15 : decode prog_2_method_12_code 15 = .ok (.if_icmp .ge 96, 3) := by decide +kernel
theorem d_B_membersFor_18 : decode prog_2_method_12_code 18 = .ok (.aload_n 0, 1) := by decide +kernel
theorem d_B_membersFor_19 : decode prog_2_method_12_code 19 = .ok (.getfield 23, 3) := by decide +kernel
theorem d_B_membersFor_22 : decode prog_2_method_12_code 22 = .ok (.iload 5, 2) := by decide +kernel
theorem d_B_membersFor_24 : decode prog_2_method_12_code 24 = .ok (.iconst 1, 1) := by decide +kernel
theorem d_B_membersFor_25 : decode prog_2_method_12_code 25 = .ok (.invokevirtual 72, 3) := by decide +kernel
theorem d_B_membersFor_28 : decode prog_2_method_12_code 28 = .ok (.iload_n 2, 1) := by decide +kernel
theorem d_B_membersFor_29 : decode prog_2_method_12_code 29 = .ok (.ishr, 1) := by decide +kernel
theorem d_B_membersFor_30 : decode prog_2_method_12_code 30 = .ok (.iconst 1, 1) := by decide +kernel
theorem d_B_membersFor_31 : decode prog_2_method_12_code 31 = .ok (.iand, 1) := by decide +kernel
theorem d_B_membersFor_32 : decode prog_2_method_12_code 32 = .ok (.iconst 1, 1) := by decide +kernel
theorem d_B_membersFor_33 : decode prog_2_method_12_code 33 = .ok (.if_icmp .ne 7, 3) := by decide +kernel
theorem d_B_membersFor_36 : decode prog_2_method_12_code 36 = .ok (.iconst 1, 1) := by decide +kernel
theorem d_B_membersFor_37 : decode prog_2_method_12_code 37 = .ok (.goto 4, 3) := by decide +kernel
theorem d_B_membersFor_40 : decode prog_2_method_12_code 40 = .ok (.iconst 0, 1) := by decide +kernel
theorem d_B_membersFor_41 : decode prog_2_method_12_code 41 = .ok (.istore 6, 2) := by decide +kernel
theorem d_B_membersFor_43 : decode prog_2_method_12_code 43 = .ok (.aload_n 0, 1) := by decide +kernel
theorem d_B_membersFor_44 : decode prog_2_method_12_code 44 = .ok (.getfield 23, 3) := by decide +kernel
theorem d_B_membersFor_47 : decode prog_2_method_12_code 47 = .ok (.iload 5, 2) := by decide +kernel
theorem d_B_membersFor_49 : decode prog_2_method_12_code 49 = .ok (.iconst 0, 1) := by decide +kernel
theorem d_B_membersFor_50 : decode prog_2_method_12_code 50 = .ok (.invokevirtual 72, 3) := by decide +kernel
theorem d_B_membersFor_53 : decode prog_2_method_12_code 53 = .ok (.iload_n 3, 1) := by decide +kernel
theorem d_B_membersFor_54 : decode prog_2_method_12_code 54 = .ok (.bipush 7, 2) := by decide +kernel
theorem d_B_membersFor_56 : decode prog_2_method_12_code 56 = .ok (.irem, 1) := by decide +kernel
theorem d_B_membersFor_57 : decode prog_2_method_12_code 57 = .ok (.ishr, 1) := by decide +kernel
theorem d_B_membersFor_58 : decode prog_2_method_12_code 58 = .ok (.iconst 1, 1) := by decide +kernel
theorem d_B_membersFor_59 : decode prog_2_method_12_code 59 = .ok (.iand, 1) := by decide +kernel
theorem d_B_membersFor_60 : decode prog_2_method_12_code 60 = .ok (.iconst 1, 1) := by decide +kernel
theorem d_B_membersFor_61 : decode prog_2_method_12_code 61 = .ok (.if_icmp .ne 7, 3) := by decide +kernel
theorem d_B_membersFor_64 : decode prog_2_method_12_code 64 = .ok (.iconst 1, 1) := by decide +kernel
theorem d_B_membersFor_65 : decode prog_2_method_12_code 65 = .ok (.goto 4, 3) := by decide +kernel
theorem d_B_membersFor_68 : decode prog_2_method_12_code 68 = .ok (.iconst 0, 1) := by decide +kernel
theorem d_B_membersFor_69 : decode prog_2_method_12_code 69 = .ok (.istore 7, 2) := by decide +kernel
theorem d_B_membersFor_71 : decode prog_2_method_12_code 71 = .ok (.iload 6, 2) := by decide +kernel
theorem d_B_membersFor_73 : decode prog_2_method_12_code 73 = .ok (.ifCond .eq 32, 3) := by decide +kernel
theorem d_B_membersFor_76 : decode prog_2_method_12_code 76 = .ok (.iload 7, 2) := by decide +kernel
theorem d_B_membersFor_78 : decode prog_2_method_12_code 78 = .ok (.ifCond .ne 27, 3) := by decide +kernel
theorem d_B_membersFor_81 : decode prog_2_method_12_code 81 = .ok (.aload_n 0, 1) := by decide +kernel
theorem d_B_membersFor_82 : decode prog_2_method_12_code 82 = .ok (.getfield 23, 3) := by decide +kernel
theorem d_B_membersFor_85 : decode prog_2_method_12_code 85 = .ok (.iload 5, 2) := by decide +kernel
theorem d_B_membersFor_87 : decode prog_2_method_12_code 87 = .ok (.iconst 2, 1) := by decide +kernel
theorem d_B_membersFor_88 : decode prog_2_method_12_code 88 = .ok (.invokevirtual 72, 3) := by decide +kernel
theorem d_B_membersFor_91 : decode prog_2_method_12_code 91 = .ok (.iload_n 1, 1) := by decide +kernel
theorem d_B_membersFor_92 : decode prog_2_method_12_code 92 = .ok (.iand, 1) := by decide +kernel
theorem d_B_membersFor_93 : decode prog_2_method_12_code 93 = .ok (.ifCond .ne 12, 3) := by decide +kernel
theorem d_B_membersFor_96 : decode prog_2_method_12_code 96 = .ok (.iload 4, 2) := by decide +kernel
theorem d_B_membersFor_98 : decode prog_2_method_12_code 98 = .ok (.iconst 1, 1) := by decide +kernel
theorem d_B_membersFor_99 : decode prog_2_method_12_code 99 = .ok (.iload 5, 2) := by decide +kernel
theorem d_B_membersFor_101 : decode prog_2_method_12_code 101 = .ok (.ishl, 1) := by decide +kernel
theorem d_B_membersFor_102 : decode prog_2_method_12_code 102 = .ok (.ior, 1) := by decide +kernel
theorem d_B_membersFor_103 : decode prog_2_method_12_code 103 = .ok (.istore 4, 2) := by decide +kernel
theorem d_B_membersFor_105 : decode prog_2_method_12_code 105 = .ok (.iinc 5 1, 3) := by decide +kernel
theorem d_B_membersFor_108 : decode prog_2_method_12_code 108 = .ok (.goto (-102), 3) := by decide +kernel
theorem d_B_membersFor_111 : decode prog_2_method_12_code 111 = .ok (.iload 4, 2) := by decide +kernel
theorem d_B_membersFor_113 : decode prog_2_method_12_code 113 = .ok (.ireturn, 1) := by decide +kernel
theorem d_B_boardFor_0 : decode prog_2_method_11_code 0 = .ok (.aload_n 0, 1) := by decide +kernel
theorem d_B_boardFor_1 : decode prog_2_method_11_code 1 = .ok (.iload_n 1, 1) := by decide +kernel
theorem d_B_boardFor_2 : decode prog_2_method_11_code 2 = .ok (.iload_n 2, 1) := by decide +kernel
theorem d_B_boardFor_3 : decode prog_2_method_11_code 3 = .ok (.iload_n 3, 1) := by decide +kernel
theorem d_B_boardFor_4 : decode prog_2_method_11_code 4 = .ok (.invokevirtual 123, 3) := by decide +kernel
theorem d_B_boardFor_7 : decode prog_2_method_11_code 7 = .ok (.istore 4, 2) := by decide +kernel
theorem d_B_boardFor_9 : decode prog_2_method_11_code 9 = .ok (.ldc 122, 2) := by decide +kernel
theorem d_B_boardFor_11 : decode prog_2_method_11_code 11 = .ok (.istore 5, 2) := by decide +kernel
theorem d_B_boardFor_13 : decode prog_2_method_11_code 13 = .ok (.ldc 127, 2) := by decide +kernel
theorem d_B_boardFor_15 : decode prog_2_method_11_code 15 = .ok (.istore 6, 2) := by decide +kernel
theorem d_B_boardFor_17 : decode prog_2_method_11_code 17 = .ok (.iconst 0, 1) := by decide +kernel
theorem d_B_boardFor_18 : decode prog_2_method_11_code 18 = .ok (.istore 7, 2) := by decide +kernel
theorem d_B_boardFor_20 : decode prog_2_method_11_code 20 = .ok (.iload 7, 2) := by decide +kernel
theorem d_B_boardFor_22 : decode prog_2_method_11_code 22 = .ok (.aload_n 0, 1) := by decide +kernel
theorem d_B_boardFor_23 : decode prog_2_method_11_code 23 = .ok (.getfield 23, 3) := by decide +kernel
theorem d_B_boardFor_26 : decode prog_2_method_11_code 26 = .ok (.getfield 76, 3) := by decide +kernel
theorem d_B_boardFor_29 : decode prog_2_method_11_code 29 = .ok (.if_icmp .ge 147, 3) := by decide +kernel
theorem d_B_boardFor_32 : decode prog_2_method_11_code 32 = .ok (.iload 7, 2) := by decide +kernel
theorem d_B_boardFor_34 : decode prog_2_method_11_code 34 = .ok (.iconst 1, 1) := by decide +kernel
theorem d_B_boardFor_35 : decode prog_2_method_11_code 35 = .ok (.iadd, 1) := by decide +kernel
theorem d_B_boardFor_36 : decode prog_2_method_11_code 36 = .ok (.istore 8, 2) := by decide +kernel
theorem d_B_boardFor_38 : decode prog_2_method_11_code 38 = .ok (.iload 8, 2) := by decide +kernel
theorem d_B_boardFor_40 : decode prog_2_method_11_code 40 = .ok (.aload_n 0, 1) := by decide +kernel
theorem d_B_boardFor_41 : decode prog_2_method_11_code 41 = .ok (.getfield 23, 3) := by decide +kernel
theorem d_B_boardFor_44 : decode prog_2_method_11_code 44 = .ok (.getfield 76, 3) := by decide +kernel
theorem d_B_boardFor_47 : decode prog_2_method_11_code 47 = .ok (.if_icmp .ge 123, 3) := by decide +kernel
theorem d_B_boardFor_50 : decode prog_2_method_11_code 50 = .ok (.iload 8, 2) := by decide +kernel
theorem d_B_boardFor_52 : decode prog_2_method_11_code 52 = .ok (.iconst 1, 1) := by decide +kernel
theorem d_B_boardFor_53 : decode prog_2_method_11_code 53 = .ok (.iadd, 1) := by decide +kernel
theorem d_B_boardFor_54 : decode prog_2_method_11_code 54 = .ok (.istore 9, 2) := by decide +kernel
theorem d_B_boardFor_56 : decode prog_2_method_11_code 56 = .ok (.iload 9, 2) := by decide +kernel
theorem d_B_boardFor_58 : decode prog_2_method_11_code 58 = .ok (.aload_n 0, 1) := by decide +kernel
theorem d_B_boardFor_59 : decode prog_2_method_11_code 59 = .ok (.getfield 23, 3) := by decide +kernel
theorem d_B_boardFor_62 : decode prog_2_method_11_code 62 = .ok (.getfield 76, 3) := by decide +kernel
theorem d_B_boardFor_65 : decode prog_2_method_11_code 65 = .ok (.if_icmp .ge 99, 3) := by decide +kernel
theorem d_B_boardFor_68 : decode prog_2_method_11_code 68 = .ok (.iconst 1, 1) := by decide +kernel
theorem d_B_boardFor_69 : decode prog_2_method_11_code 69 = .ok (.iload 7, 2) := by decide +kernel
theorem d_B_boardFor_71 : decode prog_2_method_11_code 71 = .ok (.ishl, 1) := by decide +kernel
theorem d_B_boardFor_72 : decode prog_2_method_11_code 72 = .ok (.iconst 1, 1) := by decide +kernel
theorem d_B_boardFor_73 : decode prog_2_method_11_code 73 = .ok (.iload 8, 2) := by decide +kernel
theorem d_B_boardFor_75 : decode prog_2_method_11_code 75 = .ok (.ishl, 1) := by decide +kernel
theorem d_B_boardFor_76 : decode prog_2_method_11_code 76 = .ok (.ior, 1) := by decide +kernel
theorem d_B_boardFor_77 : decode prog_2_method_11_code 77 = .ok (.iconst 1, 1) := by decide +kernel
theorem d_B_boardFor_78 : decode prog_2_method_11_code 78 = .ok (.iload 9, 2) := by decide +kernel
theorem d_B_boardFor_80 : decode prog_2_method_11_code 80 = .ok (.ishl, 1) := by decide +kernel
theorem d_B_boardFor_81 : decode prog_2_method_11_code 81 = .ok (.ior, 1) := by decide +kernel
theorem d_B_boardFor_82 : decode prog_2_method_11_code 82 = .ok (.istore 10, 2) := by decide +kernel
theorem d_B_boardFor_84 : decode prog_2_method_11_code 84 = .ok (.aload_n 0, 1) := by decide +kernel
theorem d_B_boardFor_85 : decode prog_2_method_11_code 85 = .ok (.getfield 23, 3) := by decide +kernel
theorem d_B_boardFor_88 : decode prog_2_method_11_code 88 = .ok (.iload 7, 2) := by decide +kernel
theorem d_B_boardFor_90 : decode prog_2_method_11_code 90 = .ok (.iconst 3, 1) := by decide +kernel
theorem d_B_boardFor_91 : decode prog_2_method_11_code 91 = .ok (.invokevirtual 72, 3) := by decide +kernel
theorem d_B_boardFor_94 : decode prog_2_method_11_code 94 = .ok (.aload_n 0, 1) := by decide +kernel
theorem d_B_boardFor_95 : decode prog_2_method_11_code 95 = .ok (.getfield 23, 3) := by decide +kernel
theorem d_B_boardFor_98 : decode prog_2_method_11_code 98 = .ok (.iload 8, 2) := by decide +kernel
theorem d_B_boardFor_100 : decode prog_2_method_11_code 100 = .ok (.iconst 3, 1) := by decide +kernel
theorem d_B_boardFor_101 : decode prog_2_method_11_code 101 = .ok (.invokevirtual 72, 3) := by decide +kernel
theorem d_B_boardFor_104 : decode prog_2_method_11_code 104 = .ok (.iadd, 1) := by decide +kernel
theorem d_B_boardFor_105 : decode prog_2_method_11_code 105 = .ok (.aload_n 0, 1) := by decide +kernel
theorem d_B_boardFor_106 : decode prog_2_method_11_code 106 = .ok (.getfield 23, 3) := by decide +kernel
theorem d_B_boardFor_109 : decode prog_2_method_11_code 109 = .ok (.iload 9, 2) := by decide +kernel
theorem d_B_boardFor_111 : decode prog_2_method_11_code 111 = .ok (.iconst 3, 1) := by decide +kernel
theorem d_B_boardFor_112 : decode prog_2_method_11_code 112 = .ok (.invokevirtual 72, 3) := by decide +kernel
theorem d_B_boardFor_115 : decode prog_2_method_11_code 115 = .ok (.iadd, 1) := by decide +kernel
theorem d_B_boardFor_116 : decode prog_2_method_11_code 116 = .ok (.istore 11, 2) := by decide +kernel
theorem d_B_boardFor_118 : decode prog_2_method_11_code 118 = .ok (.iload 10, 2) := by decide +kernel
theorem d_B_boardFor_120 : decode prog_2_method_11_code 120 = .ok (.iload 4, 2) := by decide +kernel
theorem d_B_boardFor_122 : decode prog_2_method_11_code 122 = .ok (.iconst (-1), 1) := by decide +kernel
theorem d_B_boardFor_123 : decode prog_2_method_11_code 123 = .ok (.ixor, 1) := by decide +kernel
theorem d_B_boardFor_124 : decode prog_2_method_11_code 124 = .ok (.iand, 1) := by decide +kernel
theorem d_B_boardFor_125 : decode prog_2_method_11_code 125 = .ok (.ifCond .ne 33, 3) := by decide +kernel
theorem d_B_boardFor_128 : decode prog_2_method_11_code 128 = .ok (.iload 11, 2) := by decide +kernel
theorem d_B_boardFor_130 : decode prog_2_method_11_code 130 = .ok (.iload 6, 2) := by decide +kernel
theorem d_B_boardFor_132 : decode prog_2_method_11_code 132 = .ok (.if_icmp .lt 6, 3) := by decide +kernel
theorem d_B_boardFor_135 : decode prog_2_method_11_code 135 = .ok (.goto 23, 3) := by decide +kernel
theorem d_B_boardFor_138 : decode prog_2_method_11_code 138 = .ok (.iload 11, 2) := by decide +kernel
theorem d_B_boardFor_140 : decode prog_2_method_11_code 140 = .ok (.istore 6, 2) := by decide +kernel
theorem d_B_boardFor_142 : decode prog_2_method_11_code 142 = .ok (.iload 7, 2) := by decide +kernel
theorem d_B_boardFor_144 : decode prog_2_method_11_code 144 = .ok (.bipush 100, 2) := by decide +kernel
theorem d_B_boardFor_146 : decode prog_2_method_11_code 146 = .ok (.imul, 1) := by decide +kernel
theorem d_B_boardFor_147 : decode prog_2_method_11_code 147 = .ok (.iload 8, 2) := by decide +kernel
theorem d_B_boardFor_149 : decode prog_2_method_11_code 149 = .ok (.bipush 10, 2) := by decide +kernel
theorem d_B_boardFor_151 : decode prog_2_method_11_code 151 = .ok (.imul, 1) := by decide +kernel
theorem d_B_boardFor_152 : decode prog_2_method_11_code 152 = .ok (.iadd, 1) := by decide +kernel
theorem d_B_boardFor_153 : decode prog_2_method_11_code 153 = .ok (.iload 9, 2) := by decide +kernel
theorem d_B_boardFor_155 : decode prog_2_method_11_code 155 = .ok (.iadd, 1) := by decide +kernel
theorem d_B_boardFor_156 : decode prog_2_method_11_code 156 = .ok (.istore 5, 2) := by decide +kernel
theorem d_B_boardFor_158 : decode prog_2_method_11_code 158 = .ok (.iinc 9 1, 3) := by decide +kernel
theorem d_B_boardFor_161 : decode prog_2_method_11_code 161 = .ok (.goto (-105), 3) := by decide +kernel
theorem d_B_boardFor_164 : decode prog_2_method_11_code 164 = .ok (.iinc 8 1, 3) := by decide +kernel
theorem d_B_boardFor_167 : decode prog_2_method_11_code 167 = .ok (.goto (-129), 3) := by decide +kernel
theorem d_B_boardFor_170 : decode prog_2_method_11_code 170 = .ok (.iinc 7 1, 3) := by decide +kernel
theorem d_B_boardFor_173 : decode prog_2_method_11_code 173 = .ok (.goto (-153), 3) := by decide +kernel
theorem d_B_boardFor_176 : decode prog_2_method_11_code 176 = .ok (.iload 5, 2) := by decide +kernel
theorem d_B_boardFor_178 : decode prog_2_method_11_code 178 = .ok (.ireturn, 1) := by decide +kernel
theorem d_B_hasReport_0 : decode prog_2_method_22_code 0 = .ok (.iconst 0, 1) := by decide +kernel
theorem d_B_hasReport_1 : decode prog_2_method_22_code 1 = .ok (.istore_n 2, 1) := by decide +kernel
theorem d_B_hasReport_2 : decode prog_2_method_22_code 2 = .ok (.iload_n 2, 1) := by decide +kernel
theorem d_B_hasReport_3 : decode prog_2_method_22_code 3 = .ok (.aload_n 0, 1) := by decide +kernel
theorem d_B_hasReport_4 : decode prog_2_method_22_code 4 = .ok (.getfield 20, 3) := by decide +kernel
theorem d_B_hasReport_7 : decode prog_2_method_22_code 7 = .ok (.getfield 76, 3) := by decide +kernel
theorem d_B_hasReport_10 : decode prog_2_method_22_code 10 = .ok (.if_icmp .ge 54, 3) := by decide +kernel
theorem d_B_hasReport_13 : decode prog_2_method_22_code 13 = .ok (.aload_n 0, 1) := by decide +kernel
theorem d_B_hasReport_14 : decode prog_2_method_22_code 14 = .ok (.getfield 20, 3) := by decide +kernel
theorem d_B_hasReport_17 : decode prog_2_method_22_code 17 = .ok (.iload_n 2, 1) := by decide +kernel
theorem d_B_hasReport_18 : decode prog_2_method_22_code 18 = .ok (.iconst 0, 1) := by decide +kernel
theorem d_B_hasReport_19 : decode prog_2_method_22_code 19 = .ok (.invokevirtual 72, 3) := by decide +kernel
theorem d_B_hasReport_22 : decode prog_2_method_22_code 22 = .ok (.iconst 1, 1) := by decide +kernel
theorem d_B_hasReport_23 : decode prog_2_method_22_code 23 = .ok (.invokestatic 142, 3) := by decide +kernel
theorem d_B_hasReport_26 : decode prog_2_method_22_code 26 = .ok (.istore_n 3, 1) := by decide +kernel
theorem d_B_hasReport_27 : decode prog_2_method_22_code 27 = .ok (.iload_n 3, 1) := by decide +kernel
theorem d_B_hasReport_28 : decode prog_2_method_22_code 28 = .ok (.ifCond .eq 30, 3) := by decide +kernel
theorem d_B_hasReport_31 : decode prog_2_method_22_code 31 = .ok (.aload_n 0, 1) := by decide +kernel
theorem d_B_hasReport_32 : decode prog_2_method_22_code 32 = .ok (.getfield 20, 3) := by decide +kernel
theorem d_B_hasReport_35 : decode prog_2_method_22_code 35 = .ok (.iload_n 2, 1) := by decide +kernel
theorem d_B_hasReport_36 : decode prog_2_method_22_code 36 = .ok (.iconst 1, 1) := by decide +kernel
theorem d_B_hasReport_37 : decode prog_2_method_22_code 37 = .ok (.invokevirtual 72, 3) := by decide +kernel
theorem d_B_hasReport_40 : decode prog_2_method_22_code 40 = .ok (.iload_n 1, 1) := by decide +kernel
theorem d_B_hasReport_41 : decode prog_2_method_22_code 41 = .ok (.if_icmp .ne 17, 3) := by decide +kernel
theorem d_B_hasReport_44 : decode prog_2_method_22_code 44 = .ok (.aload_n 0, 1) := by decide +kernel
theorem d_B_hasReport_45 : decode prog_2_method_22_code 45 = .ok (.iload_n 2, 1) := by decide +kernel
theorem d_B_hasReport_46 : decode prog_2_method_22_code 46 = .ok (.invokevirtual 145, 3) := by decide +kernel
theorem d_B_hasReport_49 : decode prog_2_method_22_code 49 = .ok (.aload_n 0, 1) := by decide +kernel
theorem d_B_hasReport_50 : decode prog_2_method_22_code 50 = .ok (.getfield 59, 3) := by decide +kernel
theorem d_B_hasReport_53 : decode prog_2_method_22_code 53 = .ok (.if_icmp .lt 5, 3) := by decide +kernel
theorem d_B_hasReport_56 : decode prog_2_method_22_code 56 = .ok (.iconst 1, 1) := by decide +kernel
theorem d_B_hasReport_57 : decode prog_2_method_22_code 57 = .ok (.ireturn, 1) := by decide +kernel
theorem d_B_hasReport_58 : decode prog_2_method_22_code 58 = .ok (.iinc 2 1, 3) := by decide +kernel
theorem d_B_hasReport_61 : decode prog_2_method_22_code 61 = .ok (.goto (-59), 3) := by decide +kernel
theorem d_B_hasReport_64 : decode prog_2_method_22_code 64 = .ok (.iconst 0, 1) := by decide +kernel
theorem d_B_hasReport_65 : decode prog_2_method_22_code 65 = .ok (.ireturn, 1) := by decide +kernel
theorem d_B_hasNotice_0 : decode prog_2_method_23_code 0 = .ok (.aload_n 0, 1) := by decide +kernel
theorem d_B_hasNotice_1 : decode prog_2_method_23_code 1 = .ok (.getfield 45, 3) := by decide +kernel
theorem d_B_hasNotice_4 : decode prog_2_method_23_code 4 = .ok (.aload_n 0, 1) := by decide +kernel
theorem d_B_hasNotice_5 : decode prog_2_method_23_code 5 = .ok (.getfield 14, 3) := by decide +kernel
theorem d_B_hasNotice_8 : decode prog_2_method_23_code 8 = .ok (.iload_n 1, 1) := by decide +kernel
theorem d_B_hasNotice_9 : decode prog_2_method_23_code 9 = .ok (.iconst 0, 1) := by decide +kernel
theorem d_B_hasNotice_10 : decode prog_2_method_23_code 10 = .ok (.invokevirtual 72, 3) := by decide +kernel
theorem d_B_hasNotice_13 : decode prog_2_method_23_code 13 = .ok (.iconst 1, 1) := by decide +kernel
theorem d_B_hasNotice_14 : decode prog_2_method_23_code 14 = .ok (.aload_n 0, 1) := by decide +kernel
theorem d_B_hasNotice_15 : decode prog_2_method_23_code 15 = .ok (.getfield 59, 3) := by decide +kernel
theorem d_B_hasNotice_18 : decode prog_2_method_23_code 18 = .ok (.aload_n 0, 1) := by decide +kernel
theorem d_B_hasNotice_19 : decode prog_2_method_23_code 19 = .ok (.getfield 14, 3) := by decide +kernel
theorem d_B_hasNotice_22 : decode prog_2_method_23_code 22 = .ok (.iload_n 1, 1) := by decide +kernel
theorem d_B_hasNotice_23 : decode prog_2_method_23_code 23 = .ok (.iconst 4, 1) := by decide +kernel
theorem d_B_hasNotice_24 : decode prog_2_method_23_code 24 = .ok (.invokevirtual 72, 3) := by decide +kernel
theorem d_B_hasNotice_27 : decode prog_2_method_23_code 27 = .ok (.iconst 0, 1) := by decide +kernel
theorem d_B_hasNotice_28 : decode prog_2_method_23_code 28 = .ok (.iconst 0, 1) := by decide +kernel
theorem d_B_hasNotice_29 : decode prog_2_method_23_code 29 = .ok (.iconst 0, 1) := by decide +kernel
theorem d_B_hasNotice_30 : decode prog_2_method_23_code 30 = .ok (.invokevirtual 114, 3) := by decide +kernel
theorem d_B_hasNotice_33 : decode prog_2_method_23_code 33 = .ok (.istore_n 2, 1) := by decide +kernel
theorem d_B_hasNotice_34 : decode prog_2_method_23_code 34 = .ok (.iconst 0, 1) := by decide +kernel
theorem d_B_hasNotice_35 : decode prog_2_method_23_code 35 = .ok (.istore_n 3, 1) := by decide +kernel
theorem d_B_hasNotice_36 : decode prog_2_method_23_code 36 = .ok (.iload_n 3, 1) := by decide +kernel
theorem d_B_hasNotice_37 : decode prog_2_method_23_code 37 = .ok (.aload_n 0, 1) := by decide +kernel
theorem d_B_hasNotice_38 : decode prog_2_method_23_code 38 = .ok (.getfield 20, 3) := by decide +kernel
theorem d_B_hasNotice_41 : decode prog_2_method_23_code 41 = .ok (.getfield 76, 3) := by decide +kernel
theorem d_B_hasNotice_44 : decode prog_2_method_23_code 44 = .ok (.if_icmp .ge 86, 3) := by decide +kernel
theorem d_B_hasNotice_47 : decode prog_2_method_23_code 47 = .ok (.aload_n 0, 1) := by decide +kernel
theorem d_B_hasNotice_48 : decode prog_2_method_23_code 48 = .ok (.getfield 20, 3) := by decide +kernel
theorem d_B_hasNotice_51 : decode prog_2_method_23_code 51 = .ok (.iload_n 3, 1) := by decide +kernel
theorem d_B_hasNotice_52 : decode prog_2_method_23_code 52 = .ok (.iconst 0, 1) := by decide +kernel
theorem d_B_hasNotice_53 : decode prog_2_method_23_code 53 = .ok (.invokevirtual 72, 3) := by decide +kernel
theorem d_B_hasNotice_56 : decode prog_2_method_23_code 56 = .ok (.iconst 3, 1) := by decide +kernel
theorem d_B_hasNotice_57 : decode prog_2_method_23_code 57 = .ok (.invokestatic 142, 3) := by decide +kernel
theorem d_B_hasNotice_60 : decode prog_2_method_23_code 60 = .ok (.ifCond .eq 23, 3) := by decide +kernel
theorem d_B_hasNotice_63 : decode prog_2_method_23_code 63 = .ok (.aload_n 0, 1) := by decide +kernel
theorem d_B_hasNotice_64 : decode prog_2_method_23_code 64 = .ok (.getfield 20, 3) := by decide +kernel
theorem d_B_hasNotice_67 : decode prog_2_method_23_code 67 = .ok (.iload_n 3, 1) := by decide +kernel
theorem d_B_hasNotice_68 : decode prog_2_method_23_code 68 = .ok (.iconst 2, 1) := by decide +kernel
theorem d_B_hasNotice_69 : decode prog_2_method_23_code 69 = .ok (.invokevirtual 72, 3) := by decide +kernel
theorem d_B_hasNotice_72 : decode prog_2_method_23_code 72 = .ok (.aload_n 0, 1) := by decide +kernel
theorem d_B_hasNotice_73 : decode prog_2_method_23_code 73 = .ok (.getfield 59, 3) := by decide +kernel
theorem d_B_hasNotice_76 : decode prog_2_method_23_code 76 = .ok (.if_icmp .ne 7, 3) := by decide +kernel
theorem d_B_hasNotice_79 : decode prog_2_method_23_code 79 = .ok (.iconst 1, 1) := by decide +kernel
theorem d_B_hasNotice_80 : decode prog_2_method_23_code 80 = .ok (.goto 4, 3) := by decide +kernel
theorem d_B_hasNotice_83 : decode prog_2_method_23_code 83 = .ok (.iconst 0, 1) := by decide +kernel
theorem d_B_hasNotice_84 : decode prog_2_method_23_code 84 = .ok (.istore 4, 2) := by decide +kernel
theorem d_B_hasNotice_86 : decode prog_2_method_23_code 86 = .ok (.iload 4, 2) := by decide +kernel
theorem d_B_hasNotice_88 : decode prog_2_method_23_code 88 = .ok (.ifCond .eq 36, 3) := by decide +kernel
theorem d_B_hasNotice_91 : decode prog_2_method_23_code 91 = .ok (.aload_n 0, 1) := by decide +kernel
theorem d_B_hasNotice_92 : decode prog_2_method_23_code 92 = .ok (.getfield 20, 3) := by decide +kernel
theorem d_B_hasNotice_95 : decode prog_2_method_23_code 95 = .ok (.iload_n 3, 1) := by decide +kernel
theorem d_B_hasNotice_96 : decode prog_2_method_23_code 96 = .ok (.iconst 1, 1) := by decide +kernel
theorem d_B_hasNotice_97 : decode prog_2_method_23_code 97 = .ok (.invokevirtual 72, 3) := by decide +kernel
theorem d_B_hasNotice_100 : decode prog_2_method_23_code 100 = .ok (.iload_n 1, 1) := by decide +kernel
theorem d_B_hasNotice_101 : decode prog_2_method_23_code 101 = .ok (.if_icmp .ne 23, 3) := by decide +kernel
theorem d_B_hasNotice_104 : decode prog_2_method_23_code 104 = .ok (.aload_n 0, 1) := by decide +kernel
theorem d_B_hasNotice_105 : decode prog_2_method_23_code 105 = .ok (.getfield 59, 3) := by decide +kernel
theorem d_B_hasNotice_108 : decode prog_2_method_23_code 108 = .ok (.aload_n 0, 1) := by decide +kernel
theorem d_B_hasNotice_109 : decode prog_2_method_23_code 109 = .ok (.getfield 20, 3) := by decide +kernel
theorem d_B_hasNotice_112 : decode prog_2_method_23_code 112 = .ok (.iload_n 3, 1) := by decide +kernel
theorem d_B_hasNotice_113 : decode prog_2_method_23_code 113 = .ok (.iconst 3, 1) := by decide +kernel
theorem d_B_hasNotice_114 : decode prog_2_method_23_code 114 = .ok (.invokevirtual 72, 3) := by decide +kernel
theorem d_B_hasNotice_117 : decode prog_2_method_23_code 117 = .ok (.isub, 1) := by decide +kernel
theorem d_B_hasNotice_118 : decode prog_2_method_23_code 118 = .ok (.iload_n 2, 1) := by decide +kernel
theorem d_B_hasNotice_119 : decode prog_2_method_23_code 119 = .ok (.if_icmp .lt 5, 3) := by decide +kernel
theorem d_B_hasNotice_122 : decode prog_2_method_23_code 122 = .ok (.iconst 1, 1) := by decide +kernel
theorem d_B_hasNotice_123 : decode prog_2_method_23_code 123 = .ok (.ireturn, 1) := by decide +kernel
theorem d_B_hasNotice_124 : decode prog_2_method_23_code 124 = .ok (.iinc 3 1, 3) := by decide +kernel
theorem d_B_hasNotice_127 : decode prog_2_method_23_code 127 = .ok (.goto (-91), 3) := by decide +kernel
theorem d_B_hasNotice_130 : decode prog_2_method_23_code 130 = .ok (.iconst 0, 1) := by decide +kernel
theorem d_B_hasNotice_131 : decode prog_2_method_23_code 131 = .ok (.ireturn, 1) := by decide +kernel
theorem d_B_causeToday_0 : decode prog_2_method_21_code 0 = .ok (.aload_n 0, 1) := by decide +kernel
theorem d_B_causeToday_1 : decode prog_2_method_21_code 1 = .ok (.iload_n 1, 1) := by decide +kernel
theorem d_B_causeToday_2 : decode prog_2_method_21_code 2 = .ok (.aload_n 0, 1) := by decide +kernel
theorem d_B_causeToday_3 : decode prog_2_method_21_code 3 = .ok (.getfield 59, 3) := by decide +kernel
theorem d_B_causeToday_6 : decode prog_2_method_21_code 6 = .ok (.invokevirtual 118, 3) := by decide +kernel
theorem d_B_causeToday_9 : decode prog_2_method_21_code 9 = .ok (.ifCond .ne 5, 3) := by decide +kernel
theorem d_B_causeToday_12 : decode prog_2_method_21_code 12 = .ok (.iconst 1, 1) := by decide +kernel
theorem d_B_causeToday_13 : decode prog_2_method_21_code 13 = .ok (.ireturn, 1) := by decide +kernel
theorem d_B_causeToday_14 : decode prog_2_method_21_code 14 = .ok (.aload_n 0, 1) := by decide +kernel
theorem d_B_causeToday_15 : decode prog_2_method_21_code 15 = .ok (.iload_n 1, 1) := by decide +kernel
theorem d_B_causeToday_16 : decode prog_2_method_21_code 16 = .ok (.invokevirtual 136, 3) := by decide +kernel
theorem d_B_causeToday_19 : decode prog_2_method_21_code 19 = .ok (.ifCond .ne 5, 3) := by decide +kernel
theorem d_B_causeToday_22 : decode prog_2_method_21_code 22 = .ok (.iconst 2, 1) := by decide +kernel
theorem d_B_causeToday_23 : decode prog_2_method_21_code 23 = .ok (.ireturn, 1) := by decide +kernel
theorem d_B_causeToday_24 : decode prog_2_method_21_code 24 = .ok (.aload_n 0, 1) := by decide +kernel
theorem d_B_causeToday_25 : decode prog_2_method_21_code 25 = .ok (.iload_n 1, 1) := by decide +kernel
theorem d_B_causeToday_26 : decode prog_2_method_21_code 26 = .ok (.invokevirtual 139, 3) := by decide +kernel
theorem d_B_causeToday_29 : decode prog_2_method_21_code 29 = .ok (.ifCond .eq 7, 3) := by decide +kernel
theorem d_B_causeToday_32 : decode prog_2_method_21_code 32 = .ok (.iconst 0, 1) := by decide +kernel
theorem d_B_causeToday_33 : decode prog_2_method_21_code 33 = .ok (.goto 4, 3) := by decide +kernel
theorem d_B_causeToday_36 : decode prog_2_method_21_code 36 = .ok (.iconst 3, 1) := by decide +kernel
theorem d_B_causeToday_37 : decode prog_2_method_21_code 37 = .ok (.ireturn, 1) := by decide +kernel
theorem d_B_timesPutOffBy_0 : decode prog_2_method_19_code 0 = .ok (.aload_n 0, 1) := by decide +kernel
theorem d_B_timesPutOffBy_1 : decode prog_2_method_19_code 1 = .ok (.getfield 32, 3) := by decide +kernel
theorem d_B_timesPutOffBy_4 : decode prog_2_method_19_code 4 = .ok (.iload_n 1, 1) := by decide +kernel
theorem d_B_timesPutOffBy_5 : decode prog_2_method_19_code 5 = .ok (.iconst 0, 1) := by decide +kernel
theorem d_B_timesPutOffBy_6 : decode prog_2_method_19_code 6 = .ok (.invokevirtual 72, 3) := by decide +kernel
theorem d_B_timesPutOffBy_9 : decode prog_2_method_19_code 9 = .ok (.ireturn, 1) := by decide +kernel
theorem d_B_canUnwind_0 : decode prog_2_method_33_code 0 = .ok (.aload_n 0, 1) := by decide +kernel
theorem d_B_canUnwind_1 : decode prog_2_method_33_code 1 = .ok (.getfield 26, 3) := by decide +kernel
theorem d_B_canUnwind_4 : decode prog_2_method_33_code 4 = .ok (.iload_n 1, 1) := by decide +kernel
theorem d_B_canUnwind_5 : decode prog_2_method_33_code 5 = .ok (.iconst 0, 1) := by decide +kernel
theorem d_B_canUnwind_6 : decode prog_2_method_33_code 6 = .ok (.invokevirtual 72, 3) := by decide +kernel
theorem d_B_canUnwind_9 : decode prog_2_method_33_code 9 = .ok (.istore_n 2, 1) := by decide +kernel
theorem d_B_canUnwind_10 : decode prog_2_method_33_code 10 = .ok (.aload_n 0, 1) := by decide +kernel
theorem d_B_canUnwind_11 : decode prog_2_method_33_code 11 = .ok (.getfield 26, 3) := by decide +kernel
theorem d_B_canUnwind_14 : decode prog_2_method_33_code 14 = .ok (.iload_n 1, 1) := by decide +kernel
theorem d_B_canUnwind_15 : decode prog_2_method_33_code 15 = .ok (.iconst 2, 1) := by decide +kernel
theorem d_B_canUnwind_16 : decode prog_2_method_33_code 16 = .ok (.invokevirtual 72, 3) := by decide +kernel
theorem d_B_canUnwind_19 : decode prog_2_method_33_code 19 = .ok (.iconst 2, 1) := by decide +kernel
theorem d_B_canUnwind_20 : decode prog_2_method_33_code 20 = .ok (.if_icmp .ne 12, 3) := by decide +kernel
theorem d_B_canUnwind_23 : decode prog_2_method_33_code 23 = .ok (.aload_n 0, 1) := by decide +kernel
theorem d_B_canUnwind_24 : decode prog_2_method_33_code 24 = .ok (.iload_n 2, 1) := by decide +kernel
theorem d_B_canUnwind_25 : decode prog_2_method_33_code 25 = .ok (.invokevirtual 79, 3) := by decide +kernel
theorem d_B_canUnwind_28 : decode prog_2_method_33_code 28 = .ok (.iconst 1, 1) := by decide +kernel
theorem d_B_canUnwind_29 : decode prog_2_method_33_code 29 = .ok (.if_icmp .eq 5, 3) := by decide +kernel
theorem d_B_canUnwind_32 : decode prog_2_method_33_code 32 = .ok (.iconst 0, 1) := by decide +kernel
theorem d_B_canUnwind_33 : decode prog_2_method_33_code 33 = .ok (.ireturn, 1) := by decide +kernel
theorem d_B_canUnwind_34 : decode prog_2_method_33_code 34 = .ok (.iload_n 1, 1) := by decide +kernel
theorem d_B_canUnwind_35 : decode prog_2_method_33_code 35 = .ok (.iconst 1, 1) := by decide +kernel
theorem d_B_canUnwind_36 : decode prog_2_method_33_code 36 = .ok (.iadd, 1) := by decide +kernel
theorem d_B_canUnwind_37 : decode prog_2_method_33_code 37 = .ok (.istore_n 3, 1) := by decide +kernel
theorem d_B_canUnwind_38 : decode prog_2_method_33_code 38 = .ok (.iload_n 3, 1) := by decide +kernel
theorem d_B_canUnwind_39 : decode prog_2_method_33_code 39 = .ok (.aload_n 0, 1) := by decide +kernel
theorem d_B_canUnwind_40 : decode prog_2_method_33_code 40 = .ok (.getfield 26, 3) := by decide +kernel
theorem d_B_canUnwind_43 : decode prog_2_method_33_code 43 = .ok (.getfield 76, 3) := by decide +kernel
theorem d_B_canUnwind_46 : decode prog_2_method_33_code 46 = .ok (.if_icmp .ge 37, 3) := by decide +kernel
theorem d_B_canUnwind_49 : decode prog_2_method_33_code 49 = .ok (.aload_n 0, 1) := by decide +kernel
theorem d_B_canUnwind_50 : decode prog_2_method_33_code 50 = .ok (.getfield 26, 3) := by decide +kernel
theorem d_B_canUnwind_53 : decode prog_2_method_33_code 53 = .ok (.iload_n 3, 1) := by decide +kernel
theorem d_B_canUnwind_54 : decode prog_2_method_33_code 54 = .ok (.iconst 0, 1) := by decide +kernel
theorem d_B_canUnwind_55 : decode prog_2_method_33_code 55 = .ok (.invokevirtual 72, 3) := by decide +kernel
theorem d_B_canUnwind_58 : decode prog_2_method_33_code 58 = .ok (.iload_n 2, 1) := by decide +kernel
theorem d_B_canUnwind_59 : decode prog_2_method_33_code 59 = .ok (.if_icmp .ne 18, 3) := by decide +kernel
theorem d_B_canUnwind_62 : decode prog_2_method_33_code 62 = .ok (.aload_n 0, 1) := by decide +kernel
theorem d_B_canUnwind_63 : decode prog_2_method_33_code 63 = .ok (.getfield 26, 3) := by decide +kernel
theorem d_B_canUnwind_66 : decode prog_2_method_33_code 66 = .ok (.iload_n 3, 1) := by decide +kernel
theorem d_B_canUnwind_67 : decode prog_2_method_33_code 67 = .ok (.iconst 2, 1) := by decide +kernel
theorem d_B_canUnwind_68 : decode prog_2_method_33_code 68 = .ok (.invokevirtual 72, 3) := by decide +kernel
theorem d_B_canUnwind_71 : decode prog_2_method_33_code 71 = .ok (.iconst 2, 1) := by decide +kernel
theorem d_B_canUnwind_72 : decode prog_2_method_33_code 72 = .ok (.if_icmp .ne 5, 3) := by decide +kernel
theorem d_B_canUnwind_75 : decode prog_2_method_33_code 75 = .ok (.iconst 0, 1) := by decide +kernel
theorem d_B_canUnwind_76 : decode prog_2_method_33_code 76 = .ok (.ireturn, 1) := by decide +kernel
theorem d_B_canUnwind_77 : decode prog_2_method_33_code 77 = .ok (.iinc 3 1, 3) := by decide +kernel
theorem d_B_canUnwind_80 : decode prog_2_method_33_code 80 = .ok (.goto (-42), 3) := by decide +kernel
theorem d_B_canUnwind_83 : decode prog_2_method_33_code 83 = .ok (.iconst 1, 1) := by decide +kernel
theorem d_B_canUnwind_84 : decode prog_2_method_33_code 84 = .ok (.ireturn, 1) := by decide +kernel
theorem d_B_unwindRule_0 : decode prog_2_method_34_code 0 = .ok (.aload_n 0, 1) := by decide +kernel
theorem d_B_unwindRule_1 : decode prog_2_method_34_code 1 = .ok (.getfield 14, 3) := by decide +kernel
theorem d_B_unwindRule_4 : decode prog_2_method_34_code 4 = .ok (.aload_n 0, 1) := by decide +kernel
theorem d_B_unwindRule_5 : decode prog_2_method_34_code 5 = .ok (.getfield 26, 3) := by decide +kernel
theorem d_B_unwindRule_8 : decode prog_2_method_34_code 8 = .ok (.iload_n 1, 1) := by decide +kernel
theorem d_B_unwindRule_9 : decode prog_2_method_34_code 9 = .ok (.iconst 0, 1) := by decide +kernel
theorem d_B_unwindRule_10 : decode prog_2_method_34_code 10 = .ok (.invokevirtual 72, 3) := by decide +kernel
theorem d_B_unwindRule_13 : decode prog_2_method_34_code 13 = .ok (.iconst 0, 1) := by decide +kernel
theorem d_B_unwindRule_14 : decode prog_2_method_34_code 14 = .ok (.invokevirtual 72, 3) := by decide +kernel
theorem d_B_unwindRule_17 : decode prog_2_method_34_code 17 = .ok (.istore_n 2, 1) := by decide +kernel
theorem d_B_unwindRule_18 : decode prog_2_method_34_code 18 = .ok (.aload_n 0, 1) := by decide +kernel
theorem d_B_unwindRule_19 : decode prog_2_method_34_code 19 = .ok (.getfield 45, 3) := by decide +kernel
theorem d_B_unwindRule_22 : decode prog_2_method_34_code 22 = .ok (.iload_n 2, 1) := by decide +kernel
theorem d_B_unwindRule_23 : decode prog_2_method_34_code 23 = .ok (.iconst 4, 1) := by decide +kernel
theorem d_B_unwindRule_24 : decode prog_2_method_34_code 24 = .ok (.aload_n 0, 1) := by decide +kernel
theorem d_B_unwindRule_25 : decode prog_2_method_34_code 25 = .ok (.getfield 59, 3) := by decide +kernel
theorem d_B_unwindRule_28 : decode prog_2_method_34_code 28 = .ok (.aload_n 0, 1) := by decide +kernel
theorem d_B_unwindRule_29 : decode prog_2_method_34_code 29 = .ok (.getfield 59, 3) := by decide +kernel
theorem d_B_unwindRule_32 : decode prog_2_method_34_code 32 = .ok (.aload_n 0, 1) := by decide +kernel
theorem d_B_unwindRule_33 : decode prog_2_method_34_code 33 = .ok (.getfield 26, 3) := by decide +kernel
theorem d_B_unwindRule_36 : decode prog_2_method_34_code 36 = .ok (.iload_n 1, 1) := by decide +kernel
theorem d_B_unwindRule_37 : decode prog_2_method_34_code 37 = .ok (.iconst 1, 1) := by decide +kernel
theorem d_B_unwindRule_38 : decode prog_2_method_34_code 38 = .ok (.invokevirtual 72, 3) := by decide +kernel
theorem d_B_unwindRule_41 : decode prog_2_method_34_code 41 = .ok (.isub, 1) := by decide +kernel
theorem d_B_unwindRule_42 : decode prog_2_method_34_code 42 = .ok (.iconst 0, 1) := by decide +kernel
theorem d_B_unwindRule_43 : decode prog_2_method_34_code 43 = .ok (.iconst 0, 1) := by decide +kernel
theorem d_B_unwindRule_44 : decode prog_2_method_34_code 44 = .ok (.iconst 0, 1) := by decide +kernel
theorem d_B_unwindRule_45 : decode prog_2_method_34_code 45 = .ok (.invokevirtual 114, 3) := by decide +kernel
theorem d_B_unwindRule_48 : decode prog_2_method_34_code 48 = .ok (.ireturn, 1) := by decide +kernel
theorem d_I_reopenSpan_0 : decode prog_10_method_9_code 0 = .ok (.aload_n 0, 1) := by decide +kernel
theorem d_I_reopenSpan_1 : decode prog_10_method_9_code 1 = .ok (.iload_n 1, 1) := by decide +kernel
theorem d_I_reopenSpan_2 : decode prog_10_method_9_code 2 = .ok (.invokevirtual 61, 3) := by decide +kernel
theorem d_I_reopenSpan_5 : decode prog_10_method_9_code 5 = .ok (.istore_n 2, 1) := by decide +kernel
theorem d_I_reopenSpan_6 : decode prog_10_method_9_code 6 = .ok (.aload_n 0, 1) := by decide +kernel
theorem d_I_reopenSpan_7 : decode prog_10_method_9_code 7 = .ok (.getfield 20, 3) := by decide +kernel
theorem d_I_reopenSpan_10 : decode prog_10_method_9_code 10 = .ok (.iload_n 2, 1) := by decide +kernel
theorem d_I_reopenSpan_11 : decode prog_10_method_9_code 11 = .ok (.invokevirtual 73, 3) := by decide +kernel
theorem d_I_reopenSpan_14 : decode prog_10_method_9_code 14 = .ok (.ifCond .eq 14, 3) := by decide +kernel
theorem d_I_reopenSpan_17 : decode prog_10_method_9_code 17 = .ok (.aload_n 0, 1) := by decide +kernel
theorem d_I_reopenSpan_18 : decode prog_10_method_9_code 18 = .ok (.getfield 20, 3) := by decide +kernel
theorem d_I_reopenSpan_21 : decode prog_10_method_9_code 21 = .ok (.iload_n 2, 1) := by decide +kernel
theorem d_I_reopenSpan_22 : decode prog_10_method_9_code 22 = .ok (.iconst 2, 1) := by decide +kernel
theorem d_I_reopenSpan_23 : decode prog_10_method_9_code 23 = .ok (.ldc 56, 2) := by decide +kernel
theorem d_I_reopenSpan_25 : decode prog_10_method_9_code 25 = .ok (.invokevirtual 69, 3) := by decide +kernel
theorem d_I_reopenSpan_28 : decode prog_10_method_9_code 28 = .ok (.return_, 1) := by decide +kernel
theorem d_B_undo_0 : decode prog_2_method_35_code 0 = .ok (.aload_n 0, 1) := by decide +kernel
theorem d_B_undo_1 : decode prog_2_method_35_code 1 = .ok (.getfield 26, 3) := by decide +kernel
theorem d_B_undo_4 : decode prog_2_method_35_code 4 = .ok (.iload_n 1, 1) := by decide +kernel
theorem d_B_undo_5 : decode prog_2_method_35_code 5 = .ok (.iconst 0, 1) := by decide +kernel
theorem d_B_undo_6 : decode prog_2_method_35_code 6 = .ok (.invokevirtual 72, 3) := by decide +kernel
theorem d_B_undo_9 : decode prog_2_method_35_code 9 = .ok (.istore_n 3, 1) := by decide +kernel
theorem d_B_undo_10 : decode prog_2_method_35_code 10 = .ok (.aload_n 0, 1) := by decide +kernel
theorem d_B_undo_11 : decode prog_2_method_35_code 11 = .ok (.getfield 26, 3) := by decide +kernel
theorem d_B_undo_14 : decode prog_2_method_35_code 14 = .ok (.iload_n 1, 1) := by decide +kernel
theorem d_B_undo_15 : decode prog_2_method_35_code 15 = .ok (.iconst 2, 1) := by decide +kernel
theorem d_B_undo_16 : decode prog_2_method_35_code 16 = .ok (.iconst 3, 1) := by decide +kernel
theorem d_B_undo_17 : decode prog_2_method_35_code 17 = .ok (.invokevirtual 90, 3) := by decide +kernel
theorem d_B_undo_20 : decode prog_2_method_35_code 20 = .ok (.aload_n 0, 1) := by decide +kernel
theorem d_B_undo_21 : decode prog_2_method_35_code 21 = .ok (.getfield 14, 3) := by decide +kernel
theorem d_B_undo_24 : decode prog_2_method_35_code 24 = .ok (.iload_n 3, 1) := by decide +kernel
theorem d_B_undo_25 : decode prog_2_method_35_code 25 = .ok (.iconst 3, 1) := by decide +kernel
theorem d_B_undo_26 : decode prog_2_method_35_code 26 = .ok (.iconst 0, 1) := by decide +kernel
theorem d_B_undo_27 : decode prog_2_method_35_code 27 = .ok (.invokevirtual 90, 3) := by decide +kernel
theorem d_B_undo_30 : decode prog_2_method_35_code 30 = .ok (.iload_n 2, 1) := by decide +kernel
theorem d_B_undo_31 : decode prog_2_method_35_code 31 = .ok (.ifCond .eq 14, 3) := by decide +kernel
theorem d_B_undo_34 : decode prog_2_method_35_code 34 = .ok (.aload_n 0, 1) := by decide +kernel
theorem d_B_undo_35 : decode prog_2_method_35_code 35 = .ok (.getfield 38, 3) := by decide +kernel
theorem d_B_undo_38 : decode prog_2_method_35_code 38 = .ok (.iload_n 3, 1) := by decide +kernel
theorem d_B_undo_39 : decode prog_2_method_35_code 39 = .ok (.invokevirtual 188, 3) := by decide +kernel
theorem d_B_undo_42 : decode prog_2_method_35_code 42 = .ok (.goto 15, 3) := by decide +kernel
theorem d_B_undo_45 : decode prog_2_method_35_code 45 = .ok (.aload_n 0, 1) := by decide +kernel
theorem d_B_undo_46 : decode prog_2_method_35_code 46 = .ok (.getfield 38, 3) := by decide +kernel
theorem d_B_undo_49 : decode prog_2_method_35_code 49 = .ok (.iload_n 3, 1) := by decide +kernel
theorem d_B_undo_50 : decode prog_2_method_35_code 50 = .ok (.aload_n 0, 1) := by decide +kernel
theorem d_B_undo_51 : decode prog_2_method_35_code 51 = .ok (.getfield 59, 3) := by decide +kernel
theorem d_B_undo_54 : decode prog_2_method_35_code 54 = .ok (.invokevirtual 191, 3) := by decide +kernel
theorem d_B_undo_57 : decode prog_2_method_35_code 57 = .ok (.return_, 1) := by decide +kernel
theorem d_B_hearingsToday_0 : decode prog_2_method_25_code 0 = .ok (.iconst 0, 1) := by decide +kernel
theorem d_B_hearingsToday_1 : decode prog_2_method_25_code 1 = .ok (.istore_n 1, 1) := by decide +kernel
theorem d_B_hearingsToday_2 : decode prog_2_method_25_code 2 = .ok (.iconst 0, 1) := by decide +kernel
theorem d_B_hearingsToday_3 : decode prog_2_method_25_code 3 = .ok (.istore_n 2, 1) := by decide +kernel
theorem d_B_hearingsToday_4 : decode prog_2_method_25_code 4 = .ok (.iload_n 2, 1) := by decide +kernel
theorem d_B_hearingsToday_5 : decode prog_2_method_25_code 5 = .ok (.aload_n 0, 1) := by decide +kernel
theorem d_B_hearingsToday_6 : decode prog_2_method_25_code 6 = .ok (.getfield 26, 3) := by decide +kernel
theorem d_B_hearingsToday_9 : decode prog_2_method_25_code 9 = .ok (.getfield 76, 3) := by decide +kernel
theorem d_B_hearingsToday_12 : decode prog_2_method_25_code 12 = .ok (.if_icmp .ge 43, 3) := by decide +kernel
theorem d_B_hearingsToday_15 : decode prog_2_method_25_code 15 = .ok (.aload_n 0, 1) := by decide +kernel
theorem d_B_hearingsToday_16 : decode prog_2_method_25_code 16 = .ok (.getfield 26, 3) := by decide +kernel
theorem d_B_hearingsToday_19 : decode prog_2_method_25_code 19 = .ok (.iload_n 2, 1) := by decide +kernel
theorem d_B_hearingsToday_20 : decode prog_2_method_25_code 20 = .ok (.iconst 1, 1) := by decide +kernel
theorem d_B_hearingsToday_21 : decode prog_2_method_25_code 21 = .ok (.invokevirtual 72, 3) := by decide +kernel
theorem d_B_hearingsToday_24 : decode prog_2_method_25_code 24 = .ok (.aload_n 0, 1) := by decide +kernel
theorem d_B_hearingsToday_25 : decode prog_2_method_25_code 25 = .ok (.getfield 59, 3) := by decide +kernel
theorem d_B_hearingsToday_28 : decode prog_2_method_25_code 28 = .ok (.if_icmp .ne 21, 3) := by decide +kernel
theorem d_B_hearingsToday_31 : decode prog_2_method_25_code 31 = .ok (.aload_n 0, 1) := by decide +kernel
theorem d_B_hearingsToday_32 : decode prog_2_method_25_code 32 = .ok (.getfield 26, 3) := by decide +kernel
theorem d_B_hearingsToday_35 : decode prog_2_method_25_code 35 = .ok (.iload_n 2, 1) := by decide +kernel
theorem d_B_hearingsToday_36 : decode prog_2_method_25_code 36 = .ok (.iconst 2, 1) := by decide +kernel
theorem d_B_hearingsToday_37 : decode prog_2_method_25_code 37 = .ok (.invokevirtual 72, 3) := by decide +kernel
theorem d_B_hearingsToday_40 : decode prog_2_method_25_code 40 = .ok (.ifCond .ne 9, 3) := by decide +kernel
theorem d_B_hearingsToday_43 : decode prog_2_method_25_code 43 = .ok (.iload_n 1, 1) := by decide +kernel
theorem d_B_hearingsToday_44 : decode prog_2_method_25_code 44 = .ok (.iconst 1, 1) := by decide +kernel
theorem d_B_hearingsToday_45 : decode prog_2_method_25_code 45 = .ok (.iload_n 2, 1) := by decide +kernel
theorem d_B_hearingsToday_46 : decode prog_2_method_25_code 46 = .ok (.ishl, 1) := by decide +kernel
theorem d_B_hearingsToday_47 : decode prog_2_method_25_code 47 = .ok (.ior, 1) := by decide +kernel
theorem d_B_hearingsToday_48 : decode prog_2_method_25_code 48 = .ok (.istore_n 1, 1) := by decide +kernel
theorem d_B_hearingsToday_49 : decode prog_2_method_25_code 49 = .ok (.iinc 2 1, 3) := by decide +kernel
theorem d_B_hearingsToday_52 : decode prog_2_method_25_code 52 = .ok (.goto (-48), 3) := by decide +kernel
theorem d_B_hearingsToday_55 : decode prog_2_method_25_code 55 = .ok (.iload_n 1, 1) := by decide +kernel
theorem d_B_hearingsToday_56 : decode prog_2_method_25_code 56 = .ok (.ireturn, 1) := by decide +kernel
theorem d_B_putOff_0 : decode prog_2_method_29_code 0 = .ok (.aload_n 0, 1) := by decide +kernel
theorem d_B_putOff_1 : decode prog_2_method_29_code 1 = .ok (.getfield 14, 3) := by decide +kernel
theorem d_B_putOff_4 : decode prog_2_method_29_code 4 = .ok (.aload_n 0, 1) := by decide +kernel
theorem d_B_putOff_5 : decode prog_2_method_29_code 5 = .ok (.getfield 26, 3) := by decide +kernel
theorem d_B_putOff_8 : decode prog_2_method_29_code 8 = .ok (.iload_n 1, 1) := by decide +kernel
theorem d_B_putOff_9 : decode prog_2_method_29_code 9 = .ok (.iconst 0, 1) := by decide +kernel
theorem d_B_putOff_10 : decode prog_2_method_29_code 10 = .ok (.invokevirtual 72, 3) := by decide +kernel
theorem d_B_putOff_13 : decode prog_2_method_29_code 13 = .ok (.iconst 0, 1) := by decide +kernel
theorem d_B_putOff_14 : decode prog_2_method_29_code 14 = .ok (.invokevirtual 72, 3) := by decide +kernel
theorem d_B_putOff_17 : decode prog_2_method_29_code 17 = .ok (.istore_n 3, 1) := by decide +kernel
theorem d_B_putOff_18 : decode prog_2_method_29_code 18 = .ok (.aload_n 0, 1) := by decide +kernel
theorem d_B_putOff_19 : decode prog_2_method_29_code 19 = .ok (.getfield 26, 3) := by decide +kernel
theorem d_B_putOff_22 : decode prog_2_method_29_code 22 = .ok (.iload_n 1, 1) := by decide +kernel
theorem d_B_putOff_23 : decode prog_2_method_29_code 23 = .ok (.iconst 1, 1) := by decide +kernel
theorem d_B_putOff_24 : decode prog_2_method_29_code 24 = .ok (.aload_n 0, 1) := by decide +kernel
theorem d_B_putOff_25 : decode prog_2_method_29_code 25 = .ok (.getfield 59, 3) := by decide +kernel
theorem d_B_putOff_28 : decode prog_2_method_29_code 28 = .ok (.aload_n 0, 1) := by decide +kernel
theorem d_B_putOff_29 : decode prog_2_method_29_code 29 = .ok (.getfield 45, 3) := by decide +kernel
theorem d_B_putOff_32 : decode prog_2_method_29_code 32 = .ok (.iload_n 3, 1) := by decide +kernel
theorem d_B_putOff_33 : decode prog_2_method_29_code 33 = .ok (.iconst 3, 1) := by decide +kernel
theorem d_B_putOff_34 : decode prog_2_method_29_code 34 = .ok (.aload_n 0, 1) := by decide +kernel
theorem d_B_putOff_35 : decode prog_2_method_29_code 35 = .ok (.getfield 59, 3) := by decide +kernel
theorem d_B_putOff_38 : decode prog_2_method_29_code 38 = .ok (.iload_n 2, 1) := by decide +kernel
theorem d_B_putOff_39 : decode prog_2_method_29_code 39 = .ok (.iconst 0, 1) := by decide +kernel
theorem d_B_putOff_40 : decode prog_2_method_29_code 40 = .ok (.iconst 0, 1) := by decide +kernel
theorem d_B_putOff_41 : decode prog_2_method_29_code 41 = .ok (.iconst 0, 1) := by decide +kernel
theorem d_B_putOff_42 : decode prog_2_method_29_code 42 = .ok (.invokevirtual 114, 3) := by decide +kernel
theorem d_B_putOff_45 : decode prog_2_method_29_code 45 = .ok (.iadd, 1) := by decide +kernel
theorem d_B_putOff_46 : decode prog_2_method_29_code 46 = .ok (.invokevirtual 90, 3) := by decide +kernel
theorem d_B_putOff_49 : decode prog_2_method_29_code 49 = .ok (.aload_n 0, 1) := by decide +kernel
theorem d_B_putOff_50 : decode prog_2_method_29_code 50 = .ok (.getfield 26, 3) := by decide +kernel
theorem d_B_putOff_53 : decode prog_2_method_29_code 53 = .ok (.iload_n 1, 1) := by decide +kernel
theorem d_B_putOff_54 : decode prog_2_method_29_code 54 = .ok (.iconst 3, 1) := by decide +kernel
theorem d_B_putOff_55 : decode prog_2_method_29_code 55 = .ok (.aload_n 0, 1) := by decide +kernel
theorem d_B_putOff_56 : decode prog_2_method_29_code 56 = .ok (.getfield 26, 3) := by decide +kernel
theorem d_B_putOff_59 : decode prog_2_method_29_code 59 = .ok (.iload_n 1, 1) := by decide +kernel
theorem d_B_putOff_60 : decode prog_2_method_29_code 60 = .ok (.iconst 3, 1) := by decide +kernel
theorem d_B_putOff_61 : decode prog_2_method_29_code 61 = .ok (.invokevirtual 72, 3) := by decide +kernel
theorem d_B_putOff_64 : decode prog_2_method_29_code 64 = .ok (.iconst 1, 1) := by decide +kernel
theorem d_B_putOff_65 : decode prog_2_method_29_code 65 = .ok (.iadd, 1) := by decide +kernel
theorem d_B_putOff_66 : decode prog_2_method_29_code 66 = .ok (.invokevirtual 90, 3) := by decide +kernel
theorem d_B_putOff_69 : decode prog_2_method_29_code 69 = .ok (.aload_n 0, 1) := by decide +kernel
theorem d_B_putOff_70 : decode prog_2_method_29_code 70 = .ok (.getfield 26, 3) := by decide +kernel
theorem d_B_putOff_73 : decode prog_2_method_29_code 73 = .ok (.iload_n 1, 1) := by decide +kernel
theorem d_B_putOff_74 : decode prog_2_method_29_code 74 = .ok (.iconst 4, 1) := by decide +kernel
theorem d_B_putOff_75 : decode prog_2_method_29_code 75 = .ok (.iload_n 2, 1) := by decide +kernel
theorem d_B_putOff_76 : decode prog_2_method_29_code 76 = .ok (.invokevirtual 90, 3) := by decide +kernel
theorem d_B_putOff_79 : decode prog_2_method_29_code 79 = .ok (.aload_n 0, 1) := by decide +kernel
theorem d_B_putOff_80 : decode prog_2_method_29_code 80 = .ok (.getfield 32, 3) := by decide +kernel
theorem d_B_putOff_83 : decode prog_2_method_29_code 83 = .ok (.iload_n 2, 1) := by decide +kernel
theorem d_B_putOff_84 : decode prog_2_method_29_code 84 = .ok (.iconst 0, 1) := by decide +kernel
theorem d_B_putOff_85 : decode prog_2_method_29_code 85 = .ok (.aload_n 0, 1) := by decide +kernel
theorem d_B_putOff_86 : decode prog_2_method_29_code 86 = .ok (.getfield 32, 3) := by decide +kernel
theorem d_B_putOff_89 : decode prog_2_method_29_code 89 = .ok (.iload_n 2, 1) := by decide +kernel
theorem d_B_putOff_90 : decode prog_2_method_29_code 90 = .ok (.iconst 0, 1) := by decide +kernel
theorem d_B_putOff_91 : decode prog_2_method_29_code 91 = .ok (.invokevirtual 72, 3) := by decide +kernel
theorem d_B_putOff_94 : decode prog_2_method_29_code 94 = .ok (.iconst 1, 1) := by decide +kernel
theorem d_B_putOff_95 : decode prog_2_method_29_code 95 = .ok (.iadd, 1) := by decide +kernel
theorem d_B_putOff_96 : decode prog_2_method_29_code 96 = .ok (.invokevirtual 90, 3) := by decide +kernel
theorem d_B_putOff_99 : decode prog_2_method_29_code 99 = .ok (.return_, 1) := by decide +kernel
theorem d_B_sift_0 : decode prog_2_method_26_code 0 = .ok (.iconst 0, 1) := by decide +kernel
theorem d_B_sift_1 : decode prog_2_method_26_code 1 = .ok (.istore_n 3, 1) := by decide +kernel
theorem d_B_sift_2 : decode prog_2_method_26_code 2 = .ok (.iconst 0, 1) := by decide +kernel
theorem d_B_sift_3 : decode prog_2_method_26_code 3 = .ok (.istore 4, 2) := by decide +kernel
theorem d_B_sift_5 : decode prog_2_method_26_code 5 = .ok (.iload 4, 2) := by decide +kernel
theorem d_B_sift_7 : decode prog_2_method_26_code 7 = .ok (.aload_n 0, 1) := by decide +kernel
theorem d_B_sift_8 : decode prog_2_method_26_code 8 = .ok (.getfield 26, 3) := by decide +kernel
theorem d_B_sift_11 : decode prog_2_method_26_code 11 = .ok (.getfield 76, 3) := by decide +kernel
theorem d_B_sift_14 : decode prog_2_method_26_code 14 = .ok (.if_icmp .ge 99, 3) := by decide +kernel
theorem d_B_sift_17 : decode prog_2_method_26_code 17 = .ok (.aload_n 0, 1) := by decide +kernel
theorem d_B_sift_18 : decode prog_2_method_26_code 18 = .ok (.getfield 26, 3) := by decide +kernel
theorem d_B_sift_21 : decode prog_2_method_26_code 21 = .ok (.iload 4, 2) := by decide +kernel
theorem d_B_sift_23 : decode prog_2_method_26_code 23 = .ok (.iconst 0, 1) := by decide +kernel
theorem d_B_sift_24 : decode prog_2_method_26_code 24 = .ok (.invokevirtual 72, 3) := by decide +kernel
theorem d_B_sift_27 : decode prog_2_method_26_code 27 = .ok (.istore 5, 2) := by decide +kernel
theorem d_B_sift_29 : decode prog_2_method_26_code 29 = .ok (.aload_n 0, 1) := by decide +kernel
theorem d_B_sift_30 : decode prog_2_method_26_code 30 = .ok (.iload 5, 2) := by decide +kernel
theorem d_B_sift_32 : decode prog_2_method_26_code 32 = .ok (.invokevirtual 79, 3) := by decide +kernel
theorem d_B_sift_35 : decode prog_2_method_26_code 35 = .ok (.ifCond .ne 21, 3) := by decide +kernel
theorem d_B_sift_38 : decode prog_2_method_26_code 38 = .ok (.aload_n 0, 1) := by decide +kernel
theorem d_B_sift_39 : decode prog_2_method_26_code 39 = .ok (.getfield 14, 3) := by decide +kernel
theorem d_B_sift_42 : decode prog_2_method_26_code 42 = .ok (.iload 5, 2) := by decide +kernel
theorem d_B_sift_44 : decode prog_2_method_26_code 44 = .ok (.iconst 1, 1) := by decide +kernel
theorem d_B_sift_45 : decode prog_2_method_26_code 45 = .ok (.invokevirtual 72, 3) := by decide +kernel
theorem d_B_sift_48 : decode prog_2_method_26_code 48 = .ok (.iload_n 2, 1) := by decide +kernel
theorem d_B_sift_49 : decode prog_2_method_26_code 49 = .ok (.if_icmp .ne 7, 3) := by decide +kernel
theorem d_B_sift_52 : decode prog_2_method_26_code 52 = .ok (.iconst 1, 1) := by decide +kernel
theorem d_B_sift_53 : decode prog_2_method_26_code 53 = .ok (.goto 4, 3) := by decide +kernel
theorem d_B_sift_56 : decode prog_2_method_26_code 56 = .ok (.iconst 0, 1) := by decide +kernel
theorem d_B_sift_57 : decode prog_2_method_26_code 57 = .ok (.istore 6, 2) := by decide +kernel
theorem d_B_sift_59 : decode prog_2_method_26_code 59 = .ok (.iload_n 1, 1) := by decide +kernel
theorem d_B_sift_60 : decode prog_2_method_26_code 60 = .ok (.iload 4, 2) := by decide +kernel
theorem d_B_sift_62 : decode prog_2_method_26_code 62 = .ok (.ishr, 1) := by decide +kernel
theorem d_B_sift_63 : decode prog_2_method_26_code 63 = .ok (.iconst 1, 1) := by decide +kernel
theorem d_B_sift_64 : decode prog_2_method_26_code 64 = .ok (.iand, 1) := by decide +kernel
theorem d_B_sift_65 : decode prog_2_method_26_code 65 = .ok (.ifCond .eq 42, 3) := by decide +kernel
theorem d_B_sift_68 : decode prog_2_method_26_code 68 = .ok (.iload 6, 2) := by decide +kernel
theorem d_B_sift_70 : decode prog_2_method_26_code 70 = .ok (.ifCond .ne 6, 3) := by decide +kernel
theorem d_B_sift_73 : decode prog_2_method_26_code 73 = .ok (.goto 34, 3) := by decide +kernel
theorem d_B_sift_76 : decode prog_2_method_26_code 76 = .ok (.aload_n 0, 1) := by decide +kernel
theorem d_B_sift_77 : decode prog_2_method_26_code 77 = .ok (.iload 5, 2) := by decide +kernel
theorem d_B_sift_79 : decode prog_2_method_26_code 79 = .ok (.invokevirtual 173, 3) := by decide +kernel
theorem d_B_sift_82 : decode prog_2_method_26_code 82 = .ok (.istore 7, 2) := by decide +kernel
theorem d_B_sift_84 : decode prog_2_method_26_code 84 = .ok (.iload 7, 2) := by decide +kernel
theorem d_B_sift_86 : decode prog_2_method_26_code 86 = .ok (.ifCond .ne 13, 3) := by decide +kernel
theorem d_B_sift_89 : decode prog_2_method_26_code 89 = .ok (.iload_n 3, 1) := by decide +kernel
theorem d_B_sift_90 : decode prog_2_method_26_code 90 = .ok (.iconst 1, 1) := by decide +kernel
theorem d_B_sift_91 : decode prog_2_method_26_code 91 = .ok (.iload 4, 2) := by decide +kernel
theorem d_B_sift_93 : decode prog_2_method_26_code 93 = .ok (.ishl, 1) := by decide +kernel
theorem d_B_sift_94 : decode prog_2_method_26_code 94 = .ok (.ior, 1) := by decide +kernel
theorem d_B_sift_95 : decode prog_2_method_26_code 95 = .ok (.istore_n 3, 1) := by decide +kernel
theorem d_B_sift_96 : decode prog_2_method_26_code 96 = .ok (.goto 11, 3) := by decide +kernel
theorem d_B_sift_99 : decode prog_2_method_26_code 99 = .ok (.aload_n 0, 1) := by decide +kernel
theorem d_B_sift_100 : decode prog_2_method_26_code 100 = .ok (.iload 4, 2) := by decide +kernel
theorem d_B_sift_102 : decode prog_2_method_26_code 102 = .ok (.iload 7, 2) := by decide +kernel
theorem d_B_sift_104 : decode prog_2_method_26_code 104 = .ok (.invokevirtual 176, 3) := by decide +kernel
theorem d_B_sift_107 : decode prog_2_method_26_code 107 = .ok (.iinc 4 1, 3) := by decide +kernel
theorem d_B_sift_110 : decode prog_2_method_26_code 110 = .ok (.goto (-105), 3) := by decide +kernel
theorem d_B_sift_113 : decode prog_2_method_26_code 113 = .ok (.iload_n 3, 1) := by decide +kernel
theorem d_B_sift_114 : decode prog_2_method_26_code 114 = .ok (.ireturn, 1) := by decide +kernel
theorem d_B_casesOn_0 : decode prog_2_method_27_code 0 = .ok (.iconst 0, 1) := by decide +kernel
theorem d_B_casesOn_1 : decode prog_2_method_27_code 1 = .ok (.istore_n 2, 1) := by decide +kernel
theorem d_B_casesOn_2 : decode prog_2_method_27_code 2 = .ok (.iconst 0, 1) := by decide +kernel
theorem d_B_casesOn_3 : decode prog_2_method_27_code 3 = .ok (.istore_n 3, 1) := by decide +kernel
theorem d_B_casesOn_4 : decode prog_2_method_27_code 4 = .ok (.iload_n 3, 1) := by decide +kernel
theorem d_B_casesOn_5 : decode prog_2_method_27_code 5 = .ok (.aload_n 0, 1) := by decide +kernel
theorem d_B_casesOn_6 : decode prog_2_method_27_code 6 = .ok (.getfield 26, 3) := by decide +kernel
theorem d_B_casesOn_9 : decode prog_2_method_27_code 9 = .ok (.getfield 76, 3) := by decide +kernel
theorem d_B_casesOn_12 : decode prog_2_method_27_code 12 = .ok (.if_icmp .ge 32, 3) := by decide +kernel
theorem d_B_casesOn_15 : decode prog_2_method_27_code 15 = .ok (.iload_n 1, 1) := by decide +kernel
theorem d_B_casesOn_16 : decode prog_2_method_27_code 16 = .ok (.iload_n 3, 1) := by decide +kernel
theorem d_B_casesOn_17 : decode prog_2_method_27_code 17 = .ok (.ishr, 1) := by decide +kernel
theorem d_B_casesOn_18 : decode prog_2_method_27_code 18 = .ok (.iconst 1, 1) := by decide +kernel
theorem d_B_casesOn_19 : decode prog_2_method_27_code 19 = .ok (.iand, 1) := by decide +kernel
theorem d_B_casesOn_20 : decode prog_2_method_27_code 20 = .ok (.iconst 1, 1) := by decide +kernel
theorem d_B_casesOn_21 : decode prog_2_method_27_code 21 = .ok (.if_icmp .ne 17, 3) := by decide +kernel
theorem d_B_casesOn_24 : decode prog_2_method_27_code 24 = .ok (.iload_n 2, 1) := by decide +kernel
theorem d_B_casesOn_25 : decode prog_2_method_27_code 25 = .ok (.iconst 1, 1) := by decide +kernel
theorem d_B_casesOn_26 : decode prog_2_method_27_code 26 = .ok (.aload_n 0, 1) := by decide +kernel
theorem d_B_casesOn_27 : decode prog_2_method_27_code 27 = .ok (.getfield 26, 3) := by decide +kernel
theorem d_B_casesOn_30 : decode prog_2_method_27_code 30 = .ok (.iload_n 3, 1) := by decide +kernel
theorem d_B_casesOn_31 : decode prog_2_method_27_code 31 = .ok (.iconst 0, 1) := by decide +kernel
theorem d_B_casesOn_32 : decode prog_2_method_27_code 32 = .ok (.invokevirtual 72, 3) := by decide +kernel
theorem d_B_casesOn_35 : decode prog_2_method_27_code 35 = .ok (.ishl, 1) := by decide +kernel
theorem d_B_casesOn_36 : decode prog_2_method_27_code 36 = .ok (.ior, 1) := by decide +kernel
theorem d_B_casesOn_37 : decode prog_2_method_27_code 37 = .ok (.istore_n 2, 1) := by decide +kernel
theorem d_B_casesOn_38 : decode prog_2_method_27_code 38 = .ok (.iinc 3 1, 3) := by decide +kernel
theorem d_B_casesOn_41 : decode prog_2_method_27_code 41 = .ok (.goto (-37), 3) := by decide +kernel
theorem d_B_casesOn_44 : decode prog_2_method_27_code 44 = .ok (.iload_n 2, 1) := by decide +kernel
theorem d_B_casesOn_45 : decode prog_2_method_27_code 45 = .ok (.ireturn, 1) := by decide +kernel
theorem d_B_putAllOff_0 : decode prog_2_method_28_code 0 = .ok (.iconst 0, 1) := by decide +kernel
theorem d_B_putAllOff_1 : decode prog_2_method_28_code 1 = .ok (.istore_n 2, 1) := by decide +kernel
theorem d_B_putAllOff_2 : decode prog_2_method_28_code 2 = .ok (.iload_n 2, 1) := by decide +kernel
theorem d_B_putAllOff_3 : decode prog_2_method_28_code 3 = .ok (.aload_n 0, 1) := by decide +kernel
theorem d_B_putAllOff_4 : decode prog_2_method_28_code 4 = .ok (.getfield 26, 3) := by decide +kernel
theorem d_B_putAllOff_7 : decode prog_2_method_28_code 7 = .ok (.getfield 76, 3) := by decide +kernel
theorem d_B_putAllOff_10 : decode prog_2_method_28_code 10 = .ok (.if_icmp .ge 24, 3) := by decide +kernel
theorem d_B_putAllOff_13 : decode prog_2_method_28_code 13 = .ok (.iload_n 1, 1) := by decide +kernel
theorem d_B_putAllOff_14 : decode prog_2_method_28_code 14 = .ok (.iload_n 2, 1) := by decide +kernel
theorem d_B_putAllOff_15 : decode prog_2_method_28_code 15 = .ok (.ishr, 1) := by decide +kernel
theorem d_B_putAllOff_16 : decode prog_2_method_28_code 16 = .ok (.iconst 1, 1) := by decide +kernel
theorem d_B_putAllOff_17 : decode prog_2_method_28_code 17 = .ok (.iand, 1) := by decide +kernel
theorem d_B_putAllOff_18 : decode prog_2_method_28_code 18 = .ok (.iconst 1, 1) := by decide +kernel
theorem d_B_putAllOff_19 : decode prog_2_method_28_code 19 = .ok (.if_icmp .ne 9, 3) := by decide +kernel
theorem d_B_putAllOff_22 : decode prog_2_method_28_code 22 = .ok (.aload_n 0, 1) := by decide +kernel
theorem d_B_putAllOff_23 : decode prog_2_method_28_code 23 = .ok (.iload_n 2, 1) := by decide +kernel
theorem d_B_putAllOff_24 : decode prog_2_method_28_code 24 = .ok (.iconst 4, 1) := by decide +kernel
theorem d_B_putAllOff_25 : decode prog_2_method_28_code 25 = .ok (.invokevirtual 176, 3) := by decide +kernel
theorem d_B_putAllOff_28 : decode prog_2_method_28_code 28 = .ok (.iinc 2 1, 3) := by decide +kernel
theorem d_B_putAllOff_31 : decode prog_2_method_28_code 31 = .ok (.goto (-29), 3) := by decide +kernel
theorem d_B_putAllOff_34 : decode prog_2_method_28_code 34 = .ok (.return_, 1) := by decide +kernel
theorem d_B_addTurn_0 : decode prog_2_method_14_code 0 = .ok (.aload_n 0, 1) := by decide +kernel
theorem d_B_addTurn_1 : decode prog_2_method_14_code 1 = .ok (.getfield 23, 3) := by decide +kernel
theorem d_B_addTurn_4 : decode prog_2_method_14_code 4 = .ok (.iload_n 1, 1) := by decide +kernel
theorem d_B_addTurn_5 : decode prog_2_method_14_code 5 = .ok (.iconst 3, 1) := by decide +kernel
theorem d_B_addTurn_6 : decode prog_2_method_14_code 6 = .ok (.aload_n 0, 1) := by decide +kernel
theorem d_B_addTurn_7 : decode prog_2_method_14_code 7 = .ok (.getfield 23, 3) := by decide +kernel
theorem d_B_addTurn_10 : decode prog_2_method_14_code 10 = .ok (.iload_n 1, 1) := by decide +kernel
theorem d_B_addTurn_11 : decode prog_2_method_14_code 11 = .ok (.iconst 3, 1) := by decide +kernel
theorem d_B_addTurn_12 : decode prog_2_method_14_code 12 = .ok (.invokevirtual 72, 3) := by decide +kernel
theorem d_B_addTurn_15 : decode prog_2_method_14_code 15 = .ok (.iconst 1, 1) := by decide +kernel
theorem d_B_addTurn_16 : decode prog_2_method_14_code 16 = .ok (.iadd, 1) := by decide +kernel
theorem d_B_addTurn_17 : decode prog_2_method_14_code 17 = .ok (.invokevirtual 90, 3) := by decide +kernel
theorem d_B_addTurn_20 : decode prog_2_method_14_code 20 = .ok (.return_, 1) := by decide +kernel
theorem d_B_takeTurns_0 : decode prog_2_method_13_code 0 = .ok (.aload_n 0, 1) := by decide +kernel
theorem d_B_takeTurns_1 : decode prog_2_method_13_code 1 = .ok (.iload_n 1, 1) := by decide +kernel
theorem d_B_takeTurns_2 : decode prog_2_method_13_code 2 = .ok (.bipush 100, 2) := by decide +kernel
theorem d_B_takeTurns_4 : decode prog_2_method_13_code 4 = .ok (.idiv, 1) := by decide +kernel
theorem d_B_takeTurns_5 : decode prog_2_method_13_code 5 = .ok (.invokevirtual 128, 3) := by decide +kernel
theorem d_B_takeTurns_8 : decode prog_2_method_13_code 8 = .ok (.aload_n 0, 1) := by decide +kernel
theorem d_B_takeTurns_9 : decode prog_2_method_13_code 9 = .ok (.iload_n 1, 1) := by decide +kernel
theorem d_B_takeTurns_10 : decode prog_2_method_13_code 10 = .ok (.bipush 10, 2) := by decide +kernel
theorem d_B_takeTurns_12 : decode prog_2_method_13_code 12 = .ok (.idiv, 1) := by decide +kernel
theorem d_B_takeTurns_13 : decode prog_2_method_13_code 13 = .ok (.bipush 10, 2) := by decide +kernel
theorem d_B_takeTurns_15 : decode prog_2_method_13_code 15 = .ok (.irem, 1) := by decide +kernel
theorem d_B_takeTurns_16 : decode prog_2_method_13_code 16 = .ok (.invokevirtual 128, 3) := by decide +kernel
theorem d_B_takeTurns_19 : decode prog_2_method_13_code 19 = .ok (.aload_n 0, 1) := by decide +kernel
theorem d_B_takeTurns_20 : decode prog_2_method_13_code 20 = .ok (.iload_n 1, 1) := by decide +kernel
theorem d_B_takeTurns_21 : decode prog_2_method_13_code 21 = .ok (.bipush 10, 2) := by decide +kernel
theorem d_B_takeTurns_23 : decode prog_2_method_13_code 23 = .ok (.irem, 1) := by decide +kernel
theorem d_B_takeTurns_24 : decode prog_2_method_13_code 24 = .ok (.invokevirtual 128, 3) := by decide +kernel
theorem d_B_takeTurns_27 : decode prog_2_method_13_code 27 = .ok (.return_, 1) := by decide +kernel
theorem d_B_hearOne_0 : decode prog_2_method_31_code 0 = .ok (.aload_n 0, 1) := by decide +kernel
theorem d_B_hearOne_1 : decode prog_2_method_31_code 1 = .ok (.getfield 26, 3) := by decide +kernel
theorem d_B_hearOne_4 : decode prog_2_method_31_code 4 = .ok (.iload_n 1, 1) := by decide +kernel
theorem d_B_hearOne_5 : decode prog_2_method_31_code 5 = .ok (.iconst 0, 1) := by decide +kernel
theorem d_B_hearOne_6 : decode prog_2_method_31_code 6 = .ok (.invokevirtual 72, 3) := by decide +kernel
theorem d_B_hearOne_9 : decode prog_2_method_31_code 9 = .ok (.istore_n 2, 1) := by decide +kernel
theorem d_B_hearOne_10 : decode prog_2_method_31_code 10 = .ok (.aload_n 0, 1) := by decide +kernel
theorem d_B_hearOne_11 : decode prog_2_method_31_code 11 = .ok (.getfield 14, 3) := by decide +kernel
theorem d_B_hearOne_14 : decode prog_2_method_31_code 14 = .ok (.iload_n 2, 1) := by decide +kernel
theorem d_B_hearOne_15 : decode prog_2_method_31_code 15 = .ok (.iconst 5, 1) := by decide +kernel
theorem d_B_hearOne_16 : decode prog_2_method_31_code 16 = .ok (.invokevirtual 72, 3) := by decide +kernel
theorem d_B_hearOne_19 : decode prog_2_method_31_code 19 = .ok (.istore_n 3, 1) := by decide +kernel
theorem d_B_hearOne_20 : decode prog_2_method_31_code 20 = .ok (.aload_n 0, 1) := by decide +kernel
theorem d_B_hearOne_21 : decode prog_2_method_31_code 21 = .ok (.getfield 45, 3) := by decide +kernel
theorem d_B_hearOne_24 : decode prog_2_method_31_code 24 = .ok (.aload_n 0, 1) := by decide +kernel
theorem d_B_hearOne_25 : decode prog_2_method_31_code 25 = .ok (.getfield 14, 3) := by decide +kernel
theorem d_B_hearOne_28 : decode prog_2_method_31_code 28 = .ok (.iload_n 2, 1) := by decide +kernel
theorem d_B_hearOne_29 : decode prog_2_method_31_code 29 = .ok (.iconst 0, 1) := by decide +kernel
theorem d_B_hearOne_30 : decode prog_2_method_31_code 30 = .ok (.invokevirtual 72, 3) := by decide +kernel
theorem d_B_hearOne_33 : decode prog_2_method_31_code 33 = .ok (.iconst 2, 1) := by decide +kernel
theorem d_B_hearOne_34 : decode prog_2_method_31_code 34 = .ok (.aload_n 0, 1) := by decide +kernel
theorem d_B_hearOne_35 : decode prog_2_method_31_code 35 = .ok (.getfield 59, 3) := by decide +kernel
theorem d_B_hearOne_38 : decode prog_2_method_31_code 38 = .ok (.aload_n 0, 1) := by decide +kernel
theorem d_B_hearOne_39 : decode prog_2_method_31_code 39 = .ok (.iload_n 2, 1) := by decide +kernel
theorem d_B_hearOne_40 : decode prog_2_method_31_code 40 = .ok (.iconst 0, 1) := by decide +kernel
theorem d_B_hearOne_41 : decode prog_2_method_31_code 41 = .ok (.invokevirtual 182, 3) := by decide +kernel
theorem d_B_hearOne_44 : decode prog_2_method_31_code 44 = .ok (.iload_n 3, 1) := by decide +kernel
theorem d_B_hearOne_45 : decode prog_2_method_31_code 45 = .ok (.aload_n 0, 1) := by decide +kernel
theorem d_B_hearOne_46 : decode prog_2_method_31_code 46 = .ok (.getfield 38, 3) := by decide +kernel
theorem d_B_hearOne_49 : decode prog_2_method_31_code 49 = .ok (.iload_n 2, 1) := by decide +kernel
theorem d_B_hearOne_50 : decode prog_2_method_31_code 50 = .ok (.aload_n 0, 1) := by decide +kernel
theorem d_B_hearOne_51 : decode prog_2_method_31_code 51 = .ok (.getfield 59, 3) := by decide +kernel
theorem d_B_hearOne_54 : decode prog_2_method_31_code 54 = .ok (.invokevirtual 111, 3) := by decide +kernel
theorem d_B_hearOne_57 : decode prog_2_method_31_code 57 = .ok (.aload_n 0, 1) := by decide +kernel
theorem d_B_hearOne_58 : decode prog_2_method_31_code 58 = .ok (.getfield 38, 3) := by decide +kernel
theorem d_B_hearOne_61 : decode prog_2_method_31_code 61 = .ok (.iload_n 2, 1) := by decide +kernel
theorem d_B_hearOne_62 : decode prog_2_method_31_code 62 = .ok (.aload_n 0, 1) := by decide +kernel
theorem d_B_hearOne_63 : decode prog_2_method_31_code 63 = .ok (.getfield 59, 3) := by decide +kernel
theorem d_B_hearOne_66 : decode prog_2_method_31_code 66 = .ok (.invokevirtual 97, 3) := by decide +kernel
theorem d_B_hearOne_69 : decode prog_2_method_31_code 69 = .ok (.invokevirtual 114, 3) := by decide +kernel
theorem d_B_hearOne_72 : decode prog_2_method_31_code 72 = .ok (.istore 4, 2) := by decide +kernel
theorem d_B_hearOne_74 : decode prog_2_method_31_code 74 = .ok (.aload_n 0, 1) := by decide +kernel
theorem d_B_hearOne_75 : decode prog_2_method_31_code 75 = .ok (.getfield 14, 3) := by decide +kernel
theorem d_B_hearOne_78 : decode prog_2_method_31_code 78 = .ok (.iload_n 2, 1) := by decide +kernel
theorem d_B_hearOne_79 : decode prog_2_method_31_code 79 = .ok (.iconst 5, 1) := by decide +kernel
theorem d_B_hearOne_80 : decode prog_2_method_31_code 80 = .ok (.iload_n 3, 1) := by decide +kernel
theorem d_B_hearOne_81 : decode prog_2_method_31_code 81 = .ok (.iconst 1, 1) := by decide +kernel
theorem d_B_hearOne_82 : decode prog_2_method_31_code 82 = .ok (.iadd, 1) := by decide +kernel
theorem d_B_hearOne_83 : decode prog_2_method_31_code 83 = .ok (.invokevirtual 90, 3) := by decide +kernel
theorem d_B_hearOne_86 : decode prog_2_method_31_code 86 = .ok (.aload_n 0, 1) := by decide +kernel
theorem d_B_hearOne_87 : decode prog_2_method_31_code 87 = .ok (.getfield 26, 3) := by decide +kernel
theorem d_B_hearOne_90 : decode prog_2_method_31_code 90 = .ok (.iload_n 1, 1) := by decide +kernel
theorem d_B_hearOne_91 : decode prog_2_method_31_code 91 = .ok (.iconst 2, 1) := by decide +kernel
theorem d_B_hearOne_92 : decode prog_2_method_31_code 92 = .ok (.iload 4, 2) := by decide +kernel
theorem d_B_hearOne_94 : decode prog_2_method_31_code 94 = .ok (.ifCond .ne 7, 3) := by decide +kernel
theorem d_B_hearOne_97 : decode prog_2_method_31_code 97 = .ok (.iconst 1, 1) := by decide +kernel
theorem d_B_hearOne_98 : decode prog_2_method_31_code 98 = .ok (.goto 4, 3) := by decide +kernel
theorem d_B_hearOne_101 : decode prog_2_method_31_code 101 = .ok (.iconst 2, 1) := by decide +kernel
theorem d_B_hearOne_102 : decode prog_2_method_31_code 102 = .ok (.invokevirtual 90, 3) := by decide +kernel
theorem d_B_hearOne_105 : decode prog_2_method_31_code 105 = .ok (.iload 4, 2) := by decide +kernel
theorem d_B_hearOne_107 : decode prog_2_method_31_code 107 = .ok (.ifCond .eq 9, 3) := by decide +kernel
theorem d_B_hearOne_110 : decode prog_2_method_31_code 110 = .ok (.aload_n 0, 1) := by decide +kernel
theorem d_B_hearOne_111 : decode prog_2_method_31_code 111 = .ok (.iload_n 2, 1) := by decide +kernel
theorem d_B_hearOne_112 : decode prog_2_method_31_code 112 = .ok (.iconst 1, 1) := by decide +kernel
theorem d_B_hearOne_113 : decode prog_2_method_31_code 113 = .ok (.invokevirtual 185, 3) := by decide +kernel
theorem d_B_hearOne_116 : decode prog_2_method_31_code 116 = .ok (.return_, 1) := by decide +kernel
theorem d_B_hearAll_0 : decode prog_2_method_30_code 0 = .ok (.iconst 0, 1) := by decide +kernel
theorem d_B_hearAll_1 : decode prog_2_method_30_code 1 = .ok (.istore_n 2, 1) := by decide +kernel
theorem d_B_hearAll_2 : decode prog_2_method_30_code 2 = .ok (.iload_n 2, 1) := by decide +kernel
theorem d_B_hearAll_3 : decode prog_2_method_30_code 3 = .ok (.aload_n 0, 1) := by decide +kernel
theorem d_B_hearAll_4 : decode prog_2_method_30_code 4 = .ok (.getfield 26, 3) := by decide +kernel
theorem d_B_hearAll_7 : decode prog_2_method_30_code 7 = .ok (.getfield 76, 3) := by decide +kernel
theorem d_B_hearAll_10 : decode prog_2_method_30_code 10 = .ok (.if_icmp .ge 23, 3) := by decide +kernel
theorem d_B_hearAll_13 : decode prog_2_method_30_code 13 = .ok (.iload_n 1, 1) := by decide +kernel
theorem d_B_hearAll_14 : decode prog_2_method_30_code 14 = .ok (.iload_n 2, 1) := by decide +kernel
theorem d_B_hearAll_15 : decode prog_2_method_30_code 15 = .ok (.ishr, 1) := by decide +kernel
theorem d_B_hearAll_16 : decode prog_2_method_30_code 16 = .ok (.iconst 1, 1) := by decide +kernel
theorem d_B_hearAll_17 : decode prog_2_method_30_code 17 = .ok (.iand, 1) := by decide +kernel
theorem d_B_hearAll_18 : decode prog_2_method_30_code 18 = .ok (.iconst 1, 1) := by decide +kernel
theorem d_B_hearAll_19 : decode prog_2_method_30_code 19 = .ok (.if_icmp .ne 8, 3) := by decide +kernel
theorem d_B_hearAll_22 : decode prog_2_method_30_code 22 = .ok (.aload_n 0, 1) := by decide +kernel
theorem d_B_hearAll_23 : decode prog_2_method_30_code 23 = .ok (.iload_n 2, 1) := by decide +kernel
theorem d_B_hearAll_24 : decode prog_2_method_30_code 24 = .ok (.invokevirtual 179, 3) := by decide +kernel
theorem d_B_hearAll_27 : decode prog_2_method_30_code 27 = .ok (.iinc 2 1, 3) := by decide +kernel
theorem d_B_hearAll_30 : decode prog_2_method_30_code 30 = .ok (.goto (-28), 3) := by decide +kernel
theorem d_B_hearAll_33 : decode prog_2_method_30_code 33 = .ok (.return_, 1) := by decide +kernel
theorem d_B_voidLeft_0 : decode prog_2_method_32_code 0 = .ok (.iconst 0, 1) := by decide +kernel
theorem d_B_voidLeft_1 : decode prog_2_method_32_code 1 = .ok (.istore_n 2, 1) := by decide +kernel
theorem d_B_voidLeft_2 : decode prog_2_method_32_code 2 = .ok (.iload_n 2, 1) := by decide +kernel
theorem d_B_voidLeft_3 : decode prog_2_method_32_code 3 = .ok (.aload_n 0, 1) := by decide +kernel
theorem d_B_voidLeft_4 : decode prog_2_method_32_code 4 = .ok (.getfield 26, 3) := by decide +kernel
theorem d_B_voidLeft_7 : decode prog_2_method_32_code 7 = .ok (.getfield 76, 3) := by decide +kernel
theorem d_B_voidLeft_10 : decode prog_2_method_32_code 10 = .ok (.if_icmp .ge 66, 3) := by decide +kernel
theorem d_B_voidLeft_13 : decode prog_2_method_32_code 13 = .ok (.iload_n 1, 1) := by decide +kernel
theorem d_B_voidLeft_14 : decode prog_2_method_32_code 14 = .ok (.iload_n 2, 1) := by decide +kernel
theorem d_B_voidLeft_15 : decode prog_2_method_32_code 15 = .ok (.ishr, 1) := by decide +kernel
theorem d_B_voidLeft_16 : decode prog_2_method_32_code 16 = .ok (.iconst 1, 1) := by decide +kernel
theorem d_B_voidLeft_17 : decode prog_2_method_32_code 17 = .ok (.iand, 1) := by decide +kernel
theorem d_B_voidLeft_18 : decode prog_2_method_32_code 18 = .ok (.iconst 1, 1) := by decide +kernel
theorem d_B_voidLeft_19 : decode prog_2_method_32_code 19 = .ok (.if_icmp .ne 19, 3) := by decide +kernel
theorem d_B_voidLeft_22 : decode prog_2_method_32_code 22 = .ok (.aload_n 0, 1) := by decide +kernel
theorem d_B_voidLeft_23 : decode prog_2_method_32_code 23 = .ok (.getfield 26, 3) := by decide +kernel
theorem d_B_voidLeft_26 : decode prog_2_method_32_code 26 = .ok (.iload_n 2, 1) := by decide +kernel
theorem d_B_voidLeft_27 : decode prog_2_method_32_code 27 = .ok (.iconst 2, 1) := by decide +kernel
theorem d_B_voidLeft_28 : decode prog_2_method_32_code 28 = .ok (.invokevirtual 72, 3) := by decide +kernel
theorem d_B_voidLeft_31 : decode prog_2_method_32_code 31 = .ok (.ifCond .ne 7, 3) := by decide +kernel
theorem d_B_voidLeft_34 : decode prog_2_method_32_code 34 = .ok (.iconst 1, 1) := by decide +kernel
theorem d_B_voidLeft_35 : decode prog_2_method_32_code 35 = .ok (.goto 4, 3) := by decide +kernel
theorem d_B_voidLeft_38 : decode prog_2_method_32_code 38 = .ok (.iconst 0, 1) := by decide +kernel
theorem d_B_voidLeft_39 : decode prog_2_method_32_code 39 = .ok (.istore_n 3, 1) := by decide +kernel
theorem d_B_voidLeft_40 : decode prog_2_method_32_code 40 = .ok (.iload_n 3, 1) := by decide +kernel
theorem d_B_voidLeft_41 : decode prog_2_method_32_code 41 = .ok (.ifCond .eq 29, 3) := by decide +kernel
theorem d_B_voidLeft_44 : decode prog_2_method_32_code 44 = .ok (.aload_n 0, 1) := by decide +kernel
theorem d_B_voidLeft_45 : decode prog_2_method_32_code 45 = .ok (.aload_n 0, 1) := by decide +kernel
theorem d_B_voidLeft_46 : decode prog_2_method_32_code 46 = .ok (.getfield 26, 3) := by decide +kernel
theorem d_B_voidLeft_49 : decode prog_2_method_32_code 49 = .ok (.iload_n 2, 1) := by decide +kernel
theorem d_B_voidLeft_50 : decode prog_2_method_32_code 50 = .ok (.iconst 0, 1) := by decide +kernel
theorem d_B_voidLeft_51 : decode prog_2_method_32_code 51 = .ok (.invokevirtual 72, 3) := by decide +kernel
theorem d_B_voidLeft_54 : decode prog_2_method_32_code 54 = .ok (.invokevirtual 79, 3) := by decide +kernel
theorem d_B_voidLeft_57 : decode prog_2_method_32_code 57 = .ok (.ifCond .eq 13, 3) := by decide +kernel
theorem d_B_voidLeft_60 : decode prog_2_method_32_code 60 = .ok (.aload_n 0, 1) := by decide +kernel
theorem d_B_voidLeft_61 : decode prog_2_method_32_code 61 = .ok (.getfield 26, 3) := by decide +kernel
theorem d_B_voidLeft_64 : decode prog_2_method_32_code 64 = .ok (.iload_n 2, 1) := by decide +kernel
theorem d_B_voidLeft_65 : decode prog_2_method_32_code 65 = .ok (.iconst 2, 1) := by decide +kernel
theorem d_B_voidLeft_66 : decode prog_2_method_32_code 66 = .ok (.iconst 3, 1) := by decide +kernel
theorem d_B_voidLeft_67 : decode prog_2_method_32_code 67 = .ok (.invokevirtual 90, 3) := by decide +kernel
theorem d_B_voidLeft_70 : decode prog_2_method_32_code 70 = .ok (.iinc 2 1, 3) := by decide +kernel
theorem d_B_voidLeft_73 : decode prog_2_method_32_code 73 = .ok (.goto (-71), 3) := by decide +kernel
theorem d_B_voidLeft_76 : decode prog_2_method_32_code 76 = .ok (.return_, 1) := by decide +kernel
theorem d_B_passDay_0 : decode prog_2_method_24_code 0 = .ok (.aload_n 0, 1) := by decide +kernel
theorem d_B_passDay_1 : decode prog_2_method_24_code 1 = .ok (.invokevirtual 148, 3) := by decide +kernel
theorem d_B_passDay_4 : decode prog_2_method_24_code 4 = .ok (.istore_n 1, 1) := by decide +kernel
theorem d_B_passDay_5 : decode prog_2_method_24_code 5 = .ok (.iconst 0, 1) := by decide +kernel
theorem d_B_passDay_6 : decode prog_2_method_24_code 6 = .ok (.istore_n 2, 1) := by decide +kernel
theorem d_B_passDay_7 : decode prog_2_method_24_code 7 = .ok (.iload_n 1, 1) := by decide +kernel
theorem d_B_passDay_8 : decode prog_2_method_24_code 8 = .ok (.ifCond .eq 71, 3) := by decide +kernel
theorem d_B_passDay_11 : decode prog_2_method_24_code 11 = .ok (.iload_n 2, 1) := by decide +kernel
theorem d_B_passDay_12 : decode prog_2_method_24_code 12 = .ok (.bipush 6, 2) := by decide +kernel
theorem d_B_passDay_14 : decode prog_2_method_24_code 14 = .ok (.if_icmp .ge 65, 3) := by decide +kernel
theorem d_B_passDay_17 : decode prog_2_method_24_code 17 = .ok (.aload_n 0, 1) := by decide +kernel
theorem d_B_passDay_18 : decode prog_2_method_24_code 18 = .ok (.iload_n 1, 1) := by decide +kernel
theorem d_B_passDay_19 : decode prog_2_method_24_code 19 = .ok (.iload_n 2, 1) := by decide +kernel
theorem d_B_passDay_20 : decode prog_2_method_24_code 20 = .ok (.invokevirtual 152, 3) := by decide +kernel
theorem d_B_passDay_23 : decode prog_2_method_24_code 23 = .ok (.istore_n 3, 1) := by decide +kernel
theorem d_B_passDay_24 : decode prog_2_method_24_code 24 = .ok (.iload_n 3, 1) := by decide +kernel
theorem d_B_passDay_25 : decode prog_2_method_24_code 25 = .ok (.ifCond .ne 6, 3) := by decide +kernel
theorem d_B_passDay_28 : decode prog_2_method_24_code 28 = .ok (.goto 45, 3) := by decide +kernel
theorem d_B_passDay_31 : decode prog_2_method_24_code 31 = .ok (.aload_n 0, 1) := by decide +kernel
theorem d_B_passDay_32 : decode prog_2_method_24_code 32 = .ok (.aload_n 0, 1) := by decide +kernel
theorem d_B_passDay_33 : decode prog_2_method_24_code 33 = .ok (.iload_n 3, 1) := by decide +kernel
theorem d_B_passDay_34 : decode prog_2_method_24_code 34 = .ok (.invokevirtual 155, 3) := by decide +kernel
theorem d_B_passDay_37 : decode prog_2_method_24_code 37 = .ok (.iload_n 2, 1) := by decide +kernel
theorem d_B_passDay_38 : decode prog_2_method_24_code 38 = .ok (.aload_n 0, 1) := by decide +kernel
theorem d_B_passDay_39 : decode prog_2_method_24_code 39 = .ok (.getfield 59, 3) := by decide +kernel
theorem d_B_passDay_42 : decode prog_2_method_24_code 42 = .ok (.invokevirtual 158, 3) := by decide +kernel
theorem d_B_passDay_45 : decode prog_2_method_24_code 45 = .ok (.istore 4, 2) := by decide +kernel
theorem d_B_passDay_47 : decode prog_2_method_24_code 47 = .ok (.iload 4, 2) := by decide +kernel
theorem d_B_passDay_49 : decode prog_2_method_24_code 49 = .ok (.ldc 122, 2) := by decide +kernel
theorem d_B_passDay_51 : decode prog_2_method_24_code 51 = .ok (.if_icmp .ne 11, 3) := by decide +kernel
theorem d_B_passDay_54 : decode prog_2_method_24_code 54 = .ok (.aload_n 0, 1) := by decide +kernel
theorem d_B_passDay_55 : decode prog_2_method_24_code 55 = .ok (.iload_n 3, 1) := by decide +kernel
theorem d_B_passDay_56 : decode prog_2_method_24_code 56 = .ok (.invokevirtual 161, 3) := by decide +kernel
theorem d_B_passDay_59 : decode prog_2_method_24_code 59 = .ok (.goto 14, 3) := by decide +kernel
theorem d_B_passDay_62 : decode prog_2_method_24_code 62 = .ok (.aload_n 0, 1) := by decide +kernel
theorem d_B_passDay_63 : decode prog_2_method_24_code 63 = .ok (.iload 4, 2) := by decide +kernel
theorem d_B_passDay_65 : decode prog_2_method_24_code 65 = .ok (.invokevirtual 164, 3) := by decide +kernel
theorem d_B_passDay_68 : decode prog_2_method_24_code 68 = .ok (.aload_n 0, 1) := by decide +kernel
theorem d_B_passDay_69 : decode prog_2_method_24_code 69 = .ok (.iload_n 3, 1) := by decide +kernel
theorem d_B_passDay_70 : decode prog_2_method_24_code 70 = .ok (.invokevirtual 167, 3) := by decide +kernel
theorem d_B_passDay_73 : decode prog_2_method_24_code 73 = .ok (.iinc 2 1, 3) := by decide +kernel
theorem d_B_passDay_76 : decode prog_2_method_24_code 76 = .ok (.goto (-69), 3) := by decide +kernel
theorem d_B_passDay_79 : decode prog_2_method_24_code 79 = .ok (.aload_n 0, 1) := by decide +kernel
theorem d_B_passDay_80 : decode prog_2_method_24_code 80 = .ok (.iload_n 1, 1) := by decide +kernel
theorem d_B_passDay_81 : decode prog_2_method_24_code 81 = .ok (.invokevirtual 170, 3) := by decide +kernel
theorem d_B_passDay_84 : decode prog_2_method_24_code 84 = .ok (.aload_n 0, 1) := by decide +kernel
theorem d_B_passDay_85 : decode prog_2_method_24_code 85 = .ok (.dup, 1) := by decide +kernel
theorem d_B_passDay_86 : decode prog_2_method_24_code 86 = .ok (.getfield 59, 3) := by decide +kernel
theorem d_B_passDay_89 : decode prog_2_method_24_code 89 = .ok (.iconst 1, 1) := by decide +kernel
theorem d_B_passDay_90 : decode prog_2_method_24_code 90 = .ok (.iadd, 1) := by decide +kernel
theorem d_B_passDay_91 : decode prog_2_method_24_code 91 = .ok (.putfield 59, 3) := by decide +kernel
theorem d_B_passDay_94 : decode prog_2_method_24_code 94 = .ok (.return_, 1) := by decide +kernel
theorem d_B_areLike_0 : decode prog_2_method_37_code 0 = .ok (.aload_n 0, 1) := by decide +kernel
theorem d_B_areLike_1 : decode prog_2_method_37_code 1 = .ok (.getfield 14, 3) := by decide +kernel
theorem d_B_areLike_4 : decode prog_2_method_37_code 4 = .ok (.iload_n 1, 1) := by decide +kernel
theorem d_B_areLike_5 : decode prog_2_method_37_code 5 = .ok (.iconst 2, 1) := by decide +kernel
theorem d_B_areLike_6 : decode prog_2_method_37_code 6 = .ok (.invokevirtual 72, 3) := by decide +kernel
theorem d_B_areLike_9 : decode prog_2_method_37_code 9 = .ok (.aload_n 0, 1) := by decide +kernel
theorem d_B_areLike_10 : decode prog_2_method_37_code 10 = .ok (.getfield 14, 3) := by decide +kernel
theorem d_B_areLike_13 : decode prog_2_method_37_code 13 = .ok (.iload_n 2, 1) := by decide +kernel
theorem d_B_areLike_14 : decode prog_2_method_37_code 14 = .ok (.iconst 2, 1) := by decide +kernel
theorem d_B_areLike_15 : decode prog_2_method_37_code 15 = .ok (.invokevirtual 72, 3) := by decide +kernel
theorem d_B_areLike_18 : decode prog_2_method_37_code 18 = .ok (.ixor, 1) := by decide +kernel
theorem d_B_areLike_19 : decode prog_2_method_37_code 19 = .ok (.invokestatic 100, 3) := by decide +kernel
theorem d_B_areLike_22 : decode prog_2_method_37_code 22 = .ok (.istore_n 3, 1) := by decide +kernel
theorem d_B_areLike_23 : decode prog_2_method_37_code 23 = .ok (.iload_n 1, 1) := by decide +kernel
theorem d_B_areLike_24 : decode prog_2_method_37_code 24 = .ok (.iload_n 2, 1) := by decide +kernel
theorem d_B_areLike_25 : decode prog_2_method_37_code 25 = .ok (.if_icmp .eq 33, 3) := by decide +kernel
theorem d_B_areLike_28 : decode prog_2_method_37_code 28 = .ok (.iload_n 3, 1) := by decide +kernel
theorem d_B_areLike_29 : decode prog_2_method_37_code 29 = .ok (.iconst 1, 1) := by decide +kernel
theorem d_B_areLike_30 : decode prog_2_method_37_code 30 = .ok (.if_icmp .gt 28, 3) := by decide +kernel
theorem d_B_areLike_33 : decode prog_2_method_37_code 33 = .ok (.aload_n 0, 1) := by decide +kernel
theorem d_B_areLike_34 : decode prog_2_method_37_code 34 = .ok (.getfield 14, 3) := by decide +kernel
theorem d_B_areLike_37 : decode prog_2_method_37_code 37 = .ok (.iload_n 1, 1) := by decide +kernel
theorem d_B_areLike_38 : decode prog_2_method_37_code 38 = .ok (.iconst 0, 1) := by decide +kernel
theorem d_B_areLike_39 : decode prog_2_method_37_code 39 = .ok (.invokevirtual 72, 3) := by decide +kernel
theorem d_B_areLike_42 : decode prog_2_method_37_code 42 = .ok (.aload_n 0, 1) := by decide +kernel
theorem d_B_areLike_43 : decode prog_2_method_37_code 43 = .ok (.getfield 14, 3) := by decide +kernel
theorem d_B_areLike_46 : decode prog_2_method_37_code 46 = .ok (.iload_n 2, 1) := by decide +kernel
theorem d_B_areLike_47 : decode prog_2_method_37_code 47 = .ok (.iconst 0, 1) := by decide +kernel
theorem d_B_areLike_48 : decode prog_2_method_37_code 48 = .ok (.invokevirtual 72, 3) := by decide +kernel
theorem d_B_areLike_51 : decode prog_2_method_37_code 51 = .ok (.if_icmp .ne 7, 3) := by decide +kernel
theorem d_B_areLike_54 : decode prog_2_method_37_code 54 = .ok (.iconst 1, 1) := by decide +kernel
theorem d_B_areLike_55 : decode prog_2_method_37_code 55 = .ok (.goto 4, 3) := by decide +kernel
theorem d_B_areLike_58 : decode prog_2_method_37_code 58 = .ok (.iconst 0, 1) := by decide +kernel
theorem d_B_areLike_59 : decode prog_2_method_37_code 59 = .ok (.ireturn, 1) := by decide +kernel
theorem d_B_hearingsOfLike_0 : decode prog_2_method_36_code 0 = .ok (.iconst 0, 1) := by decide +kernel
theorem d_B_hearingsOfLike_1 : decode prog_2_method_36_code 1 = .ok (.istore_n 3, 1) := by decide +kernel
theorem d_B_hearingsOfLike_2 : decode prog_2_method_36_code 2 = .ok (.iconst 0, 1) := by decide +kernel
theorem d_B_hearingsOfLike_3 : decode prog_2_method_36_code 3 = .ok (.istore 4, 2) := by decide +kernel
theorem d_B_hearingsOfLike_5 : decode prog_2_method_36_code 5 = .ok (.iload 4, 2) := by decide +kernel
theorem d_B_hearingsOfLike_7 : decode prog_2_method_36_code 7 = .ok (.aload_n 0, 1) := by decide +kernel
theorem d_B_hearingsOfLike_8 : decode prog_2_method_36_code 8 = .ok (.getfield 26, 3) := by decide +kernel
theorem d_B_hearingsOfLike_11 : decode prog_2_method_36_code 11 = .ok (.getfield 76, 3) := by decide +kernel
theorem d_B_hearingsOfLike_14 : decode prog_2_method_36_code 14 = .ok (.if_icmp .ge 56, 3) := by decide +kernel
theorem d_B_hearingsOfLike_17 : decode prog_2_method_36_code 17 = .ok (.aload_n 0, 1) := by decide +kernel
theorem d_B_hearingsOfLike_18 : decode prog_2_method_36_code 18 = .ok (.getfield 26, 3) := by decide +kernel
theorem d_B_hearingsOfLike_21 : decode prog_2_method_36_code 21 = .ok (.iload 4, 2) := by decide +kernel
theorem d_B_hearingsOfLike_23 : decode prog_2_method_36_code 23 = .ok (.iconst 2, 1) := by decide +kernel
theorem d_B_hearingsOfLike_24 : decode prog_2_method_36_code 24 = .ok (.invokevirtual 72, 3) := by decide +kernel
theorem d_B_hearingsOfLike_27 : decode prog_2_method_36_code 27 = .ok (.iload_n 2, 1) := by decide +kernel
theorem d_B_hearingsOfLike_28 : decode prog_2_method_36_code 28 = .ok (.if_icmp .ne 7, 3) := by decide +kernel
theorem d_B_hearingsOfLike_31 : decode prog_2_method_36_code 31 = .ok (.iconst 1, 1) := by decide +kernel
theorem d_B_hearingsOfLike_32 : decode prog_2_method_36_code 32 = .ok (.goto 4, 3) := by decide +kernel
theorem d_B_hearingsOfLike_35 : decode prog_2_method_36_code 35 = .ok (.iconst 0, 1) := by decide +kernel
theorem d_B_hearingsOfLike_36 : decode prog_2_method_36_code 36 = .ok (.istore 5, 2) := by decide +kernel
theorem d_B_hearingsOfLike_38 : decode prog_2_method_36_code 38 = .ok (.iload 5, 2) := by decide +kernel
theorem d_B_hearingsOfLike_40 : decode prog_2_method_36_code 40 = .ok (.ifCond .eq 24, 3) := by decide +kernel
theorem d_B_hearingsOfLike_43 : decode prog_2_method_36_code 43 = .ok (.aload_n 0, 1) := by decide +kernel
theorem d_B_hearingsOfLike_44 : decode prog_2_method_36_code 44 = .ok (.iload_n 1, 1) := by decide +kernel
theorem d_B_hearingsOfLike_45 : decode prog_2_method_36_code 45 = .ok (.aload_n 0, 1) := by decide +kernel
theorem d_B_hearingsOfLike_46 : decode prog_2_method_36_code 46 = .ok (.getfield 26, 3) := by decide +kernel
theorem d_B_hearingsOfLike_49 : decode prog_2_method_36_code 49 = .ok (.iload 4, 2) := by decide +kernel
theorem d_B_hearingsOfLike_51 : decode prog_2_method_36_code 51 = .ok (.iconst 0, 1) := by decide +kernel
theorem d_B_hearingsOfLike_52 : decode prog_2_method_36_code 52 = .ok (.invokevirtual 72, 3) := by decide +kernel
theorem d_B_hearingsOfLike_55 : decode prog_2_method_36_code 55 = .ok (.invokevirtual 194, 3) := by decide +kernel
theorem d_B_hearingsOfLike_58 : decode prog_2_method_36_code 58 = .ok (.ifCond .eq 6, 3) := by decide +kernel
theorem d_B_hearingsOfLike_61 : decode prog_2_method_36_code 61 = .ok (.iinc 3 1, 3) := by decide +kernel
theorem d_B_hearingsOfLike_64 : decode prog_2_method_36_code 64 = .ok (.iinc 4 1, 3) := by decide +kernel
theorem d_B_hearingsOfLike_67 : decode prog_2_method_36_code 67 = .ok (.goto (-62), 3) := by decide +kernel
theorem d_B_hearingsOfLike_70 : decode prog_2_method_36_code 70 = .ok (.iload_n 3, 1) := by decide +kernel
theorem d_B_hearingsOfLike_71 : decode prog_2_method_36_code 71 = .ok (.ireturn, 1) := by decide +kernel
theorem d_B_drawOne_0 : decode prog_2_method_16_code 0 = .ok (.aload_n 0, 1) := by decide +kernel
theorem d_B_drawOne_1 : decode prog_2_method_16_code 1 = .ok (.sipush 25173, 3) := by decide +kernel
theorem d_B_drawOne_4 : decode prog_2_method_16_code 4 = .ok (.aload_n 0, 1) := by decide +kernel
theorem d_B_drawOne_5 : decode prog_2_method_16_code 5 = .ok (.getfield 63, 3) := by decide +kernel
theorem d_B_drawOne_8 : decode prog_2_method_16_code 8 = .ok (.imul, 1) := by decide +kernel
theorem d_B_drawOne_9 : decode prog_2_method_16_code 9 = .ok (.sipush 13849, 3) := by decide +kernel
theorem d_B_drawOne_12 : decode prog_2_method_16_code 12 = .ok (.iadd, 1) := by decide +kernel
theorem d_B_drawOne_13 : decode prog_2_method_16_code 13 = .ok (.ldc 135, 2) := by decide +kernel
theorem d_B_drawOne_15 : decode prog_2_method_16_code 15 = .ok (.irem, 1) := by decide +kernel
theorem d_B_drawOne_16 : decode prog_2_method_16_code 16 = .ok (.putfield 63, 3) := by decide +kernel
theorem d_B_drawOne_19 : decode prog_2_method_16_code 19 = .ok (.aload_n 0, 1) := by decide +kernel
theorem d_B_drawOne_20 : decode prog_2_method_16_code 20 = .ok (.getfield 23, 3) := by decide +kernel
theorem d_B_drawOne_23 : decode prog_2_method_16_code 23 = .ok (.getfield 76, 3) := by decide +kernel
theorem d_B_drawOne_26 : decode prog_2_method_16_code 26 = .ok (.iload_n 1, 1) := by decide +kernel
theorem d_B_drawOne_27 : decode prog_2_method_16_code 27 = .ok (.invokestatic 100, 3) := by decide +kernel
theorem d_B_drawOne_30 : decode prog_2_method_16_code 30 = .ok (.isub, 1) := by decide +kernel
theorem d_B_drawOne_31 : decode prog_2_method_16_code 31 = .ok (.istore_n 2, 1) := by decide +kernel
theorem d_B_drawOne_32 : decode prog_2_method_16_code 32 = .ok (.iload_n 2, 1) := by decide +kernel
theorem d_B_drawOne_33 : decode prog_2_method_16_code 33 = .ok (.ifCond .gt 7, 3) := by decide +kernel
theorem d_B_drawOne_36 : decode prog_2_method_16_code 36 = .ok (.iconst 0, 1) := by decide +kernel
theorem d_B_drawOne_37 : decode prog_2_method_16_code 37 = .ok (.goto 9, 3) := by decide +kernel
theorem d_B_drawOne_40 : decode prog_2_method_16_code 40 = .ok (.aload_n 0, 1) := by decide +kernel
theorem d_B_drawOne_41 : decode prog_2_method_16_code 41 = .ok (.getfield 63, 3) := by decide +kernel
theorem d_B_drawOne_44 : decode prog_2_method_16_code 44 = .ok (.iload_n 2, 1) := by decide +kernel
theorem d_B_drawOne_45 : decode prog_2_method_16_code 45 = .ok (.irem, 1) := by decide +kernel
theorem d_B_drawOne_46 : decode prog_2_method_16_code 46 = .ok (.istore_n 3, 1) := by decide +kernel
theorem d_B_drawOne_47 : decode prog_2_method_16_code 47 = .ok (.iconst 0, 1) := by decide +kernel
theorem d_B_drawOne_48 : decode prog_2_method_16_code 48 = .ok (.istore 4, 2) := by decide +kernel
theorem d_B_drawOne_50 : decode prog_2_method_16_code 50 = .ok (.iload 4, 2) := by decide +kernel
theorem d_B_drawOne_52 : decode prog_2_method_16_code 52 = .ok (.aload_n 0, 1) := by decide +kernel
theorem d_B_drawOne_53 : decode prog_2_method_16_code 53 = .ok (.getfield 23, 3) := by decide +kernel
theorem d_B_drawOne_56 : decode prog_2_method_16_code 56 = .ok (.getfield 76, 3) := by decide +kernel
theorem d_B_drawOne_59 : decode prog_2_method_16_code 59 = .ok (.if_icmp .ge 34, 3) := by decide +kernel
theorem d_B_drawOne_62 : decode prog_2_method_16_code 62 = .ok (.iload_n 1, 1) := by decide +kernel
theorem d_B_drawOne_63 : decode prog_2_method_16_code 63 = .ok (.iload 4, 2) := by decide +kernel
theorem d_B_drawOne_65 : decode prog_2_method_16_code 65 = .ok (.ishr, 1) := by decide +kernel
theorem d_B_drawOne_66 : decode prog_2_method_16_code 66 = .ok (.iconst 1, 1) := by decide +kernel
theorem d_B_drawOne_67 : decode prog_2_method_16_code 67 = .ok (.iand, 1) := by decide +kernel
theorem d_B_drawOne_68 : decode prog_2_method_16_code 68 = .ok (.iconst 1, 1) := by decide +kernel
theorem d_B_drawOne_69 : decode prog_2_method_16_code 69 = .ok (.if_icmp .ne 6, 3) := by decide +kernel
theorem d_B_drawOne_72 : decode prog_2_method_16_code 72 = .ok (.goto 15, 3) := by decide +kernel
theorem d_B_drawOne_75 : decode prog_2_method_16_code 75 = .ok (.iload_n 3, 1) := by decide +kernel
theorem d_B_drawOne_76 : decode prog_2_method_16_code 76 = .ok (.ifCond .ne 8, 3) := by decide +kernel
theorem d_B_drawOne_79 : decode prog_2_method_16_code 79 = .ok (.iconst 1, 1) := by decide +kernel
theorem d_B_drawOne_80 : decode prog_2_method_16_code 80 = .ok (.iload 4, 2) := by decide +kernel
theorem d_B_drawOne_82 : decode prog_2_method_16_code 82 = .ok (.ishl, 1) := by decide +kernel
theorem d_B_drawOne_83 : decode prog_2_method_16_code 83 = .ok (.ireturn, 1) := by decide +kernel
theorem d_B_drawOne_84 : decode prog_2_method_16_code 84 = .ok (.iinc 3 (-1), 3) := by decide +kernel
theorem d_B_drawOne_87 : decode prog_2_method_16_code 87 = .ok (.iinc 4 1, 3) := by decide +kernel
theorem d_B_drawOne_90 : decode prog_2_method_16_code 90 = .ok (.goto (-40), 3) := by decide +kernel
theorem d_B_drawOne_93 : decode prog_2_method_16_code 93 = .ok (.iconst 0, 1) := by decide +kernel
theorem d_B_drawOne_94 : decode prog_2_method_16_code 94 = .ok (.ireturn, 1) := by decide +kernel
theorem d_B_drawThree_0 : decode prog_2_method_15_code 0 = .ok (.iconst 0, 1) := by decide +kernel
theorem d_B_drawThree_1 : decode prog_2_method_15_code 1 = .ok (.istore_n 2, 1) := by decide +kernel
theorem d_B_drawThree_2 : decode prog_2_method_15_code 2 = .ok (.iconst 0, 1) := by decide +kernel
theorem d_B_drawThree_3 : decode prog_2_method_15_code 3 = .ok (.istore_n 3, 1) := by decide +kernel
theorem d_B_drawThree_4 : decode prog_2_method_15_code 4 = .ok (.iload_n 3, 1) := by decide +kernel
theorem d_B_drawThree_5 : decode prog_2_method_15_code 5 = .ok (.iconst 3, 1) := by decide +kernel
theorem d_B_drawThree_6 : decode prog_2_method_15_code 6 = .ok (.if_icmp .ge 19, 3) := by decide +kernel
theorem d_B_drawThree_9 : decode prog_2_method_15_code 9 = .ok (.iload_n 2, 1) := by decide +kernel
theorem d_B_drawThree_10 : decode prog_2_method_15_code 10 = .ok (.aload_n 0, 1) := by decide +kernel
theorem d_B_drawThree_11 : decode prog_2_method_15_code 11 = .ok (.iload_n 1, 1) := by decide +kernel
theorem d_B_drawThree_12 : decode prog_2_method_15_code 12 = .ok (.iload_n 2, 1) := by decide +kernel
theorem d_B_drawThree_13 : decode prog_2_method_15_code 13 = .ok (.ior, 1) := by decide +kernel
theorem d_B_drawThree_14 : decode prog_2_method_15_code 14 = .ok (.invokevirtual 132, 3) := by decide +kernel
theorem d_B_drawThree_17 : decode prog_2_method_15_code 17 = .ok (.ior, 1) := by decide +kernel
theorem d_B_drawThree_18 : decode prog_2_method_15_code 18 = .ok (.istore_n 2, 1) := by decide +kernel
theorem d_B_drawThree_19 : decode prog_2_method_15_code 19 = .ok (.iinc 3 1, 3) := by decide +kernel
theorem d_B_drawThree_22 : decode prog_2_method_15_code 22 = .ok (.goto (-18), 3) := by decide +kernel
theorem d_B_drawThree_25 : decode prog_2_method_15_code 25 = .ok (.iload_n 2, 1) := by decide +kernel
theorem d_B_drawThree_26 : decode prog_2_method_15_code 26 = .ok (.ireturn, 1) := by decide +kernel
theorem d_S_become_0 : decode prog_5_method_2_code 0 = .ok (.aload_n 0, 1) := by decide +kernel
theorem d_S_become_1 : decode prog_5_method_2_code 1 = .ok (.iload_n 1, 1) := by decide +kernel
theorem d_S_become_2 : decode prog_5_method_2_code 2 = .ok (.putfield 13, 3) := by decide +kernel
theorem d_S_become_5 : decode prog_5_method_2_code 5 = .ok (.aload_n 0, 1) := by decide +kernel
theorem d_S_become_6 : decode prog_5_method_2_code 6 = .ok (.iload_n 2, 1) := by decide +kernel
theorem d_S_become_7 : decode prog_5_method_2_code 7 = .ok (.putfield 17, 3) := by decide +kernel
theorem d_S_become_10 : decode prog_5_method_2_code 10 = .ok (.aload_n 0, 1) := by decide +kernel
theorem d_S_become_11 : decode prog_5_method_2_code 11 = .ok (.getfield 9, 3) := by decide +kernel
theorem d_S_become_14 : decode prog_5_method_2_code 14 = .ok (.lconst 0, 1) := by decide +kernel
theorem d_S_become_15 : decode prog_5_method_2_code 15 = .ok (.invokestatic 20, 3) := by decide +kernel
theorem d_S_become_18 : decode prog_5_method_2_code 18 = .ok (.return_, 1) := by decide +kernel
theorem d_S_has_0 : decode prog_5_method_3_code 0 = .ok (.iload_n 1, 1) := by decide +kernel
theorem d_S_has_1 : decode prog_5_method_3_code 1 = .ok (.ifCond .lt 24, 3) := by decide +kernel
theorem d_S_has_4 : decode prog_5_method_3_code 4 = .ok (.iload_n 1, 1) := by decide +kernel
theorem d_S_has_5 : decode prog_5_method_3_code 5 = .ok (.aload_n 0, 1) := by decide +kernel
theorem d_S_has_6 : decode prog_5_method_3_code 6 = .ok (.getfield 17, 3) := by decide +kernel
theorem d_S_has_9 : decode prog_5_method_3_code 9 = .ok (.if_icmp .ge 16, 3) := by decide +kernel
theorem d_S_has_12 : decode prog_5_method_3_code 12 = .ok (.iload_n 1, 1) := by decide +kernel
theorem d_S_has_13 : decode prog_5_method_3_code 13 = .ok (.aload_n 0, 1) := by decide +kernel
theorem d_S_has_14 : decode prog_5_method_3_code 14 = .ok (.getfield 9, 3) := by decide +kernel
theorem d_S_has_17 : decode prog_5_method_3_code 17 = .ok (.arraylength, 1) := by decide +kernel
theorem d_S_has_18 : decode prog_5_method_3_code 18 = .ok (.if_icmp .ge 7, 3) := by decide +kernel
theorem d_S_has_21 : decode prog_5_method_3_code 21 = .ok (.iconst 1, 1) := by decide +kernel
theorem d_S_has_22 : decode prog_5_method_3_code 22 = .ok (.goto 4, 3) := by decide +kernel
theorem d_S_has_25 : decode prog_5_method_3_code 25 = .ok (.iconst 0, 1) := by decide +kernel
theorem d_S_has_26 : decode prog_5_method_3_code 26 = .ok (.ireturn, 1) := by decide +kernel
theorem d_S_narrowed_0 : decode prog_5_method_7_code 0 = .ok (.aload_n 0, 1) := by decide +kernel
theorem d_S_narrowed_1 : decode prog_5_method_7_code 1 = .ok (.getfield 13, 3) := by decide +kernel
theorem d_S_narrowed_4 : decode prog_5_method_7_code 4 = .ok (.ifCond .ne 8, 3) := by decide +kernel
theorem d_S_narrowed_7 : decode prog_5_method_7_code 7 = .ok (.lload_n 1, 1) := by decide +kernel
theorem d_S_narrowed_8 : decode prog_5_method_7_code 8 = .ok (.l2i, 1) := by decide +kernel
theorem d_S_narrowed_9 : decode prog_5_method_7_code 9 = .ok (.i2b, 1) := by decide +kernel
theorem d_S_narrowed_10 : decode prog_5_method_7_code 10 = .ok (.i2l, 1) := by decide +kernel
theorem d_S_narrowed_11 : decode prog_5_method_7_code 11 = .ok (.lreturn, 1) := by decide +kernel
theorem d_S_narrowed_12 : decode prog_5_method_7_code 12 = .ok (.aload_n 0, 1) := by decide +kernel
theorem d_S_narrowed_13 : decode prog_5_method_7_code 13 = .ok (.getfield 13, 3) := by decide +kernel
theorem d_S_narrowed_16 : decode prog_5_method_7_code 16 = .ok (.iconst 1, 1) := by decide +kernel
theorem d_S_narrowed_17 : decode prog_5_method_7_code 17 = .ok (.if_icmp .ne 10, 3) := by decide +kernel
theorem d_S_narrowed_20 : decode prog_5_method_7_code 20 = .ok (.lload_n 1, 1) := by decide +kernel
theorem d_S_narrowed_21 : decode prog_5_method_7_code 21 = .ok (.l2i, 1) := by decide +kernel
theorem d_S_narrowed_22 : decode prog_5_method_7_code 22 = .ok (.i2s, 1) := by decide +kernel
theorem d_S_narrowed_23 : decode prog_5_method_7_code 23 = .ok (.i2l, 1) := by decide +kernel
theorem d_S_narrowed_24 : decode prog_5_method_7_code 24 = .ok (.goto 4, 3) := by decide +kernel
theorem d_S_narrowed_27 : decode prog_5_method_7_code 27 = .ok (.lload_n 1, 1) := by decide +kernel
theorem d_S_narrowed_28 : decode prog_5_method_7_code 28 = .ok (.lreturn, 1) := by decide +kernel
theorem d_S_raise_0 : decode prog_5_method_5_code 0 = .ok (.aload_n 0, 1) := by decide +kernel
theorem d_S_raise_1 : decode prog_5_method_5_code 1 = .ok (.iload_n 1, 1) := by decide +kernel
theorem d_S_raise_2 : decode prog_5_method_5_code 2 = .ok (.invokevirtual 26, 3) := by decide +kernel
theorem d_S_raise_5 : decode prog_5_method_5_code 5 = .ok (.ifCond .ne 5, 3) := by decide +kernel
theorem d_S_raise_8 : decode prog_5_method_5_code 8 = .ok (.lconst 0, 1) := by decide +kernel
theorem d_S_raise_9 : decode prog_5_method_5_code 9 = .ok (.lreturn, 1) := by decide +kernel
theorem d_S_raise_10 : decode prog_5_method_5_code 10 = .ok (.aload_n 0, 1) := by decide +kernel
theorem d_S_raise_11 : decode prog_5_method_5_code 11 = .ok (.getfield 9, 3) := by decide +kernel
theorem d_S_raise_14 : decode prog_5_method_5_code 14 = .ok (.iload_n 1, 1) := by decide +kernel
theorem d_S_raise_15 : decode prog_5_method_5_code 15 = .ok (.aload_n 0, 1) := by decide +kernel
theorem d_S_raise_16 : decode prog_5_method_5_code 16 = .ok (.aload_n 0, 1) := by decide +kernel
theorem d_S_raise_17 : decode prog_5_method_5_code 17 = .ok (.getfield 9, 3) := by decide +kernel
theorem d_S_raise_20 : decode prog_5_method_5_code 20 = .ok (.iload_n 1, 1) := by decide +kernel
theorem d_S_raise_21 : decode prog_5_method_5_code 21 = .ok (.laload, 1) := by decide +kernel
theorem d_S_raise_22 : decode prog_5_method_5_code 22 = .ok (.iload_n 2, 1) := by decide +kernel
theorem d_S_raise_23 : decode prog_5_method_5_code 23 = .ok (.i2l, 1) := by decide +kernel
theorem d_S_raise_24 : decode prog_5_method_5_code 24 = .ok (.ladd, 1) := by decide +kernel
theorem d_S_raise_25 : decode prog_5_method_5_code 25 = .ok (.invokevirtual 30, 3) := by decide +kernel
theorem d_S_raise_28 : decode prog_5_method_5_code 28 = .ok (.lastore, 1) := by decide +kernel
theorem d_S_raise_29 : decode prog_5_method_5_code 29 = .ok (.aload_n 0, 1) := by decide +kernel
theorem d_S_raise_30 : decode prog_5_method_5_code 30 = .ok (.getfield 9, 3) := by decide +kernel
theorem d_S_raise_33 : decode prog_5_method_5_code 33 = .ok (.iload_n 1, 1) := by decide +kernel
theorem d_S_raise_34 : decode prog_5_method_5_code 34 = .ok (.laload, 1) := by decide +kernel
theorem d_S_raise_35 : decode prog_5_method_5_code 35 = .ok (.lreturn, 1) := by decide +kernel
theorem d_S_hasRow_0 : decode prog_5_method_4_code 0 = .ok (.iload_n 1, 1) := by decide +kernel
theorem d_S_hasRow_1 : decode prog_5_method_4_code 1 = .ok (.ifCond .lt 41, 3) := by decide +kernel
theorem d_S_hasRow_4 : decode prog_5_method_4_code 4 = .ok (.iload_n 2, 1) := by decide +kernel
theorem d_S_hasRow_5 : decode prog_5_method_4_code 5 = .ok (.ifCond .lt 37, 3) := by decide +kernel
theorem d_S_hasRow_8 : decode prog_5_method_4_code 8 = .ok (.iload_n 1, 1) := by decide +kernel
theorem d_S_hasRow_9 : decode prog_5_method_4_code 9 = .ok (.aload_n 0, 1) := by decide +kernel
theorem d_S_hasRow_10 : decode prog_5_method_4_code 10 = .ok (.getfield 17, 3) := by decide +kernel
theorem d_S_hasRow_13 : decode prog_5_method_4_code 13 = .ok (.if_icmp .gt 29, 3) := by decide +kernel
theorem d_S_hasRow_16 : decode prog_5_method_4_code 16 = .ok (.iload_n 2, 1) := by decide +kernel
theorem d_S_hasRow_17 : decode prog_5_method_4_code 17 = .ok (.aload_n 0, 1) := by decide +kernel
theorem d_S_hasRow_18 : decode prog_5_method_4_code 18 = .ok (.getfield 17, 3) := by decide +kernel
theorem d_S_hasRow_21 : decode prog_5_method_4_code 21 = .ok (.iload_n 1, 1) := by decide +kernel
theorem d_S_hasRow_22 : decode prog_5_method_4_code 22 = .ok (.isub, 1) := by decide +kernel
theorem d_S_hasRow_23 : decode prog_5_method_4_code 23 = .ok (.if_icmp .gt 19, 3) := by decide +kernel
theorem d_S_hasRow_26 : decode prog_5_method_4_code 26 = .ok (.aload_n 0, 1) := by decide +kernel
theorem d_S_hasRow_27 : decode prog_5_method_4_code 27 = .ok (.getfield 17, 3) := by decide +kernel
theorem d_S_hasRow_30 : decode prog_5_method_4_code 30 = .ok (.aload_n 0, 1) := by decide +kernel
theorem d_S_hasRow_31 : decode prog_5_method_4_code 31 = .ok (.getfield 9, 3) := by decide +kernel
theorem d_S_hasRow_34 : decode prog_5_method_4_code 34 = .ok (.arraylength, 1) := by decide +kernel
theorem d_S_hasRow_35 : decode prog_5_method_4_code 35 = .ok (.if_icmp .gt 7, 3) := by decide +kernel
theorem d_S_hasRow_38 : decode prog_5_method_4_code 38 = .ok (.iconst 1, 1) := by decide +kernel
theorem d_S_hasRow_39 : decode prog_5_method_4_code 39 = .ok (.goto 4, 3) := by decide +kernel
theorem d_S_hasRow_42 : decode prog_5_method_4_code 42 = .ok (.iconst 0, 1) := by decide +kernel
theorem d_S_hasRow_43 : decode prog_5_method_4_code 43 = .ok (.ireturn, 1) := by decide +kernel
theorem d_S_holds_0 : decode prog_5_method_6_code 0 = .ok (.aload_n 0, 1) := by decide +kernel
theorem d_S_holds_1 : decode prog_5_method_6_code 1 = .ok (.iload_n 1, 1) := by decide +kernel
theorem d_S_holds_2 : decode prog_5_method_6_code 2 = .ok (.invokevirtual 26, 3) := by decide +kernel
theorem d_S_holds_5 : decode prog_5_method_6_code 5 = .ok (.ifCond .eq 23, 3) := by decide +kernel
theorem d_S_holds_8 : decode prog_5_method_6_code 8 = .ok (.aload_n 0, 1) := by decide +kernel
theorem d_S_holds_9 : decode prog_5_method_6_code 9 = .ok (.getfield 9, 3) := by decide +kernel
theorem d_S_holds_12 : decode prog_5_method_6_code 12 = .ok (.iload_n 1, 1) := by decide +kernel
theorem d_S_holds_13 : decode prog_5_method_6_code 13 = .ok (.laload, 1) := by decide +kernel
theorem d_S_holds_14 : decode prog_5_method_6_code 14 = .ok (.aload_n 0, 1) := by decide +kernel
theorem d_S_holds_15 : decode prog_5_method_6_code 15 = .ok (.iload_n 2, 1) := by decide +kernel
theorem d_S_holds_16 : decode prog_5_method_6_code 16 = .ok (.i2l, 1) := by decide +kernel
theorem d_S_holds_17 : decode prog_5_method_6_code 17 = .ok (.invokevirtual 30, 3) := by decide +kernel
theorem d_S_holds_20 : decode prog_5_method_6_code 20 = .ok (.lcmp, 1) := by decide +kernel
theorem d_S_holds_21 : decode prog_5_method_6_code 21 = .ok (.ifCond .ne 7, 3) := by decide +kernel
theorem d_S_holds_24 : decode prog_5_method_6_code 24 = .ok (.iconst 1, 1) := by decide +kernel
theorem d_S_holds_25 : decode prog_5_method_6_code 25 = .ok (.goto 4, 3) := by decide +kernel
theorem d_S_holds_28 : decode prog_5_method_6_code 28 = .ok (.iconst 0, 1) := by decide +kernel
theorem d_S_holds_29 : decode prog_5_method_6_code 29 = .ok (.ireturn, 1) := by decide +kernel
theorem d_R_become_0 : decode prog_4_method_8_code 0 = .ok (.aload_n 0, 1) := by decide +kernel
theorem d_R_become_1 : decode prog_4_method_8_code 1 = .ok (.aload_n 1, 1) := by decide +kernel
theorem d_R_become_2 : decode prog_4_method_8_code 2 = .ok (.getfield 26, 3) := by decide +kernel
theorem d_R_become_5 : decode prog_4_method_8_code 5 = .ok (.putfield 26, 3) := by decide +kernel
theorem d_R_become_8 : decode prog_4_method_8_code 8 = .ok (.aload_n 1, 1) := by decide +kernel
theorem d_R_become_9 : decode prog_4_method_8_code 9 = .ok (.getfield 22, 3) := by decide +kernel
theorem d_R_become_12 : decode prog_4_method_8_code 12 = .ok (.iconst 0, 1) := by decide +kernel
theorem d_R_become_13 : decode prog_4_method_8_code 13 = .ok (.aload_n 0, 1) := by decide +kernel
theorem d_R_become_14 : decode prog_4_method_8_code 14 = .ok (.getfield 22, 3) := by decide +kernel
theorem d_R_become_17 : decode prog_4_method_8_code 17 = .ok (.iconst 0, 1) := by decide +kernel
theorem d_R_become_18 : decode prog_4_method_8_code 18 = .ok (.aload_n 0, 1) := by decide +kernel
theorem d_R_become_19 : decode prog_4_method_8_code 19 = .ok (.getfield 22, 3) := by decide +kernel
theorem d_R_become_22 : decode prog_4_method_8_code 22 = .ok (.arraylength, 1) := by decide +kernel
theorem d_R_become_23 : decode prog_4_method_8_code 23 = .ok (.aload_n 1, 1) := by decide +kernel
theorem d_R_become_24 : decode prog_4_method_8_code 24 = .ok (.getfield 22, 3) := by decide +kernel
theorem d_R_become_27 : decode prog_4_method_8_code 27 = .ok (.arraylength, 1) := by decide +kernel
theorem d_R_become_28 : decode prog_4_method_8_code 28 = .ok (.invokestatic 36, 3) := by decide +kernel
theorem d_R_become_31 : decode prog_4_method_8_code 31 = .ok (.invokestatic 39, 3) := by decide +kernel
theorem d_R_become_34 : decode prog_4_method_8_code 34 = .ok (.return_, 1) := by decide +kernel
theorem d_I_become_0 : decode prog_10_method_2_code 0 = .ok (.aload_n 0, 1) := by decide +kernel
theorem d_I_become_1 : decode prog_10_method_2_code 1 = .ok (.getfield 14, 3) := by decide +kernel
theorem d_I_become_4 : decode prog_10_method_2_code 4 = .ok (.aload_n 1, 1) := by decide +kernel
theorem d_I_become_5 : decode prog_10_method_2_code 5 = .ok (.getfield 14, 3) := by decide +kernel
theorem d_I_become_8 : decode prog_10_method_2_code 8 = .ok (.invokevirtual 29, 3) := by decide +kernel
theorem d_I_become_11 : decode prog_10_method_2_code 11 = .ok (.aload_n 0, 1) := by decide +kernel
theorem d_I_become_12 : decode prog_10_method_2_code 12 = .ok (.getfield 20, 3) := by decide +kernel
theorem d_I_become_15 : decode prog_10_method_2_code 15 = .ok (.aload_n 1, 1) := by decide +kernel
theorem d_I_become_16 : decode prog_10_method_2_code 16 = .ok (.getfield 20, 3) := by decide +kernel
theorem d_I_become_19 : decode prog_10_method_2_code 19 = .ok (.invokevirtual 29, 3) := by decide +kernel
theorem d_I_become_22 : decode prog_10_method_2_code 22 = .ok (.aload_n 0, 1) := by decide +kernel
theorem d_I_become_23 : decode prog_10_method_2_code 23 = .ok (.getfield 23, 3) := by decide +kernel
theorem d_I_become_26 : decode prog_10_method_2_code 26 = .ok (.aload_n 1, 1) := by decide +kernel
theorem d_I_become_27 : decode prog_10_method_2_code 27 = .ok (.getfield 23, 3) := by decide +kernel
theorem d_I_become_30 : decode prog_10_method_2_code 30 = .ok (.invokevirtual 29, 3) := by decide +kernel
theorem d_I_become_33 : decode prog_10_method_2_code 33 = .ok (.aload_n 0, 1) := by decide +kernel
theorem d_I_become_34 : decode prog_10_method_2_code 34 = .ok (.getfield 26, 3) := by decide +kernel
theorem d_I_become_37 : decode prog_10_method_2_code 37 = .ok (.aload_n 1, 1) := by decide +kernel
theorem d_I_become_38 : decode prog_10_method_2_code 38 = .ok (.getfield 26, 3) := by decide +kernel
theorem d_I_become_41 : decode prog_10_method_2_code 41 = .ok (.invokevirtual 29, 3) := by decide +kernel
theorem d_I_become_44 : decode prog_10_method_2_code 44 = .ok (.return_, 1) := by decide +kernel
theorem d_L_become_0 : decode prog_3_method_2_code 0 = .ok (.aload_n 0, 1) := by decide +kernel
theorem d_L_become_1 : decode prog_3_method_2_code 1 = .ok (.aload_n 1, 1) := by decide +kernel
theorem d_L_become_2 : decode prog_3_method_2_code 2 = .ok (.getfield 24, 3) := by decide +kernel
theorem d_L_become_5 : decode prog_3_method_2_code 5 = .ok (.putfield 24, 3) := by decide +kernel
theorem d_L_become_8 : decode prog_3_method_2_code 8 = .ok (.iconst 0, 1) := by decide +kernel
theorem d_L_become_9 : decode prog_3_method_2_code 9 = .ok (.istore_n 2, 1) := by decide +kernel
theorem d_L_become_10 : decode prog_3_method_2_code 10 = .ok (.iload_n 2, 1) := by decide +kernel
theorem d_L_become_11 : decode prog_3_method_2_code 11 = .ok (.aload_n 0, 1) := by decide +kernel
theorem d_L_become_12 : decode prog_3_method_2_code 12 = .ok (.getfield 11, 3) := by decide +kernel
theorem d_L_become_15 : decode prog_3_method_2_code 15 = .ok (.arraylength, 1) := by decide +kernel
theorem d_L_become_16 : decode prog_3_method_2_code 16 = .ok (.if_icmp .ge 30, 3) := by decide +kernel
theorem d_L_become_19 : decode prog_3_method_2_code 19 = .ok (.iload_n 2, 1) := by decide +kernel
theorem d_L_become_20 : decode prog_3_method_2_code 20 = .ok (.aload_n 1, 1) := by decide +kernel
theorem d_L_become_21 : decode prog_3_method_2_code 21 = .ok (.getfield 11, 3) := by decide +kernel
theorem d_L_become_24 : decode prog_3_method_2_code 24 = .ok (.arraylength, 1) := by decide +kernel
theorem d_L_become_25 : decode prog_3_method_2_code 25 = .ok (.if_icmp .ge 21, 3) := by decide +kernel
theorem d_L_become_28 : decode prog_3_method_2_code 28 = .ok (.aload_n 0, 1) := by decide +kernel
theorem d_L_become_29 : decode prog_3_method_2_code 29 = .ok (.getfield 11, 3) := by decide +kernel
theorem d_L_become_32 : decode prog_3_method_2_code 32 = .ok (.iload_n 2, 1) := by decide +kernel
theorem d_L_become_33 : decode prog_3_method_2_code 33 = .ok (.aload_n 1, 1) := by decide +kernel
theorem d_L_become_34 : decode prog_3_method_2_code 34 = .ok (.getfield 11, 3) := by decide +kernel
theorem d_L_become_37 : decode prog_3_method_2_code 37 = .ok (.iload_n 2, 1) := by decide +kernel
theorem d_L_become_38 : decode prog_3_method_2_code 38 = .ok (.aaload, 1) := by decide +kernel
theorem d_L_become_39 : decode prog_3_method_2_code 39 = .ok (.aastore, 1) := by decide +kernel
theorem d_L_become_40 : decode prog_3_method_2_code 40 = .ok (.iinc 2 1, 3) := by decide +kernel
theorem d_L_become_43 : decode prog_3_method_2_code 43 = .ok (.goto (-33), 3) := by decide +kernel
theorem d_L_become_46 : decode prog_3_method_2_code 46 = .ok (.return_, 1) := by decide +kernel
theorem d_B_become_0 : decode prog_2_method_2_code 0 = .ok (.aload_n 0, 1) := by decide +kernel
theorem d_B_become_1 : decode prog_2_method_2_code 1 = .ok (.getfield 14, 3) := by decide +kernel
theorem d_B_become_4 : decode prog_2_method_2_code 4 = .ok (.aload_n 1, 1) := by decide +kernel
theorem d_B_become_5 : decode prog_2_method_2_code 5 = .ok (.getfield 14, 3) := by decide +kernel
theorem d_B_become_8 : decode prog_2_method_2_code 8 = .ok (.invokevirtual 49, 3) := by decide +kernel
theorem d_B_become_11 : decode prog_2_method_2_code 11 = .ok (.aload_n 0, 1) := by decide +kernel
theorem d_B_become_12 : decode prog_2_method_2_code 12 = .ok (.getfield 20, 3) := by decide +kernel
theorem d_B_become_15 : decode prog_2_method_2_code 15 = .ok (.aload_n 1, 1) := by decide +kernel
theorem d_B_become_16 : decode prog_2_method_2_code 16 = .ok (.getfield 20, 3) := by decide +kernel
theorem d_B_become_19 : decode prog_2_method_2_code 19 = .ok (.invokevirtual 49, 3) := by decide +kernel
theorem d_B_become_22 : decode prog_2_method_2_code 22 = .ok (.aload_n 0, 1) := by decide +kernel
theorem d_B_become_23 : decode prog_2_method_2_code 23 = .ok (.getfield 23, 3) := by decide +kernel
theorem d_B_become_26 : decode prog_2_method_2_code 26 = .ok (.aload_n 1, 1) := by decide +kernel
theorem d_B_become_27 : decode prog_2_method_2_code 27 = .ok (.getfield 23, 3) := by decide +kernel
theorem d_B_become_30 : decode prog_2_method_2_code 30 = .ok (.invokevirtual 49, 3) := by decide +kernel
theorem d_B_become_33 : decode prog_2_method_2_code 33 = .ok (.aload_n 0, 1) := by decide +kernel
theorem d_B_become_34 : decode prog_2_method_2_code 34 = .ok (.getfield 26, 3) := by decide +kernel
theorem d_B_become_37 : decode prog_2_method_2_code 37 = .ok (.aload_n 1, 1) := by decide +kernel
theorem d_B_become_38 : decode prog_2_method_2_code 38 = .ok (.getfield 26, 3) := by decide +kernel
theorem d_B_become_41 : decode prog_2_method_2_code 41 = .ok (.invokevirtual 49, 3) := by decide +kernel
theorem d_B_become_44 : decode prog_2_method_2_code 44 = .ok (.aload_n 0, 1) := by decide +kernel
theorem d_B_become_45 : decode prog_2_method_2_code 45 = .ok (.getfield 29, 3) := by decide +kernel
theorem d_B_become_48 : decode prog_2_method_2_code 48 = .ok (.aload_n 1, 1) := by decide +kernel
theorem d_B_become_49 : decode prog_2_method_2_code 49 = .ok (.getfield 29, 3) := by decide +kernel
theorem d_B_become_52 : decode prog_2_method_2_code 52 = .ok (.invokevirtual 49, 3) := by decide +kernel
theorem d_B_become_55 : decode prog_2_method_2_code 55 = .ok (.aload_n 0, 1) := by decide +kernel
theorem d_B_become_56 : decode prog_2_method_2_code 56 = .ok (.getfield 32, 3) := by decide +kernel
theorem d_B_become_59 : decode prog_2_method_2_code 59 = .ok (.aload_n 1, 1) := by decide +kernel
theorem d_B_become_60 : decode prog_2_method_2_code 60 = .ok (.getfield 32, 3) := by decide +kernel
theorem d_B_become_63 : decode prog_2_method_2_code 63 = .ok (.invokevirtual 49, 3) := by decide +kernel
theorem d_B_become_66 : decode prog_2_method_2_code 66 = .ok (.aload_n 0, 1) := by decide +kernel
theorem d_B_become_67 : decode prog_2_method_2_code 67 = .ok (.getfield 38, 3) := by decide +kernel
theorem d_B_become_70 : decode prog_2_method_2_code 70 = .ok (.aload_n 1, 1) := by decide +kernel
theorem d_B_become_71 : decode prog_2_method_2_code 71 = .ok (.getfield 38, 3) := by decide +kernel
theorem d_B_become_74 : decode prog_2_method_2_code 74 = .ok (.invokevirtual 53, 3) := by decide +kernel
theorem d_B_become_77 : decode prog_2_method_2_code 77 = .ok (.aload_n 0, 1) := by decide +kernel
theorem d_B_become_78 : decode prog_2_method_2_code 78 = .ok (.getfield 45, 3) := by decide +kernel
theorem d_B_become_81 : decode prog_2_method_2_code 81 = .ok (.aload_n 1, 1) := by decide +kernel
theorem d_B_become_82 : decode prog_2_method_2_code 82 = .ok (.getfield 45, 3) := by decide +kernel
theorem d_B_become_85 : decode prog_2_method_2_code 85 = .ok (.invokevirtual 56, 3) := by decide +kernel
theorem d_B_become_88 : decode prog_2_method_2_code 88 = .ok (.aload_n 0, 1) := by decide +kernel
theorem d_B_become_89 : decode prog_2_method_2_code 89 = .ok (.aload_n 1, 1) := by decide +kernel
theorem d_B_become_90 : decode prog_2_method_2_code 90 = .ok (.getfield 59, 3) := by decide +kernel
theorem d_B_become_93 : decode prog_2_method_2_code 93 = .ok (.putfield 59, 3) := by decide +kernel
theorem d_B_become_96 : decode prog_2_method_2_code 96 = .ok (.aload_n 0, 1) := by decide +kernel
theorem d_B_become_97 : decode prog_2_method_2_code 97 = .ok (.aload_n 1, 1) := by decide +kernel
theorem d_B_become_98 : decode prog_2_method_2_code 98 = .ok (.getfield 63, 3) := by decide +kernel
theorem d_B_become_101 : decode prog_2_method_2_code 101 = .ok (.putfield 63, 3) := by decide +kernel
theorem d_B_become_104 : decode prog_2_method_2_code 104 = .ok (.aload_n 0, 1) := by decide +kernel
theorem d_B_become_105 : decode prog_2_method_2_code 105 = .ok (.aload_n 1, 1) := by decide +kernel
theorem d_B_become_106 : decode prog_2_method_2_code 106 = .ok (.getfield 66, 3) := by decide +kernel
theorem d_B_become_109 : decode prog_2_method_2_code 109 = .ok (.putfield 66, 3) := by decide +kernel
theorem d_B_become_112 : decode prog_2_method_2_code 112 = .ok (.aload_n 0, 1) := by decide +kernel
theorem d_B_become_113 : decode prog_2_method_2_code 113 = .ok (.aload_n 1, 1) := by decide +kernel
theorem d_B_become_114 : decode prog_2_method_2_code 114 = .ok (.getfield 69, 3) := by decide +kernel
theorem d_B_become_117 : decode prog_2_method_2_code 117 = .ok (.putfield 69, 3) := by decide +kernel
theorem d_B_become_120 : decode prog_2_method_2_code 120 = .ok (.return_, 1) := by decide +kernel
theorem d_B_servedByAll_0 : decode prog_2_method_7_code 0 = .ok (.iconst 0, 1) := by decide +kernel
theorem d_B_servedByAll_1 : decode prog_2_method_7_code 1 = .ok (.istore_n 1, 1) := by decide +kernel
theorem d_B_servedByAll_2 : decode prog_2_method_7_code 2 = .ok (.iconst 0, 1) := by decide +kernel
theorem d_B_servedByAll_3 : decode prog_2_method_7_code 3 = .ok (.istore_n 2, 1) := by decide +kernel
theorem d_B_servedByAll_4 : decode prog_2_method_7_code 4 = .ok (.iload_n 2, 1) := by decide +kernel
theorem d_B_servedByAll_5 : decode prog_2_method_7_code 5 = .ok (.aload_n 0, 1) := by decide +kernel
theorem d_B_servedByAll_6 : decode prog_2_method_7_code 6 = .ok (.getfield 14, 3) := by decide +kernel
theorem d_B_servedByAll_9 : decode prog_2_method_7_code 9 = .ok (.getfield 76, 3) := by decide +kernel
theorem d_B_servedByAll_12 : decode prog_2_method_7_code 12 = .ok (.if_icmp .ge 24, 3) := by decide +kernel
theorem d_B_servedByAll_15 : decode prog_2_method_7_code 15 = .ok (.iload_n 1, 1) := by decide +kernel
theorem d_B_servedByAll_16 : decode prog_2_method_7_code 16 = .ok (.aload_n 0, 1) := by decide +kernel
theorem d_B_servedByAll_17 : decode prog_2_method_7_code 17 = .ok (.getfield 38, 3) := by decide +kernel
theorem d_B_servedByAll_20 : decode prog_2_method_7_code 20 = .ok (.iload_n 2, 1) := by decide +kernel
theorem d_B_servedByAll_21 : decode prog_2_method_7_code 21 = .ok (.aload_n 0, 1) := by decide +kernel
theorem d_B_servedByAll_22 : decode prog_2_method_7_code 22 = .ok (.getfield 59, 3) := by decide +kernel
theorem d_B_servedByAll_25 : decode prog_2_method_7_code 25 = .ok (.invokevirtual 97, 3) := by decide +kernel
theorem d_B_servedByAll_28 : decode prog_2_method_7_code 28 = .ok (.iadd, 1) := by decide +kernel
theorem d_B_servedByAll_29 : decode prog_2_method_7_code 29 = .ok (.istore_n 1, 1) := by decide +kernel
theorem d_B_servedByAll_30 : decode prog_2_method_7_code 30 = .ok (.iinc 2 1, 3) := by decide +kernel
theorem d_B_servedByAll_33 : decode prog_2_method_7_code 33 = .ok (.goto (-29), 3) := by decide +kernel
theorem d_B_servedByAll_36 : decode prog_2_method_7_code 36 = .ok (.iload_n 1, 1) := by decide +kernel
theorem d_B_servedByAll_37 : decode prog_2_method_7_code 37 = .ok (.ireturn, 1) := by decide +kernel
theorem d_B_casesThatAre_0 : decode prog_2_method_4_code 0 = .ok (.iconst 0, 1) := by decide +kernel
theorem d_B_casesThatAre_1 : decode prog_2_method_4_code 1 = .ok (.istore_n 2, 1) := by decide +kernel
theorem d_B_casesThatAre_2 : decode prog_2_method_4_code 2 = .ok (.iconst 0, 1) := by decide +kernel
theorem d_B_casesThatAre_3 : decode prog_2_method_4_code 3 = .ok (.istore_n 3, 1) := by decide +kernel
theorem d_B_casesThatAre_4 : decode prog_2_method_4_code 4 = .ok (.iload_n 3, 1) := by decide +kernel
theorem d_B_casesThatAre_5 : decode prog_2_method_4_code 5 = .ok (.aload_n 0, 1) := by decide +kernel
theorem d_B_casesThatAre_6 : decode prog_2_method_4_code 6 = .ok (.getfield 14, 3) := by decide +kernel
theorem d_B_casesThatAre_9 : decode prog_2_method_4_code 9 = .ok (.getfield 76, 3) := by decide +kernel
theorem d_B_casesThatAre_12 : decode prog_2_method_4_code 12 = .ok (.if_icmp .ge 21, 3) := by decide +kernel
theorem d_B_casesThatAre_15 : decode prog_2_method_4_code 15 = .ok (.aload_n 0, 1) := by decide +kernel
theorem d_B_casesThatAre_16 : decode prog_2_method_4_code 16 = .ok (.iload_n 3, 1) := by decide +kernel
theorem d_B_casesThatAre_17 : decode prog_2_method_4_code 17 = .ok (.invokevirtual 79, 3) := by decide +kernel
theorem d_B_casesThatAre_20 : decode prog_2_method_4_code 20 = .ok (.iload_n 1, 1) := by decide +kernel
theorem d_B_casesThatAre_21 : decode prog_2_method_4_code 21 = .ok (.if_icmp .ne 6, 3) := by decide +kernel
theorem d_B_casesThatAre_24 : decode prog_2_method_4_code 24 = .ok (.iinc 2 1, 3) := by decide +kernel
theorem d_B_casesThatAre_27 : decode prog_2_method_4_code 27 = .ok (.iinc 3 1, 3) := by decide +kernel
theorem d_B_casesThatAre_30 : decode prog_2_method_4_code 30 = .ok (.goto (-26), 3) := by decide +kernel
theorem d_B_casesThatAre_33 : decode prog_2_method_4_code 33 = .ok (.iload_n 2, 1) := by decide +kernel
theorem d_B_casesThatAre_34 : decode prog_2_method_4_code 34 = .ok (.ireturn, 1) := by decide +kernel
theorem d_B_hearingsSet_0 : decode prog_2_method_17_code 0 = .ok (.iconst 0, 1) := by decide +kernel
theorem d_B_hearingsSet_1 : decode prog_2_method_17_code 1 = .ok (.istore_n 1, 1) := by decide +kernel
theorem d_B_hearingsSet_2 : decode prog_2_method_17_code 2 = .ok (.iconst 0, 1) := by decide +kernel
theorem d_B_hearingsSet_3 : decode prog_2_method_17_code 3 = .ok (.istore_n 2, 1) := by decide +kernel
theorem d_B_hearingsSet_4 : decode prog_2_method_17_code 4 = .ok (.iload_n 2, 1) := by decide +kernel
theorem d_B_hearingsSet_5 : decode prog_2_method_17_code 5 = .ok (.aload_n 0, 1) := by decide +kernel
theorem d_B_hearingsSet_6 : decode prog_2_method_17_code 6 = .ok (.getfield 26, 3) := by decide +kernel
theorem d_B_hearingsSet_9 : decode prog_2_method_17_code 9 = .ok (.getfield 76, 3) := by decide +kernel
theorem d_B_hearingsSet_12 : decode prog_2_method_17_code 12 = .ok (.if_icmp .ge 24, 3) := by decide +kernel
theorem d_B_hearingsSet_15 : decode prog_2_method_17_code 15 = .ok (.aload_n 0, 1) := by decide +kernel
theorem d_B_hearingsSet_16 : decode prog_2_method_17_code 16 = .ok (.getfield 26, 3) := by decide +kernel
theorem d_B_hearingsSet_19 : decode prog_2_method_17_code 19 = .ok (.iload_n 2, 1) := by decide +kernel
theorem d_B_hearingsSet_20 : decode prog_2_method_17_code 20 = .ok (.iconst 2, 1) := by decide +kernel
theorem d_B_hearingsSet_21 : decode prog_2_method_17_code 21 = .ok (.invokevirtual 72, 3) := by decide +kernel
theorem d_B_hearingsSet_24 : decode prog_2_method_17_code 24 = .ok (.ifCond .ne 6, 3) := by decide +kernel
theorem d_B_hearingsSet_27 : decode prog_2_method_17_code 27 = .ok (.iinc 1 1, 3) := by decide +kernel
theorem d_B_hearingsSet_30 : decode prog_2_method_17_code 30 = .ok (.iinc 2 1, 3) := by decide +kernel
theorem d_B_hearingsSet_33 : decode prog_2_method_17_code 33 = .ok (.goto (-29), 3) := by decide +kernel
theorem d_B_hearingsSet_36 : decode prog_2_method_17_code 36 = .ok (.iload_n 1, 1) := by decide +kernel
theorem d_B_hearingsSet_37 : decode prog_2_method_17_code 37 = .ok (.ireturn, 1) := by decide +kernel
