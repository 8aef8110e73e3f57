/-! decode rows -/
theorem d_M_within_0 : decode prog_12_method_2_code 0 = .ok (.lload_n 0, 1) := by decide +kernel
theorem d_M_within_1 : decode prog_12_method_2_code 1 = .ok (.lload_n 2, 1) := by decide +kernel
theorem d_M_within_2 : decode prog_12_method_2_code 2 = .ok (.lcmp, 1) := by decide +kernel
theorem d_M_within_3 : decode prog_12_method_2_code 3 = .ok (.ifCond .lt 14, 3) := by decide +kernel
theorem d_M_within_6 : decode prog_12_method_2_code 6 = .ok (.lload_n 0, 1) := by decide +kernel
theorem d_M_within_7 : decode prog_12_method_2_code 7 = .ok (.lload 4, 2) := by decide +kernel
theorem d_M_within_9 : decode prog_12_method_2_code 9 = .ok (.lcmp, 1) := by decide +kernel
theorem d_M_within_10 : decode prog_12_method_2_code 10 = .ok (.ifCond .gt 7, 3) := by decide +kernel
theorem d_M_within_13 : decode prog_12_method_2_code 13 = .ok (.iconst 1, 1) := by decide +kernel
theorem d_M_within_14 : decode prog_12_method_2_code 14 = .ok (.goto 4, 3) := by decide +kernel
theorem d_M_within_17 : decode prog_12_method_2_code 17 = .ok (.iconst 0, 1) := by decide +kernel
theorem d_M_within_18 : decode prog_12_method_2_code 18 = .ok (.ireturn, 1) := by decide +kernel
theorem d_M_begins_0 : decode prog_12_method_9_code 0 = .ok (.aload_n 0, 1) := by decide +kernel
theorem d_M_begins_1 : decode prog_12_method_9_code 1 = .ok (.getfield 9, 3) := by decide +kernel
theorem d_M_begins_4 : decode prog_12_method_9_code 4 = .ok (.iconst 4, 1) := by decide +kernel
theorem d_M_begins_5 : decode prog_12_method_9_code 5 = .ok (.iaload, 1) := by decide +kernel
theorem d_M_begins_6 : decode prog_12_method_9_code 6 = .ok (.istore_n 2, 1) := by decide +kernel
theorem d_M_begins_7 : decode prog_12_method_9_code 7 = .ok (.aload_n 0, 1) := by decide +kernel
theorem d_M_begins_8 : decode prog_12_method_9_code 8 = .ok (.getfield 9, 3) := by decide +kernel
theorem d_M_begins_11 : decode prog_12_method_9_code 11 = .ok (.sipush 164, 3) := by decide +kernel
theorem d_M_begins_14 : decode prog_12_method_9_code 14 = .ok (.iconst 3, 1) := by decide +kernel
theorem d_M_begins_15 : decode prog_12_method_9_code 15 = .ok (.iload_n 2, 1) := by decide +kernel
theorem d_M_begins_16 : decode prog_12_method_9_code 16 = .ok (.imul, 1) := by decide +kernel
theorem d_M_begins_17 : decode prog_12_method_9_code 17 = .ok (.iadd, 1) := by decide +kernel
theorem d_M_begins_18 : decode prog_12_method_9_code 18 = .ok (.iload_n 1, 1) := by decide +kernel
theorem d_M_begins_19 : decode prog_12_method_9_code 19 = .ok (.iastore, 1) := by decide +kernel
theorem d_M_begins_20 : decode prog_12_method_9_code 20 = .ok (.aload_n 0, 1) := by decide +kernel
theorem d_M_begins_21 : decode prog_12_method_9_code 21 = .ok (.getfield 9, 3) := by decide +kernel
theorem d_M_begins_24 : decode prog_12_method_9_code 24 = .ok (.sipush 164, 3) := by decide +kernel
theorem d_M_begins_27 : decode prog_12_method_9_code 27 = .ok (.iconst 3, 1) := by decide +kernel
theorem d_M_begins_28 : decode prog_12_method_9_code 28 = .ok (.iload_n 2, 1) := by decide +kernel
theorem d_M_begins_29 : decode prog_12_method_9_code 29 = .ok (.imul, 1) := by decide +kernel
theorem d_M_begins_30 : decode prog_12_method_9_code 30 = .ok (.iadd, 1) := by decide +kernel
theorem d_M_begins_31 : decode prog_12_method_9_code 31 = .ok (.iconst 1, 1) := by decide +kernel
theorem d_M_begins_32 : decode prog_12_method_9_code 32 = .ok (.iadd, 1) := by decide +kernel
theorem d_M_begins_33 : decode prog_12_method_9_code 33 = .ok (.aload_n 0, 1) := by decide +kernel
theorem d_M_begins_34 : decode prog_12_method_9_code 34 = .ok (.getfield 9, 3) := by decide +kernel
theorem d_M_begins_37 : decode prog_12_method_9_code 37 = .ok (.iconst 0, 1) := by decide +kernel
theorem d_M_begins_38 : decode prog_12_method_9_code 38 = .ok (.iaload, 1) := by decide +kernel
theorem d_M_begins_39 : decode prog_12_method_9_code 39 = .ok (.iastore, 1) := by decide +kernel
theorem d_M_begins_40 : decode prog_12_method_9_code 40 = .ok (.aload_n 0, 1) := by decide +kernel
theorem d_M_begins_41 : decode prog_12_method_9_code 41 = .ok (.getfield 9, 3) := by decide +kernel
theorem d_M_begins_44 : decode prog_12_method_9_code 44 = .ok (.sipush 164, 3) := by decide +kernel
theorem d_M_begins_47 : decode prog_12_method_9_code 47 = .ok (.iconst 3, 1) := by decide +kernel
theorem d_M_begins_48 : decode prog_12_method_9_code 48 = .ok (.iload_n 2, 1) := by decide +kernel
theorem d_M_begins_49 : decode prog_12_method_9_code 49 = .ok (.imul, 1) := by decide +kernel
theorem d_M_begins_50 : decode prog_12_method_9_code 50 = .ok (.iadd, 1) := by decide +kernel
theorem d_M_begins_51 : decode prog_12_method_9_code 51 = .ok (.iconst 2, 1) := by decide +kernel
theorem d_M_begins_52 : decode prog_12_method_9_code 52 = .ok (.iadd, 1) := by decide +kernel
theorem d_M_begins_53 : decode prog_12_method_9_code 53 = .ok (.iconst (-1), 1) := by decide +kernel
theorem d_M_begins_54 : decode prog_12_method_9_code 54 = .ok (.iastore, 1) := by decide +kernel
theorem d_M_begins_55 : decode prog_12_method_9_code 55 = .ok (.aload_n 0, 1) := by decide +kernel
theorem d_M_begins_56 : decode prog_12_method_9_code 56 = .ok (.iload_n 1, 1) := by decide +kernel
theorem d_M_begins_57 : decode prog_12_method_9_code 57 = .ok (.iconst 5, 1) := by decide +kernel
theorem d_M_begins_58 : decode prog_12_method_9_code 58 = .ok (.iload_n 2, 1) := by decide +kernel
theorem d_M_begins_59 : decode prog_12_method_9_code 59 = .ok (.invokevirtual 97, 3) := by decide +kernel
theorem d_M_begins_62 : decode prog_12_method_9_code 62 = .ok (.aload_n 0, 1) := by decide +kernel
theorem d_M_begins_63 : decode prog_12_method_9_code 63 = .ok (.getfield 9, 3) := by decide +kernel
theorem d_M_begins_66 : decode prog_12_method_9_code 66 = .ok (.iconst 4, 1) := by decide +kernel
theorem d_M_begins_67 : decode prog_12_method_9_code 67 = .ok (.dup2, 1) := by decide +kernel
theorem d_M_begins_68 : decode prog_12_method_9_code 68 = .ok (.iaload, 1) := by decide +kernel
theorem d_M_begins_69 : decode prog_12_method_9_code 69 = .ok (.iconst 1, 1) := by decide +kernel
theorem d_M_begins_70 : decode prog_12_method_9_code 70 = .ok (.iadd, 1) := by decide +kernel
theorem d_M_begins_71 : decode prog_12_method_9_code 71 = .ok (.iastore, 1) := by decide +kernel
theorem d_M_begins_72 : decode prog_12_method_9_code 72 = .ok (.return_, 1) := by decide +kernel
theorem d_M_there_0 : decode prog_12_method_3_code 0 = .ok (.iload_n 1, 1) := by decide +kernel
theorem d_M_there_1 : decode prog_12_method_3_code 1 = .ok (.i2l, 1) := by decide +kernel
theorem d_M_there_2 : decode prog_12_method_3_code 2 = .ok (.lconst 0, 1) := by decide +kernel
theorem d_M_there_3 : decode prog_12_method_3_code 3 = .ok (.aload_n 0, 1) := by decide +kernel
theorem d_M_there_4 : decode prog_12_method_3_code 4 = .ok (.getfield 9, 3) := by decide +kernel
theorem d_M_there_7 : decode prog_12_method_3_code 7 = .ok (.iload_n 2, 1) := by decide +kernel
theorem d_M_there_8 : decode prog_12_method_3_code 8 = .ok (.iaload, 1) := by decide +kernel
theorem d_M_there_9 : decode prog_12_method_3_code 9 = .ok (.iconst 1, 1) := by decide +kernel
theorem d_M_there_10 : decode prog_12_method_3_code 10 = .ok (.isub, 1) := by decide +kernel
theorem d_M_there_11 : decode prog_12_method_3_code 11 = .ok (.i2l, 1) := by decide +kernel
theorem d_M_there_12 : decode prog_12_method_3_code 12 = .ok (.invokestatic 85, 3) := by decide +kernel
theorem d_M_there_15 : decode prog_12_method_3_code 15 = .ok (.ireturn, 1) := by decide +kernel
theorem d_M_heardOf_0 : decode prog_12_method_12_code 0 = .ok (.iconst 0, 1) := by decide +kernel
theorem d_M_heardOf_1 : decode prog_12_method_12_code 1 = .ok (.istore_n 2, 1) := by decide +kernel
theorem d_M_heardOf_2 : decode prog_12_method_12_code 2 = .ok (.iconst 0, 1) := by decide +kernel
theorem d_M_heardOf_3 : decode prog_12_method_12_code 3 = .ok (.istore_n 3, 1) := by decide +kernel
theorem d_M_heardOf_4 : decode prog_12_method_12_code 4 = .ok (.iload_n 3, 1) := by decide +kernel
theorem d_M_heardOf_5 : decode prog_12_method_12_code 5 = .ok (.aload_n 0, 1) := by decide +kernel
theorem d_M_heardOf_6 : decode prog_12_method_12_code 6 = .ok (.getfield 9, 3) := by decide +kernel
theorem d_M_heardOf_9 : decode prog_12_method_12_code 9 = .ok (.bipush 10, 2) := by decide +kernel
theorem d_M_heardOf_11 : decode prog_12_method_12_code 11 = .ok (.iaload, 1) := by decide +kernel
theorem d_M_heardOf_12 : decode prog_12_method_12_code 12 = .ok (.if_icmp .ge 48, 3) := by decide +kernel
theorem d_M_heardOf_15 : decode prog_12_method_12_code 15 = .ok (.iload_n 2, 1) := by decide +kernel
theorem d_M_heardOf_16 : decode prog_12_method_12_code 16 = .ok (.aload_n 0, 1) := by decide +kernel
theorem d_M_heardOf_17 : decode prog_12_method_12_code 17 = .ok (.getfield 9, 3) := by decide +kernel
theorem d_M_heardOf_20 : decode prog_12_method_12_code 20 = .ok (.sipush 670, 3) := by decide +kernel
theorem d_M_heardOf_23 : decode prog_12_method_12_code 23 = .ok (.bipush 6, 2) := by decide +kernel
theorem d_M_heardOf_25 : decode prog_12_method_12_code 25 = .ok (.iload_n 3, 1) := by decide +kernel
theorem d_M_heardOf_26 : decode prog_12_method_12_code 26 = .ok (.imul, 1) := by decide +kernel
theorem d_M_heardOf_27 : decode prog_12_method_12_code 27 = .ok (.iadd, 1) := by decide +kernel
theorem d_M_heardOf_28 : decode prog_12_method_12_code 28 = .ok (.iaload, 1) := by decide +kernel
theorem d_M_heardOf_29 : decode prog_12_method_12_code 29 = .ok (.iload_n 1, 1) := by decide +kernel
theorem d_M_heardOf_30 : decode prog_12_method_12_code 30 = .ok (.if_icmp .ne 21, 3) := by decide +kernel
theorem d_M_heardOf_33 : decode prog_12_method_12_code 33 = .ok (.aload_n 0, 1) := by decide +kernel
theorem d_M_heardOf_34 : decode prog_12_method_12_code 34 = .ok (.getfield 9, 3) := by decide +kernel
theorem d_M_heardOf_37 : decode prog_12_method_12_code 37 = .ok (.sipush 670, 3) := by decide +kernel
theorem d_M_heardOf_40 : decode prog_12_method_12_code 40 = .ok (.bipush 6, 2) := by decide +kernel
theorem d_M_heardOf_42 : decode prog_12_method_12_code 42 = .ok (.iload_n 3, 1) := by decide +kernel
theorem d_M_heardOf_43 : decode prog_12_method_12_code 43 = .ok (.imul, 1) := by decide +kernel
theorem d_M_heardOf_44 : decode prog_12_method_12_code 44 = .ok (.iadd, 1) := by decide +kernel
theorem d_M_heardOf_45 : decode prog_12_method_12_code 45 = .ok (.iconst 5, 1) := by decide +kernel
theorem d_M_heardOf_46 : decode prog_12_method_12_code 46 = .ok (.iadd, 1) := by decide +kernel
theorem d_M_heardOf_47 : decode prog_12_method_12_code 47 = .ok (.iaload, 1) := by decide +kernel
theorem d_M_heardOf_48 : decode prog_12_method_12_code 48 = .ok (.goto 4, 3) := by decide +kernel
theorem d_M_heardOf_51 : decode prog_12_method_12_code 51 = .ok (.iconst 0, 1) := by decide +kernel
theorem d_M_heardOf_52 : decode prog_12_method_12_code 52 = .ok (.iadd, 1) := by decide +kernel
theorem d_M_heardOf_53 : decode prog_12_method_12_code 53 = .ok (.istore_n 2, 1) := by decide +kernel
theorem d_M_heardOf_54 : decode prog_12_method_12_code 54 = .ok (.iinc 3 1, 3) := by decide +kernel
theorem d_M_heardOf_57 : decode prog_12_method_12_code 57 = .ok (.goto (-53), 3) := by decide +kernel
theorem d_M_heardOf_60 : decode prog_12_method_12_code 60 = .ok (.iload_n 2, 1) := by decide +kernel
theorem d_M_heardOf_61 : decode prog_12_method_12_code 61 = .ok (.ireturn, 1) := by decide +kernel
theorem d_M_bits_0 : decode prog_12_method_6_code 0 = .ok (.iconst 0, 1) := by decide +kernel
theorem d_M_bits_1 : decode prog_12_method_6_code 1 = .ok (.istore_n 1, 1) := by decide +kernel
theorem d_M_bits_2 : decode prog_12_method_6_code 2 = .ok (.iconst 0, 1) := by decide +kernel
theorem d_M_bits_3 : decode prog_12_method_6_code 3 = .ok (.istore_n 2, 1) := by decide +kernel
theorem d_M_bits_4 : decode prog_12_method_6_code 4 = .ok (.iload_n 2, 1) := by decide +kernel
theorem d_M_bits_5 : decode prog_12_method_6_code 5 = .ok (.bipush 16, 2) := by decide +kernel
theorem d_M_bits_7 : decode prog_12_method_6_code 7 = .ok (.if_icmp .ge 17, 3) := by decide +kernel
theorem d_M_bits_10 : decode prog_12_method_6_code 10 = .ok (.iload_n 1, 1) := by decide +kernel
theorem d_M_bits_11 : decode prog_12_method_6_code 11 = .ok (.iload_n 0, 1) := by decide +kernel
theorem d_M_bits_12 : decode prog_12_method_6_code 12 = .ok (.iload_n 2, 1) := by decide +kernel
theorem d_M_bits_13 : decode prog_12_method_6_code 13 = .ok (.ishr, 1) := by decide +kernel
theorem d_M_bits_14 : decode prog_12_method_6_code 14 = .ok (.iconst 1, 1) := by decide +kernel
theorem d_M_bits_15 : decode prog_12_method_6_code 15 = .ok (.iand, 1) := by decide +kernel
theorem d_M_bits_16 : decode prog_12_method_6_code 16 = .ok (.iadd, 1) := by decide +kernel
theorem d_M_bits_17 : decode prog_12_method_6_code 17 = .ok (.istore_n 1, 1) := by decide +kernel
theorem d_M_bits_18 : decode prog_12_method_6_code 18 = .ok (.iinc 2 1, 3) := by decide +kernel
theorem d_M_bits_21 : decode prog_12_method_6_code 21 = .ok (.goto (-17), 3) := by decide +kernel
theorem d_M_bits_24 : decode prog_12_method_6_code 24 = .ok (.iload_n 1, 1) := by decide +kernel
theorem d_M_bits_25 : decode prog_12_method_6_code 25 = .ok (.ireturn, 1) := by decide +kernel
theorem d_M_setOf_0 : decode prog_12_method_14_code 0 = .ok (.iconst 0, 1) := by decide +kernel
theorem d_M_setOf_1 : decode prog_12_method_14_code 1 = .ok (.istore_n 2, 1) := by decide +kernel
theorem d_M_setOf_2 : decode prog_12_method_14_code 2 = .ok (.iload_n 2, 1) := by decide +kernel
theorem d_M_setOf_3 : decode prog_12_method_14_code 3 = .ok (.aload_n 0, 1) := by decide +kernel
theorem d_M_setOf_4 : decode prog_12_method_14_code 4 = .ok (.getfield 9, 3) := by decide +kernel
theorem d_M_setOf_7 : decode prog_12_method_14_code 7 = .ok (.bipush 10, 2) := by decide +kernel
theorem d_M_setOf_9 : decode prog_12_method_14_code 9 = .ok (.iaload, 1) := by decide +kernel
theorem d_M_setOf_10 : decode prog_12_method_14_code 10 = .ok (.if_icmp .ge 46, 3) := by decide +kernel
theorem d_M_setOf_13 : decode prog_12_method_14_code 13 = .ok (.aload_n 0, 1) := by decide +kernel
theorem d_M_setOf_14 : decode prog_12_method_14_code 14 = .ok (.getfield 9, 3) := by decide +kernel
theorem d_M_setOf_17 : decode prog_12_method_14_code 17 = .ok (.sipush 670, 3) := by decide +kernel
theorem d_M_setOf_20 : decode prog_12_method_14_code 20 = .ok (.bipush 6, 2) := by decide +kernel
theorem d_M_setOf_22 : decode prog_12_method_14_code 22 = .ok (.iload_n 2, 1) := by decide +kernel
theorem d_M_setOf_23 : decode prog_12_method_14_code 23 = .ok (.imul, 1) := by decide +kernel
theorem d_M_setOf_24 : decode prog_12_method_14_code 24 = .ok (.iadd, 1) := by decide +kernel
theorem d_M_setOf_25 : decode prog_12_method_14_code 25 = .ok (.iaload, 1) := by decide +kernel
theorem d_M_setOf_26 : decode prog_12_method_14_code 26 = .ok (.iload_n 1, 1) := by decide +kernel
theorem d_M_setOf_27 : decode prog_12_method_14_code 27 = .ok (.if_icmp .ne 23, 3) := by decide +kernel
theorem d_M_setOf_30 : decode prog_12_method_14_code 30 = .ok (.aload_n 0, 1) := by decide +kernel
theorem d_M_setOf_31 : decode prog_12_method_14_code 31 = .ok (.getfield 9, 3) := by decide +kernel
theorem d_M_setOf_34 : decode prog_12_method_14_code 34 = .ok (.sipush 670, 3) := by decide +kernel
theorem d_M_setOf_37 : decode prog_12_method_14_code 37 = .ok (.bipush 6, 2) := by decide +kernel
theorem d_M_setOf_39 : decode prog_12_method_14_code 39 = .ok (.iload_n 2, 1) := by decide +kernel
theorem d_M_setOf_40 : decode prog_12_method_14_code 40 = .ok (.imul, 1) := by decide +kernel
theorem d_M_setOf_41 : decode prog_12_method_14_code 41 = .ok (.iadd, 1) := by decide +kernel
theorem d_M_setOf_42 : decode prog_12_method_14_code 42 = .ok (.iconst 2, 1) := by decide +kernel
theorem d_M_setOf_43 : decode prog_12_method_14_code 43 = .ok (.iadd, 1) := by decide +kernel
theorem d_M_setOf_44 : decode prog_12_method_14_code 44 = .ok (.iaload, 1) := by decide +kernel
theorem d_M_setOf_45 : decode prog_12_method_14_code 45 = .ok (.ifCond .ne 5, 3) := by decide +kernel
theorem d_M_setOf_48 : decode prog_12_method_14_code 48 = .ok (.iload_n 2, 1) := by decide +kernel
theorem d_M_setOf_49 : decode prog_12_method_14_code 49 = .ok (.ireturn, 1) := by decide +kernel
theorem d_M_setOf_50 : decode prog_12_method_14_code 50 = .ok (.iinc 2 1, 3) := by decide +kernel
theorem d_M_setOf_53 : decode prog_12_method_14_code 53 = .ok (.goto (-51), 3) := by decide +kernel
theorem d_M_setOf_56 : decode prog_12_method_14_code 56 = .ok (.iconst (-1), 1) := by decide +kernel
theorem d_M_setOf_57 : decode prog_12_method_14_code 57 = .ok (.ireturn, 1) := by decide +kernel
theorem d_M_sentence_0 : decode prog_12_method_17_code 0 = .ok (.aload_n 0, 1) := by decide +kernel
theorem d_M_sentence_1 : decode prog_12_method_17_code 1 = .ok (.iload_n 1, 1) := by decide +kernel
theorem d_M_sentence_2 : decode prog_12_method_17_code 2 = .ok (.iconst 2, 1) := by decide +kernel
theorem d_M_sentence_3 : decode prog_12_method_17_code 3 = .ok (.invokevirtual 118, 3) := by decide +kernel
theorem d_M_sentence_6 : decode prog_12_method_17_code 6 = .ok (.ifCond .eq 25, 3) := by decide +kernel
theorem d_M_sentence_9 : decode prog_12_method_17_code 9 = .ok (.iload_n 2, 1) := by decide +kernel
theorem d_M_sentence_10 : decode prog_12_method_17_code 10 = .ok (.i2l, 1) := by decide +kernel
theorem d_M_sentence_11 : decode prog_12_method_17_code 11 = .ok (.lconst 1, 1) := by decide +kernel
theorem d_M_sentence_12 : decode prog_12_method_17_code 12 = .ok (.ldc2_w 137, 3) := by decide +kernel
theorem d_M_sentence_15 : decode prog_12_method_17_code 15 = .ok (.invokestatic 85, 3) := by decide +kernel
theorem d_M_sentence_18 : decode prog_12_method_17_code 18 = .ok (.ifCond .eq 13, 3) := by decide +kernel
theorem d_M_sentence_21 : decode prog_12_method_17_code 21 = .ok (.iload_n 3, 1) := by decide +kernel
theorem d_M_sentence_22 : decode prog_12_method_17_code 22 = .ok (.i2l, 1) := by decide +kernel
theorem d_M_sentence_23 : decode prog_12_method_17_code 23 = .ok (.lconst 0, 1) := by decide +kernel
theorem d_M_sentence_24 : decode prog_12_method_17_code 24 = .ok (.lconst 1, 1) := by decide +kernel
theorem d_M_sentence_25 : decode prog_12_method_17_code 25 = .ok (.invokestatic 85, 3) := by decide +kernel
theorem d_M_sentence_28 : decode prog_12_method_17_code 28 = .ok (.ifCond .ne 6, 3) := by decide +kernel
theorem d_M_sentence_31 : decode prog_12_method_17_code 31 = .ok (.ldc 95, 2) := by decide +kernel
theorem d_M_sentence_33 : decode prog_12_method_17_code 33 = .ok (.ireturn, 1) := by decide +kernel
theorem d_M_sentence_34 : decode prog_12_method_17_code 34 = .ok (.aload_n 0, 1) := by decide +kernel
theorem d_M_sentence_35 : decode prog_12_method_17_code 35 = .ok (.iload_n 1, 1) := by decide +kernel
theorem d_M_sentence_36 : decode prog_12_method_17_code 36 = .ok (.iconst 3, 1) := by decide +kernel
theorem d_M_sentence_37 : decode prog_12_method_17_code 37 = .ok (.invokevirtual 105, 3) := by decide +kernel
theorem d_M_sentence_40 : decode prog_12_method_17_code 40 = .ok (.iconst 2, 1) := by decide +kernel
theorem d_M_sentence_41 : decode prog_12_method_17_code 41 = .ok (.if_icmp .ne 6, 3) := by decide +kernel
theorem d_M_sentence_44 : decode prog_12_method_17_code 44 = .ok (.ldc 139, 2) := by decide +kernel
theorem d_M_sentence_46 : decode prog_12_method_17_code 46 = .ok (.ireturn, 1) := by decide +kernel
theorem d_M_sentence_47 : decode prog_12_method_17_code 47 = .ok (.aload_n 0, 1) := by decide +kernel
theorem d_M_sentence_48 : decode prog_12_method_17_code 48 = .ok (.getfield 9, 3) := by decide +kernel
theorem d_M_sentence_51 : decode prog_12_method_17_code 51 = .ok (.iconst 3, 1) := by decide +kernel
theorem d_M_sentence_52 : decode prog_12_method_17_code 52 = .ok (.iaload, 1) := by decide +kernel
theorem d_M_sentence_53 : decode prog_12_method_17_code 53 = .ok (.istore 4, 2) := by decide +kernel
theorem d_M_sentence_55 : decode prog_12_method_17_code 55 = .ok (.iload 4, 2) := by decide +kernel
theorem d_M_sentence_57 : decode prog_12_method_17_code 57 = .ok (.bipush 24, 2) := by decide +kernel
theorem d_M_sentence_59 : decode prog_12_method_17_code 59 = .ok (.if_icmp .ne 6, 3) := by decide +kernel
theorem d_M_sentence_62 : decode prog_12_method_17_code 62 = .ok (.ldc 96, 2) := by decide +kernel
theorem d_M_sentence_64 : decode prog_12_method_17_code 64 = .ok (.ireturn, 1) := by decide +kernel
theorem d_M_sentence_65 : decode prog_12_method_17_code 65 = .ok (.aload_n 0, 1) := by decide +kernel
theorem d_M_sentence_66 : decode prog_12_method_17_code 66 = .ok (.getfield 9, 3) := by decide +kernel
theorem d_M_sentence_69 : decode prog_12_method_17_code 69 = .ok (.bipush 92, 2) := by decide +kernel
theorem d_M_sentence_71 : decode prog_12_method_17_code 71 = .ok (.iconst 3, 1) := by decide +kernel
theorem d_M_sentence_72 : decode prog_12_method_17_code 72 = .ok (.iload 4, 2) := by decide +kernel
theorem d_M_sentence_74 : decode prog_12_method_17_code 74 = .ok (.imul, 1) := by decide +kernel
theorem d_M_sentence_75 : decode prog_12_method_17_code 75 = .ok (.iadd, 1) := by decide +kernel
theorem d_M_sentence_76 : decode prog_12_method_17_code 76 = .ok (.iload_n 1, 1) := by decide +kernel
theorem d_M_sentence_77 : decode prog_12_method_17_code 77 = .ok (.iastore, 1) := by decide +kernel
theorem d_M_sentence_78 : decode prog_12_method_17_code 78 = .ok (.aload_n 0, 1) := by decide +kernel
theorem d_M_sentence_79 : decode prog_12_method_17_code 79 = .ok (.getfield 9, 3) := by decide +kernel
theorem d_M_sentence_82 : decode prog_12_method_17_code 82 = .ok (.bipush 92, 2) := by decide +kernel
theorem d_M_sentence_84 : decode prog_12_method_17_code 84 = .ok (.iconst 3, 1) := by decide +kernel
theorem d_M_sentence_85 : decode prog_12_method_17_code 85 = .ok (.iload 4, 2) := by decide +kernel
theorem d_M_sentence_87 : decode prog_12_method_17_code 87 = .ok (.imul, 1) := by decide +kernel
theorem d_M_sentence_88 : decode prog_12_method_17_code 88 = .ok (.iadd, 1) := by decide +kernel
theorem d_M_sentence_89 : decode prog_12_method_17_code 89 = .ok (.iconst 1, 1) := by decide +kernel
theorem d_M_sentence_90 : decode prog_12_method_17_code 90 = .ok (.iadd, 1) := by decide +kernel
theorem d_M_sentence_91 : decode prog_12_method_17_code 91 = .ok (.iload_n 2, 1) := by decide +kernel
theorem d_M_sentence_92 : decode prog_12_method_17_code 92 = .ok (.iastore, 1) := by decide +kernel
theorem d_M_sentence_93 : decode prog_12_method_17_code 93 = .ok (.aload_n 0, 1) := by decide +kernel
theorem d_M_sentence_94 : decode prog_12_method_17_code 94 = .ok (.getfield 9, 3) := by decide +kernel
theorem d_M_sentence_97 : decode prog_12_method_17_code 97 = .ok (.bipush 92, 2) := by decide +kernel
theorem d_M_sentence_99 : decode prog_12_method_17_code 99 = .ok (.iconst 3, 1) := by decide +kernel
theorem d_M_sentence_100 : decode prog_12_method_17_code 100 = .ok (.iload 4, 2) := by decide +kernel
theorem d_M_sentence_102 : decode prog_12_method_17_code 102 = .ok (.imul, 1) := by decide +kernel
theorem d_M_sentence_103 : decode prog_12_method_17_code 103 = .ok (.iadd, 1) := by decide +kernel
theorem d_M_sentence_104 : decode prog_12_method_17_code 104 = .ok (.iconst 2, 1) := by decide +kernel
theorem d_M_sentence_105 : decode prog_12_method_17_code 105 = .ok (.iadd, 1) := by decide +kernel
theorem d_M_sentence_106 : decode prog_12_method_17_code 106 = .ok (.iload_n 3, 1) := by decide +kernel
theorem d_M_sentence_107 : decode prog_12_method_17_code 107 = .ok (.iastore, 1) := by decide +kernel
theorem d_M_sentence_108 : decode prog_12_method_17_code 108 = .ok (.aload_n 0, 1) := by decide +kernel
theorem d_M_sentence_109 : decode prog_12_method_17_code 109 = .ok (.getfield 9, 3) := by decide +kernel
theorem d_M_sentence_112 : decode prog_12_method_17_code 112 = .ok (.iconst 3, 1) := by decide +kernel
theorem d_M_sentence_113 : decode prog_12_method_17_code 113 = .ok (.dup2, 1) := by decide +kernel
theorem d_M_sentence_114 : decode prog_12_method_17_code 114 = .ok (.iaload, 1) := by decide +kernel
theorem d_M_sentence_115 : decode prog_12_method_17_code 115 = .ok (.iconst 1, 1) := by decide +kernel
theorem d_M_sentence_116 : decode prog_12_method_17_code 116 = .ok (.iadd, 1) := by decide +kernel
theorem d_M_sentence_117 : decode prog_12_method_17_code 117 = .ok (.iastore, 1) := by decide +kernel
theorem d_M_sentence_118 : decode prog_12_method_17_code 118 = .ok (.iload 4, 2) := by decide +kernel
theorem d_M_sentence_120 : decode prog_12_method_17_code 120 = .ok (.ireturn, 1) := by decide +kernel
theorem d_M_gap_0 : decode prog_12_method_18_code 0 = .ok (.aload_n 0, 1) := by decide +kernel
theorem d_M_gap_1 : decode prog_12_method_18_code 1 = .ok (.iload_n 1, 1) := by decide +kernel
theorem d_M_gap_2 : decode prog_12_method_18_code 2 = .ok (.iconst 2, 1) := by decide +kernel
theorem d_M_gap_3 : decode prog_12_method_18_code 3 = .ok (.invokevirtual 118, 3) := by decide +kernel
theorem d_M_gap_6 : decode prog_12_method_18_code 6 = .ok (.ifCond .eq 30, 3) := by decide +kernel
theorem d_M_gap_9 : decode prog_12_method_18_code 9 = .ok (.iload_n 2, 1) := by decide +kernel
theorem d_M_gap_10 : decode prog_12_method_18_code 10 = .ok (.i2l, 1) := by decide +kernel
theorem d_M_gap_11 : decode prog_12_method_18_code 11 = .ok (.lconst 0, 1) := by decide +kernel
theorem d_M_gap_12 : decode prog_12_method_18_code 12 = .ok (.ldc2_w 137, 3) := by decide +kernel
theorem d_M_gap_15 : decode prog_12_method_18_code 15 = .ok (.invokestatic 85, 3) := by decide +kernel
theorem d_M_gap_18 : decode prog_12_method_18_code 18 = .ok (.ifCond .eq 18, 3) := by decide +kernel
theorem d_M_gap_21 : decode prog_12_method_18_code 21 = .ok (.iload_n 3, 1) := by decide +kernel
theorem d_M_gap_22 : decode prog_12_method_18_code 22 = .ok (.i2l, 1) := by decide +kernel
theorem d_M_gap_23 : decode prog_12_method_18_code 23 = .ok (.iload_n 2, 1) := by decide +kernel
theorem d_M_gap_24 : decode prog_12_method_18_code 24 = .ok (.i2l, 1) := by decide +kernel
theorem d_M_gap_25 : decode prog_12_method_18_code 25 = .ok (.lconst 1, 1) := by decide +kernel
theorem d_M_gap_26 : decode prog_12_method_18_code 26 = .ok (.ladd, 1) := by decide +kernel
theorem d_M_gap_27 : decode prog_12_method_18_code 27 = .ok (.ldc2_w 137, 3) := by decide +kernel
theorem d_M_gap_30 : decode prog_12_method_18_code 30 = .ok (.invokestatic 85, 3) := by decide +kernel
theorem d_M_gap_33 : decode prog_12_method_18_code 33 = .ok (.ifCond .ne 6, 3) := by decide +kernel
theorem d_M_gap_36 : decode prog_12_method_18_code 36 = .ok (.ldc 95, 2) := by decide +kernel
theorem d_M_gap_38 : decode prog_12_method_18_code 38 = .ok (.ireturn, 1) := by decide +kernel
theorem d_M_gap_39 : decode prog_12_method_18_code 39 = .ok (.aload_n 0, 1) := by decide +kernel
theorem d_M_gap_40 : decode prog_12_method_18_code 40 = .ok (.getfield 9, 3) := by decide +kernel
theorem d_M_gap_43 : decode prog_12_method_18_code 43 = .ok (.iconst 5, 1) := by decide +kernel
theorem d_M_gap_44 : decode prog_12_method_18_code 44 = .ok (.iaload, 1) := by decide +kernel
theorem d_M_gap_45 : decode prog_12_method_18_code 45 = .ok (.istore 4, 2) := by decide +kernel
theorem d_M_gap_47 : decode prog_12_method_18_code 47 = .ok (.iload 4, 2) := by decide +kernel
theorem d_M_gap_49 : decode prog_12_method_18_code 49 = .ok (.bipush 20, 2) := by decide +kernel
theorem d_M_gap_51 : decode prog_12_method_18_code 51 = .ok (.if_icmp .ne 6, 3) := by decide +kernel
theorem d_M_gap_54 : decode prog_12_method_18_code 54 = .ok (.ldc 96, 2) := by decide +kernel
theorem d_M_gap_56 : decode prog_12_method_18_code 56 = .ok (.ireturn, 1) := by decide +kernel
theorem d_M_gap_57 : decode prog_12_method_18_code 57 = .ok (.aload_n 0, 1) := by decide +kernel
theorem d_M_gap_58 : decode prog_12_method_18_code 58 = .ok (.getfield 9, 3) := by decide +kernel
theorem d_M_gap_61 : decode prog_12_method_18_code 61 = .ok (.sipush 254, 3) := by decide +kernel
theorem d_M_gap_64 : decode prog_12_method_18_code 64 = .ok (.iconst 3, 1) := by decide +kernel
theorem d_M_gap_65 : decode prog_12_method_18_code 65 = .ok (.iload 4, 2) := by decide +kernel
theorem d_M_gap_67 : decode prog_12_method_18_code 67 = .ok (.imul, 1) := by decide +kernel
theorem d_M_gap_68 : decode prog_12_method_18_code 68 = .ok (.iadd, 1) := by decide +kernel
theorem d_M_gap_69 : decode prog_12_method_18_code 69 = .ok (.iload_n 1, 1) := by decide +kernel
theorem d_M_gap_70 : decode prog_12_method_18_code 70 = .ok (.iastore, 1) := by decide +kernel
theorem d_M_gap_71 : decode prog_12_method_18_code 71 = .ok (.aload_n 0, 1) := by decide +kernel
theorem d_M_gap_72 : decode prog_12_method_18_code 72 = .ok (.getfield 9, 3) := by decide +kernel
theorem d_M_gap_75 : decode prog_12_method_18_code 75 = .ok (.sipush 254, 3) := by decide +kernel
theorem d_M_gap_78 : decode prog_12_method_18_code 78 = .ok (.iconst 3, 1) := by decide +kernel
theorem d_M_gap_79 : decode prog_12_method_18_code 79 = .ok (.iload 4, 2) := by decide +kernel
theorem d_M_gap_81 : decode prog_12_method_18_code 81 = .ok (.imul, 1) := by decide +kernel
theorem d_M_gap_82 : decode prog_12_method_18_code 82 = .ok (.iadd, 1) := by decide +kernel
theorem d_M_gap_83 : decode prog_12_method_18_code 83 = .ok (.iconst 1, 1) := by decide +kernel
theorem d_M_gap_84 : decode prog_12_method_18_code 84 = .ok (.iadd, 1) := by decide +kernel
theorem d_M_gap_85 : decode prog_12_method_18_code 85 = .ok (.iload_n 2, 1) := by decide +kernel
theorem d_M_gap_86 : decode prog_12_method_18_code 86 = .ok (.iastore, 1) := by decide +kernel
theorem d_M_gap_87 : decode prog_12_method_18_code 87 = .ok (.aload_n 0, 1) := by decide +kernel
theorem d_M_gap_88 : decode prog_12_method_18_code 88 = .ok (.getfield 9, 3) := by decide +kernel
theorem d_M_gap_91 : decode prog_12_method_18_code 91 = .ok (.sipush 254, 3) := by decide +kernel
theorem d_M_gap_94 : decode prog_12_method_18_code 94 = .ok (.iconst 3, 1) := by decide +kernel
theorem d_M_gap_95 : decode prog_12_method_18_code 95 = .ok (.iload 4, 2) := by decide +kernel
theorem d_M_gap_97 : decode prog_12_method_18_code 97 = .ok (.imul, 1) := by decide +kernel
theorem d_M_gap_98 : decode prog_12_method_18_code 98 = .ok (.iadd, 1) := by decide +kernel
theorem d_M_gap_99 : decode prog_12_method_18_code 99 = .ok (.iconst 2, 1) := by decide +kernel
theorem d_M_gap_100 : decode prog_12_method_18_code 100 = .ok (.iadd, 1) := by decide +kernel
theorem d_M_gap_101 : decode prog_12_method_18_code 101 = .ok (.iload_n 3, 1) := by decide +kernel
theorem d_M_gap_102 : decode prog_12_method_18_code 102 = .ok (.iastore, 1) := by decide +kernel
theorem d_M_gap_103 : decode prog_12_method_18_code 103 = .ok (.aload_n 0, 1) := by decide +kernel
theorem d_M_gap_104 : decode prog_12_method_18_code 104 = .ok (.getfield 9, 3) := by decide +kernel
theorem d_M_gap_107 : decode prog_12_method_18_code 107 = .ok (.iconst 5, 1) := by decide +kernel
theorem d_M_gap_108 : decode prog_12_method_18_code 108 = .ok (.dup2, 1) := by decide +kernel
theorem d_M_gap_109 : decode prog_12_method_18_code 109 = .ok (.iaload, 1) := by decide +kernel
theorem d_M_gap_110 : decode prog_12_method_18_code 110 = .ok (.iconst 1, 1) := by decide +kernel
theorem d_M_gap_111 : decode prog_12_method_18_code 111 = .ok (.iadd, 1) := by decide +kernel
theorem d_M_gap_112 : decode prog_12_method_18_code 112 = .ok (.iastore, 1) := by decide +kernel
theorem d_M_gap_113 : decode prog_12_method_18_code 113 = .ok (.aload_n 0, 1) := by decide +kernel
theorem d_M_gap_114 : decode prog_12_method_18_code 114 = .ok (.getfield 9, 3) := by decide +kernel
theorem d_M_gap_117 : decode prog_12_method_18_code 117 = .ok (.iconst 5, 1) := by decide +kernel
theorem d_M_gap_118 : decode prog_12_method_18_code 118 = .ok (.iaload, 1) := by decide +kernel
theorem d_M_gap_119 : decode prog_12_method_18_code 119 = .ok (.ireturn, 1) := by decide +kernel
theorem d_M_ends_0 : decode prog_12_method_10_code 0 = .ok (.aload_n 0, 1) := by decide +kernel
theorem d_M_ends_1 : decode prog_12_method_10_code 1 = .ok (.iload_n 1, 1) := by decide +kernel
theorem d_M_ends_2 : decode prog_12_method_10_code 2 = .ok (.iconst 5, 1) := by decide +kernel
theorem d_M_ends_3 : decode prog_12_method_10_code 3 = .ok (.invokevirtual 105, 3) := by decide +kernel
theorem d_M_ends_6 : decode prog_12_method_10_code 6 = .ok (.istore_n 2, 1) := by decide +kernel
theorem d_M_ends_7 : decode prog_12_method_10_code 7 = .ok (.iload_n 2, 1) := by decide +kernel
theorem d_M_ends_8 : decode prog_12_method_10_code 8 = .ok (.ifCond .lt 23, 3) := by decide +kernel
theorem d_M_ends_11 : decode prog_12_method_10_code 11 = .ok (.aload_n 0, 1) := by decide +kernel
theorem d_M_ends_12 : decode prog_12_method_10_code 12 = .ok (.getfield 9, 3) := by decide +kernel
theorem d_M_ends_15 : decode prog_12_method_10_code 15 = .ok (.sipush 164, 3) := by decide +kernel
theorem d_M_ends_18 : decode prog_12_method_10_code 18 = .ok (.iconst 3, 1) := by decide +kernel
theorem d_M_ends_19 : decode prog_12_method_10_code 19 = .ok (.iload_n 2, 1) := by decide +kernel
theorem d_M_ends_20 : decode prog_12_method_10_code 20 = .ok (.imul, 1) := by decide +kernel
theorem d_M_ends_21 : decode prog_12_method_10_code 21 = .ok (.iadd, 1) := by decide +kernel
theorem d_M_ends_22 : decode prog_12_method_10_code 22 = .ok (.iconst 2, 1) := by decide +kernel
theorem d_M_ends_23 : decode prog_12_method_10_code 23 = .ok (.iadd, 1) := by decide +kernel
theorem d_M_ends_24 : decode prog_12_method_10_code 24 = .ok (.aload_n 0, 1) := by decide +kernel
theorem d_M_ends_25 : decode prog_12_method_10_code 25 = .ok (.getfield 9, 3) := by decide +kernel
theorem d_M_ends_28 : decode prog_12_method_10_code 28 = .ok (.iconst 0, 1) := by decide +kernel
theorem d_M_ends_29 : decode prog_12_method_10_code 29 = .ok (.iaload, 1) := by decide +kernel
theorem d_M_ends_30 : decode prog_12_method_10_code 30 = .ok (.iastore, 1) := by decide +kernel
theorem d_M_ends_31 : decode prog_12_method_10_code 31 = .ok (.aload_n 0, 1) := by decide +kernel
theorem d_M_ends_32 : decode prog_12_method_10_code 32 = .ok (.iload_n 1, 1) := by decide +kernel
theorem d_M_ends_33 : decode prog_12_method_10_code 33 = .ok (.iconst 5, 1) := by decide +kernel
theorem d_M_ends_34 : decode prog_12_method_10_code 34 = .ok (.iconst (-1), 1) := by decide +kernel
theorem d_M_ends_35 : decode prog_12_method_10_code 35 = .ok (.invokevirtual 97, 3) := by decide +kernel
theorem d_M_ends_38 : decode prog_12_method_10_code 38 = .ok (.return_, 1) := by decide +kernel
theorem d_M_gone_0 : decode prog_12_method_21_code 0 = .ok (.aload_n 0, 1) := by decide +kernel
theorem d_M_gone_1 : decode prog_12_method_21_code 1 = .ok (.iload_n 1, 1) := by decide +kernel
theorem d_M_gone_2 : decode prog_12_method_21_code 2 = .ok (.iconst 2, 1) := by decide +kernel
theorem d_M_gone_3 : decode prog_12_method_21_code 3 = .ok (.invokevirtual 118, 3) := by decide +kernel
theorem d_M_gone_6 : decode prog_12_method_21_code 6 = .ok (.ifCond .ne 6, 3) := by decide +kernel
theorem d_M_gone_9 : decode prog_12_method_21_code 9 = .ok (.ldc 95, 2) := by decide +kernel
theorem d_M_gone_11 : decode prog_12_method_21_code 11 = .ok (.ireturn, 1) := by decide +kernel
theorem d_M_gone_12 : decode prog_12_method_21_code 12 = .ok (.aload_n 0, 1) := by decide +kernel
theorem d_M_gone_13 : decode prog_12_method_21_code 13 = .ok (.iload_n 1, 1) := by decide +kernel
theorem d_M_gone_14 : decode prog_12_method_21_code 14 = .ok (.iconst 3, 1) := by decide +kernel
theorem d_M_gone_15 : decode prog_12_method_21_code 15 = .ok (.invokevirtual 105, 3) := by decide +kernel
theorem d_M_gone_18 : decode prog_12_method_21_code 18 = .ok (.iconst 2, 1) := by decide +kernel
theorem d_M_gone_19 : decode prog_12_method_21_code 19 = .ok (.if_icmp .ne 6, 3) := by decide +kernel
theorem d_M_gone_22 : decode prog_12_method_21_code 22 = .ok (.ldc 139, 2) := by decide +kernel
theorem d_M_gone_24 : decode prog_12_method_21_code 24 = .ok (.ireturn, 1) := by decide +kernel
theorem d_M_gone_25 : decode prog_12_method_21_code 25 = .ok (.aload_n 0, 1) := by decide +kernel
theorem d_M_gone_26 : decode prog_12_method_21_code 26 = .ok (.iload_n 1, 1) := by decide +kernel
theorem d_M_gone_27 : decode prog_12_method_21_code 27 = .ok (.invokevirtual 140, 3) := by decide +kernel
theorem d_M_gone_30 : decode prog_12_method_21_code 30 = .ok (.aload_n 0, 1) := by decide +kernel
theorem d_M_gone_31 : decode prog_12_method_21_code 31 = .ok (.iload_n 1, 1) := by decide +kernel
theorem d_M_gone_32 : decode prog_12_method_21_code 32 = .ok (.iconst 3, 1) := by decide +kernel
theorem d_M_gone_33 : decode prog_12_method_21_code 33 = .ok (.iconst 2, 1) := by decide +kernel
theorem d_M_gone_34 : decode prog_12_method_21_code 34 = .ok (.invokevirtual 97, 3) := by decide +kernel
theorem d_M_gone_37 : decode prog_12_method_21_code 37 = .ok (.iconst 1, 1) := by decide +kernel
theorem d_M_gone_38 : decode prog_12_method_21_code 38 = .ok (.ireturn, 1) := by decide +kernel
theorem d_M_counts_0 : decode prog_12_method_23_code 0 = .ok (.iconst 0, 1) := by decide +kernel
theorem d_M_counts_1 : decode prog_12_method_23_code 1 = .ok (.istore_n 3, 1) := by decide +kernel
theorem d_M_counts_2 : decode prog_12_method_23_code 2 = .ok (.iconst 0, 1) := by decide +kernel
theorem d_M_counts_3 : decode prog_12_method_23_code 3 = .ok (.istore 4, 2) := by decide +kernel
theorem d_M_counts_5 : decode prog_12_method_23_code 5 = .ok (.iload 4, 2) := by decide +kernel
theorem d_M_counts_7 : decode prog_12_method_23_code 7 = .ok (.aload_n 0, 1) := by decide +kernel
theorem d_M_counts_8 : decode prog_12_method_23_code 8 = .ok (.getfield 9, 3) := by decide +kernel
theorem d_M_counts_11 : decode prog_12_method_23_code 11 = .ok (.iconst 4, 1) := by decide +kernel
theorem d_M_counts_12 : decode prog_12_method_23_code 12 = .ok (.iaload, 1) := by decide +kernel
theorem d_M_counts_13 : decode prog_12_method_23_code 13 = .ok (.if_icmp .ge 83, 3) := by decide +kernel
theorem d_M_counts_16 : decode prog_12_method_23_code 16 = .ok (.aload_n 0, 1) := by decide +kernel
theorem d_M_counts_17 : decode prog_12_method_23_code 17 = .ok (.getfield 9, 3) := by decide +kernel
theorem d_M_counts_20 : decode prog_12_method_23_code 20 = .ok (.sipush 164, 3) := by decide +kernel
theorem d_M_counts_23 : decode prog_12_method_23_code 23 = .ok (.iconst 3, 1) := by decide +kernel
theorem d_M_counts_24 : decode prog_12_method_23_code 24 = .ok (.iload 4, 2) := by decide +kernel
theorem d_M_counts_26 : decode prog_12_method_23_code 26 = .ok (.imul, 1) := by decide +kernel
theorem d_M_counts_27 : decode prog_12_method_23_code 27 = .ok (.iadd, 1) := by decide +kernel
theorem d_M_counts_28 : decode prog_12_method_23_code 28 = .ok (.iconst 2, 1) := by decide +kernel
theorem d_M_counts_29 : decode prog_12_method_23_code 29 = .ok (.iadd, 1) := by decide +kernel
theorem d_M_counts_30 : decode prog_12_method_23_code 30 = .ok (.iaload, 1) := by decide +kernel
theorem d_M_counts_31 : decode prog_12_method_23_code 31 = .ok (.istore 5, 2) := by decide +kernel
theorem d_M_counts_33 : decode prog_12_method_23_code 33 = .ok (.iload_n 3, 1) := by decide +kernel
theorem d_M_counts_34 : decode prog_12_method_23_code 34 = .ok (.ifCond .ne 50, 3) := by decide +kernel
theorem d_M_counts_37 : decode prog_12_method_23_code 37 = .ok (.aload_n 0, 1) := by decide +kernel
theorem d_M_counts_38 : decode prog_12_method_23_code 38 = .ok (.getfield 9, 3) := by decide +kernel
theorem d_M_counts_41 : decode prog_12_method_23_code 41 = .ok (.sipush 164, 3) := by decide +kernel
theorem d_M_counts_44 : decode prog_12_method_23_code 44 = .ok (.iconst 3, 1) := by decide +kernel
theorem d_M_counts_45 : decode prog_12_method_23_code 45 = .ok (.iload 4, 2) := by decide +kernel
theorem d_M_counts_47 : decode prog_12_method_23_code 47 = .ok (.imul, 1) := by decide +kernel
theorem d_M_counts_48 : decode prog_12_method_23_code 48 = .ok (.iadd, 1) := by decide +kernel
theorem d_M_counts_49 : decode prog_12_method_23_code 49 = .ok (.iaload, 1) := by decide +kernel
theorem d_M_counts_50 : decode prog_12_method_23_code 50 = .ok (.iload_n 1, 1) := by decide +kernel
theorem d_M_counts_51 : decode prog_12_method_23_code 51 = .ok (.if_icmp .ne 37, 3) := by decide +kernel
theorem d_M_counts_54 : decode prog_12_method_23_code 54 = .ok (.aload_n 0, 1) := by decide +kernel
theorem d_M_counts_55 : decode prog_12_method_23_code 55 = .ok (.getfield 9, 3) := by decide +kernel
theorem d_M_counts_58 : decode prog_12_method_23_code 58 = .ok (.sipush 164, 3) := by decide +kernel
theorem d_M_counts_61 : decode prog_12_method_23_code 61 = .ok (.iconst 3, 1) := by decide +kernel
theorem d_M_counts_62 : decode prog_12_method_23_code 62 = .ok (.iload 4, 2) := by decide +kernel
theorem d_M_counts_64 : decode prog_12_method_23_code 64 = .ok (.imul, 1) := by decide +kernel
theorem d_M_counts_65 : decode prog_12_method_23_code 65 = .ok (.iadd, 1) := by decide +kernel
theorem d_M_counts_66 : decode prog_12_method_23_code 66 = .ok (.iconst 1, 1) := by decide +kernel
theorem d_M_counts_67 : decode prog_12_method_23_code 67 = .ok (.iadd, 1) := by decide +kernel
theorem d_M_counts_68 : decode prog_12_method_23_code 68 = .ok (.iaload, 1) := by decide +kernel
theorem d_M_counts_69 : decode prog_12_method_23_code 69 = .ok (.iload_n 2, 1) := by decide +kernel
theorem d_M_counts_70 : decode prog_12_method_23_code 70 = .ok (.if_icmp .gt 18, 3) := by decide +kernel
theorem d_M_counts_73 : decode prog_12_method_23_code 73 = .ok (.iload 5, 2) := by decide +kernel
theorem d_M_counts_75 : decode prog_12_method_23_code 75 = .ok (.ifCond .lt 9, 3) := by decide +kernel
theorem d_M_counts_78 : decode prog_12_method_23_code 78 = .ok (.iload_n 2, 1) := by decide +kernel
theorem d_M_counts_79 : decode prog_12_method_23_code 79 = .ok (.iload 5, 2) := by decide +kernel
theorem d_M_counts_81 : decode prog_12_method_23_code 81 = .ok (.if_icmp .ge 7, 3) := by decide +kernel
theorem d_M_counts_84 : decode prog_12_method_23_code 84 = .ok (.iconst 1, 1) := by decide +kernel
theorem d_M_counts_85 : decode prog_12_method_23_code 85 = .ok (.goto 4, 3) := by decide +kernel
theorem d_M_counts_88 : decode prog_12_method_23_code 88 = .ok (.iconst 0, 1) := by decide +kernel
theorem d_M_counts_89 : decode prog_12_method_23_code 89 = .ok (.istore_n 3, 1) := by decide +kernel
theorem d_M_counts_90 : decode prog_12_method_23_code 90 = .ok (.iinc 4 1, 3) := by decide +kernel
theorem d_M_counts_93 : decode prog_12_method_23_code 93 = .ok (.goto (-88), 3) := by decide +kernel
theorem d_M_counts_96 : decode prog_12_method_23_code 96 = .ok (.iconst 0, 1) := by decide +kernel
theorem d_M_counts_97 : decode prog_12_method_23_code 97 = .ok (.istore 4, 2) := by decide +kernel
theorem d_M_counts_99 : decode prog_12_method_23_code 99 = .ok (.iload 4, 2) := by decide +kernel
theorem d_M_counts_101 : decode prog_12_method_23_code 101 = .ok (.aload_n 0, 1) := by decide +kernel
theorem d_M_counts_102 : decode prog_12_method_23_code 102 = .ok (.getfield 9, 3) := by decide +kernel
theorem d_M_counts_105 : decode prog_12_method_23_code 105 = .ok (.iconst 5, 1) := by decide +kernel
theorem d_M_counts_106 : decode prog_12_method_23_code 106 = .ok (.iaload, 1) := by decide +kernel
theorem d_M_counts_107 : decode prog_12_method_23_code 107 = .ok (.if_icmp .ge 74, 3) := by decide +kernel
theorem d_M_counts_110 : decode prog_12_method_23_code 110 = .ok (.iload_n 3, 1) := by decide +kernel
theorem d_M_counts_111 : decode prog_12_method_23_code 111 = .ok (.ifCond .eq 62, 3) := by decide +kernel
theorem d_M_counts_114 : decode prog_12_method_23_code 114 = .ok (.aload_n 0, 1) := by decide +kernel
theorem d_M_counts_115 : decode prog_12_method_23_code 115 = .ok (.getfield 9, 3) := by decide +kernel
theorem d_M_counts_118 : decode prog_12_method_23_code 118 = .ok (.sipush 254, 3) := by decide +kernel
theorem d_M_counts_121 : decode prog_12_method_23_code 121 = .ok (.iconst 3, 1) := by decide +kernel
theorem d_M_counts_122 : decode prog_12_method_23_code 122 = .ok (.iload 4, 2) := by decide +kernel
theorem d_M_counts_124 : decode prog_12_method_23_code 124 = .ok (.imul, 1) := by decide +kernel
theorem d_M_counts_125 : decode prog_12_method_23_code 125 = .ok (.iadd, 1) := by decide +kernel
theorem d_M_counts_126 : decode prog_12_method_23_code 126 = .ok (.iaload, 1) := by decide +kernel
theorem d_M_counts_127 : decode prog_12_method_23_code 127 = .ok (.iload_n 1, 1) := by decide +kernel
theorem d_M_counts_128 : decode prog_12_method_23_code 128 = .ok (.if_icmp .ne 41, 3) := by decide +kernel
theorem d_M_counts_131 : decode prog_12_method_23_code 131 = .ok (.iload_n 2, 1) := by decide +kernel
theorem d_M_counts_132 : decode prog_12_method_23_code 132 = .ok (.aload_n 0, 1) := by decide +kernel
theorem d_M_counts_133 : decode prog_12_method_23_code 133 = .ok (.getfield 9, 3) := by decide +kernel
theorem d_M_counts_136 : decode prog_12_method_23_code 136 = .ok (.sipush 254, 3) := by decide +kernel
theorem d_M_counts_139 : decode prog_12_method_23_code 139 = .ok (.iconst 3, 1) := by decide +kernel
theorem d_M_counts_140 : decode prog_12_method_23_code 140 = .ok (.iload 4, 2) := by decide +kernel
theorem d_M_counts_142 : decode prog_12_method_23_code 142 = .ok (.imul, 1) := by decide +kernel
theorem d_M_counts_143 : decode prog_12_method_23_code 143 = .ok (.iadd, 1) := by decide +kernel
theorem d_M_counts_144 : decode prog_12_method_23_code 144 = .ok (.iconst 1, 1) := by decide +kernel
theorem d_M_counts_145 : decode prog_12_method_23_code 145 = .ok (.iadd, 1) := by decide +kernel
theorem d_M_counts_146 : decode prog_12_method_23_code 146 = .ok (.iaload, 1) := by decide +kernel
theorem d_M_counts_147 : decode prog_12_method_23_code 147 = .ok (.if_icmp .lt 22, 3) := by decide +kernel
theorem d_M_counts_150 : decode prog_12_method_23_code 150 = .ok (.iload_n 2, 1) := by decide +kernel
theorem d_M_counts_151 : decode prog_12_method_23_code 151 = .ok (.aload_n 0, 1) := by decide +kernel
theorem d_M_counts_152 : decode prog_12_method_23_code 152 = .ok (.getfield 9, 3) := by decide +kernel
theorem d_M_counts_155 : decode prog_12_method_23_code 155 = .ok (.sipush 254, 3) := by decide +kernel
theorem d_M_counts_158 : decode prog_12_method_23_code 158 = .ok (.iconst 3, 1) := by decide +kernel
theorem d_M_counts_159 : decode prog_12_method_23_code 159 = .ok (.iload 4, 2) := by decide +kernel
theorem d_M_counts_161 : decode prog_12_method_23_code 161 = .ok (.imul, 1) := by decide +kernel
theorem d_M_counts_162 : decode prog_12_method_23_code 162 = .ok (.iadd, 1) := by decide +kernel
theorem d_M_counts_163 : decode prog_12_method_23_code 163 = .ok (.iconst 2, 1) := by decide +kernel
theorem d_M_counts_164 : decode prog_12_method_23_code 164 = .ok (.iadd, 1) := by decide +kernel
theorem d_M_counts_165 : decode prog_12_method_23_code 165 = .ok (.iaload, 1) := by decide +kernel
theorem d_M_counts_166 : decode prog_12_method_23_code 166 = .ok (.if_icmp .lt 7, 3) := by decide +kernel
theorem d_M_counts_169 : decode prog_12_method_23_code 169 = .ok (.iconst 1, 1) := by decide +kernel
theorem d_M_counts_170 : decode prog_12_method_23_code 170 = .ok (.goto 4, 3) := by decide +kernel
theorem d_M_counts_173 : decode prog_12_method_23_code 173 = .ok (.iconst 0, 1) := by decide +kernel
theorem d_M_counts_174 : decode prog_12_method_23_code 174 = .ok (.istore_n 3, 1) := by decide +kernel
theorem d_M_counts_175 : decode prog_12_method_23_code 175 = .ok (.iinc 4 1, 3) := by decide +kernel
theorem d_M_counts_178 : decode prog_12_method_23_code 178 = .ok (.goto (-79), 3) := by decide +kernel
theorem d_M_counts_181 : decode prog_12_method_23_code 181 = .ok (.iload_n 3, 1) := by decide +kernel
theorem d_M_counts_182 : decode prog_12_method_23_code 182 = .ok (.ireturn, 1) := by decide +kernel
theorem d_M_served_0 : decode prog_12_method_25_code 0 = .ok (.aload_n 0, 1) := by decide +kernel
theorem d_M_served_1 : decode prog_12_method_25_code 1 = .ok (.iload_n 1, 1) := by decide +kernel
theorem d_M_served_2 : decode prog_12_method_25_code 2 = .ok (.iconst 2, 1) := by decide +kernel
theorem d_M_served_3 : decode prog_12_method_25_code 3 = .ok (.invokevirtual 118, 3) := by decide +kernel
theorem d_M_served_6 : decode prog_12_method_25_code 6 = .ok (.ifCond .eq 15, 3) := by decide +kernel
theorem d_M_served_9 : decode prog_12_method_25_code 9 = .ok (.iload_n 2, 1) := by decide +kernel
theorem d_M_served_10 : decode prog_12_method_25_code 10 = .ok (.i2l, 1) := by decide +kernel
theorem d_M_served_11 : decode prog_12_method_25_code 11 = .ok (.lconst 0, 1) := by decide +kernel
theorem d_M_served_12 : decode prog_12_method_25_code 12 = .ok (.ldc2_w 137, 3) := by decide +kernel
theorem d_M_served_15 : decode prog_12_method_25_code 15 = .ok (.invokestatic 85, 3) := by decide +kernel
theorem d_M_served_18 : decode prog_12_method_25_code 18 = .ok (.ifCond .ne 8, 3) := by decide +kernel
theorem d_M_served_21 : decode prog_12_method_25_code 21 = .ok (.ldc 95, 2) := by decide +kernel
theorem d_M_served_23 : decode prog_12_method_25_code 23 = .ok (.goto 9, 3) := by decide +kernel
theorem d_M_served_26 : decode prog_12_method_25_code 26 = .ok (.aload_n 0, 1) := by decide +kernel
theorem d_M_served_27 : decode prog_12_method_25_code 27 = .ok (.iload_n 1, 1) := by decide +kernel
theorem d_M_served_28 : decode prog_12_method_25_code 28 = .ok (.iload_n 2, 1) := by decide +kernel
theorem d_M_served_29 : decode prog_12_method_25_code 29 = .ok (.invokevirtual 157, 3) := by decide +kernel
theorem d_M_served_32 : decode prog_12_method_25_code 32 = .ok (.ireturn, 1) := by decide +kernel
theorem d_M_credit_0 : decode prog_12_method_26_code 0 = .ok (.aload_n 0, 1) := by decide +kernel
theorem d_M_credit_1 : decode prog_12_method_26_code 1 = .ok (.iload_n 1, 1) := by decide +kernel
theorem d_M_credit_2 : decode prog_12_method_26_code 2 = .ok (.iconst 2, 1) := by decide +kernel
theorem d_M_credit_3 : decode prog_12_method_26_code 3 = .ok (.invokevirtual 118, 3) := by decide +kernel
theorem d_M_credit_6 : decode prog_12_method_26_code 6 = .ok (.ifCond .eq 21, 3) := by decide +kernel
theorem d_M_credit_9 : decode prog_12_method_26_code 9 = .ok (.iload_n 2, 1) := by decide +kernel
theorem d_M_credit_10 : decode prog_12_method_26_code 10 = .ok (.i2l, 1) := by decide +kernel
theorem d_M_credit_11 : decode prog_12_method_26_code 11 = .ok (.ldc2_w 160, 3) := by decide +kernel
theorem d_M_credit_14 : decode prog_12_method_26_code 14 = .ok (.ldc2_w 162, 3) := by decide +kernel
theorem d_M_credit_17 : decode prog_12_method_26_code 17 = .ok (.invokestatic 85, 3) := by decide +kernel
theorem d_M_credit_20 : decode prog_12_method_26_code 20 = .ok (.ifCond .eq 7, 3) := by decide +kernel
theorem d_M_credit_23 : decode prog_12_method_26_code 23 = .ok (.iload_n 2, 1) := by decide +kernel
theorem d_M_credit_24 : decode prog_12_method_26_code 24 = .ok (.ifCond .ne 6, 3) := by decide +kernel
theorem d_M_credit_27 : decode prog_12_method_26_code 27 = .ok (.ldc 95, 2) := by decide +kernel
theorem d_M_credit_29 : decode prog_12_method_26_code 29 = .ok (.ireturn, 1) := by decide +kernel
theorem d_M_credit_30 : decode prog_12_method_26_code 30 = .ok (.aload_n 0, 1) := by decide +kernel
theorem d_M_credit_31 : decode prog_12_method_26_code 31 = .ok (.iload_n 1, 1) := by decide +kernel
theorem d_M_credit_32 : decode prog_12_method_26_code 32 = .ok (.iconst 3, 1) := by decide +kernel
theorem d_M_credit_33 : decode prog_12_method_26_code 33 = .ok (.invokevirtual 105, 3) := by decide +kernel
theorem d_M_credit_36 : decode prog_12_method_26_code 36 = .ok (.iconst 2, 1) := by decide +kernel
theorem d_M_credit_37 : decode prog_12_method_26_code 37 = .ok (.if_icmp .ne 6, 3) := by decide +kernel
theorem d_M_credit_40 : decode prog_12_method_26_code 40 = .ok (.ldc 139, 2) := by decide +kernel
theorem d_M_credit_42 : decode prog_12_method_26_code 42 = .ok (.ireturn, 1) := by decide +kernel
theorem d_M_credit_43 : decode prog_12_method_26_code 43 = .ok (.aload_n 0, 1) := by decide +kernel
theorem d_M_credit_44 : decode prog_12_method_26_code 44 = .ok (.getfield 9, 3) := by decide +kernel
theorem d_M_credit_47 : decode prog_12_method_26_code 47 = .ok (.bipush 6, 2) := by decide +kernel
theorem d_M_credit_49 : decode prog_12_method_26_code 49 = .ok (.iaload, 1) := by decide +kernel
theorem d_M_credit_50 : decode prog_12_method_26_code 50 = .ok (.istore_n 3, 1) := by decide +kernel
theorem d_M_credit_51 : decode prog_12_method_26_code 51 = .ok (.iload_n 3, 1) := by decide +kernel
theorem d_M_credit_52 : decode prog_12_method_26_code 52 = .ok (.bipush 40, 2) := by decide +kernel
theorem d_M_credit_54 : decode prog_12_method_26_code 54 = .ok (.if_icmp .ne 6, 3) := by decide +kernel
theorem d_M_credit_57 : decode prog_12_method_26_code 57 = .ok (.ldc 96, 2) := by decide +kernel
theorem d_M_credit_59 : decode prog_12_method_26_code 59 = .ok (.ireturn, 1) := by decide +kernel
theorem d_M_credit_60 : decode prog_12_method_26_code 60 = .ok (.aload_n 0, 1) := by decide +kernel
theorem d_M_credit_61 : decode prog_12_method_26_code 61 = .ok (.getfield 9, 3) := by decide +kernel
theorem d_M_credit_64 : decode prog_12_method_26_code 64 = .ok (.sipush 314, 3) := by decide +kernel
theorem d_M_credit_67 : decode prog_12_method_26_code 67 = .ok (.iconst 4, 1) := by decide +kernel
theorem d_M_credit_68 : decode prog_12_method_26_code 68 = .ok (.iload_n 3, 1) := by decide +kernel
theorem d_M_credit_69 : decode prog_12_method_26_code 69 = .ok (.imul, 1) := by decide +kernel
theorem d_M_credit_70 : decode prog_12_method_26_code 70 = .ok (.iadd, 1) := by decide +kernel
theorem d_M_credit_71 : decode prog_12_method_26_code 71 = .ok (.iload_n 1, 1) := by decide +kernel
theorem d_M_credit_72 : decode prog_12_method_26_code 72 = .ok (.iastore, 1) := by decide +kernel
theorem d_M_credit_73 : decode prog_12_method_26_code 73 = .ok (.aload_n 0, 1) := by decide +kernel
theorem d_M_credit_74 : decode prog_12_method_26_code 74 = .ok (.getfield 9, 3) := by decide +kernel
theorem d_M_credit_77 : decode prog_12_method_26_code 77 = .ok (.sipush 314, 3) := by decide +kernel
theorem d_M_credit_80 : decode prog_12_method_26_code 80 = .ok (.iconst 4, 1) := by decide +kernel
theorem d_M_credit_81 : decode prog_12_method_26_code 81 = .ok (.iload_n 3, 1) := by decide +kernel
theorem d_M_credit_82 : decode prog_12_method_26_code 82 = .ok (.imul, 1) := by decide +kernel
theorem d_M_credit_83 : decode prog_12_method_26_code 83 = .ok (.iadd, 1) := by decide +kernel
theorem d_M_credit_84 : decode prog_12_method_26_code 84 = .ok (.iconst 1, 1) := by decide +kernel
theorem d_M_credit_85 : decode prog_12_method_26_code 85 = .ok (.iadd, 1) := by decide +kernel
theorem d_M_credit_86 : decode prog_12_method_26_code 86 = .ok (.iload_n 2, 1) := by decide +kernel
theorem d_M_credit_87 : decode prog_12_method_26_code 87 = .ok (.iastore, 1) := by decide +kernel
theorem d_M_credit_88 : decode prog_12_method_26_code 88 = .ok (.aload_n 0, 1) := by decide +kernel
theorem d_M_credit_89 : decode prog_12_method_26_code 89 = .ok (.getfield 9, 3) := by decide +kernel
theorem d_M_credit_92 : decode prog_12_method_26_code 92 = .ok (.sipush 314, 3) := by decide +kernel
theorem d_M_credit_95 : decode prog_12_method_26_code 95 = .ok (.iconst 4, 1) := by decide +kernel
theorem d_M_credit_96 : decode prog_12_method_26_code 96 = .ok (.iload_n 3, 1) := by decide +kernel
theorem d_M_credit_97 : decode prog_12_method_26_code 97 = .ok (.imul, 1) := by decide +kernel
theorem d_M_credit_98 : decode prog_12_method_26_code 98 = .ok (.iadd, 1) := by decide +kernel
theorem d_M_credit_99 : decode prog_12_method_26_code 99 = .ok (.iconst 2, 1) := by decide +kernel
theorem d_M_credit_100 : decode prog_12_method_26_code 100 = .ok (.iadd, 1) := by decide +kernel
theorem d_M_credit_101 : decode prog_12_method_26_code 101 = .ok (.aload_n 0, 1) := by decide +kernel
theorem d_M_credit_102 : decode prog_12_method_26_code 102 = .ok (.getfield 9, 3) := by decide +kernel
theorem d_M_credit_105 : decode prog_12_method_26_code 105 = .ok (.iconst 0, 1) := by decide +kernel
theorem d_M_credit_106 : decode prog_12_method_26_code 106 = .ok (.iaload, 1) := by decide +kernel
theorem d_M_credit_107 : decode prog_12_method_26_code 107 = .ok (.iastore, 1) := by decide +kernel
theorem d_M_credit_108 : decode prog_12_method_26_code 108 = .ok (.aload_n 0, 1) := by decide +kernel
theorem d_M_credit_109 : decode prog_12_method_26_code 109 = .ok (.getfield 9, 3) := by decide +kernel
theorem d_M_credit_112 : decode prog_12_method_26_code 112 = .ok (.sipush 314, 3) := by decide +kernel
theorem d_M_credit_115 : decode prog_12_method_26_code 115 = .ok (.iconst 4, 1) := by decide +kernel
theorem d_M_credit_116 : decode prog_12_method_26_code 116 = .ok (.iload_n 3, 1) := by decide +kernel
theorem d_M_credit_117 : decode prog_12_method_26_code 117 = .ok (.imul, 1) := by decide +kernel
theorem d_M_credit_118 : decode prog_12_method_26_code 118 = .ok (.iadd, 1) := by decide +kernel
theorem d_M_credit_119 : decode prog_12_method_26_code 119 = .ok (.iconst 3, 1) := by decide +kernel
theorem d_M_credit_120 : decode prog_12_method_26_code 120 = .ok (.iadd, 1) := by decide +kernel
theorem d_M_credit_121 : decode prog_12_method_26_code 121 = .ok (.iconst (-1), 1) := by decide +kernel
theorem d_M_credit_122 : decode prog_12_method_26_code 122 = .ok (.iastore, 1) := by decide +kernel
theorem d_M_credit_123 : decode prog_12_method_26_code 123 = .ok (.aload_n 0, 1) := by decide +kernel
theorem d_M_credit_124 : decode prog_12_method_26_code 124 = .ok (.getfield 9, 3) := by decide +kernel
theorem d_M_credit_127 : decode prog_12_method_26_code 127 = .ok (.bipush 6, 2) := by decide +kernel
theorem d_M_credit_129 : decode prog_12_method_26_code 129 = .ok (.dup2, 1) := by decide +kernel
theorem d_M_credit_130 : decode prog_12_method_26_code 130 = .ok (.iaload, 1) := by decide +kernel
theorem d_M_credit_131 : decode prog_12_method_26_code 131 = .ok (.iconst 1, 1) := by decide +kernel
theorem d_M_credit_132 : decode prog_12_method_26_code 132 = .ok (.iadd, 1) := by decide +kernel
theorem d_M_credit_133 : decode prog_12_method_26_code 133 = .ok (.iastore, 1) := by decide +kernel
theorem d_M_credit_134 : decode prog_12_method_26_code 134 = .ok (.iload_n 3, 1) := by decide +kernel
theorem d_M_credit_135 : decode prog_12_method_26_code 135 = .ok (.ireturn, 1) := by decide +kernel
theorem d_M_back_0 : decode prog_12_method_27_code 0 = .ok (.aload_n 0, 1) := by decide +kernel
theorem d_M_back_1 : decode prog_12_method_27_code 1 = .ok (.iload_n 1, 1) := by decide +kernel
theorem d_M_back_2 : decode prog_12_method_27_code 2 = .ok (.bipush 6, 2) := by decide +kernel
theorem d_M_back_4 : decode prog_12_method_27_code 4 = .ok (.invokevirtual 118, 3) := by decide +kernel
theorem d_M_back_7 : decode prog_12_method_27_code 7 = .ok (.ifCond .ne 6, 3) := by decide +kernel
theorem d_M_back_10 : decode prog_12_method_27_code 10 = .ok (.ldc 95, 2) := by decide +kernel
theorem d_M_back_12 : decode prog_12_method_27_code 12 = .ok (.ireturn, 1) := by decide +kernel
theorem d_M_back_13 : decode prog_12_method_27_code 13 = .ok (.sipush 314, 3) := by decide +kernel
theorem d_M_back_16 : decode prog_12_method_27_code 16 = .ok (.iconst 4, 1) := by decide +kernel
theorem d_M_back_17 : decode prog_12_method_27_code 17 = .ok (.iload_n 1, 1) := by decide +kernel
theorem d_M_back_18 : decode prog_12_method_27_code 18 = .ok (.imul, 1) := by decide +kernel
theorem d_M_back_19 : decode prog_12_method_27_code 19 = .ok (.iadd, 1) := by decide +kernel
theorem d_M_back_20 : decode prog_12_method_27_code 20 = .ok (.istore_n 2, 1) := by decide +kernel
theorem d_M_back_21 : decode prog_12_method_27_code 21 = .ok (.aload_n 0, 1) := by decide +kernel
theorem d_M_back_22 : decode prog_12_method_27_code 22 = .ok (.getfield 9, 3) := by decide +kernel
theorem d_M_back_25 : decode prog_12_method_27_code 25 = .ok (.iload_n 2, 1) := by decide +kernel
theorem d_M_back_26 : decode prog_12_method_27_code 26 = .ok (.iconst 1, 1) := by decide +kernel
theorem d_M_back_27 : decode prog_12_method_27_code 27 = .ok (.iadd, 1) := by decide +kernel
theorem d_M_back_28 : decode prog_12_method_27_code 28 = .ok (.iaload, 1) := by decide +kernel
theorem d_M_back_29 : decode prog_12_method_27_code 29 = .ok (.ifCond .le 6, 3) := by decide +kernel
theorem d_M_back_32 : decode prog_12_method_27_code 32 = .ok (.ldc 164, 2) := by decide +kernel
theorem d_M_back_34 : decode prog_12_method_27_code 34 = .ok (.ireturn, 1) := by decide +kernel
theorem d_M_back_35 : decode prog_12_method_27_code 35 = .ok (.aload_n 0, 1) := by decide +kernel
theorem d_M_back_36 : decode prog_12_method_27_code 36 = .ok (.getfield 9, 3) := by decide +kernel
theorem d_M_back_39 : decode prog_12_method_27_code 39 = .ok (.iload_n 2, 1) := by decide +kernel
theorem d_M_back_40 : decode prog_12_method_27_code 40 = .ok (.iconst 3, 1) := by decide +kernel
theorem d_M_back_41 : decode prog_12_method_27_code 41 = .ok (.iadd, 1) := by decide +kernel
theorem d_M_back_42 : decode prog_12_method_27_code 42 = .ok (.iaload, 1) := by decide +kernel
theorem d_M_back_43 : decode prog_12_method_27_code 43 = .ok (.ifCond .lt 6, 3) := by decide +kernel
theorem d_M_back_46 : decode prog_12_method_27_code 46 = .ok (.ldc 139, 2) := by decide +kernel
theorem d_M_back_48 : decode prog_12_method_27_code 48 = .ok (.ireturn, 1) := by decide +kernel
theorem d_M_back_49 : decode prog_12_method_27_code 49 = .ok (.aload_n 0, 1) := by decide +kernel
theorem d_M_back_50 : decode prog_12_method_27_code 50 = .ok (.getfield 9, 3) := by decide +kernel
theorem d_M_back_53 : decode prog_12_method_27_code 53 = .ok (.iload_n 2, 1) := by decide +kernel
theorem d_M_back_54 : decode prog_12_method_27_code 54 = .ok (.iconst 3, 1) := by decide +kernel
theorem d_M_back_55 : decode prog_12_method_27_code 55 = .ok (.iadd, 1) := by decide +kernel
theorem d_M_back_56 : decode prog_12_method_27_code 56 = .ok (.aload_n 0, 1) := by decide +kernel
theorem d_M_back_57 : decode prog_12_method_27_code 57 = .ok (.getfield 9, 3) := by decide +kernel
theorem d_M_back_60 : decode prog_12_method_27_code 60 = .ok (.iconst 0, 1) := by decide +kernel
theorem d_M_back_61 : decode prog_12_method_27_code 61 = .ok (.iaload, 1) := by decide +kernel
theorem d_M_back_62 : decode prog_12_method_27_code 62 = .ok (.iastore, 1) := by decide +kernel
theorem d_M_back_63 : decode prog_12_method_27_code 63 = .ok (.iconst 1, 1) := by decide +kernel
theorem d_M_back_64 : decode prog_12_method_27_code 64 = .ok (.ireturn, 1) := by decide +kernel
theorem d_M_credits_0 : decode prog_12_method_29_code 0 = .ok (.aload_n 0, 1) := by decide +kernel
theorem d_M_credits_1 : decode prog_12_method_29_code 1 = .ok (.iload_n 1, 1) := by decide +kernel
theorem d_M_credits_2 : decode prog_12_method_29_code 2 = .ok (.iconst 2, 1) := by decide +kernel
theorem d_M_credits_3 : decode prog_12_method_29_code 3 = .ok (.invokevirtual 118, 3) := by decide +kernel
theorem d_M_credits_6 : decode prog_12_method_29_code 6 = .ok (.ifCond .eq 15, 3) := by decide +kernel
theorem d_M_credits_9 : decode prog_12_method_29_code 9 = .ok (.iload_n 2, 1) := by decide +kernel
theorem d_M_credits_10 : decode prog_12_method_29_code 10 = .ok (.i2l, 1) := by decide +kernel
theorem d_M_credits_11 : decode prog_12_method_29_code 11 = .ok (.lconst 0, 1) := by decide +kernel
theorem d_M_credits_12 : decode prog_12_method_29_code 12 = .ok (.ldc2_w 165, 3) := by decide +kernel
theorem d_M_credits_15 : decode prog_12_method_29_code 15 = .ok (.invokestatic 85, 3) := by decide +kernel
theorem d_M_credits_18 : decode prog_12_method_29_code 18 = .ok (.ifCond .ne 8, 3) := by decide +kernel
theorem d_M_credits_21 : decode prog_12_method_29_code 21 = .ok (.ldc 95, 2) := by decide +kernel
theorem d_M_credits_23 : decode prog_12_method_29_code 23 = .ok (.goto 9, 3) := by decide +kernel
theorem d_M_credits_26 : decode prog_12_method_29_code 26 = .ok (.aload_n 0, 1) := by decide +kernel
theorem d_M_credits_27 : decode prog_12_method_29_code 27 = .ok (.iload_n 1, 1) := by decide +kernel
theorem d_M_credits_28 : decode prog_12_method_29_code 28 = .ok (.iload_n 2, 1) := by decide +kernel
theorem d_M_credits_29 : decode prog_12_method_29_code 29 = .ok (.invokevirtual 167, 3) := by decide +kernel
theorem d_M_credits_32 : decode prog_12_method_29_code 32 = .ok (.ireturn, 1) := by decide +kernel
theorem d_M_done_0 : decode prog_12_method_54_code 0 = .ok (.iload_n 0, 1) := by decide +kernel
theorem d_M_done_1 : decode prog_12_method_54_code 1 = .ok (.tableswitch 120 0 7 #[47, 61, 75, 86, 97, 108, 112, 116], 47) := by decide +kernel
theorem d_M_done_48 : decode prog_12_method_54_code 48 = .ok (.iload_n 1, 1) := by decide +kernel
theorem d_M_done_49 : decode prog_12_method_54_code 49 = .ok (.ifCond .ne 7, 3) := by decide +kernel
theorem d_M_done_52 : decode prog_12_method_54_code 52 = .ok (.iload_n 2, 1) := by decide +kernel
theorem d_M_done_53 : decode prog_12_method_54_code 53 = .ok (.ifCond .eq 7, 3) := by decide +kernel
theorem d_M_done_56 : decode prog_12_method_54_code 56 = .ok (.iconst 1, 1) := by decide +kernel
theorem d_M_done_57 : decode prog_12_method_54_code 57 = .ok (.goto 4, 3) := by decide +kernel
theorem d_M_done_60 : decode prog_12_method_54_code 60 = .ok (.iconst 0, 1) := by decide +kernel
theorem d_M_done_61 : decode prog_12_method_54_code 61 = .ok (.ireturn, 1) := by decide +kernel
theorem d_M_done_62 : decode prog_12_method_54_code 62 = .ok (.iload_n 1, 1) := by decide +kernel
theorem d_M_done_63 : decode prog_12_method_54_code 63 = .ok (.ifCond .eq 11, 3) := by decide +kernel
theorem d_M_done_66 : decode prog_12_method_54_code 66 = .ok (.iload_n 2, 1) := by decide +kernel
theorem d_M_done_67 : decode prog_12_method_54_code 67 = .ok (.ifCond .eq 7, 3) := by decide +kernel
theorem d_M_done_70 : decode prog_12_method_54_code 70 = .ok (.iconst 1, 1) := by decide +kernel
theorem d_M_done_71 : decode prog_12_method_54_code 71 = .ok (.goto 4, 3) := by decide +kernel
theorem d_M_done_74 : decode prog_12_method_54_code 74 = .ok (.iconst 0, 1) := by decide +kernel
theorem d_M_done_75 : decode prog_12_method_54_code 75 = .ok (.ireturn, 1) := by decide +kernel
theorem d_M_done_76 : decode prog_12_method_54_code 76 = .ok (.iload_n 1, 1) := by decide +kernel
theorem d_M_done_77 : decode prog_12_method_54_code 77 = .ok (.iload_n 2, 1) := by decide +kernel
theorem d_M_done_78 : decode prog_12_method_54_code 78 = .ok (.if_icmp .ge 7, 3) := by decide +kernel
theorem d_M_done_81 : decode prog_12_method_54_code 81 = .ok (.iconst 1, 1) := by decide +kernel
theorem d_M_done_82 : decode prog_12_method_54_code 82 = .ok (.goto 4, 3) := by decide +kernel
theorem d_M_done_85 : decode prog_12_method_54_code 85 = .ok (.iconst 0, 1) := by decide +kernel
theorem d_M_done_86 : decode prog_12_method_54_code 86 = .ok (.ireturn, 1) := by decide +kernel
theorem d_M_done_87 : decode prog_12_method_54_code 87 = .ok (.iload_n 1, 1) := by decide +kernel
theorem d_M_done_88 : decode prog_12_method_54_code 88 = .ok (.iload_n 2, 1) := by decide +kernel
theorem d_M_done_89 : decode prog_12_method_54_code 89 = .ok (.if_icmp .ne 7, 3) := by decide +kernel
theorem d_M_done_92 : decode prog_12_method_54_code 92 = .ok (.iconst 1, 1) := by decide +kernel
theorem d_M_done_93 : decode prog_12_method_54_code 93 = .ok (.goto 4, 3) := by decide +kernel
theorem d_M_done_96 : decode prog_12_method_54_code 96 = .ok (.iconst 0, 1) := by decide +kernel
theorem d_M_done_97 : decode prog_12_method_54_code 97 = .ok (.ireturn, 1) := by decide +kernel
theorem d_M_done_98 : decode prog_12_method_54_code 98 = .ok (.iload_n 1, 1) := by decide +kernel
theorem d_M_done_99 : decode prog_12_method_54_code 99 = .ok (.iload_n 2, 1) := by decide +kernel
theorem d_M_done_100 : decode prog_12_method_54_code 100 = .ok (.if_icmp .le 7, 3) := by decide +kernel
theorem d_M_done_103 : decode prog_12_method_54_code 103 = .ok (.iconst 1, 1) := by decide +kernel
theorem d_M_done_104 : decode prog_12_method_54_code 104 = .ok (.goto 4, 3) := by decide +kernel
theorem d_M_done_107 : decode prog_12_method_54_code 107 = .ok (.iconst 0, 1) := by decide +kernel
theorem d_M_done_108 : decode prog_12_method_54_code 108 = .ok (.ireturn, 1) := by decide +kernel
theorem d_M_done_109 : decode prog_12_method_54_code 109 = .ok (.iload_n 1, 1) := by decide +kernel
theorem d_M_done_110 : decode prog_12_method_54_code 110 = .ok (.iload_n 2, 1) := by decide +kernel
theorem d_M_done_111 : decode prog_12_method_54_code 111 = .ok (.iadd, 1) := by decide +kernel
theorem d_M_done_112 : decode prog_12_method_54_code 112 = .ok (.ireturn, 1) := by decide +kernel
theorem d_M_done_113 : decode prog_12_method_54_code 113 = .ok (.iload_n 1, 1) := by decide +kernel
theorem d_M_done_114 : decode prog_12_method_54_code 114 = .ok (.iload_n 2, 1) := by decide +kernel
theorem d_M_done_115 : decode prog_12_method_54_code 115 = .ok (.isub, 1) := by decide +kernel
theorem d_M_done_116 : decode prog_12_method_54_code 116 = .ok (.ireturn, 1) := by decide +kernel
theorem d_M_done_117 : decode prog_12_method_54_code 117 = .ok (.iload_n 1, 1) := by decide +kernel
theorem d_M_done_118 : decode prog_12_method_54_code 118 = .ok (.iload_n 2, 1) := by decide +kernel
theorem d_M_done_119 : decode prog_12_method_54_code 119 = .ok (.imul, 1) := by decide +kernel
theorem d_M_done_120 : decode prog_12_method_54_code 120 = .ok (.ireturn, 1) := by decide +kernel
theorem d_M_done_121 : decode prog_12_method_54_code 121 = .ok (.iload_n 2, 1) := by decide +kernel
theorem d_M_done_122 : decode prog_12_method_54_code 122 = .ok (.ifCond .ne 7, 3) := by decide +kernel
theorem d_M_done_125 : decode prog_12_method_54_code 125 = .ok (.iconst 0, 1) := by decide +kernel
theorem d_M_done_126 : decode prog_12_method_54_code 126 = .ok (.goto 6, 3) := by decide +kernel
theorem d_M_done_129 : decode prog_12_method_54_code 129 = .ok (.iload_n 1, 1) := by decide +kernel
theorem d_M_done_130 : decode prog_12_method_54_code 130 = .ok (.iload_n 2, 1) := by decide +kernel
theorem d_M_done_131 : decode prog_12_method_54_code 131 = .ok (.idiv, 1) := by decide +kernel
theorem d_M_done_132 : decode prog_12_method_54_code 132 = .ok (.ireturn, 1) := by decide +kernel
theorem d_M_ruled_0 : decode prog_12_method_56_code 0 = .ok (.aload_n 0, 1) := by decide +kernel
theorem d_M_ruled_1 : decode prog_12_method_56_code 1 = .ok (.getfield 79, 3) := by decide +kernel
theorem d_M_ruled_4 : decode prog_12_method_56_code 4 = .ok (.iconst 0, 1) := by decide +kernel
theorem d_M_ruled_5 : decode prog_12_method_56_code 5 = .ok (.iload_n 3, 1) := by decide +kernel
theorem d_M_ruled_6 : decode prog_12_method_56_code 6 = .ok (.iastore, 1) := by decide +kernel
theorem d_M_ruled_7 : decode prog_12_method_56_code 7 = .ok (.aload_n 0, 1) := by decide +kernel
theorem d_M_ruled_8 : decode prog_12_method_56_code 8 = .ok (.getfield 79, 3) := by decide +kernel
theorem d_M_ruled_11 : decode prog_12_method_56_code 11 = .ok (.iconst 1, 1) := by decide +kernel
theorem d_M_ruled_12 : decode prog_12_method_56_code 12 = .ok (.iload 4, 2) := by decide +kernel
theorem d_M_ruled_14 : decode prog_12_method_56_code 14 = .ok (.iastore, 1) := by decide +kernel
theorem d_M_ruled_15 : decode prog_12_method_56_code 15 = .ok (.aload_n 0, 1) := by decide +kernel
theorem d_M_ruled_16 : decode prog_12_method_56_code 16 = .ok (.getfield 79, 3) := by decide +kernel
theorem d_M_ruled_19 : decode prog_12_method_56_code 19 = .ok (.iconst 2, 1) := by decide +kernel
theorem d_M_ruled_20 : decode prog_12_method_56_code 20 = .ok (.iload 5, 2) := by decide +kernel
theorem d_M_ruled_22 : decode prog_12_method_56_code 22 = .ok (.iastore, 1) := by decide +kernel
theorem d_M_ruled_23 : decode prog_12_method_56_code 23 = .ok (.aload_n 0, 1) := by decide +kernel
theorem d_M_ruled_24 : decode prog_12_method_56_code 24 = .ok (.getfield 79, 3) := by decide +kernel
theorem d_M_ruled_27 : decode prog_12_method_56_code 27 = .ok (.iconst 3, 1) := by decide +kernel
theorem d_M_ruled_28 : decode prog_12_method_56_code 28 = .ok (.iload 6, 2) := by decide +kernel
theorem d_M_ruled_30 : decode prog_12_method_56_code 30 = .ok (.iastore, 1) := by decide +kernel
theorem d_M_ruled_31 : decode prog_12_method_56_code 31 = .ok (.aload_n 0, 1) := by decide +kernel
theorem d_M_ruled_32 : decode prog_12_method_56_code 32 = .ok (.iload_n 1, 1) := by decide +kernel
theorem d_M_ruled_33 : decode prog_12_method_56_code 33 = .ok (.iload_n 2, 1) := by decide +kernel
theorem d_M_ruled_34 : decode prog_12_method_56_code 34 = .ok (.invokevirtual 285, 3) := by decide +kernel
theorem d_M_ruled_37 : decode prog_12_method_56_code 37 = .ok (.istore 7, 2) := by decide +kernel
theorem d_M_ruled_39 : decode prog_12_method_56_code 39 = .ok (.iload_n 2, 1) := by decide +kernel
theorem d_M_ruled_40 : decode prog_12_method_56_code 40 = .ok (.ifCond .ne 9, 3) := by decide +kernel
theorem d_M_ruled_43 : decode prog_12_method_56_code 43 = .ok (.iload_n 3, 1) := by decide +kernel
theorem d_M_ruled_44 : decode prog_12_method_56_code 44 = .ok (.iconst 2, 1) := by decide +kernel
theorem d_M_ruled_45 : decode prog_12_method_56_code 45 = .ok (.idiv, 1) := by decide +kernel
theorem d_M_ruled_46 : decode prog_12_method_56_code 46 = .ok (.goto 26, 3) := by decide +kernel
theorem d_M_ruled_49 : decode prog_12_method_56_code 49 = .ok (.iload_n 2, 1) := by decide +kernel
theorem d_M_ruled_50 : decode prog_12_method_56_code 50 = .ok (.iconst 1, 1) := by decide +kernel
theorem d_M_ruled_51 : decode prog_12_method_56_code 51 = .ok (.if_icmp .ne 10, 3) := by decide +kernel
theorem d_M_ruled_54 : decode prog_12_method_56_code 54 = .ok (.bipush 7, 2) := by decide +kernel
theorem d_M_ruled_56 : decode prog_12_method_56_code 56 = .ok (.iload_n 3, 1) := by decide +kernel
theorem d_M_ruled_57 : decode prog_12_method_56_code 57 = .ok (.imul, 1) := by decide +kernel
theorem d_M_ruled_58 : decode prog_12_method_56_code 58 = .ok (.goto 14, 3) := by decide +kernel
theorem d_M_ruled_61 : decode prog_12_method_56_code 61 = .ok (.iload_n 2, 1) := by decide +kernel
theorem d_M_ruled_62 : decode prog_12_method_56_code 62 = .ok (.iconst 3, 1) := by decide +kernel
theorem d_M_ruled_63 : decode prog_12_method_56_code 63 = .ok (.if_icmp .ne 8, 3) := by decide +kernel
theorem d_M_ruled_66 : decode prog_12_method_56_code 66 = .ok (.bipush 28, 2) := by decide +kernel
theorem d_M_ruled_68 : decode prog_12_method_56_code 68 = .ok (.goto 4, 3) := by decide +kernel
theorem d_M_ruled_71 : decode prog_12_method_56_code 71 = .ok (.iconst 0, 1) := by decide +kernel
theorem d_M_ruled_72 : decode prog_12_method_56_code 72 = .ok (.istore 8, 2) := by decide +kernel
theorem d_M_ruled_74 : decode prog_12_method_56_code 74 = .ok (.iload 7, 2) := by decide +kernel
theorem d_M_ruled_76 : decode prog_12_method_56_code 76 = .ok (.ifCond .ge 8, 3) := by decide +kernel
theorem d_M_ruled_79 : decode prog_12_method_56_code 79 = .ok (.iload 8, 2) := by decide +kernel
theorem d_M_ruled_81 : decode prog_12_method_56_code 81 = .ok (.goto 9, 3) := by decide +kernel
theorem d_M_ruled_84 : decode prog_12_method_56_code 84 = .ok (.aload_n 0, 1) := by decide +kernel
theorem d_M_ruled_85 : decode prog_12_method_56_code 85 = .ok (.iload 7, 2) := by decide +kernel
theorem d_M_ruled_87 : decode prog_12_method_56_code 87 = .ok (.invokevirtual 292, 3) := by decide +kernel
theorem d_M_ruled_90 : decode prog_12_method_56_code 90 = .ok (.istore 9, 2) := by decide +kernel
theorem d_M_ruled_92 : decode prog_12_method_56_code 92 = .ok (.iload_n 2, 1) := by decide +kernel
theorem d_M_ruled_93 : decode prog_12_method_56_code 93 = .ok (.iconst 3, 1) := by decide +kernel
theorem d_M_ruled_94 : decode prog_12_method_56_code 94 = .ok (.if_icmp .ne 7, 3) := by decide +kernel
theorem d_M_ruled_97 : decode prog_12_method_56_code 97 = .ok (.iconst 1, 1) := by decide +kernel
theorem d_M_ruled_98 : decode prog_12_method_56_code 98 = .ok (.goto 4, 3) := by decide +kernel
theorem d_M_ruled_101 : decode prog_12_method_56_code 101 = .ok (.iconst 0, 1) := by decide +kernel
theorem d_M_ruled_102 : decode prog_12_method_56_code 102 = .ok (.istore 10, 2) := by decide +kernel
theorem d_M_ruled_104 : decode prog_12_method_56_code 104 = .ok (.iload_n 2, 1) := by decide +kernel
theorem d_M_ruled_105 : decode prog_12_method_56_code 105 = .ok (.ifCond .ne 9, 3) := by decide +kernel
theorem d_M_ruled_108 : decode prog_12_method_56_code 108 = .ok (.ldc_w 295, 3) := by decide +kernel
theorem d_M_ruled_111 : decode prog_12_method_56_code 111 = .ok (.goto 5, 3) := by decide +kernel
theorem d_M_ruled_114 : decode prog_12_method_56_code 114 = .ok (.bipush 99, 2) := by decide +kernel
theorem d_M_ruled_116 : decode prog_12_method_56_code 116 = .ok (.istore 11, 2) := by decide +kernel
theorem d_M_ruled_118 : decode prog_12_method_56_code 118 = .ok (.iload_n 2, 1) := by decide +kernel
theorem d_M_ruled_119 : decode prog_12_method_56_code 119 = .ok (.iconst 2, 1) := by decide +kernel
theorem d_M_ruled_120 : decode prog_12_method_56_code 120 = .ok (.if_icmp .eq 8, 3) := by decide +kernel
theorem d_M_ruled_123 : decode prog_12_method_56_code 123 = .ok (.iload_n 2, 1) := by decide +kernel
theorem d_M_ruled_124 : decode prog_12_method_56_code 124 = .ok (.iconst 4, 1) := by decide +kernel
theorem d_M_ruled_125 : decode prog_12_method_56_code 125 = .ok (.if_icmp .ne 8, 3) := by decide +kernel
theorem d_M_ruled_128 : decode prog_12_method_56_code 128 = .ok (.iload 9, 2) := by decide +kernel
theorem d_M_ruled_130 : decode prog_12_method_56_code 130 = .ok (.goto 15, 3) := by decide +kernel
theorem d_M_ruled_133 : decode prog_12_method_56_code 133 = .ok (.iload 10, 2) := by decide +kernel
theorem d_M_ruled_135 : decode prog_12_method_56_code 135 = .ok (.iload 11, 2) := by decide +kernel
theorem d_M_ruled_137 : decode prog_12_method_56_code 137 = .ok (.iload 9, 2) := by decide +kernel
theorem d_M_ruled_139 : decode prog_12_method_56_code 139 = .ok (.invokestatic 143, 3) := by decide +kernel
theorem d_M_ruled_142 : decode prog_12_method_56_code 142 = .ok (.invokestatic 109, 3) := by decide +kernel
theorem d_M_ruled_145 : decode prog_12_method_56_code 145 = .ok (.ireturn, 1) := by decide +kernel
theorem d_M_isDue_0 : decode prog_12_method_31_code 0 = .ok (.aload_n 0, 1) := by decide +kernel
theorem d_M_isDue_1 : decode prog_12_method_31_code 1 = .ok (.iload_n 1, 1) := by decide +kernel
theorem d_M_isDue_2 : decode prog_12_method_31_code 2 = .ok (.iload_n 2, 1) := by decide +kernel
theorem d_M_isDue_3 : decode prog_12_method_31_code 3 = .ok (.invokevirtual 157, 3) := by decide +kernel
theorem d_M_isDue_6 : decode prog_12_method_31_code 6 = .ok (.aload_n 0, 1) := by decide +kernel
theorem d_M_isDue_7 : decode prog_12_method_31_code 7 = .ok (.iload_n 1, 1) := by decide +kernel
theorem d_M_isDue_8 : decode prog_12_method_31_code 8 = .ok (.iload_n 2, 1) := by decide +kernel
theorem d_M_isDue_9 : decode prog_12_method_31_code 9 = .ok (.invokevirtual 167, 3) := by decide +kernel
theorem d_M_isDue_12 : decode prog_12_method_31_code 12 = .ok (.iadd, 1) := by decide +kernel
theorem d_M_isDue_13 : decode prog_12_method_31_code 13 = .ok (.aload_n 0, 1) := by decide +kernel
theorem d_M_isDue_14 : decode prog_12_method_31_code 14 = .ok (.iload_n 1, 1) := by decide +kernel
theorem d_M_isDue_15 : decode prog_12_method_31_code 15 = .ok (.invokevirtual 174, 3) := by decide +kernel
theorem d_M_isDue_18 : decode prog_12_method_31_code 18 = .ok (.if_icmp .lt 7, 3) := by decide +kernel
theorem d_M_isDue_21 : decode prog_12_method_31_code 21 = .ok (.iconst 1, 1) := by decide +kernel
theorem d_M_isDue_22 : decode prog_12_method_31_code 22 = .ok (.goto 4, 3) := by decide +kernel
theorem d_M_isDue_25 : decode prog_12_method_31_code 25 = .ok (.iconst 0, 1) := by decide +kernel
theorem d_M_isDue_26 : decode prog_12_method_31_code 26 = .ok (.ireturn, 1) := by decide +kernel
theorem d_M_date_0 : decode prog_12_method_33_code 0 = .ok (.aload_n 0, 1) := by decide +kernel
theorem d_M_date_1 : decode prog_12_method_33_code 1 = .ok (.iload_n 1, 1) := by decide +kernel
theorem d_M_date_2 : decode prog_12_method_33_code 2 = .ok (.iconst 2, 1) := by decide +kernel
theorem d_M_date_3 : decode prog_12_method_33_code 3 = .ok (.invokevirtual 118, 3) := by decide +kernel
theorem d_M_date_6 : decode prog_12_method_33_code 6 = .ok (.ifCond .ne 6, 3) := by decide +kernel
theorem d_M_date_9 : decode prog_12_method_33_code 9 = .ok (.ldc 95, 2) := by decide +kernel
theorem d_M_date_11 : decode prog_12_method_33_code 11 = .ok (.ireturn, 1) := by decide +kernel
theorem d_M_date_12 : decode prog_12_method_33_code 12 = .ok (.aload_n 0, 1) := by decide +kernel
theorem d_M_date_13 : decode prog_12_method_33_code 13 = .ok (.iload_n 1, 1) := by decide +kernel
theorem d_M_date_14 : decode prog_12_method_33_code 14 = .ok (.iconst 3, 1) := by decide +kernel
theorem d_M_date_15 : decode prog_12_method_33_code 15 = .ok (.invokevirtual 105, 3) := by decide +kernel
theorem d_M_date_18 : decode prog_12_method_33_code 18 = .ok (.ifCond .eq 6, 3) := by decide +kernel
theorem d_M_date_21 : decode prog_12_method_33_code 21 = .ok (.ldc 136, 2) := by decide +kernel
theorem d_M_date_23 : decode prog_12_method_33_code 23 = .ok (.ireturn, 1) := by decide +kernel
theorem d_M_date_24 : decode prog_12_method_33_code 24 = .ok (.aload_n 0, 1) := by decide +kernel
theorem d_M_date_25 : decode prog_12_method_33_code 25 = .ok (.iload_n 1, 1) := by decide +kernel
theorem d_M_date_26 : decode prog_12_method_33_code 26 = .ok (.invokevirtual 174, 3) := by decide +kernel
theorem d_M_date_29 : decode prog_12_method_33_code 29 = .ok (.istore_n 2, 1) := by decide +kernel
theorem d_M_date_30 : decode prog_12_method_33_code 30 = .ok (.aload_n 0, 1) := by decide +kernel
theorem d_M_date_31 : decode prog_12_method_33_code 31 = .ok (.iload_n 1, 1) := by decide +kernel
theorem d_M_date_32 : decode prog_12_method_33_code 32 = .ok (.aload_n 0, 1) := by decide +kernel
theorem d_M_date_33 : decode prog_12_method_33_code 33 = .ok (.getfield 9, 3) := by decide +kernel
theorem d_M_date_36 : decode prog_12_method_33_code 36 = .ok (.iconst 0, 1) := by decide +kernel
theorem d_M_date_37 : decode prog_12_method_33_code 37 = .ok (.iaload, 1) := by decide +kernel
theorem d_M_date_38 : decode prog_12_method_33_code 38 = .ok (.invokevirtual 157, 3) := by decide +kernel
theorem d_M_date_41 : decode prog_12_method_33_code 41 = .ok (.istore_n 3, 1) := by decide +kernel
theorem d_M_date_42 : decode prog_12_method_33_code 42 = .ok (.aload_n 0, 1) := by decide +kernel
theorem d_M_date_43 : decode prog_12_method_33_code 43 = .ok (.iload_n 1, 1) := by decide +kernel
theorem d_M_date_44 : decode prog_12_method_33_code 44 = .ok (.aload_n 0, 1) := by decide +kernel
theorem d_M_date_45 : decode prog_12_method_33_code 45 = .ok (.getfield 9, 3) := by decide +kernel
theorem d_M_date_48 : decode prog_12_method_33_code 48 = .ok (.iconst 0, 1) := by decide +kernel
theorem d_M_date_49 : decode prog_12_method_33_code 49 = .ok (.iaload, 1) := by decide +kernel
theorem d_M_date_50 : decode prog_12_method_33_code 50 = .ok (.invokevirtual 167, 3) := by decide +kernel
theorem d_M_date_53 : decode prog_12_method_33_code 53 = .ok (.istore 4, 2) := by decide +kernel
theorem d_M_date_55 : decode prog_12_method_33_code 55 = .ok (.iconst 0, 1) := by decide +kernel
theorem d_M_date_56 : decode prog_12_method_33_code 56 = .ok (.istore 5, 2) := by decide +kernel
theorem d_M_date_58 : decode prog_12_method_33_code 58 = .ok (.iload 5, 2) := by decide +kernel
theorem d_M_date_60 : decode prog_12_method_33_code 60 = .ok (.sipush 3000, 3) := by decide +kernel
theorem d_M_date_63 : decode prog_12_method_33_code 63 = .ok (.if_icmp .ge 52, 3) := by decide +kernel
theorem d_M_date_66 : decode prog_12_method_33_code 66 = .ok (.iload_n 3, 1) := by decide +kernel
theorem d_M_date_67 : decode prog_12_method_33_code 67 = .ok (.iload 4, 2) := by decide +kernel
theorem d_M_date_69 : decode prog_12_method_33_code 69 = .ok (.iadd, 1) := by decide +kernel
theorem d_M_date_70 : decode prog_12_method_33_code 70 = .ok (.iload_n 2, 1) := by decide +kernel
theorem d_M_date_71 : decode prog_12_method_33_code 71 = .ok (.if_icmp .lt 13, 3) := by decide +kernel
theorem d_M_date_74 : decode prog_12_method_33_code 74 = .ok (.aload_n 0, 1) := by decide +kernel
theorem d_M_date_75 : decode prog_12_method_33_code 75 = .ok (.getfield 9, 3) := by decide +kernel
theorem d_M_date_78 : decode prog_12_method_33_code 78 = .ok (.iconst 0, 1) := by decide +kernel
theorem d_M_date_79 : decode prog_12_method_33_code 79 = .ok (.iaload, 1) := by decide +kernel
theorem d_M_date_80 : decode prog_12_method_33_code 80 = .ok (.iload 5, 2) := by decide +kernel
theorem d_M_date_82 : decode prog_12_method_33_code 82 = .ok (.iadd, 1) := by decide +kernel
theorem d_M_date_83 : decode prog_12_method_33_code 83 = .ok (.ireturn, 1) := by decide +kernel
theorem d_M_date_84 : decode prog_12_method_33_code 84 = .ok (.iload_n 3, 1) := by decide +kernel
theorem d_M_date_85 : decode prog_12_method_33_code 85 = .ok (.aload_n 0, 1) := by decide +kernel
theorem d_M_date_86 : decode prog_12_method_33_code 86 = .ok (.iload_n 1, 1) := by decide +kernel
theorem d_M_date_87 : decode prog_12_method_33_code 87 = .ok (.aload_n 0, 1) := by decide +kernel
theorem d_M_date_88 : decode prog_12_method_33_code 88 = .ok (.getfield 9, 3) := by decide +kernel
theorem d_M_date_91 : decode prog_12_method_33_code 91 = .ok (.iconst 0, 1) := by decide +kernel
theorem d_M_date_92 : decode prog_12_method_33_code 92 = .ok (.iaload, 1) := by decide +kernel
theorem d_M_date_93 : decode prog_12_method_33_code 93 = .ok (.iload 5, 2) := by decide +kernel
theorem d_M_date_95 : decode prog_12_method_33_code 95 = .ok (.iadd, 1) := by decide +kernel
theorem d_M_date_96 : decode prog_12_method_33_code 96 = .ok (.invokevirtual 154, 3) := by decide +kernel
theorem d_M_date_99 : decode prog_12_method_33_code 99 = .ok (.ifCond .eq 7, 3) := by decide +kernel
theorem d_M_date_102 : decode prog_12_method_33_code 102 = .ok (.iconst 1, 1) := by decide +kernel
theorem d_M_date_103 : decode prog_12_method_33_code 103 = .ok (.goto 4, 3) := by decide +kernel
theorem d_M_date_106 : decode prog_12_method_33_code 106 = .ok (.iconst 0, 1) := by decide +kernel
theorem d_M_date_107 : decode prog_12_method_33_code 107 = .ok (.iadd, 1) := by decide +kernel
theorem d_M_date_108 : decode prog_12_method_33_code 108 = .ok (.istore_n 3, 1) := by decide +kernel
theorem d_M_date_109 : decode prog_12_method_33_code 109 = .ok (.iinc 5 1, 3) := by decide +kernel
theorem d_M_date_112 : decode prog_12_method_33_code 112 = .ok (.goto (-54), 3) := by decide +kernel
theorem d_M_date_115 : decode prog_12_method_33_code 115 = .ok (.ldc 136, 2) := by decide +kernel
theorem d_M_date_117 : decode prog_12_method_33_code 117 = .ok (.ireturn, 1) := by decide +kernel
theorem d_M_feed_0 : decode prog_12_method_34_code 0 = .ok (.aload_n 0, 1) := by decide +kernel
theorem d_M_feed_1 : decode prog_12_method_34_code 1 = .ok (.getfield 180, 3) := by decide +kernel
theorem d_M_feed_4 : decode prog_12_method_34_code 4 = .ok (.bipush 12, 2) := by decide +kernel
theorem d_M_feed_6 : decode prog_12_method_34_code 6 = .ok (.iadd, 1) := by decide +kernel
theorem d_M_feed_7 : decode prog_12_method_34_code 7 = .ok (.bipush 96, 2) := by decide +kernel
theorem d_M_feed_9 : decode prog_12_method_34_code 9 = .ok (.if_icmp .le 6, 3) := by decide +kernel
theorem d_M_feed_12 : decode prog_12_method_34_code 12 = .ok (.ldc 96, 2) := by decide +kernel
theorem d_M_feed_14 : decode prog_12_method_34_code 14 = .ok (.ireturn, 1) := by decide +kernel
theorem d_M_feed_15 : decode prog_12_method_34_code 15 = .ok (.iconst 0, 1) := by decide +kernel
theorem d_M_feed_16 : decode prog_12_method_34_code 16 = .ok (.istore 4, 2) := by decide +kernel
theorem d_M_feed_18 : decode prog_12_method_34_code 18 = .ok (.iload 4, 2) := by decide +kernel
theorem d_M_feed_20 : decode prog_12_method_34_code 20 = .ok (.bipush 12, 2) := by decide +kernel
theorem d_M_feed_22 : decode prog_12_method_34_code 22 = .ok (.if_icmp .ge 69, 3) := by decide +kernel
theorem d_M_feed_25 : decode prog_12_method_34_code 25 = .ok (.iload 4, 2) := by decide +kernel
theorem d_M_feed_27 : decode prog_12_method_34_code 27 = .ok (.iconst 4, 1) := by decide +kernel
theorem d_M_feed_28 : decode prog_12_method_34_code 28 = .ok (.if_icmp .ge 7, 3) := by decide +kernel
theorem d_M_feed_31 : decode prog_12_method_34_code 31 = .ok (.iload_n 1, 1) := by decide +kernel
theorem d_M_feed_32 : decode prog_12_method_34_code 32 = .ok (.goto 15, 3) := by decide +kernel
theorem d_M_feed_35 : decode prog_12_method_34_code 35 = .ok (.iload 4, 2) := by decide +kernel
theorem d_M_feed_37 : decode prog_12_method_34_code 37 = .ok (.bipush 8, 2) := by decide +kernel
theorem d_M_feed_39 : decode prog_12_method_34_code 39 = .ok (.if_icmp .ge 7, 3) := by decide +kernel
theorem d_M_feed_42 : decode prog_12_method_34_code 42 = .ok (.iload_n 2, 1) := by decide +kernel
theorem d_M_feed_43 : decode prog_12_method_34_code 43 = .ok (.goto 4, 3) := by decide +kernel
theorem d_M_feed_46 : decode prog_12_method_34_code 46 = .ok (.iload_n 3, 1) := by decide +kernel
theorem d_M_feed_47 : decode prog_12_method_34_code 47 = .ok (.istore 5, 2) := by decide +kernel
theorem d_M_feed_49 : decode prog_12_method_34_code 49 = .ok (.aload_n 0, 1) := by decide +kernel
theorem d_M_feed_50 : decode prog_12_method_34_code 50 = .ok (.getfield 19, 3) := by decide +kernel
theorem d_M_feed_53 : decode prog_12_method_34_code 53 = .ok (.aload_n 0, 1) := by decide +kernel
theorem d_M_feed_54 : decode prog_12_method_34_code 54 = .ok (.getfield 180, 3) := by decide +kernel
theorem d_M_feed_57 : decode prog_12_method_34_code 57 = .ok (.iload 5, 2) := by decide +kernel
theorem d_M_feed_59 : decode prog_12_method_34_code 59 = .ok (.bipush 24, 2) := by decide +kernel
theorem d_M_feed_61 : decode prog_12_method_34_code 61 = .ok (.bipush 8, 2) := by decide +kernel
theorem d_M_feed_63 : decode prog_12_method_34_code 63 = .ok (.iload 4, 2) := by decide +kernel
theorem d_M_feed_65 : decode prog_12_method_34_code 65 = .ok (.iconst 4, 1) := by decide +kernel
theorem d_M_feed_66 : decode prog_12_method_34_code 66 = .ok (.irem, 1) := by decide +kernel
theorem d_M_feed_67 : decode prog_12_method_34_code 67 = .ok (.imul, 1) := by decide +kernel
theorem d_M_feed_68 : decode prog_12_method_34_code 68 = .ok (.isub, 1) := by decide +kernel
theorem d_M_feed_69 : decode prog_12_method_34_code 69 = .ok (.ishr, 1) := by decide +kernel
theorem d_M_feed_70 : decode prog_12_method_34_code 70 = .ok (.sipush 255, 3) := by decide +kernel
theorem d_M_feed_73 : decode prog_12_method_34_code 73 = .ok (.iand, 1) := by decide +kernel
theorem d_M_feed_74 : decode prog_12_method_34_code 74 = .ok (.iastore, 1) := by decide +kernel
theorem d_M_feed_75 : decode prog_12_method_34_code 75 = .ok (.aload_n 0, 1) := by decide +kernel
theorem d_M_feed_76 : decode prog_12_method_34_code 76 = .ok (.dup, 1) := by decide +kernel
theorem d_M_feed_77 : decode prog_12_method_34_code 77 = .ok (.getfield 180, 3) := by decide +kernel
theorem d_M_feed_80 : decode prog_12_method_34_code 80 = .ok (.iconst 1, 1) := by decide +kernel
theorem d_M_feed_81 : decode prog_12_method_34_code 81 = .ok (.iadd, 1) := by decide +kernel
theorem d_M_feed_82 : decode prog_12_method_34_code 82 = .ok (.putfield 180, 3) := by decide +kernel
theorem d_M_feed_85 : decode prog_12_method_34_code 85 = .ok (.iinc 4 1, 3) := by decide +kernel
theorem d_M_feed_88 : decode prog_12_method_34_code 88 = .ok (.goto (-70), 3) := by decide +kernel
theorem d_M_feed_91 : decode prog_12_method_34_code 91 = .ok (.aload_n 0, 1) := by decide +kernel
theorem d_M_feed_92 : decode prog_12_method_34_code 92 = .ok (.getfield 180, 3) := by decide +kernel
theorem d_M_feed_95 : decode prog_12_method_34_code 95 = .ok (.ireturn, 1) := by decide +kernel
theorem d_M_trim_0 : decode prog_12_method_35_code 0 = .ok (.iload_n 1, 1) := by decide +kernel
theorem d_M_trim_1 : decode prog_12_method_35_code 1 = .ok (.i2l, 1) := by decide +kernel
theorem d_M_trim_2 : decode prog_12_method_35_code 2 = .ok (.lconst 0, 1) := by decide +kernel
theorem d_M_trim_3 : decode prog_12_method_35_code 3 = .ok (.aload_n 0, 1) := by decide +kernel
theorem d_M_trim_4 : decode prog_12_method_35_code 4 = .ok (.getfield 180, 3) := by decide +kernel
theorem d_M_trim_7 : decode prog_12_method_35_code 7 = .ok (.i2l, 1) := by decide +kernel
theorem d_M_trim_8 : decode prog_12_method_35_code 8 = .ok (.invokestatic 85, 3) := by decide +kernel
theorem d_M_trim_11 : decode prog_12_method_35_code 11 = .ok (.ifCond .ne 6, 3) := by decide +kernel
theorem d_M_trim_14 : decode prog_12_method_35_code 14 = .ok (.ldc 95, 2) := by decide +kernel
theorem d_M_trim_16 : decode prog_12_method_35_code 16 = .ok (.ireturn, 1) := by decide +kernel
theorem d_M_trim_17 : decode prog_12_method_35_code 17 = .ok (.aload_n 0, 1) := by decide +kernel
theorem d_M_trim_18 : decode prog_12_method_35_code 18 = .ok (.iload_n 1, 1) := by decide +kernel
theorem d_M_trim_19 : decode prog_12_method_35_code 19 = .ok (.putfield 180, 3) := by decide +kernel
theorem d_M_trim_22 : decode prog_12_method_35_code 22 = .ok (.iload_n 1, 1) := by decide +kernel
theorem d_M_trim_23 : decode prog_12_method_35_code 23 = .ok (.ireturn, 1) := by decide +kernel
theorem d_M_isDigit_0 : decode prog_12_method_37_code 0 = .ok (.iload_n 1, 1) := by decide +kernel
theorem d_M_isDigit_1 : decode prog_12_method_37_code 1 = .ok (.aload_n 0, 1) := by decide +kernel
theorem d_M_isDigit_2 : decode prog_12_method_37_code 2 = .ok (.getfield 180, 3) := by decide +kernel
theorem d_M_isDigit_5 : decode prog_12_method_37_code 5 = .ok (.if_icmp .ge 26, 3) := by decide +kernel
theorem d_M_isDigit_8 : decode prog_12_method_37_code 8 = .ok (.aload_n 0, 1) := by decide +kernel
theorem d_M_isDigit_9 : decode prog_12_method_37_code 9 = .ok (.getfield 19, 3) := by decide +kernel
theorem d_M_isDigit_12 : decode prog_12_method_37_code 12 = .ok (.iload_n 1, 1) := by decide +kernel
theorem d_M_isDigit_13 : decode prog_12_method_37_code 13 = .ok (.iaload, 1) := by decide +kernel
theorem d_M_isDigit_14 : decode prog_12_method_37_code 14 = .ok (.i2l, 1) := by decide +kernel
theorem d_M_isDigit_15 : decode prog_12_method_37_code 15 = .ok (.ldc2_w 187, 3) := by decide +kernel
theorem d_M_isDigit_18 : decode prog_12_method_37_code 18 = .ok (.ldc2_w 189, 3) := by decide +kernel
theorem d_M_isDigit_21 : decode prog_12_method_37_code 21 = .ok (.invokestatic 85, 3) := by decide +kernel
theorem d_M_isDigit_24 : decode prog_12_method_37_code 24 = .ok (.ifCond .eq 7, 3) := by decide +kernel
theorem d_M_isDigit_27 : decode prog_12_method_37_code 27 = .ok (.iconst 1, 1) := by decide +kernel
theorem d_M_isDigit_28 : decode prog_12_method_37_code 28 = .ok (.goto 4, 3) := by decide +kernel
theorem d_M_isDigit_31 : decode prog_12_method_37_code 31 = .ok (.iconst 0, 1) := by decide +kernel
theorem d_M_isDigit_32 : decode prog_12_method_37_code 32 = .ok (.ireturn, 1) := by decide +kernel
theorem d_M_isWord_0 : decode prog_12_method_41_code 0 = .ok (.aload_n 0, 1) := by decide +kernel
theorem d_M_isWord_1 : decode prog_12_method_41_code 1 = .ok (.getfield 191, 3) := by decide +kernel
theorem d_M_isWord_4 : decode prog_12_method_41_code 4 = .ok (.iconst 1, 1) := by decide +kernel
theorem d_M_isWord_5 : decode prog_12_method_41_code 5 = .ok (.if_icmp .ne 23, 3) := by decide +kernel
theorem d_M_isWord_8 : decode prog_12_method_41_code 8 = .ok (.aload_n 0, 1) := by decide +kernel
theorem d_M_isWord_9 : decode prog_12_method_41_code 9 = .ok (.getfield 194, 3) := by decide +kernel
theorem d_M_isWord_12 : decode prog_12_method_41_code 12 = .ok (.aload_n 0, 1) := by decide +kernel
theorem d_M_isWord_13 : decode prog_12_method_41_code 13 = .ok (.getfield 197, 3) := by decide +kernel
theorem d_M_isWord_16 : decode prog_12_method_41_code 16 = .ok (.isub, 1) := by decide +kernel
theorem d_M_isWord_17 : decode prog_12_method_41_code 17 = .ok (.aload_n 1, 1) := by decide +kernel
theorem d_M_isWord_18 : decode prog_12_method_41_code 18 = .ok (.invokevirtual 214, 3) := by decide +kernel
theorem d_M_isWord_21 : decode prog_12_method_41_code 21 = .ok (.if_icmp .ne 7, 3) := by decide +kernel
theorem d_M_isWord_24 : decode prog_12_method_41_code 24 = .ok (.iconst 1, 1) := by decide +kernel
theorem d_M_isWord_25 : decode prog_12_method_41_code 25 = .ok (.goto 4, 3) := by decide +kernel
theorem d_M_isWord_28 : decode prog_12_method_41_code 28 = .ok (.iconst 0, 1) := by decide +kernel
theorem d_M_isWord_29 : decode prog_12_method_41_code 29 = .ok (.istore_n 2, 1) := by decide +kernel
theorem d_M_isWord_30 : decode prog_12_method_41_code 30 = .ok (.iconst 0, 1) := by decide +kernel
theorem d_M_isWord_31 : decode prog_12_method_41_code 31 = .ok (.istore_n 3, 1) := by decide +kernel
theorem d_M_isWord_32 : decode prog_12_method_41_code 32 = .ok (.iload_n 2, 1) := by decide +kernel
theorem d_M_isWord_33 : decode prog_12_method_41_code 33 = .ok (.ifCond .eq 42, 3) := by decide +kernel
theorem d_M_isWord_36 : decode prog_12_method_41_code 36 = .ok (.iload_n 3, 1) := by decide +kernel
theorem d_M_isWord_37 : decode prog_12_method_41_code 37 = .ok (.aload_n 1, 1) := by decide +kernel
theorem d_M_isWord_38 : decode prog_12_method_41_code 38 = .ok (.invokevirtual 214, 3) := by decide +kernel
theorem d_M_isWord_41 : decode prog_12_method_41_code 41 = .ok (.if_icmp .ge 34, 3) := by decide +kernel
theorem d_M_isWord_44 : decode prog_12_method_41_code 44 = .ok (.aload_n 0, 1) := by decide +kernel
theorem d_M_isWord_45 : decode prog_12_method_41_code 45 = .ok (.getfield 19, 3) := by decide +kernel
theorem d_M_isWord_48 : decode prog_12_method_41_code 48 = .ok (.aload_n 0, 1) := by decide +kernel
theorem d_M_isWord_49 : decode prog_12_method_41_code 49 = .ok (.getfield 197, 3) := by decide +kernel
theorem d_M_isWord_52 : decode prog_12_method_41_code 52 = .ok (.iload_n 3, 1) := by decide +kernel
theorem d_M_isWord_53 : decode prog_12_method_41_code 53 = .ok (.iadd, 1) := by decide +kernel
theorem d_M_isWord_54 : decode prog_12_method_41_code 54 = .ok (.iaload, 1) := by decide +kernel
theorem d_M_isWord_55 : decode prog_12_method_41_code 55 = .ok (.aload_n 1, 1) := by decide +kernel
theorem d_M_isWord_56 : decode prog_12_method_41_code 56 = .ok (.iload_n 3, 1) := by decide +kernel
theorem d_M_isWord_57 : decode prog_12_method_41_code 57 = .ok (.invokevirtual 218, 3) := by decide +kernel
theorem d_M_isWord_60 : decode prog_12_method_41_code 60 = .ok (.if_icmp .ne 7, 3) := by decide +kernel
theorem d_M_isWord_63 : decode prog_12_method_41_code 63 = .ok (.iconst 1, 1) := by decide +kernel
theorem d_M_isWord_64 : decode prog_12_method_41_code 64 = .ok (.goto 4, 3) := by decide +kernel
theorem d_M_isWord_67 : decode prog_12_method_41_code 67 = .ok (.iconst 0, 1) := by decide +kernel
theorem d_M_isWord_68 : decode prog_12_method_41_code 68 = .ok (.istore_n 2, 1) := by decide +kernel
theorem d_M_isWord_69 : decode prog_12_method_41_code 69 = .ok (.iinc 3 1, 3) := by decide +kernel
theorem d_M_isWord_72 : decode prog_12_method_41_code 72 = .ok (.goto (-40), 3) := by decide +kernel
theorem d_M_isWord_75 : decode prog_12_method_41_code 75 = .ok (.iload_n 2, 1) := by decide +kernel
theorem d_M_isWord_76 : decode prog_12_method_41_code 76 = .ok (.ireturn, 1) := by decide +kernel
theorem d_M_put_0 : decode prog_12_method_42_code 0 = .ok (.aload_n 0, 1) := by decide +kernel
theorem d_M_put_1 : decode prog_12_method_42_code 1 = .ok (.getfield 207, 3) := by decide +kernel
theorem d_M_put_4 : decode prog_12_method_42_code 4 = .ok (.ifCond .ne 23, 3) := by decide +kernel
theorem d_M_put_7 : decode prog_12_method_42_code 7 = .ok (.aload_n 0, 1) := by decide +kernel
theorem d_M_put_8 : decode prog_12_method_42_code 8 = .ok (.getfield 44, 3) := by decide +kernel
theorem d_M_put_11 : decode prog_12_method_42_code 11 = .ok (.aload_n 0, 1) := by decide +kernel
theorem d_M_put_12 : decode prog_12_method_42_code 12 = .ok (.getfield 222, 3) := by decide +kernel
theorem d_M_put_15 : decode prog_12_method_42_code 15 = .ok (.iload_n 1, 1) := by decide +kernel
theorem d_M_put_16 : decode prog_12_method_42_code 16 = .ok (.iastore, 1) := by decide +kernel
theorem d_M_put_17 : decode prog_12_method_42_code 17 = .ok (.aload_n 0, 1) := by decide +kernel
theorem d_M_put_18 : decode prog_12_method_42_code 18 = .ok (.dup, 1) := by decide +kernel
theorem d_M_put_19 : decode prog_12_method_42_code 19 = .ok (.getfield 222, 3) := by decide +kernel
theorem d_M_put_22 : decode prog_12_method_42_code 22 = .ok (.iconst 1, 1) := by decide +kernel
theorem d_M_put_23 : decode prog_12_method_42_code 23 = .ok (.iadd, 1) := by decide +kernel
theorem d_M_put_24 : decode prog_12_method_42_code 24 = .ok (.putfield 222, 3) := by decide +kernel
theorem d_M_put_27 : decode prog_12_method_42_code 27 = .ok (.return_, 1) := by decide +kernel
theorem d_M_part_0 : decode prog_12_method_44_code 0 = .ok (.aload_n 0, 1) := by decide +kernel
theorem d_M_part_1 : decode prog_12_method_44_code 1 = .ok (.getfield 207, 3) := by decide +kernel
theorem d_M_part_4 : decode prog_12_method_44_code 4 = .ok (.ifCond .eq 4, 3) := by decide +kernel
theorem d_M_part_7 : decode prog_12_method_44_code 7 = .ok (.return_, 1) := by decide +kernel
theorem d_M_part_8 : decode prog_12_method_44_code 8 = .ok (.aload_n 0, 1) := by decide +kernel
theorem d_M_part_9 : decode prog_12_method_44_code 9 = .ok (.getfield 191, 3) := by decide +kernel
theorem d_M_part_12 : decode prog_12_method_44_code 12 = .ok (.iconst 2, 1) := by decide +kernel
theorem d_M_part_13 : decode prog_12_method_44_code 13 = .ok (.if_icmp .ne 61, 3) := by decide +kernel
theorem d_M_part_16 : decode prog_12_method_44_code 16 = .ok (.iconst 0, 1) := by decide +kernel
theorem d_M_part_17 : decode prog_12_method_44_code 17 = .ok (.istore_n 1, 1) := by decide +kernel
theorem d_M_part_18 : decode prog_12_method_44_code 18 = .ok (.aload_n 0, 1) := by decide +kernel
theorem d_M_part_19 : decode prog_12_method_44_code 19 = .ok (.getfield 197, 3) := by decide +kernel
theorem d_M_part_22 : decode prog_12_method_44_code 22 = .ok (.istore_n 2, 1) := by decide +kernel
theorem d_M_part_23 : decode prog_12_method_44_code 23 = .ok (.iload_n 2, 1) := by decide +kernel
theorem d_M_part_24 : decode prog_12_method_44_code 24 = .ok (.aload_n 0, 1) := by decide +kernel
theorem d_M_part_25 : decode prog_12_method_44_code 25 = .ok (.getfield 194, 3) := by decide +kernel
theorem d_M_part_28 : decode prog_12_method_44_code 28 = .ok (.if_icmp .ge 24, 3) := by decide +kernel
theorem d_M_part_31 : decode prog_12_method_44_code 31 = .ok (.bipush 10, 2) := by decide +kernel
theorem d_M_part_33 : decode prog_12_method_44_code 33 = .ok (.iload_n 1, 1) := by decide +kernel
theorem d_M_part_34 : decode prog_12_method_44_code 34 = .ok (.imul, 1) := by decide +kernel
theorem d_M_part_35 : decode prog_12_method_44_code 35 = .ok (.aload_n 0, 1) := by decide +kernel
theorem d_M_part_36 : decode prog_12_method_44_code 36 = .ok (.getfield 19, 3) := by decide +kernel
theorem d_M_part_39 : decode prog_12_method_44_code 39 = .ok (.iload_n 2, 1) := by decide +kernel
theorem d_M_part_40 : decode prog_12_method_44_code 40 = .ok (.iaload, 1) := by decide +kernel
theorem d_M_part_41 : decode prog_12_method_44_code 41 = .ok (.iadd, 1) := by decide +kernel
theorem d_M_part_42 : decode prog_12_method_44_code 42 = .ok (.bipush 48, 2) := by decide +kernel
theorem d_M_part_44 : decode prog_12_method_44_code 44 = .ok (.isub, 1) := by decide +kernel
theorem d_M_part_45 : decode prog_12_method_44_code 45 = .ok (.istore_n 1, 1) := by decide +kernel
theorem d_M_part_46 : decode prog_12_method_44_code 46 = .ok (.iinc 2 1, 3) := by decide +kernel
theorem d_M_part_49 : decode prog_12_method_44_code 49 = .ok (.goto (-26), 3) := by decide +kernel
theorem d_M_part_52 : decode prog_12_method_44_code 52 = .ok (.aload_n 0, 1) := by decide +kernel
theorem d_M_part_53 : decode prog_12_method_44_code 53 = .ok (.iload_n 1, 1) := by decide +kernel
theorem d_M_part_54 : decode prog_12_method_44_code 54 = .ok (.invokevirtual 230, 3) := by decide +kernel
theorem d_M_part_57 : decode prog_12_method_44_code 57 = .ok (.aload_n 0, 1) := by decide +kernel
theorem d_M_part_58 : decode prog_12_method_44_code 58 = .ok (.dup, 1) := by decide +kernel
theorem d_M_part_59 : decode prog_12_method_44_code 59 = .ok (.getfield 233, 3) := by decide +kernel
theorem d_M_part_62 : decode prog_12_method_44_code 62 = .ok (.iconst 1, 1) := by decide +kernel
theorem d_M_part_63 : decode prog_12_method_44_code 63 = .ok (.iadd, 1) := by decide +kernel
theorem d_M_part_64 : decode prog_12_method_44_code 64 = .ok (.putfield 233, 3) := by decide +kernel
theorem d_M_part_67 : decode prog_12_method_44_code 67 = .ok (.aload_n 0, 1) := by decide +kernel
theorem d_M_part_68 : decode prog_12_method_44_code 68 = .ok (.invokevirtual 211, 3) := by decide +kernel
theorem d_M_part_71 : decode prog_12_method_44_code 71 = .ok (.goto 202, 3) := by decide +kernel
theorem d_M_part_74 : decode prog_12_method_44_code 74 = .ok (.aload_n 0, 1) := by decide +kernel
theorem d_M_part_75 : decode prog_12_method_44_code 75 = .ok (.getfield 191, 3) := by decide +kernel
theorem d_M_part_78 : decode prog_12_method_44_code 78 = .ok (.iconst 1, 1) := by decide +kernel
theorem d_M_part_79 : decode prog_12_method_44_code 79 = .ok (.if_icmp .ne 75, 3) := by decide +kernel
theorem d_M_part_82 : decode prog_12_method_44_code 82 = .ok (.aload_n 0, 1) := by decide +kernel
theorem d_M_part_83 : decode prog_12_method_44_code 83 = .ok (.getfield 194, 3) := by decide +kernel
theorem d_M_part_86 : decode prog_12_method_44_code 86 = .ok (.aload_n 0, 1) := by decide +kernel
theorem d_M_part_87 : decode prog_12_method_44_code 87 = .ok (.getfield 197, 3) := by decide +kernel
theorem d_M_part_90 : decode prog_12_method_44_code 90 = .ok (.isub, 1) := by decide +kernel
theorem d_M_part_91 : decode prog_12_method_44_code 91 = .ok (.iconst 1, 1) := by decide +kernel
theorem d_M_part_92 : decode prog_12_method_44_code 92 = .ok (.if_icmp .ne 62, 3) := by decide +kernel
theorem d_M_part_95 : decode prog_12_method_44_code 95 = .ok (.aload_n 0, 1) := by decide +kernel
theorem d_M_part_96 : decode prog_12_method_44_code 96 = .ok (.getfield 40, 3) := by decide +kernel
theorem d_M_part_99 : decode prog_12_method_44_code 99 = .ok (.aload_n 0, 1) := by decide +kernel
theorem d_M_part_100 : decode prog_12_method_44_code 100 = .ok (.getfield 19, 3) := by decide +kernel
theorem d_M_part_103 : decode prog_12_method_44_code 103 = .ok (.aload_n 0, 1) := by decide +kernel
theorem d_M_part_104 : decode prog_12_method_44_code 104 = .ok (.getfield 197, 3) := by decide +kernel
theorem d_M_part_107 : decode prog_12_method_44_code 107 = .ok (.iaload, 1) := by decide +kernel
theorem d_M_part_108 : decode prog_12_method_44_code 108 = .ok (.invokevirtual 236, 3) := by decide +kernel
theorem d_M_part_111 : decode prog_12_method_44_code 111 = .ok (.ifCond .lt 43, 3) := by decide +kernel
theorem d_M_part_114 : decode prog_12_method_44_code 114 = .ok (.aload_n 0, 1) := by decide +kernel
theorem d_M_part_115 : decode prog_12_method_44_code 115 = .ok (.ldc 239, 2) := by decide +kernel
theorem d_M_part_117 : decode prog_12_method_44_code 117 = .ok (.aload_n 0, 1) := by decide +kernel
theorem d_M_part_118 : decode prog_12_method_44_code 118 = .ok (.getfield 40, 3) := by decide +kernel
theorem d_M_part_121 : decode prog_12_method_44_code 121 = .ok (.aload_n 0, 1) := by decide +kernel
theorem d_M_part_122 : decode prog_12_method_44_code 122 = .ok (.getfield 19, 3) := by decide +kernel
theorem d_M_part_125 : decode prog_12_method_44_code 125 = .ok (.aload_n 0, 1) := by decide +kernel
theorem d_M_part_126 : decode prog_12_method_44_code 126 = .ok (.getfield 197, 3) := by decide +kernel
theorem d_M_part_129 : decode prog_12_method_44_code 129 = .ok (.iaload, 1) := by decide +kernel
theorem d_M_part_130 : decode prog_12_method_44_code 130 = .ok (.invokevirtual 236, 3) := by decide +kernel
theorem d_M_part_133 : decode prog_12_method_44_code 133 = .ok (.iadd, 1) := by decide +kernel
theorem d_M_part_134 : decode prog_12_method_44_code 134 = .ok (.invokevirtual 230, 3) := by decide +kernel
theorem d_M_part_137 : decode prog_12_method_44_code 137 = .ok (.aload_n 0, 1) := by decide +kernel
theorem d_M_part_138 : decode prog_12_method_44_code 138 = .ok (.dup, 1) := by decide +kernel
theorem d_M_part_139 : decode prog_12_method_44_code 139 = .ok (.getfield 233, 3) := by decide +kernel
theorem d_M_part_142 : decode prog_12_method_44_code 142 = .ok (.iconst 1, 1) := by decide +kernel
theorem d_M_part_143 : decode prog_12_method_44_code 143 = .ok (.iadd, 1) := by decide +kernel
theorem d_M_part_144 : decode prog_12_method_44_code 144 = .ok (.putfield 233, 3) := by decide +kernel
theorem d_M_part_147 : decode prog_12_method_44_code 147 = .ok (.aload_n 0, 1) := by decide +kernel
theorem d_M_part_148 : decode prog_12_method_44_code 148 = .ok (.invokevirtual 211, 3) := by decide +kernel
theorem d_M_part_151 : decode prog_12_method_44_code 151 = .ok (.goto 122, 3) := by decide +kernel
theorem d_M_part_154 : decode prog_12_method_44_code 154 = .ok (.aload_n 0, 1) := by decide +kernel
theorem d_M_part_155 : decode prog_12_method_44_code 155 = .ok (.bipush 33, 2) := by decide +kernel
theorem d_M_part_157 : decode prog_12_method_44_code 157 = .ok (.invokevirtual 227, 3) := by decide +kernel
theorem d_M_part_160 : decode prog_12_method_44_code 160 = .ok (.ifCond .eq 49, 3) := by decide +kernel
theorem d_M_part_163 : decode prog_12_method_44_code 163 = .ok (.aload_n 0, 1) := by decide +kernel
theorem d_M_part_164 : decode prog_12_method_44_code 164 = .ok (.getfield 240, 3) := by decide +kernel
theorem d_M_part_167 : decode prog_12_method_44_code 167 = .ok (.bipush 8, 2) := by decide +kernel
theorem d_M_part_169 : decode prog_12_method_44_code 169 = .ok (.if_icmp .ge 40, 3) := by decide +kernel
theorem d_M_part_172 : decode prog_12_method_44_code 172 = .ok (.aload_n 0, 1) := by decide +kernel
theorem d_M_part_173 : decode prog_12_method_44_code 173 = .ok (.dup, 1) := by decide +kernel
theorem d_M_part_174 : decode prog_12_method_44_code 174 = .ok (.getfield 240, 3) := by decide +kernel
theorem d_M_part_177 : decode prog_12_method_44_code 177 = .ok (.iconst 1, 1) := by decide +kernel
theorem d_M_part_178 : decode prog_12_method_44_code 178 = .ok (.iadd, 1) := by decide +kernel
theorem d_M_part_179 : decode prog_12_method_44_code 179 = .ok (.putfield 240, 3) := by decide +kernel
theorem d_M_part_182 : decode prog_12_method_44_code 182 = .ok (.aload_n 0, 1) := by decide +kernel
theorem d_M_part_183 : decode prog_12_method_44_code 183 = .ok (.invokevirtual 211, 3) := by decide +kernel
theorem d_M_part_186 : decode prog_12_method_44_code 186 = .ok (.aload_n 0, 1) := by decide +kernel
theorem d_M_part_187 : decode prog_12_method_44_code 187 = .ok (.invokevirtual 243, 3) := by decide +kernel
theorem d_M_part_190 : decode prog_12_method_44_code 190 = .ok (.aload_n 0, 1) := by decide +kernel
theorem d_M_part_191 : decode prog_12_method_44_code 191 = .ok (.dup, 1) := by decide +kernel
theorem d_M_part_192 : decode prog_12_method_44_code 192 = .ok (.getfield 240, 3) := by decide +kernel
theorem d_M_part_195 : decode prog_12_method_44_code 195 = .ok (.iconst 1, 1) := by decide +kernel
theorem d_M_part_196 : decode prog_12_method_44_code 196 = .ok (.isub, 1) := by decide +kernel
theorem d_M_part_197 : decode prog_12_method_44_code 197 = .ok (.putfield 240, 3) := by decide +kernel
theorem d_M_part_200 : decode prog_12_method_44_code 200 = .ok (.aload_n 0, 1) := by decide +kernel
theorem d_M_part_201 : decode prog_12_method_44_code 201 = .ok (.ldc 246, 2) := by decide +kernel
theorem d_M_part_203 : decode prog_12_method_44_code 203 = .ok (.invokevirtual 230, 3) := by decide +kernel
theorem d_M_part_206 : decode prog_12_method_44_code 206 = .ok (.goto 67, 3) := by decide +kernel
theorem d_M_part_209 : decode prog_12_method_44_code 209 = .ok (.aload_n 0, 1) := by decide +kernel
theorem d_M_part_210 : decode prog_12_method_44_code 210 = .ok (.bipush 40, 2) := by decide +kernel
theorem d_M_part_212 : decode prog_12_method_44_code 212 = .ok (.invokevirtual 227, 3) := by decide +kernel
theorem d_M_part_215 : decode prog_12_method_44_code 215 = .ok (.ifCond .eq 53, 3) := by decide +kernel
theorem d_M_part_218 : decode prog_12_method_44_code 218 = .ok (.aload_n 0, 1) := by decide +kernel
theorem d_M_part_219 : decode prog_12_method_44_code 219 = .ok (.getfield 247, 3) := by decide +kernel
theorem d_M_part_222 : decode prog_12_method_44_code 222 = .ok (.bipush 8, 2) := by decide +kernel
theorem d_M_part_224 : decode prog_12_method_44_code 224 = .ok (.if_icmp .ge 44, 3) := by decide +kernel
theorem d_M_part_227 : decode prog_12_method_44_code 227 = .ok (.aload_n 0, 1) := by decide +kernel
theorem d_M_part_228 : decode prog_12_method_44_code 228 = .ok (.dup, 1) := by decide +kernel
theorem d_M_part_229 : decode prog_12_method_44_code 229 = .ok (.getfield 247, 3) := by decide +kernel
theorem d_M_part_232 : decode prog_12_method_44_code 232 = .ok (.iconst 1, 1) := by decide +kernel
theorem d_M_part_233 : decode prog_12_method_44_code 233 = .ok (.iadd, 1) := by decide +kernel
theorem d_M_part_234 : decode prog_12_method_44_code 234 = .ok (.putfield 247, 3) := by decide +kernel
theorem d_M_part_237 : decode prog_12_method_44_code 237 = .ok (.aload_n 0, 1) := by decide +kernel
theorem d_M_part_238 : decode prog_12_method_44_code 238 = .ok (.invokevirtual 211, 3) := by decide +kernel
theorem d_M_part_241 : decode prog_12_method_44_code 241 = .ok (.aload_n 0, 1) := by decide +kernel
theorem d_M_part_242 : decode prog_12_method_44_code 242 = .ok (.invokevirtual 250, 3) := by decide +kernel
theorem d_M_part_245 : decode prog_12_method_44_code 245 = .ok (.aload_n 0, 1) := by decide +kernel
theorem d_M_part_246 : decode prog_12_method_44_code 246 = .ok (.aload_n 0, 1) := by decide +kernel
theorem d_M_part_247 : decode prog_12_method_44_code 247 = .ok (.bipush 41, 2) := by decide +kernel
theorem d_M_part_249 : decode prog_12_method_44_code 249 = .ok (.invokevirtual 227, 3) := by decide +kernel
theorem d_M_part_252 : decode prog_12_method_44_code 252 = .ok (.invokevirtual 253, 3) := by decide +kernel
theorem d_M_part_255 : decode prog_12_method_44_code 255 = .ok (.aload_n 0, 1) := by decide +kernel
theorem d_M_part_256 : decode prog_12_method_44_code 256 = .ok (.dup, 1) := by decide +kernel
theorem d_M_part_257 : decode prog_12_method_44_code 257 = .ok (.getfield 247, 3) := by decide +kernel
theorem d_M_part_260 : decode prog_12_method_44_code 260 = .ok (.iconst 1, 1) := by decide +kernel
theorem d_M_part_261 : decode prog_12_method_44_code 261 = .ok (.isub, 1) := by decide +kernel
theorem d_M_part_262 : decode prog_12_method_44_code 262 = .ok (.putfield 247, 3) := by decide +kernel
theorem d_M_part_265 : decode prog_12_method_44_code 265 = .ok (.goto 8, 3) := by decide +kernel
theorem d_M_part_268 : decode prog_12_method_44_code 268 = .ok (.aload_n 0, 1) := by decide +kernel
theorem d_M_part_269 : decode prog_12_method_44_code 269 = .ok (.iconst 1, 1) := by decide +kernel
theorem d_M_part_270 : decode prog_12_method_44_code 270 = .ok (.putfield 207, 3) := by decide +kernel
theorem d_M_part_273 : decode prog_12_method_44_code 273 = .ok (.return_, 1) := by decide +kernel
theorem d_M_term_0 : decode prog_12_method_45_code 0 = .ok (.aload_n 0, 1) := by decide +kernel
theorem d_M_term_1 : decode prog_12_method_45_code 1 = .ok (.invokevirtual 243, 3) := by decide +kernel
theorem d_M_term_4 : decode prog_12_method_45_code 4 = .ok (.aload_n 0, 1) := by decide +kernel
theorem d_M_term_5 : decode prog_12_method_45_code 5 = .ok (.bipush 7, 2) := by decide +kernel
theorem d_M_term_7 : decode prog_12_method_45_code 7 = .ok (.bipush 8, 2) := by decide +kernel
theorem d_M_term_9 : decode prog_12_method_45_code 9 = .ok (.invokevirtual 257, 3) := by decide +kernel
theorem d_M_term_12 : decode prog_12_method_45_code 12 = .ok (.istore_n 1, 1) := by decide +kernel
theorem d_M_term_13 : decode prog_12_method_45_code 13 = .ok (.iload_n 1, 1) := by decide +kernel
theorem d_M_term_14 : decode prog_12_method_45_code 14 = .ok (.ifCond .lt 32, 3) := by decide +kernel
theorem d_M_term_17 : decode prog_12_method_45_code 17 = .ok (.aload_n 0, 1) := by decide +kernel
theorem d_M_term_18 : decode prog_12_method_45_code 18 = .ok (.invokevirtual 211, 3) := by decide +kernel
theorem d_M_term_21 : decode prog_12_method_45_code 21 = .ok (.aload_n 0, 1) := by decide +kernel
theorem d_M_term_22 : decode prog_12_method_45_code 22 = .ok (.invokevirtual 243, 3) := by decide +kernel
theorem d_M_term_25 : decode prog_12_method_45_code 25 = .ok (.aload_n 0, 1) := by decide +kernel
theorem d_M_term_26 : decode prog_12_method_45_code 26 = .ok (.ldc_w 260, 3) := by decide +kernel
theorem d_M_term_29 : decode prog_12_method_45_code 29 = .ok (.iload_n 1, 1) := by decide +kernel
theorem d_M_term_30 : decode prog_12_method_45_code 30 = .ok (.iadd, 1) := by decide +kernel
theorem d_M_term_31 : decode prog_12_method_45_code 31 = .ok (.invokevirtual 230, 3) := by decide +kernel
theorem d_M_term_34 : decode prog_12_method_45_code 34 = .ok (.aload_n 0, 1) := by decide +kernel
theorem d_M_term_35 : decode prog_12_method_45_code 35 = .ok (.bipush 7, 2) := by decide +kernel
theorem d_M_term_37 : decode prog_12_method_45_code 37 = .ok (.bipush 8, 2) := by decide +kernel
theorem d_M_term_39 : decode prog_12_method_45_code 39 = .ok (.invokevirtual 257, 3) := by decide +kernel
theorem d_M_term_42 : decode prog_12_method_45_code 42 = .ok (.istore_n 1, 1) := by decide +kernel
theorem d_M_term_43 : decode prog_12_method_45_code 43 = .ok (.goto (-30), 3) := by decide +kernel
theorem d_M_term_46 : decode prog_12_method_45_code 46 = .ok (.return_, 1) := by decide +kernel
theorem d_M_test_0 : decode prog_12_method_47_code 0 = .ok (.aload_n 0, 1) := by decide +kernel
theorem d_M_test_1 : decode prog_12_method_47_code 1 = .ok (.invokevirtual 264, 3) := by decide +kernel
theorem d_M_test_4 : decode prog_12_method_47_code 4 = .ok (.aload_n 0, 1) := by decide +kernel
theorem d_M_test_5 : decode prog_12_method_47_code 5 = .ok (.iconst 2, 1) := by decide +kernel
theorem d_M_test_6 : decode prog_12_method_47_code 6 = .ok (.iconst 4, 1) := by decide +kernel
theorem d_M_test_7 : decode prog_12_method_47_code 7 = .ok (.invokevirtual 257, 3) := by decide +kernel
theorem d_M_test_10 : decode prog_12_method_47_code 10 = .ok (.istore_n 1, 1) := by decide +kernel
theorem d_M_test_11 : decode prog_12_method_47_code 11 = .ok (.iload_n 1, 1) := by decide +kernel
theorem d_M_test_12 : decode prog_12_method_47_code 12 = .ok (.ifCond .lt 20, 3) := by decide +kernel
theorem d_M_test_15 : decode prog_12_method_47_code 15 = .ok (.aload_n 0, 1) := by decide +kernel
theorem d_M_test_16 : decode prog_12_method_47_code 16 = .ok (.invokevirtual 211, 3) := by decide +kernel
theorem d_M_test_19 : decode prog_12_method_47_code 19 = .ok (.aload_n 0, 1) := by decide +kernel
theorem d_M_test_20 : decode prog_12_method_47_code 20 = .ok (.invokevirtual 264, 3) := by decide +kernel
theorem d_M_test_23 : decode prog_12_method_47_code 23 = .ok (.aload_n 0, 1) := by decide +kernel
theorem d_M_test_24 : decode prog_12_method_47_code 24 = .ok (.ldc_w 260, 3) := by decide +kernel
theorem d_M_test_27 : decode prog_12_method_47_code 27 = .ok (.iload_n 1, 1) := by decide +kernel
theorem d_M_test_28 : decode prog_12_method_47_code 28 = .ok (.iadd, 1) := by decide +kernel
theorem d_M_test_29 : decode prog_12_method_47_code 29 = .ok (.invokevirtual 230, 3) := by decide +kernel
theorem d_M_test_32 : decode prog_12_method_47_code 32 = .ok (.return_, 1) := by decide +kernel
theorem d_M_either_0 : decode prog_12_method_49_code 0 = .ok (.aload_n 0, 1) := by decide +kernel
theorem d_M_either_1 : decode prog_12_method_49_code 1 = .ok (.invokevirtual 271, 3) := by decide +kernel
theorem d_M_either_4 : decode prog_12_method_49_code 4 = .ok (.aload_n 0, 1) := by decide +kernel
theorem d_M_either_5 : decode prog_12_method_49_code 5 = .ok (.iconst 0, 1) := by decide +kernel
theorem d_M_either_6 : decode prog_12_method_49_code 6 = .ok (.iconst 0, 1) := by decide +kernel
theorem d_M_either_7 : decode prog_12_method_49_code 7 = .ok (.invokevirtual 257, 3) := by decide +kernel
theorem d_M_either_10 : decode prog_12_method_49_code 10 = .ok (.ifCond .lt 21, 3) := by decide +kernel
theorem d_M_either_13 : decode prog_12_method_49_code 13 = .ok (.aload_n 0, 1) := by decide +kernel
theorem d_M_either_14 : decode prog_12_method_49_code 14 = .ok (.invokevirtual 211, 3) := by decide +kernel
theorem d_M_either_17 : decode prog_12_method_49_code 17 = .ok (.aload_n 0, 1) := by decide +kernel
theorem d_M_either_18 : decode prog_12_method_49_code 18 = .ok (.invokevirtual 271, 3) := by decide +kernel
theorem d_M_either_21 : decode prog_12_method_49_code 21 = .ok (.aload_n 0, 1) := by decide +kernel
theorem d_M_either_22 : decode prog_12_method_49_code 22 = .ok (.ldc_w 260, 3) := by decide +kernel
theorem d_M_either_25 : decode prog_12_method_49_code 25 = .ok (.invokevirtual 230, 3) := by decide +kernel
theorem d_M_either_28 : decode prog_12_method_49_code 28 = .ok (.goto (-24), 3) := by decide +kernel
theorem d_M_either_31 : decode prog_12_method_49_code 31 = .ok (.return_, 1) := by decide +kernel
theorem d_M_paper_0 : decode prog_12_method_59_code 0 = .ok (.iload_n 1, 1) := by decide +kernel
theorem d_M_paper_1 : decode prog_12_method_59_code 1 = .ok (.iconst 3, 1) := by decide +kernel
theorem d_M_paper_2 : decode prog_12_method_59_code 2 = .ok (.if_icmp .ne 12, 3) := by decide +kernel
theorem d_M_paper_5 : decode prog_12_method_59_code 5 = .ok (.aload_n 0, 1) := by decide +kernel
theorem d_M_paper_6 : decode prog_12_method_59_code 6 = .ok (.getfield 9, 3) := by decide +kernel
theorem d_M_paper_9 : decode prog_12_method_59_code 9 = .ok (.iconst 0, 1) := by decide +kernel
theorem d_M_paper_10 : decode prog_12_method_59_code 10 = .ok (.iaload, 1) := by decide +kernel
theorem d_M_paper_11 : decode prog_12_method_59_code 11 = .ok (.goto 18, 3) := by decide +kernel
theorem d_M_paper_14 : decode prog_12_method_59_code 14 = .ok (.iload_n 1, 1) := by decide +kernel
theorem d_M_paper_15 : decode prog_12_method_59_code 15 = .ok (.iconst 1, 1) := by decide +kernel
theorem d_M_paper_16 : decode prog_12_method_59_code 16 = .ok (.if_icmp .eq 8, 3) := by decide +kernel
theorem d_M_paper_19 : decode prog_12_method_59_code 19 = .ok (.iload_n 1, 1) := by decide +kernel
theorem d_M_paper_20 : decode prog_12_method_59_code 20 = .ok (.iconst 2, 1) := by decide +kernel
theorem d_M_paper_21 : decode prog_12_method_59_code 21 = .ok (.if_icmp .ne 7, 3) := by decide +kernel
theorem d_M_paper_24 : decode prog_12_method_59_code 24 = .ok (.iconst 1, 1) := by decide +kernel
theorem d_M_paper_25 : decode prog_12_method_59_code 25 = .ok (.goto 4, 3) := by decide +kernel
theorem d_M_paper_28 : decode prog_12_method_59_code 28 = .ok (.iconst 0, 1) := by decide +kernel
theorem d_M_paper_29 : decode prog_12_method_59_code 29 = .ok (.istore 4, 2) := by decide +kernel
theorem d_M_paper_31 : decode prog_12_method_59_code 31 = .ok (.iload_n 1, 1) := by decide +kernel
theorem d_M_paper_32 : decode prog_12_method_59_code 32 = .ok (.iconst 3, 1) := by decide +kernel
theorem d_M_paper_33 : decode prog_12_method_59_code 33 = .ok (.if_icmp .ne 9, 3) := by decide +kernel
theorem d_M_paper_36 : decode prog_12_method_59_code 36 = .ok (.sipush 9999, 3) := by decide +kernel
theorem d_M_paper_39 : decode prog_12_method_59_code 39 = .ok (.goto 30, 3) := by decide +kernel
theorem d_M_paper_42 : decode prog_12_method_59_code 42 = .ok (.iload_n 1, 1) := by decide +kernel
theorem d_M_paper_43 : decode prog_12_method_59_code 43 = .ok (.iconst 1, 1) := by decide +kernel
theorem d_M_paper_44 : decode prog_12_method_59_code 44 = .ok (.if_icmp .eq 8, 3) := by decide +kernel
theorem d_M_paper_47 : decode prog_12_method_59_code 47 = .ok (.iload_n 1, 1) := by decide +kernel
theorem d_M_paper_48 : decode prog_12_method_59_code 48 = .ok (.iconst 2, 1) := by decide +kernel
theorem d_M_paper_49 : decode prog_12_method_59_code 49 = .ok (.if_icmp .ne 9, 3) := by decide +kernel
theorem d_M_paper_52 : decode prog_12_method_59_code 52 = .ok (.sipush 999, 3) := by decide +kernel
theorem d_M_paper_55 : decode prog_12_method_59_code 55 = .ok (.goto 14, 3) := by decide +kernel
theorem d_M_paper_58 : decode prog_12_method_59_code 58 = .ok (.iload_n 1, 1) := by decide +kernel
theorem d_M_paper_59 : decode prog_12_method_59_code 59 = .ok (.iconst 4, 1) := by decide +kernel
theorem d_M_paper_60 : decode prog_12_method_59_code 60 = .ok (.if_icmp .ne 8, 3) := by decide +kernel
theorem d_M_paper_63 : decode prog_12_method_59_code 63 = .ok (.bipush 9, 2) := by decide +kernel
theorem d_M_paper_65 : decode prog_12_method_59_code 65 = .ok (.goto 4, 3) := by decide +kernel
theorem d_M_paper_68 : decode prog_12_method_59_code 68 = .ok (.iconst 0, 1) := by decide +kernel
theorem d_M_paper_69 : decode prog_12_method_59_code 69 = .ok (.istore 5, 2) := by decide +kernel
theorem d_M_paper_71 : decode prog_12_method_59_code 71 = .ok (.iload_n 1, 1) := by decide +kernel
theorem d_M_paper_72 : decode prog_12_method_59_code 72 = .ok (.i2l, 1) := by decide +kernel
theorem d_M_paper_73 : decode prog_12_method_59_code 73 = .ok (.lconst 0, 1) := by decide +kernel
theorem d_M_paper_74 : decode prog_12_method_59_code 74 = .ok (.ldc2_w 283, 3) := by decide +kernel
theorem d_M_paper_77 : decode prog_12_method_59_code 77 = .ok (.invokestatic 85, 3) := by decide +kernel
theorem d_M_paper_80 : decode prog_12_method_59_code 80 = .ok (.ifCond .eq 26, 3) := by decide +kernel
theorem d_M_paper_83 : decode prog_12_method_59_code 83 = .ok (.aload_n 0, 1) := by decide +kernel
theorem d_M_paper_84 : decode prog_12_method_59_code 84 = .ok (.iload_n 2, 1) := by decide +kernel
theorem d_M_paper_85 : decode prog_12_method_59_code 85 = .ok (.iconst 2, 1) := by decide +kernel
theorem d_M_paper_86 : decode prog_12_method_59_code 86 = .ok (.invokevirtual 118, 3) := by decide +kernel
theorem d_M_paper_89 : decode prog_12_method_59_code 89 = .ok (.ifCond .eq 17, 3) := by decide +kernel
theorem d_M_paper_92 : decode prog_12_method_59_code 92 = .ok (.iload_n 3, 1) := by decide +kernel
theorem d_M_paper_93 : decode prog_12_method_59_code 93 = .ok (.i2l, 1) := by decide +kernel
theorem d_M_paper_94 : decode prog_12_method_59_code 94 = .ok (.iload 4, 2) := by decide +kernel
theorem d_M_paper_96 : decode prog_12_method_59_code 96 = .ok (.i2l, 1) := by decide +kernel
theorem d_M_paper_97 : decode prog_12_method_59_code 97 = .ok (.iload 5, 2) := by decide +kernel
theorem d_M_paper_99 : decode prog_12_method_59_code 99 = .ok (.i2l, 1) := by decide +kernel
theorem d_M_paper_100 : decode prog_12_method_59_code 100 = .ok (.invokestatic 85, 3) := by decide +kernel
theorem d_M_paper_103 : decode prog_12_method_59_code 103 = .ok (.ifCond .ne 6, 3) := by decide +kernel
theorem d_M_paper_106 : decode prog_12_method_59_code 106 = .ok (.ldc 95, 2) := by decide +kernel
theorem d_M_paper_108 : decode prog_12_method_59_code 108 = .ok (.ireturn, 1) := by decide +kernel
theorem d_M_paper_109 : decode prog_12_method_59_code 109 = .ok (.aload_n 0, 1) := by decide +kernel
theorem d_M_paper_110 : decode prog_12_method_59_code 110 = .ok (.getfield 9, 3) := by decide +kernel
theorem d_M_paper_113 : decode prog_12_method_59_code 113 = .ok (.bipush 8, 2) := by decide +kernel
theorem d_M_paper_115 : decode prog_12_method_59_code 115 = .ok (.iaload, 1) := by decide +kernel
theorem d_M_paper_116 : decode prog_12_method_59_code 116 = .ok (.istore 6, 2) := by decide +kernel
theorem d_M_paper_118 : decode prog_12_method_59_code 118 = .ok (.iload 6, 2) := by decide +kernel
theorem d_M_paper_120 : decode prog_12_method_59_code 120 = .ok (.bipush 40, 2) := by decide +kernel
theorem d_M_paper_122 : decode prog_12_method_59_code 122 = .ok (.if_icmp .ne 6, 3) := by decide +kernel
theorem d_M_paper_125 : decode prog_12_method_59_code 125 = .ok (.ldc 96, 2) := by decide +kernel
theorem d_M_paper_127 : decode prog_12_method_59_code 127 = .ok (.ireturn, 1) := by decide +kernel
theorem d_M_paper_128 : decode prog_12_method_59_code 128 = .ok (.aload_n 0, 1) := by decide +kernel
theorem d_M_paper_129 : decode prog_12_method_59_code 129 = .ok (.getfield 9, 3) := by decide +kernel
theorem d_M_paper_132 : decode prog_12_method_59_code 132 = .ok (.sipush 474, 3) := by decide +kernel
theorem d_M_paper_135 : decode prog_12_method_59_code 135 = .ok (.iconst 4, 1) := by decide +kernel
theorem d_M_paper_136 : decode prog_12_method_59_code 136 = .ok (.iload 6, 2) := by decide +kernel
theorem d_M_paper_138 : decode prog_12_method_59_code 138 = .ok (.imul, 1) := by decide +kernel
theorem d_M_paper_139 : decode prog_12_method_59_code 139 = .ok (.iadd, 1) := by decide +kernel
theorem d_M_paper_140 : decode prog_12_method_59_code 140 = .ok (.iload_n 1, 1) := by decide +kernel
theorem d_M_paper_141 : decode prog_12_method_59_code 141 = .ok (.iastore, 1) := by decide +kernel
theorem d_M_paper_142 : decode prog_12_method_59_code 142 = .ok (.aload_n 0, 1) := by decide +kernel
theorem d_M_paper_143 : decode prog_12_method_59_code 143 = .ok (.getfield 9, 3) := by decide +kernel
theorem d_M_paper_146 : decode prog_12_method_59_code 146 = .ok (.sipush 474, 3) := by decide +kernel
theorem d_M_paper_149 : decode prog_12_method_59_code 149 = .ok (.iconst 4, 1) := by decide +kernel
theorem d_M_paper_150 : decode prog_12_method_59_code 150 = .ok (.iload 6, 2) := by decide +kernel
theorem d_M_paper_152 : decode prog_12_method_59_code 152 = .ok (.imul, 1) := by decide +kernel
theorem d_M_paper_153 : decode prog_12_method_59_code 153 = .ok (.iadd, 1) := by decide +kernel
theorem d_M_paper_154 : decode prog_12_method_59_code 154 = .ok (.iconst 1, 1) := by decide +kernel
theorem d_M_paper_155 : decode prog_12_method_59_code 155 = .ok (.iadd, 1) := by decide +kernel
theorem d_M_paper_156 : decode prog_12_method_59_code 156 = .ok (.iload_n 2, 1) := by decide +kernel
theorem d_M_paper_157 : decode prog_12_method_59_code 157 = .ok (.iastore, 1) := by decide +kernel
theorem d_M_paper_158 : decode prog_12_method_59_code 158 = .ok (.aload_n 0, 1) := by decide +kernel
theorem d_M_paper_159 : decode prog_12_method_59_code 159 = .ok (.getfield 9, 3) := by decide +kernel
theorem d_M_paper_162 : decode prog_12_method_59_code 162 = .ok (.sipush 474, 3) := by decide +kernel
theorem d_M_paper_165 : decode prog_12_method_59_code 165 = .ok (.iconst 4, 1) := by decide +kernel
theorem d_M_paper_166 : decode prog_12_method_59_code 166 = .ok (.iload 6, 2) := by decide +kernel
theorem d_M_paper_168 : decode prog_12_method_59_code 168 = .ok (.imul, 1) := by decide +kernel
theorem d_M_paper_169 : decode prog_12_method_59_code 169 = .ok (.iadd, 1) := by decide +kernel
theorem d_M_paper_170 : decode prog_12_method_59_code 170 = .ok (.iconst 2, 1) := by decide +kernel
theorem d_M_paper_171 : decode prog_12_method_59_code 171 = .ok (.iadd, 1) := by decide +kernel
theorem d_M_paper_172 : decode prog_12_method_59_code 172 = .ok (.iload_n 3, 1) := by decide +kernel
theorem d_M_paper_173 : decode prog_12_method_59_code 173 = .ok (.iastore, 1) := by decide +kernel
theorem d_M_paper_174 : decode prog_12_method_59_code 174 = .ok (.aload_n 0, 1) := by decide +kernel
theorem d_M_paper_175 : decode prog_12_method_59_code 175 = .ok (.getfield 9, 3) := by decide +kernel
theorem d_M_paper_178 : decode prog_12_method_59_code 178 = .ok (.sipush 474, 3) := by decide +kernel
theorem d_M_paper_181 : decode prog_12_method_59_code 181 = .ok (.iconst 4, 1) := by decide +kernel
theorem d_M_paper_182 : decode prog_12_method_59_code 182 = .ok (.iload 6, 2) := by decide +kernel
theorem d_M_paper_184 : decode prog_12_method_59_code 184 = .ok (.imul, 1) := by decide +kernel
theorem d_M_paper_185 : decode prog_12_method_59_code 185 = .ok (.iadd, 1) := by decide +kernel
theorem d_M_paper_186 : decode prog_12_method_59_code 186 = .ok (.iconst 3, 1) := by decide +kernel
theorem d_M_paper_187 : decode prog_12_method_59_code 187 = .ok (.iadd, 1) := by decide +kernel
theorem d_M_paper_188 : decode prog_12_method_59_code 188 = .ok (.aload_n 0, 1) := by decide +kernel
theorem d_M_paper_189 : decode prog_12_method_59_code 189 = .ok (.getfield 9, 3) := by decide +kernel
theorem d_M_paper_192 : decode prog_12_method_59_code 192 = .ok (.iconst 0, 1) := by decide +kernel
theorem d_M_paper_193 : decode prog_12_method_59_code 193 = .ok (.iaload, 1) := by decide +kernel
theorem d_M_paper_194 : decode prog_12_method_59_code 194 = .ok (.iastore, 1) := by decide +kernel
theorem d_M_paper_195 : decode prog_12_method_59_code 195 = .ok (.aload_n 0, 1) := by decide +kernel
theorem d_M_paper_196 : decode prog_12_method_59_code 196 = .ok (.getfield 9, 3) := by decide +kernel
theorem d_M_paper_199 : decode prog_12_method_59_code 199 = .ok (.bipush 8, 2) := by decide +kernel
theorem d_M_paper_201 : decode prog_12_method_59_code 201 = .ok (.dup2, 1) := by decide +kernel
theorem d_M_paper_202 : decode prog_12_method_59_code 202 = .ok (.iaload, 1) := by decide +kernel
theorem d_M_paper_203 : decode prog_12_method_59_code 203 = .ok (.iconst 1, 1) := by decide +kernel
theorem d_M_paper_204 : decode prog_12_method_59_code 204 = .ok (.iadd, 1) := by decide +kernel
theorem d_M_paper_205 : decode prog_12_method_59_code 205 = .ok (.iastore, 1) := by decide +kernel
theorem d_M_paper_206 : decode prog_12_method_59_code 206 = .ok (.iload 6, 2) := by decide +kernel
theorem d_M_paper_208 : decode prog_12_method_59_code 208 = .ok (.ireturn, 1) := by decide +kernel
theorem d_M_paperTold_0 : decode prog_12_method_60_code 0 = .ok (.aload_n 0, 1) := by decide +kernel
theorem d_M_paperTold_1 : decode prog_12_method_60_code 1 = .ok (.iload_n 1, 1) := by decide +kernel
theorem d_M_paperTold_2 : decode prog_12_method_60_code 2 = .ok (.bipush 8, 2) := by decide +kernel
theorem d_M_paperTold_4 : decode prog_12_method_60_code 4 = .ok (.invokevirtual 118, 3) := by decide +kernel
theorem d_M_paperTold_7 : decode prog_12_method_60_code 7 = .ok (.ifCond .eq 15, 3) := by decide +kernel
theorem d_M_paperTold_10 : decode prog_12_method_60_code 10 = .ok (.iload_n 2, 1) := by decide +kernel
theorem d_M_paperTold_11 : decode prog_12_method_60_code 11 = .ok (.i2l, 1) := by decide +kernel
theorem d_M_paperTold_12 : decode prog_12_method_60_code 12 = .ok (.lconst 0, 1) := by decide +kernel
theorem d_M_paperTold_13 : decode prog_12_method_60_code 13 = .ok (.ldc2_w 283, 3) := by decide +kernel
theorem d_M_paperTold_16 : decode prog_12_method_60_code 16 = .ok (.invokestatic 85, 3) := by decide +kernel
theorem d_M_paperTold_19 : decode prog_12_method_60_code 19 = .ok (.ifCond .ne 6, 3) := by decide +kernel
theorem d_M_paperTold_22 : decode prog_12_method_60_code 22 = .ok (.ldc 95, 2) := by decide +kernel
theorem d_M_paperTold_24 : decode prog_12_method_60_code 24 = .ok (.ireturn, 1) := by decide +kernel
theorem d_M_paperTold_25 : decode prog_12_method_60_code 25 = .ok (.sipush 474, 3) := by decide +kernel
theorem d_M_paperTold_28 : decode prog_12_method_60_code 28 = .ok (.iconst 4, 1) := by decide +kernel
theorem d_M_paperTold_29 : decode prog_12_method_60_code 29 = .ok (.iload_n 1, 1) := by decide +kernel
theorem d_M_paperTold_30 : decode prog_12_method_60_code 30 = .ok (.imul, 1) := by decide +kernel
theorem d_M_paperTold_31 : decode prog_12_method_60_code 31 = .ok (.iadd, 1) := by decide +kernel
theorem d_M_paperTold_32 : decode prog_12_method_60_code 32 = .ok (.istore_n 3, 1) := by decide +kernel
theorem d_M_paperTold_33 : decode prog_12_method_60_code 33 = .ok (.aload_n 0, 1) := by decide +kernel
theorem d_M_paperTold_34 : decode prog_12_method_60_code 34 = .ok (.getfield 9, 3) := by decide +kernel
theorem d_M_paperTold_37 : decode prog_12_method_60_code 37 = .ok (.iload_n 3, 1) := by decide +kernel
theorem d_M_paperTold_38 : decode prog_12_method_60_code 38 = .ok (.iaload, 1) := by decide +kernel
theorem d_M_paperTold_39 : decode prog_12_method_60_code 39 = .ok (.iconst 1, 1) := by decide +kernel
theorem d_M_paperTold_40 : decode prog_12_method_60_code 40 = .ok (.if_icmp .eq 13, 3) := by decide +kernel
theorem d_M_paperTold_43 : decode prog_12_method_60_code 43 = .ok (.aload_n 0, 1) := by decide +kernel
theorem d_M_paperTold_44 : decode prog_12_method_60_code 44 = .ok (.getfield 9, 3) := by decide +kernel
theorem d_M_paperTold_47 : decode prog_12_method_60_code 47 = .ok (.iload_n 3, 1) := by decide +kernel
theorem d_M_paperTold_48 : decode prog_12_method_60_code 48 = .ok (.iaload, 1) := by decide +kernel
theorem d_M_paperTold_49 : decode prog_12_method_60_code 49 = .ok (.iconst 2, 1) := by decide +kernel
theorem d_M_paperTold_50 : decode prog_12_method_60_code 50 = .ok (.if_icmp .ne 7, 3) := by decide +kernel
theorem d_M_paperTold_53 : decode prog_12_method_60_code 53 = .ok (.iconst 1, 1) := by decide +kernel
theorem d_M_paperTold_54 : decode prog_12_method_60_code 54 = .ok (.goto 4, 3) := by decide +kernel
theorem d_M_paperTold_57 : decode prog_12_method_60_code 57 = .ok (.iconst 0, 1) := by decide +kernel
theorem d_M_paperTold_58 : decode prog_12_method_60_code 58 = .ok (.istore 4, 2) := by decide +kernel
theorem d_M_paperTold_60 : decode prog_12_method_60_code 60 = .ok (.iload_n 2, 1) := by decide +kernel
theorem d_M_paperTold_61 : decode prog_12_method_60_code 61 = .ok (.iconst 4, 1) := by decide +kernel
theorem d_M_paperTold_62 : decode prog_12_method_60_code 62 = .ok (.if_icmp .ge 14, 3) := by decide +kernel
theorem d_M_paperTold_65 : decode prog_12_method_60_code 65 = .ok (.aload_n 0, 1) := by decide +kernel
theorem d_M_paperTold_66 : decode prog_12_method_60_code 66 = .ok (.getfield 9, 3) := by decide +kernel
theorem d_M_paperTold_69 : decode prog_12_method_60_code 69 = .ok (.iload_n 3, 1) := by decide +kernel
theorem d_M_paperTold_70 : decode prog_12_method_60_code 70 = .ok (.iload_n 2, 1) := by decide +kernel
theorem d_M_paperTold_71 : decode prog_12_method_60_code 71 = .ok (.iadd, 1) := by decide +kernel
theorem d_M_paperTold_72 : decode prog_12_method_60_code 72 = .ok (.iaload, 1) := by decide +kernel
theorem d_M_paperTold_73 : decode prog_12_method_60_code 73 = .ok (.goto 32, 3) := by decide +kernel
theorem d_M_paperTold_76 : decode prog_12_method_60_code 76 = .ok (.iload 4, 2) := by decide +kernel
theorem d_M_paperTold_78 : decode prog_12_method_60_code 78 = .ok (.ifCond .eq 25, 3) := by decide +kernel
theorem d_M_paperTold_81 : decode prog_12_method_60_code 81 = .ok (.aload_n 0, 1) := by decide +kernel
theorem d_M_paperTold_82 : decode prog_12_method_60_code 82 = .ok (.getfield 9, 3) := by decide +kernel
theorem d_M_paperTold_85 : decode prog_12_method_60_code 85 = .ok (.iload_n 3, 1) := by decide +kernel
theorem d_M_paperTold_86 : decode prog_12_method_60_code 86 = .ok (.iconst 3, 1) := by decide +kernel
theorem d_M_paperTold_87 : decode prog_12_method_60_code 87 = .ok (.iadd, 1) := by decide +kernel
theorem d_M_paperTold_88 : decode prog_12_method_60_code 88 = .ok (.iaload, 1) := by decide +kernel
theorem d_M_paperTold_89 : decode prog_12_method_60_code 89 = .ok (.aload_n 0, 1) := by decide +kernel
theorem d_M_paperTold_90 : decode prog_12_method_60_code 90 = .ok (.getfield 9, 3) := by decide +kernel
theorem d_M_paperTold_93 : decode prog_12_method_60_code 93 = .ok (.iload_n 3, 1) := by decide +kernel
theorem d_M_paperTold_94 : decode prog_12_method_60_code 94 = .ok (.iconst 2, 1) := by decide +kernel
theorem d_M_paperTold_95 : decode prog_12_method_60_code 95 = .ok (.iadd, 1) := by decide +kernel
theorem d_M_paperTold_96 : decode prog_12_method_60_code 96 = .ok (.iaload, 1) := by decide +kernel
theorem d_M_paperTold_97 : decode prog_12_method_60_code 97 = .ok (.iadd, 1) := by decide +kernel
theorem d_M_paperTold_98 : decode prog_12_method_60_code 98 = .ok (.iconst 1, 1) := by decide +kernel
theorem d_M_paperTold_99 : decode prog_12_method_60_code 99 = .ok (.isub, 1) := by decide +kernel
theorem d_M_paperTold_100 : decode prog_12_method_60_code 100 = .ok (.goto 5, 3) := by decide +kernel
theorem d_M_paperTold_103 : decode prog_12_method_60_code 103 = .ok (.ldc 136, 2) := by decide +kernel
theorem d_M_paperTold_105 : decode prog_12_method_60_code 105 = .ok (.ireturn, 1) := by decide +kernel
theorem d_M_above_0 : decode prog_12_method_58_code 0 = .ok (.iload_n 0, 1) := by decide +kernel
theorem d_M_above_1 : decode prog_12_method_58_code 1 = .ok (.iconst 2, 1) := by decide +kernel
theorem d_M_above_2 : decode prog_12_method_58_code 2 = .ok (.if_icmp .ne 7, 3) := by decide +kernel
theorem d_M_above_5 : decode prog_12_method_58_code 5 = .ok (.iconst 1, 1) := by decide +kernel
theorem d_M_above_6 : decode prog_12_method_58_code 6 = .ok (.goto 12, 3) := by decide +kernel
theorem d_M_above_9 : decode prog_12_method_58_code 9 = .ok (.iload_n 0, 1) := by decide +kernel
theorem d_M_above_10 : decode prog_12_method_58_code 10 = .ok (.ifCond .ne 7, 3) := by decide +kernel
theorem d_M_above_13 : decode prog_12_method_58_code 13 = .ok (.iconst (-1), 1) := by decide +kernel
theorem d_M_above_14 : decode prog_12_method_58_code 14 = .ok (.goto 4, 3) := by decide +kernel
theorem d_M_above_17 : decode prog_12_method_58_code 17 = .ok (.iconst 0, 1) := by decide +kernel
theorem d_M_above_18 : decode prog_12_method_58_code 18 = .ok (.ireturn, 1) := by decide +kernel
theorem d_M_has_0 : decode prog_12_method_7_code 0 = .ok (.iload_n 0, 1) := by decide +kernel
theorem d_M_has_1 : decode prog_12_method_7_code 1 = .ok (.iload_n 1, 1) := by decide +kernel
theorem d_M_has_2 : decode prog_12_method_7_code 2 = .ok (.ishr, 1) := by decide +kernel
theorem d_M_has_3 : decode prog_12_method_7_code 3 = .ok (.iconst 1, 1) := by decide +kernel
theorem d_M_has_4 : decode prog_12_method_7_code 4 = .ok (.iand, 1) := by decide +kernel
theorem d_M_has_5 : decode prog_12_method_7_code 5 = .ok (.iconst 1, 1) := by decide +kernel
theorem d_M_has_6 : decode prog_12_method_7_code 6 = .ok (.if_icmp .ne 7, 3) := by decide +kernel
theorem d_M_has_9 : decode prog_12_method_7_code 9 = .ok (.iconst 1, 1) := by decide +kernel
theorem d_M_has_10 : decode prog_12_method_7_code 10 = .ok (.goto 4, 3) := by decide +kernel
theorem d_M_has_13 : decode prog_12_method_7_code 13 = .ok (.iconst 0, 1) := by decide +kernel
theorem d_M_has_14 : decode prog_12_method_7_code 14 = .ok (.ireturn, 1) := by decide +kernel
theorem d_M_boardFor_0 : decode prog_12_method_67_code 0 = .ok (.iconst (-1), 1) := by decide +kernel
theorem d_M_boardFor_1 : decode prog_12_method_67_code 1 = .ok (.istore 4, 2) := by decide +kernel
theorem d_M_boardFor_3 : decode prog_12_method_67_code 3 = .ok (.iconst 0, 1) := by decide +kernel
theorem d_M_boardFor_4 : decode prog_12_method_67_code 4 = .ok (.istore 5, 2) := by decide +kernel
theorem d_M_boardFor_6 : decode prog_12_method_67_code 6 = .ok (.iconst 0, 1) := by decide +kernel
theorem d_M_boardFor_7 : decode prog_12_method_67_code 7 = .ok (.istore 6, 2) := by decide +kernel
theorem d_M_boardFor_9 : decode prog_12_method_67_code 9 = .ok (.iload 6, 2) := by decide +kernel
theorem d_M_boardFor_11 : decode prog_12_method_67_code 11 = .ok (.aload_n 0, 1) := by decide +kernel
theorem d_M_boardFor_12 : decode prog_12_method_67_code 12 = .ok (.getfield 9, 3) := by decide +kernel
theorem d_M_boardFor_15 : decode prog_12_method_67_code 15 = .ok (.bipush 9, 2) := by decide +kernel
theorem d_M_boardFor_17 : decode prog_12_method_67_code 17 = .ok (.iaload, 1) := by decide +kernel
theorem d_M_boardFor_18 : decode prog_12_method_67_code 18 = .ok (.if_icmp .ge 159, 3) := by decide +kernel
theorem d_M_boardFor_21 : decode prog_12_method_67_code 21 = .ok (.iload 6, 2) := by decide +kernel
theorem d_M_boardFor_23 : decode prog_12_method_67_code 23 = .ok (.iconst 1, 1) := by decide +kernel
theorem d_M_boardFor_24 : decode prog_12_method_67_code 24 = .ok (.iadd, 1) := by decide +kernel
theorem d_M_boardFor_25 : decode prog_12_method_67_code 25 = .ok (.istore 7, 2) := by decide +kernel
theorem d_M_boardFor_27 : decode prog_12_method_67_code 27 = .ok (.iload 7, 2) := by decide +kernel
theorem d_M_boardFor_29 : decode prog_12_method_67_code 29 = .ok (.aload_n 0, 1) := by decide +kernel
theorem d_M_boardFor_30 : decode prog_12_method_67_code 30 = .ok (.getfield 9, 3) := by decide +kernel
theorem d_M_boardFor_33 : decode prog_12_method_67_code 33 = .ok (.bipush 9, 2) := by decide +kernel
theorem d_M_boardFor_35 : decode prog_12_method_67_code 35 = .ok (.iaload, 1) := by decide +kernel
theorem d_M_boardFor_36 : decode prog_12_method_67_code 36 = .ok (.if_icmp .ge 135, 3) := by decide +kernel
theorem d_M_boardFor_39 : decode prog_12_method_67_code 39 = .ok (.iload 7, 2) := by decide +kernel
theorem d_M_boardFor_41 : decode prog_12_method_67_code 41 = .ok (.iconst 1, 1) := by decide +kernel
theorem d_M_boardFor_42 : decode prog_12_method_67_code 42 = .ok (.iadd, 1) := by decide +kernel
theorem d_M_boardFor_43 : decode prog_12_method_67_code 43 = .ok (.istore 8, 2) := by decide +kernel
theorem d_M_boardFor_45 : decode prog_12_method_67_code 45 = .ok (.iload 8, 2) := by decide +kernel
theorem d_M_boardFor_47 : decode prog_12_method_67_code 47 = .ok (.aload_n 0, 1) := by decide +kernel
theorem d_M_boardFor_48 : decode prog_12_method_67_code 48 = .ok (.getfield 9, 3) := by decide +kernel
theorem d_M_boardFor_51 : decode prog_12_method_67_code 51 = .ok (.bipush 9, 2) := by decide +kernel
theorem d_M_boardFor_53 : decode prog_12_method_67_code 53 = .ok (.iaload, 1) := by decide +kernel
theorem d_M_boardFor_54 : decode prog_12_method_67_code 54 = .ok (.if_icmp .ge 111, 3) := by decide +kernel
theorem d_M_boardFor_57 : decode prog_12_method_67_code 57 = .ok (.aload_n 0, 1) := by decide +kernel
theorem d_M_boardFor_58 : decode prog_12_method_67_code 58 = .ok (.iload 6, 2) := by decide +kernel
theorem d_M_boardFor_60 : decode prog_12_method_67_code 60 = .ok (.invokevirtual 306, 3) := by decide +kernel
theorem d_M_boardFor_63 : decode prog_12_method_67_code 63 = .ok (.aload_n 0, 1) := by decide +kernel
theorem d_M_boardFor_64 : decode prog_12_method_67_code 64 = .ok (.iload 7, 2) := by decide +kernel
theorem d_M_boardFor_66 : decode prog_12_method_67_code 66 = .ok (.invokevirtual 306, 3) := by decide +kernel
theorem d_M_boardFor_69 : decode prog_12_method_67_code 69 = .ok (.iadd, 1) := by decide +kernel
theorem d_M_boardFor_70 : decode prog_12_method_67_code 70 = .ok (.aload_n 0, 1) := by decide +kernel
theorem d_M_boardFor_71 : decode prog_12_method_67_code 71 = .ok (.iload 8, 2) := by decide +kernel
theorem d_M_boardFor_73 : decode prog_12_method_67_code 73 = .ok (.invokevirtual 306, 3) := by decide +kernel
theorem d_M_boardFor_76 : decode prog_12_method_67_code 76 = .ok (.iadd, 1) := by decide +kernel
theorem d_M_boardFor_77 : decode prog_12_method_67_code 77 = .ok (.istore 9, 2) := by decide +kernel
theorem d_M_boardFor_79 : decode prog_12_method_67_code 79 = .ok (.aload_n 0, 1) := by decide +kernel
theorem d_M_boardFor_80 : decode prog_12_method_67_code 80 = .ok (.iload 6, 2) := by decide +kernel
theorem d_M_boardFor_82 : decode prog_12_method_67_code 82 = .ok (.iload_n 1, 1) := by decide +kernel
theorem d_M_boardFor_83 : decode prog_12_method_67_code 83 = .ok (.iload_n 2, 1) := by decide +kernel
theorem d_M_boardFor_84 : decode prog_12_method_67_code 84 = .ok (.iload_n 3, 1) := by decide +kernel
theorem d_M_boardFor_85 : decode prog_12_method_67_code 85 = .ok (.invokevirtual 309, 3) := by decide +kernel
theorem d_M_boardFor_88 : decode prog_12_method_67_code 88 = .ok (.ifCond .eq 31, 3) := by decide +kernel
theorem d_M_boardFor_91 : decode prog_12_method_67_code 91 = .ok (.aload_n 0, 1) := by decide +kernel
theorem d_M_boardFor_92 : decode prog_12_method_67_code 92 = .ok (.iload 7, 2) := by decide +kernel
theorem d_M_boardFor_94 : decode prog_12_method_67_code 94 = .ok (.iload_n 1, 1) := by decide +kernel
theorem d_M_boardFor_95 : decode prog_12_method_67_code 95 = .ok (.iload_n 2, 1) := by decide +kernel
theorem d_M_boardFor_96 : decode prog_12_method_67_code 96 = .ok (.iload_n 3, 1) := by decide +kernel
theorem d_M_boardFor_97 : decode prog_12_method_67_code 97 = .ok (.invokevirtual 309, 3) := by decide +kernel
theorem d_M_boardFor_100 : decode prog_12_method_67_code 100 = .ok (.ifCond .eq 19, 3) := by decide +kernel
theorem d_M_boardFor_103 : decode prog_12_method_67_code 103 = .ok (.aload_n 0, 1) := by decide +kernel
theorem d_M_boardFor_104 : decode prog_12_method_67_code 104 = .ok (.iload 8, 2) := by decide +kernel
theorem d_M_boardFor_106 : decode prog_12_method_67_code 106 = .ok (.iload_n 1, 1) := by decide +kernel
theorem d_M_boardFor_107 : decode prog_12_method_67_code 107 = .ok (.iload_n 2, 1) := by decide +kernel
theorem d_M_boardFor_108 : decode prog_12_method_67_code 108 = .ok (.iload_n 3, 1) := by decide +kernel
theorem d_M_boardFor_109 : decode prog_12_method_67_code 109 = .ok (.invokevirtual 309, 3) := by decide +kernel
theorem d_M_boardFor_112 : decode prog_12_method_67_code 112 = .ok (.ifCond .eq 7, 3) := by decide +kernel
theorem d_M_boardFor_115 : decode prog_12_method_67_code 115 = .ok (.iconst 1, 1) := by decide +kernel
theorem d_M_boardFor_116 : decode prog_12_method_67_code 116 = .ok (.goto 4, 3) := by decide +kernel
theorem d_M_boardFor_119 : decode prog_12_method_67_code 119 = .ok (.iconst 0, 1) := by decide +kernel
theorem d_M_boardFor_120 : decode prog_12_method_67_code 120 = .ok (.istore 10, 2) := by decide +kernel
theorem d_M_boardFor_122 : decode prog_12_method_67_code 122 = .ok (.iload 10, 2) := by decide +kernel
theorem d_M_boardFor_124 : decode prog_12_method_67_code 124 = .ok (.ifCond .eq 35, 3) := by decide +kernel
theorem d_M_boardFor_127 : decode prog_12_method_67_code 127 = .ok (.iload 4, 2) := by decide +kernel
theorem d_M_boardFor_129 : decode prog_12_method_67_code 129 = .ok (.ifCond .lt 10, 3) := by decide +kernel
theorem d_M_boardFor_132 : decode prog_12_method_67_code 132 = .ok (.iload 9, 2) := by decide +kernel
theorem d_M_boardFor_134 : decode prog_12_method_67_code 134 = .ok (.iload 5, 2) := by decide +kernel
theorem d_M_boardFor_136 : decode prog_12_method_67_code 136 = .ok (.if_icmp .ge 23, 3) := by decide +kernel
theorem d_M_boardFor_139 : decode prog_12_method_67_code 139 = .ok (.bipush 100, 2) := by decide +kernel
theorem d_M_boardFor_141 : decode prog_12_method_67_code 141 = .ok (.iload 6, 2) := by decide +kernel
theorem d_M_boardFor_143 : decode prog_12_method_67_code 143 = .ok (.imul, 1) := by decide +kernel
theorem d_M_boardFor_144 : decode prog_12_method_67_code 144 = .ok (.bipush 10, 2) := by decide +kernel
theorem d_M_boardFor_146 : decode prog_12_method_67_code 146 = .ok (.iload 7, 2) := by decide +kernel
theorem d_M_boardFor_148 : decode prog_12_method_67_code 148 = .ok (.imul, 1) := by decide +kernel
theorem d_M_boardFor_149 : decode prog_12_method_67_code 149 = .ok (.iadd, 1) := by decide +kernel
theorem d_M_boardFor_150 : decode prog_12_method_67_code 150 = .ok (.iload 8, 2) := by decide +kernel
theorem d_M_boardFor_152 : decode prog_12_method_67_code 152 = .ok (.iadd, 1) := by decide +kernel
theorem d_M_boardFor_153 : decode prog_12_method_67_code 153 = .ok (.istore 4, 2) := by decide +kernel
theorem d_M_boardFor_155 : decode prog_12_method_67_code 155 = .ok (.iload 9, 2) := by decide +kernel
theorem d_M_boardFor_157 : decode prog_12_method_67_code 157 = .ok (.istore 5, 2) := by decide +kernel
theorem d_M_boardFor_159 : decode prog_12_method_67_code 159 = .ok (.iinc 8 1, 3) := by decide +kernel
theorem d_M_boardFor_162 : decode prog_12_method_67_code 162 = .ok (.goto (-117), 3) := by decide +kernel
theorem d_M_boardFor_165 : decode prog_12_method_67_code 165 = .ok (.iinc 7 1, 3) := by decide +kernel
theorem d_M_boardFor_168 : decode prog_12_method_67_code 168 = .ok (.goto (-141), 3) := by decide +kernel
theorem d_M_boardFor_171 : decode prog_12_method_67_code 171 = .ok (.iinc 6 1, 3) := by decide +kernel
theorem d_M_boardFor_174 : decode prog_12_method_67_code 174 = .ok (.goto (-165), 3) := by decide +kernel
theorem d_M_boardFor_177 : decode prog_12_method_67_code 177 = .ok (.iload 4, 2) := by decide +kernel
theorem d_M_boardFor_179 : decode prog_12_method_67_code 179 = .ok (.ireturn, 1) := by decide +kernel
theorem d_M_hearing_0 : decode prog_12_method_70_code 0 = .ok (.aload_n 0, 1) := by decide +kernel
theorem d_M_hearing_1 : decode prog_12_method_70_code 1 = .ok (.iload_n 1, 1) := by decide +kernel
theorem d_M_hearing_2 : decode prog_12_method_70_code 2 = .ok (.iconst 2, 1) := by decide +kernel
theorem d_M_hearing_3 : decode prog_12_method_70_code 3 = .ok (.invokevirtual 118, 3) := by decide +kernel
theorem d_M_hearing_6 : decode prog_12_method_70_code 6 = .ok (.ifCond .eq 21, 3) := by decide +kernel
theorem d_M_hearing_9 : decode prog_12_method_70_code 9 = .ok (.iload_n 2, 1) := by decide +kernel
theorem d_M_hearing_10 : decode prog_12_method_70_code 10 = .ok (.i2l, 1) := by decide +kernel
theorem d_M_hearing_11 : decode prog_12_method_70_code 11 = .ok (.aload_n 0, 1) := by decide +kernel
theorem d_M_hearing_12 : decode prog_12_method_70_code 12 = .ok (.getfield 9, 3) := by decide +kernel
theorem d_M_hearing_15 : decode prog_12_method_70_code 15 = .ok (.iconst 0, 1) := by decide +kernel
theorem d_M_hearing_16 : decode prog_12_method_70_code 16 = .ok (.iaload, 1) := by decide +kernel
theorem d_M_hearing_17 : decode prog_12_method_70_code 17 = .ok (.i2l, 1) := by decide +kernel
theorem d_M_hearing_18 : decode prog_12_method_70_code 18 = .ok (.ldc2_w 165, 3) := by decide +kernel
theorem d_M_hearing_21 : decode prog_12_method_70_code 21 = .ok (.invokestatic 85, 3) := by decide +kernel
theorem d_M_hearing_24 : decode prog_12_method_70_code 24 = .ok (.ifCond .ne 6, 3) := by decide +kernel
theorem d_M_hearing_27 : decode prog_12_method_70_code 27 = .ok (.ldc 95, 2) := by decide +kernel
theorem d_M_hearing_29 : decode prog_12_method_70_code 29 = .ok (.ireturn, 1) := by decide +kernel
theorem d_M_hearing_30 : decode prog_12_method_70_code 30 = .ok (.aload_n 0, 1) := by decide +kernel
theorem d_M_hearing_31 : decode prog_12_method_70_code 31 = .ok (.iload_n 1, 1) := by decide +kernel
theorem d_M_hearing_32 : decode prog_12_method_70_code 32 = .ok (.iconst 3, 1) := by decide +kernel
theorem d_M_hearing_33 : decode prog_12_method_70_code 33 = .ok (.invokevirtual 105, 3) := by decide +kernel
theorem d_M_hearing_36 : decode prog_12_method_70_code 36 = .ok (.ifCond .ne 11, 3) := by decide +kernel
theorem d_M_hearing_39 : decode prog_12_method_70_code 39 = .ok (.aload_n 0, 1) := by decide +kernel
theorem d_M_hearing_40 : decode prog_12_method_70_code 40 = .ok (.iload_n 1, 1) := by decide +kernel
theorem d_M_hearing_41 : decode prog_12_method_70_code 41 = .ok (.invokevirtual 133, 3) := by decide +kernel
theorem d_M_hearing_44 : decode prog_12_method_70_code 44 = .ok (.ifCond .lt 6, 3) := by decide +kernel
theorem d_M_hearing_47 : decode prog_12_method_70_code 47 = .ok (.ldc 139, 2) := by decide +kernel
theorem d_M_hearing_49 : decode prog_12_method_70_code 49 = .ok (.ireturn, 1) := by decide +kernel
theorem d_M_hearing_50 : decode prog_12_method_70_code 50 = .ok (.aload_n 0, 1) := by decide +kernel
theorem d_M_hearing_51 : decode prog_12_method_70_code 51 = .ok (.getfield 9, 3) := by decide +kernel
theorem d_M_hearing_54 : decode prog_12_method_70_code 54 = .ok (.bipush 10, 2) := by decide +kernel
theorem d_M_hearing_56 : decode prog_12_method_70_code 56 = .ok (.iaload, 1) := by decide +kernel
theorem d_M_hearing_57 : decode prog_12_method_70_code 57 = .ok (.istore_n 3, 1) := by decide +kernel
theorem d_M_hearing_58 : decode prog_12_method_70_code 58 = .ok (.iload_n 3, 1) := by decide +kernel
theorem d_M_hearing_59 : decode prog_12_method_70_code 59 = .ok (.bipush 30, 2) := by decide +kernel
theorem d_M_hearing_61 : decode prog_12_method_70_code 61 = .ok (.if_icmp .ne 6, 3) := by decide +kernel
theorem d_M_hearing_64 : decode prog_12_method_70_code 64 = .ok (.ldc 96, 2) := by decide +kernel
theorem d_M_hearing_66 : decode prog_12_method_70_code 66 = .ok (.ireturn, 1) := by decide +kernel
theorem d_M_hearing_67 : decode prog_12_method_70_code 67 = .ok (.iconst 0, 1) := by decide +kernel
theorem d_M_hearing_68 : decode prog_12_method_70_code 68 = .ok (.istore 4, 2) := by decide +kernel
theorem d_M_hearing_70 : decode prog_12_method_70_code 70 = .ok (.iload 4, 2) := by decide +kernel
theorem d_M_hearing_72 : decode prog_12_method_70_code 72 = .ok (.bipush 6, 2) := by decide +kernel
theorem d_M_hearing_74 : decode prog_12_method_70_code 74 = .ok (.if_icmp .ge 21, 3) := by decide +kernel
theorem d_M_hearing_77 : decode prog_12_method_70_code 77 = .ok (.aload_n 0, 1) := by decide +kernel
theorem d_M_hearing_78 : decode prog_12_method_70_code 78 = .ok (.getfield 9, 3) := by decide +kernel
theorem d_M_hearing_81 : decode prog_12_method_70_code 81 = .ok (.iload_n 3, 1) := by decide +kernel
theorem d_M_hearing_82 : decode prog_12_method_70_code 82 = .ok (.iload 4, 2) := by decide +kernel
theorem d_M_hearing_84 : decode prog_12_method_70_code 84 = .ok (.invokestatic 316, 3) := by decide +kernel
theorem d_M_hearing_87 : decode prog_12_method_70_code 87 = .ok (.iconst 0, 1) := by decide +kernel
theorem d_M_hearing_88 : decode prog_12_method_70_code 88 = .ok (.iastore, 1) := by decide +kernel
theorem d_M_hearing_89 : decode prog_12_method_70_code 89 = .ok (.iinc 4 1, 3) := by decide +kernel
theorem d_M_hearing_92 : decode prog_12_method_70_code 92 = .ok (.goto (-22), 3) := by decide +kernel
theorem d_M_hearing_95 : decode prog_12_method_70_code 95 = .ok (.aload_n 0, 1) := by decide +kernel
theorem d_M_hearing_96 : decode prog_12_method_70_code 96 = .ok (.getfield 9, 3) := by decide +kernel
theorem d_M_hearing_99 : decode prog_12_method_70_code 99 = .ok (.iload_n 3, 1) := by decide +kernel
theorem d_M_hearing_100 : decode prog_12_method_70_code 100 = .ok (.iconst 0, 1) := by decide +kernel
theorem d_M_hearing_101 : decode prog_12_method_70_code 101 = .ok (.invokestatic 316, 3) := by decide +kernel
theorem d_M_hearing_104 : decode prog_12_method_70_code 104 = .ok (.iload_n 1, 1) := by decide +kernel
theorem d_M_hearing_105 : decode prog_12_method_70_code 105 = .ok (.iastore, 1) := by decide +kernel
theorem d_M_hearing_106 : decode prog_12_method_70_code 106 = .ok (.aload_n 0, 1) := by decide +kernel
theorem d_M_hearing_107 : decode prog_12_method_70_code 107 = .ok (.getfield 9, 3) := by decide +kernel
theorem d_M_hearing_110 : decode prog_12_method_70_code 110 = .ok (.iload_n 3, 1) := by decide +kernel
theorem d_M_hearing_111 : decode prog_12_method_70_code 111 = .ok (.iconst 1, 1) := by decide +kernel
theorem d_M_hearing_112 : decode prog_12_method_70_code 112 = .ok (.invokestatic 316, 3) := by decide +kernel
theorem d_M_hearing_115 : decode prog_12_method_70_code 115 = .ok (.iload_n 2, 1) := by decide +kernel
theorem d_M_hearing_116 : decode prog_12_method_70_code 116 = .ok (.iastore, 1) := by decide +kernel
theorem d_M_hearing_117 : decode prog_12_method_70_code 117 = .ok (.aload_n 0, 1) := by decide +kernel
theorem d_M_hearing_118 : decode prog_12_method_70_code 118 = .ok (.getfield 9, 3) := by decide +kernel
theorem d_M_hearing_121 : decode prog_12_method_70_code 121 = .ok (.bipush 10, 2) := by decide +kernel
theorem d_M_hearing_123 : decode prog_12_method_70_code 123 = .ok (.dup2, 1) := by decide +kernel
theorem d_M_hearing_124 : decode prog_12_method_70_code 124 = .ok (.iaload, 1) := by decide +kernel
theorem d_M_hearing_125 : decode prog_12_method_70_code 125 = .ok (.iconst 1, 1) := by decide +kernel
theorem d_M_hearing_126 : decode prog_12_method_70_code 126 = .ok (.iadd, 1) := by decide +kernel
theorem d_M_hearing_127 : decode prog_12_method_70_code 127 = .ok (.iastore, 1) := by decide +kernel
theorem d_M_hearing_128 : decode prog_12_method_70_code 128 = .ok (.iload_n 3, 1) := by decide +kernel
theorem d_M_hearing_129 : decode prog_12_method_70_code 129 = .ok (.ireturn, 1) := by decide +kernel
theorem d_M_heard_0 : decode prog_12_method_71_code 0 = .ok (.aload_n 0, 1) := by decide +kernel
theorem d_M_heard_1 : decode prog_12_method_71_code 1 = .ok (.iload_n 1, 1) := by decide +kernel
theorem d_M_heard_2 : decode prog_12_method_71_code 2 = .ok (.bipush 10, 2) := by decide +kernel
theorem d_M_heard_4 : decode prog_12_method_71_code 4 = .ok (.invokevirtual 118, 3) := by decide +kernel
theorem d_M_heard_7 : decode prog_12_method_71_code 7 = .ok (.ifCond .eq 15, 3) := by decide +kernel
theorem d_M_heard_10 : decode prog_12_method_71_code 10 = .ok (.iload_n 2, 1) := by decide +kernel
theorem d_M_heard_11 : decode prog_12_method_71_code 11 = .ok (.i2l, 1) := by decide +kernel
theorem d_M_heard_12 : decode prog_12_method_71_code 12 = .ok (.lconst 0, 1) := by decide +kernel
theorem d_M_heard_13 : decode prog_12_method_71_code 13 = .ok (.ldc2_w 283, 3) := by decide +kernel
theorem d_M_heard_16 : decode prog_12_method_71_code 16 = .ok (.invokestatic 85, 3) := by decide +kernel
theorem d_M_heard_19 : decode prog_12_method_71_code 19 = .ok (.ifCond .ne 8, 3) := by decide +kernel
theorem d_M_heard_22 : decode prog_12_method_71_code 22 = .ok (.ldc 95, 2) := by decide +kernel
theorem d_M_heard_24 : decode prog_12_method_71_code 24 = .ok (.goto 13, 3) := by decide +kernel
theorem d_M_heard_27 : decode prog_12_method_71_code 27 = .ok (.aload_n 0, 1) := by decide +kernel
theorem d_M_heard_28 : decode prog_12_method_71_code 28 = .ok (.getfield 9, 3) := by decide +kernel
theorem d_M_heard_31 : decode prog_12_method_71_code 31 = .ok (.iload_n 1, 1) := by decide +kernel
theorem d_M_heard_32 : decode prog_12_method_71_code 32 = .ok (.iload_n 2, 1) := by decide +kernel
theorem d_M_heard_33 : decode prog_12_method_71_code 33 = .ok (.invokestatic 316, 3) := by decide +kernel
theorem d_M_heard_36 : decode prog_12_method_71_code 36 = .ok (.iaload, 1) := by decide +kernel
theorem d_M_heard_37 : decode prog_12_method_71_code 37 = .ok (.ireturn, 1) := by decide +kernel
theorem d_M_hasNotice_0 : decode prog_12_method_73_code 0 = .ok (.aload_n 0, 1) := by decide +kernel
theorem d_M_hasNotice_1 : decode prog_12_method_73_code 1 = .ok (.aload_n 0, 1) := by decide +kernel
theorem d_M_hasNotice_2 : decode prog_12_method_73_code 2 = .ok (.iload_n 1, 1) := by decide +kernel
theorem d_M_hasNotice_3 : decode prog_12_method_73_code 3 = .ok (.iconst 0, 1) := by decide +kernel
theorem d_M_hasNotice_4 : decode prog_12_method_73_code 4 = .ok (.invokevirtual 105, 3) := by decide +kernel
theorem d_M_hasNotice_7 : decode prog_12_method_73_code 7 = .ok (.iconst 1, 1) := by decide +kernel
theorem d_M_hasNotice_8 : decode prog_12_method_73_code 8 = .ok (.aload_n 0, 1) := by decide +kernel
theorem d_M_hasNotice_9 : decode prog_12_method_73_code 9 = .ok (.iload_n 1, 1) := by decide +kernel
theorem d_M_hasNotice_10 : decode prog_12_method_73_code 10 = .ok (.iconst 4, 1) := by decide +kernel
theorem d_M_hasNotice_11 : decode prog_12_method_73_code 11 = .ok (.invokevirtual 105, 3) := by decide +kernel
theorem d_M_hasNotice_14 : decode prog_12_method_73_code 14 = .ok (.iconst 0, 1) := by decide +kernel
theorem d_M_hasNotice_15 : decode prog_12_method_73_code 15 = .ok (.iconst 0, 1) := by decide +kernel
theorem d_M_hasNotice_16 : decode prog_12_method_73_code 16 = .ok (.iconst 0, 1) := by decide +kernel
theorem d_M_hasNotice_17 : decode prog_12_method_73_code 17 = .ok (.invokevirtual 170, 3) := by decide +kernel
theorem d_M_hasNotice_20 : decode prog_12_method_73_code 20 = .ok (.istore_n 2, 1) := by decide +kernel
theorem d_M_hasNotice_21 : decode prog_12_method_73_code 21 = .ok (.iconst 0, 1) := by decide +kernel
theorem d_M_hasNotice_22 : decode prog_12_method_73_code 22 = .ok (.istore_n 3, 1) := by decide +kernel
theorem d_M_hasNotice_23 : decode prog_12_method_73_code 23 = .ok (.iconst 0, 1) := by decide +kernel
theorem d_M_hasNotice_24 : decode prog_12_method_73_code 24 = .ok (.istore 4, 2) := by decide +kernel
theorem d_M_hasNotice_26 : decode prog_12_method_73_code 26 = .ok (.iload 4, 2) := by decide +kernel
theorem d_M_hasNotice_28 : decode prog_12_method_73_code 28 = .ok (.aload_n 0, 1) := by decide +kernel
theorem d_M_hasNotice_29 : decode prog_12_method_73_code 29 = .ok (.getfield 9, 3) := by decide +kernel
theorem d_M_hasNotice_32 : decode prog_12_method_73_code 32 = .ok (.bipush 8, 2) := by decide +kernel
theorem d_M_hasNotice_34 : decode prog_12_method_73_code 34 = .ok (.iaload, 1) := by decide +kernel
theorem d_M_hasNotice_35 : decode prog_12_method_73_code 35 = .ok (.if_icmp .ge 91, 3) := by decide +kernel
theorem d_M_hasNotice_38 : decode prog_12_method_73_code 38 = .ok (.sipush 474, 3) := by decide +kernel
theorem d_M_hasNotice_41 : decode prog_12_method_73_code 41 = .ok (.iconst 4, 1) := by decide +kernel
theorem d_M_hasNotice_42 : decode prog_12_method_73_code 42 = .ok (.iload 4, 2) := by decide +kernel
theorem d_M_hasNotice_44 : decode prog_12_method_73_code 44 = .ok (.imul, 1) := by decide +kernel
theorem d_M_hasNotice_45 : decode prog_12_method_73_code 45 = .ok (.iadd, 1) := by decide +kernel
theorem d_M_hasNotice_46 : decode prog_12_method_73_code 46 = .ok (.istore 5, 2) := by decide +kernel
theorem d_M_hasNotice_48 : decode prog_12_method_73_code 48 = .ok (.iload_n 3, 1) := by decide +kernel
theorem d_M_hasNotice_49 : decode prog_12_method_73_code 49 = .ok (.ifCond .ne 65, 3) := by decide +kernel
theorem d_M_hasNotice_52 : decode prog_12_method_73_code 52 = .ok (.aload_n 0, 1) := by decide +kernel
theorem d_M_hasNotice_53 : decode prog_12_method_73_code 53 = .ok (.getfield 9, 3) := by decide +kernel
theorem d_M_hasNotice_56 : decode prog_12_method_73_code 56 = .ok (.iload 5, 2) := by decide +kernel
theorem d_M_hasNotice_58 : decode prog_12_method_73_code 58 = .ok (.iaload, 1) := by decide +kernel
theorem d_M_hasNotice_59 : decode prog_12_method_73_code 59 = .ok (.iconst 3, 1) := by decide +kernel
theorem d_M_hasNotice_60 : decode prog_12_method_73_code 60 = .ok (.if_icmp .ne 58, 3) := by decide +kernel
theorem d_M_hasNotice_63 : decode prog_12_method_73_code 63 = .ok (.aload_n 0, 1) := by decide +kernel
theorem d_M_hasNotice_64 : decode prog_12_method_73_code 64 = .ok (.getfield 9, 3) := by decide +kernel
theorem d_M_hasNotice_67 : decode prog_12_method_73_code 67 = .ok (.iload 5, 2) := by decide +kernel
theorem d_M_hasNotice_69 : decode prog_12_method_73_code 69 = .ok (.iconst 1, 1) := by decide +kernel
theorem d_M_hasNotice_70 : decode prog_12_method_73_code 70 = .ok (.iadd, 1) := by decide +kernel
theorem d_M_hasNotice_71 : decode prog_12_method_73_code 71 = .ok (.iaload, 1) := by decide +kernel
theorem d_M_hasNotice_72 : decode prog_12_method_73_code 72 = .ok (.iload_n 1, 1) := by decide +kernel
theorem d_M_hasNotice_73 : decode prog_12_method_73_code 73 = .ok (.if_icmp .ne 45, 3) := by decide +kernel
theorem d_M_hasNotice_76 : decode prog_12_method_73_code 76 = .ok (.aload_n 0, 1) := by decide +kernel
theorem d_M_hasNotice_77 : decode prog_12_method_73_code 77 = .ok (.getfield 9, 3) := by decide +kernel
theorem d_M_hasNotice_80 : decode prog_12_method_73_code 80 = .ok (.iload 5, 2) := by decide +kernel
theorem d_M_hasNotice_82 : decode prog_12_method_73_code 82 = .ok (.iconst 2, 1) := by decide +kernel
theorem d_M_hasNotice_83 : decode prog_12_method_73_code 83 = .ok (.iadd, 1) := by decide +kernel
theorem d_M_hasNotice_84 : decode prog_12_method_73_code 84 = .ok (.iaload, 1) := by decide +kernel
theorem d_M_hasNotice_85 : decode prog_12_method_73_code 85 = .ok (.aload_n 0, 1) := by decide +kernel
theorem d_M_hasNotice_86 : decode prog_12_method_73_code 86 = .ok (.getfield 9, 3) := by decide +kernel
theorem d_M_hasNotice_89 : decode prog_12_method_73_code 89 = .ok (.iconst 0, 1) := by decide +kernel
theorem d_M_hasNotice_90 : decode prog_12_method_73_code 90 = .ok (.iaload, 1) := by decide +kernel
theorem d_M_hasNotice_91 : decode prog_12_method_73_code 91 = .ok (.if_icmp .ne 27, 3) := by decide +kernel
theorem d_M_hasNotice_94 : decode prog_12_method_73_code 94 = .ok (.aload_n 0, 1) := by decide +kernel
theorem d_M_hasNotice_95 : decode prog_12_method_73_code 95 = .ok (.getfield 9, 3) := by decide +kernel
theorem d_M_hasNotice_98 : decode prog_12_method_73_code 98 = .ok (.iconst 0, 1) := by decide +kernel
theorem d_M_hasNotice_99 : decode prog_12_method_73_code 99 = .ok (.iaload, 1) := by decide +kernel
theorem d_M_hasNotice_100 : decode prog_12_method_73_code 100 = .ok (.aload_n 0, 1) := by decide +kernel
theorem d_M_hasNotice_101 : decode prog_12_method_73_code 101 = .ok (.getfield 9, 3) := by decide +kernel
theorem d_M_hasNotice_104 : decode prog_12_method_73_code 104 = .ok (.iload 5, 2) := by decide +kernel
theorem d_M_hasNotice_106 : decode prog_12_method_73_code 106 = .ok (.iconst 3, 1) := by decide +kernel
theorem d_M_hasNotice_107 : decode prog_12_method_73_code 107 = .ok (.iadd, 1) := by decide +kernel
theorem d_M_hasNotice_108 : decode prog_12_method_73_code 108 = .ok (.iaload, 1) := by decide +kernel
theorem d_M_hasNotice_109 : decode prog_12_method_73_code 109 = .ok (.isub, 1) := by decide +kernel
theorem d_M_hasNotice_110 : decode prog_12_method_73_code 110 = .ok (.iload_n 2, 1) := by decide +kernel
theorem d_M_hasNotice_111 : decode prog_12_method_73_code 111 = .ok (.if_icmp .lt 7, 3) := by decide +kernel
theorem d_M_hasNotice_114 : decode prog_12_method_73_code 114 = .ok (.iconst 1, 1) := by decide +kernel
theorem d_M_hasNotice_115 : decode prog_12_method_73_code 115 = .ok (.goto 4, 3) := by decide +kernel
theorem d_M_hasNotice_118 : decode prog_12_method_73_code 118 = .ok (.iconst 0, 1) := by decide +kernel
theorem d_M_hasNotice_119 : decode prog_12_method_73_code 119 = .ok (.istore_n 3, 1) := by decide +kernel
theorem d_M_hasNotice_120 : decode prog_12_method_73_code 120 = .ok (.iinc 4 1, 3) := by decide +kernel
theorem d_M_hasNotice_123 : decode prog_12_method_73_code 123 = .ok (.goto (-97), 3) := by decide +kernel
theorem d_M_hasNotice_126 : decode prog_12_method_73_code 126 = .ok (.iload_n 3, 1) := by decide +kernel
theorem d_M_hasNotice_127 : decode prog_12_method_73_code 127 = .ok (.ireturn, 1) := by decide +kernel
theorem d_M_cause_0 : decode prog_12_method_75_code 0 = .ok (.aload_n 0, 1) := by decide +kernel
theorem d_M_cause_1 : decode prog_12_method_75_code 1 = .ok (.iload_n 1, 1) := by decide +kernel
theorem d_M_cause_2 : decode prog_12_method_75_code 2 = .ok (.iconst 2, 1) := by decide +kernel
theorem d_M_cause_3 : decode prog_12_method_75_code 3 = .ok (.invokevirtual 118, 3) := by decide +kernel
theorem d_M_cause_6 : decode prog_12_method_75_code 6 = .ok (.ifCond .ne 6, 3) := by decide +kernel
theorem d_M_cause_9 : decode prog_12_method_75_code 9 = .ok (.ldc 95, 2) := by decide +kernel
theorem d_M_cause_11 : decode prog_12_method_75_code 11 = .ok (.ireturn, 1) := by decide +kernel
theorem d_M_cause_12 : decode prog_12_method_75_code 12 = .ok (.aload_n 0, 1) := by decide +kernel
theorem d_M_cause_13 : decode prog_12_method_75_code 13 = .ok (.iload_n 1, 1) := by decide +kernel
theorem d_M_cause_14 : decode prog_12_method_75_code 14 = .ok (.iconst 3, 1) := by decide +kernel
theorem d_M_cause_15 : decode prog_12_method_75_code 15 = .ok (.invokevirtual 105, 3) := by decide +kernel
theorem d_M_cause_18 : decode prog_12_method_75_code 18 = .ok (.ifCond .eq 8, 3) := by decide +kernel
theorem d_M_cause_21 : decode prog_12_method_75_code 21 = .ok (.ldc 139, 2) := by decide +kernel
theorem d_M_cause_23 : decode prog_12_method_75_code 23 = .ok (.goto 8, 3) := by decide +kernel
theorem d_M_cause_26 : decode prog_12_method_75_code 26 = .ok (.aload_n 0, 1) := by decide +kernel
theorem d_M_cause_27 : decode prog_12_method_75_code 27 = .ok (.iload_n 1, 1) := by decide +kernel
theorem d_M_cause_28 : decode prog_12_method_75_code 28 = .ok (.invokevirtual 325, 3) := by decide +kernel
theorem d_M_cause_31 : decode prog_12_method_75_code 31 = .ok (.ireturn, 1) := by decide +kernel
theorem d_M_isToday_0 : decode prog_12_method_78_code 0 = .ok (.aload_n 0, 1) := by decide +kernel
theorem d_M_isToday_1 : decode prog_12_method_78_code 1 = .ok (.getfield 9, 3) := by decide +kernel
theorem d_M_isToday_4 : decode prog_12_method_78_code 4 = .ok (.iload_n 1, 1) := by decide +kernel
theorem d_M_isToday_5 : decode prog_12_method_78_code 5 = .ok (.iconst 2, 1) := by decide +kernel
theorem d_M_isToday_6 : decode prog_12_method_78_code 6 = .ok (.invokestatic 316, 3) := by decide +kernel
theorem d_M_isToday_9 : decode prog_12_method_78_code 9 = .ok (.iaload, 1) := by decide +kernel
theorem d_M_isToday_10 : decode prog_12_method_78_code 10 = .ok (.ifCond .ne 26, 3) := by decide +kernel
theorem d_M_isToday_13 : decode prog_12_method_78_code 13 = .ok (.aload_n 0, 1) := by decide +kernel
theorem d_M_isToday_14 : decode prog_12_method_78_code 14 = .ok (.getfield 9, 3) := by decide +kernel
theorem d_M_isToday_17 : decode prog_12_method_78_code 17 = .ok (.iload_n 1, 1) := by decide +kernel
theorem d_M_isToday_18 : decode prog_12_method_78_code 18 = .ok (.iconst 1, 1) := by decide +kernel
theorem d_M_isToday_19 : decode prog_12_method_78_code 19 = .ok (.invokestatic 316, 3) := by decide +kernel
theorem d_M_isToday_22 : decode prog_12_method_78_code 22 = .ok (.iaload, 1) := by decide +kernel
theorem d_M_isToday_23 : decode prog_12_method_78_code 23 = .ok (.aload_n 0, 1) := by decide +kernel
theorem d_M_isToday_24 : decode prog_12_method_78_code 24 = .ok (.getfield 9, 3) := by decide +kernel
theorem d_M_isToday_27 : decode prog_12_method_78_code 27 = .ok (.iconst 0, 1) := by decide +kernel
theorem d_M_isToday_28 : decode prog_12_method_78_code 28 = .ok (.iaload, 1) := by decide +kernel
theorem d_M_isToday_29 : decode prog_12_method_78_code 29 = .ok (.if_icmp .ne 7, 3) := by decide +kernel
theorem d_M_isToday_32 : decode prog_12_method_78_code 32 = .ok (.iconst 1, 1) := by decide +kernel
theorem d_M_isToday_33 : decode prog_12_method_78_code 33 = .ok (.goto 4, 3) := by decide +kernel
theorem d_M_isToday_36 : decode prog_12_method_78_code 36 = .ok (.iconst 0, 1) := by decide +kernel
theorem d_M_isToday_37 : decode prog_12_method_78_code 37 = .ok (.ireturn, 1) := by decide +kernel
theorem d_M_hear_0 : decode prog_12_method_79_code 0 = .ok (.aload_n 0, 1) := by decide +kernel
theorem d_M_hear_1 : decode prog_12_method_79_code 1 = .ok (.getfield 9, 3) := by decide +kernel
theorem d_M_hear_4 : decode prog_12_method_79_code 4 = .ok (.iload_n 1, 1) := by decide +kernel
theorem d_M_hear_5 : decode prog_12_method_79_code 5 = .ok (.iconst 0, 1) := by decide +kernel
theorem d_M_hear_6 : decode prog_12_method_79_code 6 = .ok (.invokestatic 316, 3) := by decide +kernel
theorem d_M_hear_9 : decode prog_12_method_79_code 9 = .ok (.iaload, 1) := by decide +kernel
theorem d_M_hear_10 : decode prog_12_method_79_code 10 = .ok (.istore_n 2, 1) := by decide +kernel
theorem d_M_hear_11 : decode prog_12_method_79_code 11 = .ok (.aload_n 0, 1) := by decide +kernel
theorem d_M_hear_12 : decode prog_12_method_79_code 12 = .ok (.aload_n 0, 1) := by decide +kernel
theorem d_M_hear_13 : decode prog_12_method_79_code 13 = .ok (.iload_n 2, 1) := by decide +kernel
theorem d_M_hear_14 : decode prog_12_method_79_code 14 = .ok (.iconst 0, 1) := by decide +kernel
theorem d_M_hear_15 : decode prog_12_method_79_code 15 = .ok (.invokevirtual 105, 3) := by decide +kernel
theorem d_M_hear_18 : decode prog_12_method_79_code 18 = .ok (.iconst 2, 1) := by decide +kernel
theorem d_M_hear_19 : decode prog_12_method_79_code 19 = .ok (.aload_n 0, 1) := by decide +kernel
theorem d_M_hear_20 : decode prog_12_method_79_code 20 = .ok (.iload_n 2, 1) := by decide +kernel
theorem d_M_hear_21 : decode prog_12_method_79_code 21 = .ok (.iconst 0, 1) := by decide +kernel
theorem d_M_hear_22 : decode prog_12_method_79_code 22 = .ok (.invokevirtual 130, 3) := by decide +kernel
theorem d_M_hear_25 : decode prog_12_method_79_code 25 = .ok (.aload_n 0, 1) := by decide +kernel
theorem d_M_hear_26 : decode prog_12_method_79_code 26 = .ok (.iload_n 2, 1) := by decide +kernel
theorem d_M_hear_27 : decode prog_12_method_79_code 27 = .ok (.invokevirtual 127, 3) := by decide +kernel
theorem d_M_hear_30 : decode prog_12_method_79_code 30 = .ok (.aload_n 0, 1) := by decide +kernel
theorem d_M_hear_31 : decode prog_12_method_79_code 31 = .ok (.iload_n 2, 1) := by decide +kernel
theorem d_M_hear_32 : decode prog_12_method_79_code 32 = .ok (.aload_n 0, 1) := by decide +kernel
theorem d_M_hear_33 : decode prog_12_method_79_code 33 = .ok (.getfield 9, 3) := by decide +kernel
theorem d_M_hear_36 : decode prog_12_method_79_code 36 = .ok (.iconst 0, 1) := by decide +kernel
theorem d_M_hear_37 : decode prog_12_method_79_code 37 = .ok (.iaload, 1) := by decide +kernel
theorem d_M_hear_38 : decode prog_12_method_79_code 38 = .ok (.invokevirtual 167, 3) := by decide +kernel
theorem d_M_hear_41 : decode prog_12_method_79_code 41 = .ok (.aload_n 0, 1) := by decide +kernel
theorem d_M_hear_42 : decode prog_12_method_79_code 42 = .ok (.iload_n 2, 1) := by decide +kernel
theorem d_M_hear_43 : decode prog_12_method_79_code 43 = .ok (.aload_n 0, 1) := by decide +kernel
theorem d_M_hear_44 : decode prog_12_method_79_code 44 = .ok (.getfield 9, 3) := by decide +kernel
theorem d_M_hear_47 : decode prog_12_method_79_code 47 = .ok (.iconst 0, 1) := by decide +kernel
theorem d_M_hear_48 : decode prog_12_method_79_code 48 = .ok (.iaload, 1) := by decide +kernel
theorem d_M_hear_49 : decode prog_12_method_79_code 49 = .ok (.invokevirtual 157, 3) := by decide +kernel
theorem d_M_hear_52 : decode prog_12_method_79_code 52 = .ok (.invokevirtual 170, 3) := by decide +kernel
theorem d_M_hear_55 : decode prog_12_method_79_code 55 = .ok (.istore_n 3, 1) := by decide +kernel
theorem d_M_hear_56 : decode prog_12_method_79_code 56 = .ok (.aload_n 0, 1) := by decide +kernel
theorem d_M_hear_57 : decode prog_12_method_79_code 57 = .ok (.getfield 9, 3) := by decide +kernel
theorem d_M_hear_60 : decode prog_12_method_79_code 60 = .ok (.iload_n 1, 1) := by decide +kernel
theorem d_M_hear_61 : decode prog_12_method_79_code 61 = .ok (.iconst 5, 1) := by decide +kernel
theorem d_M_hear_62 : decode prog_12_method_79_code 62 = .ok (.invokestatic 316, 3) := by decide +kernel
theorem d_M_hear_65 : decode prog_12_method_79_code 65 = .ok (.iconst 1, 1) := by decide +kernel
theorem d_M_hear_66 : decode prog_12_method_79_code 66 = .ok (.iastore, 1) := by decide +kernel
theorem d_M_hear_67 : decode prog_12_method_79_code 67 = .ok (.aload_n 0, 1) := by decide +kernel
theorem d_M_hear_68 : decode prog_12_method_79_code 68 = .ok (.getfield 9, 3) := by decide +kernel
theorem d_M_hear_71 : decode prog_12_method_79_code 71 = .ok (.iload_n 1, 1) := by decide +kernel
theorem d_M_hear_72 : decode prog_12_method_79_code 72 = .ok (.iconst 2, 1) := by decide +kernel
theorem d_M_hear_73 : decode prog_12_method_79_code 73 = .ok (.invokestatic 316, 3) := by decide +kernel
theorem d_M_hear_76 : decode prog_12_method_79_code 76 = .ok (.iload_n 3, 1) := by decide +kernel
theorem d_M_hear_77 : decode prog_12_method_79_code 77 = .ok (.ifCond .eq 7, 3) := by decide +kernel
theorem d_M_hear_80 : decode prog_12_method_79_code 80 = .ok (.iconst 2, 1) := by decide +kernel
theorem d_M_hear_81 : decode prog_12_method_79_code 81 = .ok (.goto 4, 3) := by decide +kernel
theorem d_M_hear_84 : decode prog_12_method_79_code 84 = .ok (.iconst 1, 1) := by decide +kernel
theorem d_M_hear_85 : decode prog_12_method_79_code 85 = .ok (.iastore, 1) := by decide +kernel
theorem d_M_hear_86 : decode prog_12_method_79_code 86 = .ok (.iload_n 3, 1) := by decide +kernel
theorem d_M_hear_87 : decode prog_12_method_79_code 87 = .ok (.ifCond .eq 15, 3) := by decide +kernel
theorem d_M_hear_90 : decode prog_12_method_79_code 90 = .ok (.aload_n 0, 1) := by decide +kernel
theorem d_M_hear_91 : decode prog_12_method_79_code 91 = .ok (.iload_n 2, 1) := by decide +kernel
theorem d_M_hear_92 : decode prog_12_method_79_code 92 = .ok (.invokevirtual 140, 3) := by decide +kernel
theorem d_M_hear_95 : decode prog_12_method_79_code 95 = .ok (.aload_n 0, 1) := by decide +kernel
theorem d_M_hear_96 : decode prog_12_method_79_code 96 = .ok (.iload_n 2, 1) := by decide +kernel
theorem d_M_hear_97 : decode prog_12_method_79_code 97 = .ok (.iconst 3, 1) := by decide +kernel
theorem d_M_hear_98 : decode prog_12_method_79_code 98 = .ok (.iconst 1, 1) := by decide +kernel
theorem d_M_hear_99 : decode prog_12_method_79_code 99 = .ok (.invokevirtual 97, 3) := by decide +kernel
theorem d_M_hear_102 : decode prog_12_method_79_code 102 = .ok (.return_, 1) := by decide +kernel
theorem d_M_dayGoes_0 : decode prog_12_method_81_code 0 = .ok (.iconst 0, 1) := by decide +kernel
theorem d_M_dayGoes_1 : decode prog_12_method_81_code 1 = .ok (.istore_n 1, 1) := by decide +kernel
theorem d_M_dayGoes_2 : decode prog_12_method_81_code 2 = .ok (.iload_n 1, 1) := by decide +kernel
theorem d_M_dayGoes_3 : decode prog_12_method_81_code 3 = .ok (.bipush 6, 2) := by decide +kernel
theorem d_M_dayGoes_5 : decode prog_12_method_81_code 5 = .ok (.if_icmp .ge 14, 3) := by decide +kernel
theorem d_M_dayGoes_8 : decode prog_12_method_81_code 8 = .ok (.aload_n 0, 1) := by decide +kernel
theorem d_M_dayGoes_9 : decode prog_12_method_81_code 9 = .ok (.iload_n 1, 1) := by decide +kernel
theorem d_M_dayGoes_10 : decode prog_12_method_81_code 10 = .ok (.invokevirtual 337, 3) := by decide +kernel
theorem d_M_dayGoes_13 : decode prog_12_method_81_code 13 = .ok (.iinc 1 1, 3) := by decide +kernel
theorem d_M_dayGoes_16 : decode prog_12_method_81_code 16 = .ok (.goto (-14), 3) := by decide +kernel
theorem d_M_dayGoes_19 : decode prog_12_method_81_code 19 = .ok (.iconst 0, 1) := by decide +kernel
theorem d_M_dayGoes_20 : decode prog_12_method_81_code 20 = .ok (.istore_n 1, 1) := by decide +kernel
theorem d_M_dayGoes_21 : decode prog_12_method_81_code 21 = .ok (.iload_n 1, 1) := by decide +kernel
theorem d_M_dayGoes_22 : decode prog_12_method_81_code 22 = .ok (.aload_n 0, 1) := by decide +kernel
theorem d_M_dayGoes_23 : decode prog_12_method_81_code 23 = .ok (.getfield 9, 3) := by decide +kernel
theorem d_M_dayGoes_26 : decode prog_12_method_81_code 26 = .ok (.bipush 10, 2) := by decide +kernel
theorem d_M_dayGoes_28 : decode prog_12_method_81_code 28 = .ok (.iaload, 1) := by decide +kernel
theorem d_M_dayGoes_29 : decode prog_12_method_81_code 29 = .ok (.if_icmp .ge 46, 3) := by decide +kernel
theorem d_M_dayGoes_32 : decode prog_12_method_81_code 32 = .ok (.aload_n 0, 1) := by decide +kernel
theorem d_M_dayGoes_33 : decode prog_12_method_81_code 33 = .ok (.iload_n 1, 1) := by decide +kernel
theorem d_M_dayGoes_34 : decode prog_12_method_81_code 34 = .ok (.invokevirtual 328, 3) := by decide +kernel
theorem d_M_dayGoes_37 : decode prog_12_method_81_code 37 = .ok (.ifCond .eq 32, 3) := by decide +kernel
theorem d_M_dayGoes_40 : decode prog_12_method_81_code 40 = .ok (.aload_n 0, 1) := by decide +kernel
theorem d_M_dayGoes_41 : decode prog_12_method_81_code 41 = .ok (.aload_n 0, 1) := by decide +kernel
theorem d_M_dayGoes_42 : decode prog_12_method_81_code 42 = .ok (.getfield 9, 3) := by decide +kernel
theorem d_M_dayGoes_45 : decode prog_12_method_81_code 45 = .ok (.iload_n 1, 1) := by decide +kernel
theorem d_M_dayGoes_46 : decode prog_12_method_81_code 46 = .ok (.iconst 0, 1) := by decide +kernel
theorem d_M_dayGoes_47 : decode prog_12_method_81_code 47 = .ok (.invokestatic 316, 3) := by decide +kernel
theorem d_M_dayGoes_50 : decode prog_12_method_81_code 50 = .ok (.iaload, 1) := by decide +kernel
theorem d_M_dayGoes_51 : decode prog_12_method_81_code 51 = .ok (.iconst 3, 1) := by decide +kernel
theorem d_M_dayGoes_52 : decode prog_12_method_81_code 52 = .ok (.invokevirtual 105, 3) := by decide +kernel
theorem d_M_dayGoes_55 : decode prog_12_method_81_code 55 = .ok (.ifCond .eq 14, 3) := by decide +kernel
theorem d_M_dayGoes_58 : decode prog_12_method_81_code 58 = .ok (.aload_n 0, 1) := by decide +kernel
theorem d_M_dayGoes_59 : decode prog_12_method_81_code 59 = .ok (.getfield 9, 3) := by decide +kernel
theorem d_M_dayGoes_62 : decode prog_12_method_81_code 62 = .ok (.iload_n 1, 1) := by decide +kernel
theorem d_M_dayGoes_63 : decode prog_12_method_81_code 63 = .ok (.iconst 2, 1) := by decide +kernel
theorem d_M_dayGoes_64 : decode prog_12_method_81_code 64 = .ok (.invokestatic 316, 3) := by decide +kernel
theorem d_M_dayGoes_67 : decode prog_12_method_81_code 67 = .ok (.iconst 3, 1) := by decide +kernel
theorem d_M_dayGoes_68 : decode prog_12_method_81_code 68 = .ok (.iastore, 1) := by decide +kernel
theorem d_M_dayGoes_69 : decode prog_12_method_81_code 69 = .ok (.iinc 1 1, 3) := by decide +kernel
theorem d_M_dayGoes_72 : decode prog_12_method_81_code 72 = .ok (.goto (-51), 3) := by decide +kernel
theorem d_M_dayGoes_75 : decode prog_12_method_81_code 75 = .ok (.aload_n 0, 1) := by decide +kernel
theorem d_M_dayGoes_76 : decode prog_12_method_81_code 76 = .ok (.getfield 9, 3) := by decide +kernel
theorem d_M_dayGoes_79 : decode prog_12_method_81_code 79 = .ok (.iconst 0, 1) := by decide +kernel
theorem d_M_dayGoes_80 : decode prog_12_method_81_code 80 = .ok (.dup2, 1) := by decide +kernel
theorem d_M_dayGoes_81 : decode prog_12_method_81_code 81 = .ok (.iaload, 1) := by decide +kernel
theorem d_M_dayGoes_82 : decode prog_12_method_81_code 82 = .ok (.iconst 1, 1) := by decide +kernel
theorem d_M_dayGoes_83 : decode prog_12_method_81_code 83 = .ok (.iadd, 1) := by decide +kernel
theorem d_M_dayGoes_84 : decode prog_12_method_81_code 84 = .ok (.iastore, 1) := by decide +kernel
theorem d_M_dayGoes_85 : decode prog_12_method_81_code 85 = .ok (.return_, 1) := by decide +kernel
theorem d_M_draw_0 : decode prog_12_method_91_code 0 = .ok (.aload_n 0, 1) := by decide +kernel
theorem d_M_draw_1 : decode prog_12_method_91_code 1 = .ok (.getfield 9, 3) := by decide +kernel
theorem d_M_draw_4 : decode prog_12_method_91_code 4 = .ok (.bipush 9, 2) := by decide +kernel
theorem d_M_draw_6 : decode prog_12_method_91_code 6 = .ok (.iaload, 1) := by decide +kernel
theorem d_M_draw_7 : decode prog_12_method_91_code 7 = .ok (.bipush 6, 2) := by decide +kernel
theorem d_M_draw_9 : decode prog_12_method_91_code 9 = .ok (.if_icmp .ge 6, 3) := by decide +kernel
theorem d_M_draw_12 : decode prog_12_method_91_code 12 = .ok (.ldc 139, 2) := by decide +kernel
theorem d_M_draw_14 : decode prog_12_method_91_code 14 = .ok (.ireturn, 1) := by decide +kernel
theorem d_M_draw_15 : decode prog_12_method_91_code 15 = .ok (.iconst 0, 1) := by decide +kernel
theorem d_M_draw_16 : decode prog_12_method_91_code 16 = .ok (.istore_n 1, 1) := by decide +kernel
theorem d_M_draw_17 : decode prog_12_method_91_code 17 = .ok (.iconst 0, 1) := by decide +kernel
theorem d_M_draw_18 : decode prog_12_method_91_code 18 = .ok (.istore_n 2, 1) := by decide +kernel
theorem d_M_draw_19 : decode prog_12_method_91_code 19 = .ok (.iconst 0, 1) := by decide +kernel
theorem d_M_draw_20 : decode prog_12_method_91_code 20 = .ok (.istore_n 3, 1) := by decide +kernel
theorem d_M_draw_21 : decode prog_12_method_91_code 21 = .ok (.iload_n 3, 1) := by decide +kernel
theorem d_M_draw_22 : decode prog_12_method_91_code 22 = .ok (.bipush 6, 2) := by decide +kernel
theorem d_M_draw_24 : decode prog_12_method_91_code 24 = .ok (.if_icmp .ge 92, 3) := by decide +kernel
theorem d_M_draw_27 : decode prog_12_method_91_code 27 = .ok (.aload_n 0, 1) := by decide +kernel
theorem d_M_draw_28 : decode prog_12_method_91_code 28 = .ok (.getfield 9, 3) := by decide +kernel
theorem d_M_draw_31 : decode prog_12_method_91_code 31 = .ok (.iconst 1, 1) := by decide +kernel
theorem d_M_draw_32 : decode prog_12_method_91_code 32 = .ok (.ldc2_w 349, 3) := by decide +kernel
theorem d_M_draw_35 : decode prog_12_method_91_code 35 = .ok (.aload_n 0, 1) := by decide +kernel
theorem d_M_draw_36 : decode prog_12_method_91_code 36 = .ok (.getfield 9, 3) := by decide +kernel
theorem d_M_draw_39 : decode prog_12_method_91_code 39 = .ok (.iconst 1, 1) := by decide +kernel
theorem d_M_draw_40 : decode prog_12_method_91_code 40 = .ok (.iaload, 1) := by decide +kernel
theorem d_M_draw_41 : decode prog_12_method_91_code 41 = .ok (.i2l, 1) := by decide +kernel
theorem d_M_draw_42 : decode prog_12_method_91_code 42 = .ok (.lmul, 1) := by decide +kernel
theorem d_M_draw_43 : decode prog_12_method_91_code 43 = .ok (.ldc2_w 351, 3) := by decide +kernel
theorem d_M_draw_46 : decode prog_12_method_91_code 46 = .ok (.ladd, 1) := by decide +kernel
theorem d_M_draw_47 : decode prog_12_method_91_code 47 = .ok (.ldc2_w 353, 3) := by decide +kernel
theorem d_M_draw_50 : decode prog_12_method_91_code 50 = .ok (.lrem, 1) := by decide +kernel
theorem d_M_draw_51 : decode prog_12_method_91_code 51 = .ok (.l2i, 1) := by decide +kernel
theorem d_M_draw_52 : decode prog_12_method_91_code 52 = .ok (.iastore, 1) := by decide +kernel
theorem d_M_draw_53 : decode prog_12_method_91_code 53 = .ok (.aload_n 0, 1) := by decide +kernel
theorem d_M_draw_54 : decode prog_12_method_91_code 54 = .ok (.iload_n 1, 1) := by decide +kernel
theorem d_M_draw_55 : decode prog_12_method_91_code 55 = .ok (.iload_n 2, 1) := by decide +kernel
theorem d_M_draw_56 : decode prog_12_method_91_code 56 = .ok (.ior, 1) := by decide +kernel
theorem d_M_draw_57 : decode prog_12_method_91_code 57 = .ok (.aload_n 0, 1) := by decide +kernel
theorem d_M_draw_58 : decode prog_12_method_91_code 58 = .ok (.getfield 9, 3) := by decide +kernel
theorem d_M_draw_61 : decode prog_12_method_91_code 61 = .ok (.iconst 1, 1) := by decide +kernel
theorem d_M_draw_62 : decode prog_12_method_91_code 62 = .ok (.iaload, 1) := by decide +kernel
theorem d_M_draw_63 : decode prog_12_method_91_code 63 = .ok (.aload_n 0, 1) := by decide +kernel
theorem d_M_draw_64 : decode prog_12_method_91_code 64 = .ok (.getfield 9, 3) := by decide +kernel
theorem d_M_draw_67 : decode prog_12_method_91_code 67 = .ok (.bipush 9, 2) := by decide +kernel
theorem d_M_draw_69 : decode prog_12_method_91_code 69 = .ok (.iaload, 1) := by decide +kernel
theorem d_M_draw_70 : decode prog_12_method_91_code 70 = .ok (.iload_n 3, 1) := by decide +kernel
theorem d_M_draw_71 : decode prog_12_method_91_code 71 = .ok (.isub, 1) := by decide +kernel
theorem d_M_draw_72 : decode prog_12_method_91_code 72 = .ok (.irem, 1) := by decide +kernel
theorem d_M_draw_73 : decode prog_12_method_91_code 73 = .ok (.invokevirtual 355, 3) := by decide +kernel
theorem d_M_draw_76 : decode prog_12_method_91_code 76 = .ok (.istore 4, 2) := by decide +kernel
theorem d_M_draw_78 : decode prog_12_method_91_code 78 = .ok (.iload_n 1, 1) := by decide +kernel
theorem d_M_draw_79 : decode prog_12_method_91_code 79 = .ok (.iload_n 3, 1) := by decide +kernel
theorem d_M_draw_80 : decode prog_12_method_91_code 80 = .ok (.iconst 3, 1) := by decide +kernel
theorem d_M_draw_81 : decode prog_12_method_91_code 81 = .ok (.if_icmp .ge 10, 3) := by decide +kernel
theorem d_M_draw_84 : decode prog_12_method_91_code 84 = .ok (.iconst 1, 1) := by decide +kernel
theorem d_M_draw_85 : decode prog_12_method_91_code 85 = .ok (.iload 4, 2) := by decide +kernel
theorem d_M_draw_87 : decode prog_12_method_91_code 87 = .ok (.ishl, 1) := by decide +kernel
theorem d_M_draw_88 : decode prog_12_method_91_code 88 = .ok (.goto 4, 3) := by decide +kernel
theorem d_M_draw_91 : decode prog_12_method_91_code 91 = .ok (.iconst 0, 1) := by decide +kernel
theorem d_M_draw_92 : decode prog_12_method_91_code 92 = .ok (.ior, 1) := by decide +kernel
theorem d_M_draw_93 : decode prog_12_method_91_code 93 = .ok (.istore_n 1, 1) := by decide +kernel
theorem d_M_draw_94 : decode prog_12_method_91_code 94 = .ok (.iload_n 2, 1) := by decide +kernel
theorem d_M_draw_95 : decode prog_12_method_91_code 95 = .ok (.iload_n 3, 1) := by decide +kernel
theorem d_M_draw_96 : decode prog_12_method_91_code 96 = .ok (.iconst 3, 1) := by decide +kernel
theorem d_M_draw_97 : decode prog_12_method_91_code 97 = .ok (.if_icmp .ge 7, 3) := by decide +kernel
theorem d_M_draw_100 : decode prog_12_method_91_code 100 = .ok (.iconst 0, 1) := by decide +kernel
theorem d_M_draw_101 : decode prog_12_method_91_code 101 = .ok (.goto 7, 3) := by decide +kernel
theorem d_M_draw_104 : decode prog_12_method_91_code 104 = .ok (.iconst 1, 1) := by decide +kernel
theorem d_M_draw_105 : decode prog_12_method_91_code 105 = .ok (.iload 4, 2) := by decide +kernel
theorem d_M_draw_107 : decode prog_12_method_91_code 107 = .ok (.ishl, 1) := by decide +kernel
theorem d_M_draw_108 : decode prog_12_method_91_code 108 = .ok (.ior, 1) := by decide +kernel
theorem d_M_draw_109 : decode prog_12_method_91_code 109 = .ok (.istore_n 2, 1) := by decide +kernel
theorem d_M_draw_110 : decode prog_12_method_91_code 110 = .ok (.iinc 3 1, 3) := by decide +kernel
theorem d_M_draw_113 : decode prog_12_method_91_code 113 = .ok (.goto (-92), 3) := by decide +kernel
theorem d_M_draw_116 : decode prog_12_method_91_code 116 = .ok (.iload_n 1, 1) := by decide +kernel
theorem d_M_draw_117 : decode prog_12_method_91_code 117 = .ok (.sipush 512, 3) := by decide +kernel
theorem d_M_draw_120 : decode prog_12_method_91_code 120 = .ok (.iload_n 2, 1) := by decide +kernel
theorem d_M_draw_121 : decode prog_12_method_91_code 121 = .ok (.imul, 1) := by decide +kernel
theorem d_M_draw_122 : decode prog_12_method_91_code 122 = .ok (.iadd, 1) := by decide +kernel
theorem d_M_draw_123 : decode prog_12_method_91_code 123 = .ok (.ireturn, 1) := by decide +kernel
theorem d_M_sheet_0 : decode prog_12_method_93_code 0 = .ok (.iload_n 1, 1) := by decide +kernel
theorem d_M_sheet_1 : decode prog_12_method_93_code 1 = .ok (.invokestatic 358, 3) := by decide +kernel
theorem d_M_sheet_4 : decode prog_12_method_93_code 4 = .ok (.ifCond .eq 27, 3) := by decide +kernel
theorem d_M_sheet_7 : decode prog_12_method_93_code 7 = .ok (.iload_n 2, 1) := by decide +kernel
theorem d_M_sheet_8 : decode prog_12_method_93_code 8 = .ok (.i2l, 1) := by decide +kernel
theorem d_M_sheet_9 : decode prog_12_method_93_code 9 = .ok (.ldc2_w 361, 3) := by decide +kernel
theorem d_M_sheet_12 : decode prog_12_method_93_code 12 = .ok (.ldc2_w 345, 3) := by decide +kernel
theorem d_M_sheet_15 : decode prog_12_method_93_code 15 = .ok (.invokestatic 85, 3) := by decide +kernel
theorem d_M_sheet_18 : decode prog_12_method_93_code 18 = .ok (.ifCond .eq 13, 3) := by decide +kernel
theorem d_M_sheet_21 : decode prog_12_method_93_code 21 = .ok (.iload_n 2, 1) := by decide +kernel
theorem d_M_sheet_22 : decode prog_12_method_93_code 22 = .ok (.ifCond .lt 12, 3) := by decide +kernel
theorem d_M_sheet_25 : decode prog_12_method_93_code 25 = .ok (.iload_n 3, 1) := by decide +kernel
theorem d_M_sheet_26 : decode prog_12_method_93_code 26 = .ok (.bipush 24, 2) := by decide +kernel
theorem d_M_sheet_28 : decode prog_12_method_93_code 28 = .ok (.if_icmp .le 6, 3) := by decide +kernel
theorem d_M_sheet_31 : decode prog_12_method_93_code 31 = .ok (.ldc 95, 2) := by decide +kernel
theorem d_M_sheet_33 : decode prog_12_method_93_code 33 = .ok (.ireturn, 1) := by decide +kernel
theorem d_M_sheet_34 : decode prog_12_method_93_code 34 = .ok (.iload_n 2, 1) := by decide +kernel
theorem d_M_sheet_35 : decode prog_12_method_93_code 35 = .ok (.ifCond .lt 11, 3) := by decide +kernel
theorem d_M_sheet_38 : decode prog_12_method_93_code 38 = .ok (.iload_n 3, 1) := by decide +kernel
theorem d_M_sheet_39 : decode prog_12_method_93_code 39 = .ok (.ifCond .ge 7, 3) := by decide +kernel
theorem d_M_sheet_42 : decode prog_12_method_93_code 42 = .ok (.ldc_w 363, 3) := by decide +kernel
theorem d_M_sheet_45 : decode prog_12_method_93_code 45 = .ok (.ireturn, 1) := by decide +kernel
theorem d_M_sheet_46 : decode prog_12_method_93_code 46 = .ok (.aload_n 0, 1) := by decide +kernel
theorem d_M_sheet_47 : decode prog_12_method_93_code 47 = .ok (.getfield 25, 3) := by decide +kernel
theorem d_M_sheet_50 : decode prog_12_method_93_code 50 = .ok (.iload_n 1, 1) := by decide +kernel
theorem d_M_sheet_51 : decode prog_12_method_93_code 51 = .ok (.iload_n 2, 1) := by decide +kernel
theorem d_M_sheet_52 : decode prog_12_method_93_code 52 = .ok (.iastore, 1) := by decide +kernel
theorem d_M_sheet_53 : decode prog_12_method_93_code 53 = .ok (.aload_n 0, 1) := by decide +kernel
theorem d_M_sheet_54 : decode prog_12_method_93_code 54 = .ok (.getfield 28, 3) := by decide +kernel
theorem d_M_sheet_57 : decode prog_12_method_93_code 57 = .ok (.iload_n 1, 1) := by decide +kernel
theorem d_M_sheet_58 : decode prog_12_method_93_code 58 = .ok (.iload_n 2, 1) := by decide +kernel
theorem d_M_sheet_59 : decode prog_12_method_93_code 59 = .ok (.ifCond .ge 7, 3) := by decide +kernel
theorem d_M_sheet_62 : decode prog_12_method_93_code 62 = .ok (.iconst 0, 1) := by decide +kernel
theorem d_M_sheet_63 : decode prog_12_method_93_code 63 = .ok (.goto 4, 3) := by decide +kernel
theorem d_M_sheet_66 : decode prog_12_method_93_code 66 = .ok (.iload_n 3, 1) := by decide +kernel
theorem d_M_sheet_67 : decode prog_12_method_93_code 67 = .ok (.iastore, 1) := by decide +kernel
theorem d_M_sheet_68 : decode prog_12_method_93_code 68 = .ok (.iconst 0, 1) := by decide +kernel
theorem d_M_sheet_69 : decode prog_12_method_93_code 69 = .ok (.istore 4, 2) := by decide +kernel
theorem d_M_sheet_71 : decode prog_12_method_93_code 71 = .ok (.iload 4, 2) := by decide +kernel
theorem d_M_sheet_73 : decode prog_12_method_93_code 73 = .ok (.bipush 24, 2) := by decide +kernel
theorem d_M_sheet_75 : decode prog_12_method_93_code 75 = .ok (.if_icmp .ge 22, 3) := by decide +kernel
theorem d_M_sheet_78 : decode prog_12_method_93_code 78 = .ok (.aload_n 0, 1) := by decide +kernel
theorem d_M_sheet_79 : decode prog_12_method_93_code 79 = .ok (.getfield 31, 3) := by decide +kernel
theorem d_M_sheet_82 : decode prog_12_method_93_code 82 = .ok (.bipush 24, 2) := by decide +kernel
theorem d_M_sheet_84 : decode prog_12_method_93_code 84 = .ok (.iload_n 1, 1) := by decide +kernel
theorem d_M_sheet_85 : decode prog_12_method_93_code 85 = .ok (.imul, 1) := by decide +kernel
theorem d_M_sheet_86 : decode prog_12_method_93_code 86 = .ok (.iload 4, 2) := by decide +kernel
theorem d_M_sheet_88 : decode prog_12_method_93_code 88 = .ok (.iadd, 1) := by decide +kernel
theorem d_M_sheet_89 : decode prog_12_method_93_code 89 = .ok (.lconst 0, 1) := by decide +kernel
theorem d_M_sheet_90 : decode prog_12_method_93_code 90 = .ok (.lastore, 1) := by decide +kernel
theorem d_M_sheet_91 : decode prog_12_method_93_code 91 = .ok (.iinc 4 1, 3) := by decide +kernel
theorem d_M_sheet_94 : decode prog_12_method_93_code 94 = .ok (.goto (-23), 3) := by decide +kernel
theorem d_M_sheet_97 : decode prog_12_method_93_code 97 = .ok (.aload_n 0, 1) := by decide +kernel
theorem d_M_sheet_98 : decode prog_12_method_93_code 98 = .ok (.getfield 28, 3) := by decide +kernel
theorem d_M_sheet_101 : decode prog_12_method_93_code 101 = .ok (.iload_n 1, 1) := by decide +kernel
theorem d_M_sheet_102 : decode prog_12_method_93_code 102 = .ok (.iaload, 1) := by decide +kernel
theorem d_M_sheet_103 : decode prog_12_method_93_code 103 = .ok (.ireturn, 1) := by decide +kernel
theorem d_M_copy_0 : decode prog_12_method_95_code 0 = .ok (.iload_n 1, 1) := by decide +kernel
theorem d_M_copy_1 : decode prog_12_method_95_code 1 = .ok (.invokestatic 358, 3) := by decide +kernel
theorem d_M_copy_4 : decode prog_12_method_95_code 4 = .ok (.ifCond .eq 10, 3) := by decide +kernel
theorem d_M_copy_7 : decode prog_12_method_95_code 7 = .ok (.iload_n 3, 1) := by decide +kernel
theorem d_M_copy_8 : decode prog_12_method_95_code 8 = .ok (.invokestatic 358, 3) := by decide +kernel
theorem d_M_copy_11 : decode prog_12_method_95_code 11 = .ok (.ifCond .ne 6, 3) := by decide +kernel
theorem d_M_copy_14 : decode prog_12_method_95_code 14 = .ok (.ldc 95, 2) := by decide +kernel
theorem d_M_copy_16 : decode prog_12_method_95_code 16 = .ok (.ireturn, 1) := by decide +kernel
theorem d_M_copy_17 : decode prog_12_method_95_code 17 = .ok (.aload_n 0, 1) := by decide +kernel
theorem d_M_copy_18 : decode prog_12_method_95_code 18 = .ok (.getfield 25, 3) := by decide +kernel
theorem d_M_copy_21 : decode prog_12_method_95_code 21 = .ok (.iload_n 1, 1) := by decide +kernel
theorem d_M_copy_22 : decode prog_12_method_95_code 22 = .ok (.iaload, 1) := by decide +kernel
theorem d_M_copy_23 : decode prog_12_method_95_code 23 = .ok (.ifCond .lt 12, 3) := by decide +kernel
theorem d_M_copy_26 : decode prog_12_method_95_code 26 = .ok (.aload_n 0, 1) := by decide +kernel
theorem d_M_copy_27 : decode prog_12_method_95_code 27 = .ok (.getfield 25, 3) := by decide +kernel
theorem d_M_copy_30 : decode prog_12_method_95_code 30 = .ok (.iload_n 3, 1) := by decide +kernel
theorem d_M_copy_31 : decode prog_12_method_95_code 31 = .ok (.iaload, 1) := by decide +kernel
theorem d_M_copy_32 : decode prog_12_method_95_code 32 = .ok (.ifCond .ge 7, 3) := by decide +kernel
theorem d_M_copy_35 : decode prog_12_method_95_code 35 = .ok (.ldc_w 364, 3) := by decide +kernel
theorem d_M_copy_38 : decode prog_12_method_95_code 38 = .ok (.ireturn, 1) := by decide +kernel
theorem d_M_copy_39 : decode prog_12_method_95_code 39 = .ok (.aload_n 0, 1) := by decide +kernel
theorem d_M_copy_40 : decode prog_12_method_95_code 40 = .ok (.getfield 25, 3) := by decide +kernel
theorem d_M_copy_43 : decode prog_12_method_95_code 43 = .ok (.iload_n 1, 1) := by decide +kernel
theorem d_M_copy_44 : decode prog_12_method_95_code 44 = .ok (.iaload, 1) := by decide +kernel
theorem d_M_copy_45 : decode prog_12_method_95_code 45 = .ok (.aload_n 0, 1) := by decide +kernel
theorem d_M_copy_46 : decode prog_12_method_95_code 46 = .ok (.getfield 25, 3) := by decide +kernel
theorem d_M_copy_49 : decode prog_12_method_95_code 49 = .ok (.iload_n 3, 1) := by decide +kernel
theorem d_M_copy_50 : decode prog_12_method_95_code 50 = .ok (.iaload, 1) := by decide +kernel
theorem d_M_copy_51 : decode prog_12_method_95_code 51 = .ok (.if_icmp .eq 6, 3) := by decide +kernel
theorem d_M_copy_54 : decode prog_12_method_95_code 54 = .ok (.ldc 164, 2) := by decide +kernel
theorem d_M_copy_56 : decode prog_12_method_95_code 56 = .ok (.ireturn, 1) := by decide +kernel
theorem d_M_copy_57 : decode prog_12_method_95_code 57 = .ok (.iload_n 2, 1) := by decide +kernel
theorem d_M_copy_58 : decode prog_12_method_95_code 58 = .ok (.ifCond .lt 48, 3) := by decide +kernel
theorem d_M_copy_61 : decode prog_12_method_95_code 61 = .ok (.iload 4, 2) := by decide +kernel
theorem d_M_copy_63 : decode prog_12_method_95_code 63 = .ok (.ifCond .lt 43, 3) := by decide +kernel
theorem d_M_copy_66 : decode prog_12_method_95_code 66 = .ok (.iload 5, 2) := by decide +kernel
theorem d_M_copy_68 : decode prog_12_method_95_code 68 = .ok (.ifCond .lt 38, 3) := by decide +kernel
theorem d_M_copy_71 : decode prog_12_method_95_code 71 = .ok (.iload_n 2, 1) := by decide +kernel
theorem d_M_copy_72 : decode prog_12_method_95_code 72 = .ok (.i2l, 1) := by decide +kernel
theorem d_M_copy_73 : decode prog_12_method_95_code 73 = .ok (.iload 5, 2) := by decide +kernel
theorem d_M_copy_75 : decode prog_12_method_95_code 75 = .ok (.i2l, 1) := by decide +kernel
theorem d_M_copy_76 : decode prog_12_method_95_code 76 = .ok (.ladd, 1) := by decide +kernel
theorem d_M_copy_77 : decode prog_12_method_95_code 77 = .ok (.aload_n 0, 1) := by decide +kernel
theorem d_M_copy_78 : decode prog_12_method_95_code 78 = .ok (.getfield 28, 3) := by decide +kernel
theorem d_M_copy_81 : decode prog_12_method_95_code 81 = .ok (.iload_n 1, 1) := by decide +kernel
theorem d_M_copy_82 : decode prog_12_method_95_code 82 = .ok (.iaload, 1) := by decide +kernel
theorem d_M_copy_83 : decode prog_12_method_95_code 83 = .ok (.i2l, 1) := by decide +kernel
theorem d_M_copy_84 : decode prog_12_method_95_code 84 = .ok (.lcmp, 1) := by decide +kernel
theorem d_M_copy_85 : decode prog_12_method_95_code 85 = .ok (.ifCond .gt 21, 3) := by decide +kernel
theorem d_M_copy_88 : decode prog_12_method_95_code 88 = .ok (.iload 4, 2) := by decide +kernel
theorem d_M_copy_90 : decode prog_12_method_95_code 90 = .ok (.i2l, 1) := by decide +kernel
theorem d_M_copy_91 : decode prog_12_method_95_code 91 = .ok (.iload 5, 2) := by decide +kernel
theorem d_M_copy_93 : decode prog_12_method_95_code 93 = .ok (.i2l, 1) := by decide +kernel
theorem d_M_copy_94 : decode prog_12_method_95_code 94 = .ok (.ladd, 1) := by decide +kernel
theorem d_M_copy_95 : decode prog_12_method_95_code 95 = .ok (.aload_n 0, 1) := by decide +kernel
theorem d_M_copy_96 : decode prog_12_method_95_code 96 = .ok (.getfield 28, 3) := by decide +kernel
theorem d_M_copy_99 : decode prog_12_method_95_code 99 = .ok (.iload_n 3, 1) := by decide +kernel
theorem d_M_copy_100 : decode prog_12_method_95_code 100 = .ok (.iaload, 1) := by decide +kernel
theorem d_M_copy_101 : decode prog_12_method_95_code 101 = .ok (.i2l, 1) := by decide +kernel
theorem d_M_copy_102 : decode prog_12_method_95_code 102 = .ok (.lcmp, 1) := by decide +kernel
theorem d_M_copy_103 : decode prog_12_method_95_code 103 = .ok (.ifCond .le 7, 3) := by decide +kernel
theorem d_M_copy_106 : decode prog_12_method_95_code 106 = .ok (.ldc_w 365, 3) := by decide +kernel
theorem d_M_copy_109 : decode prog_12_method_95_code 109 = .ok (.ireturn, 1) := by decide +kernel
theorem d_M_copy_110 : decode prog_12_method_95_code 110 = .ok (.iconst 0, 1) := by decide +kernel
theorem d_M_copy_111 : decode prog_12_method_95_code 111 = .ok (.istore 6, 2) := by decide +kernel
theorem d_M_copy_113 : decode prog_12_method_95_code 113 = .ok (.iload 6, 2) := by decide +kernel
theorem d_M_copy_115 : decode prog_12_method_95_code 115 = .ok (.iload 5, 2) := by decide +kernel
theorem d_M_copy_117 : decode prog_12_method_95_code 117 = .ok (.if_icmp .ge 30, 3) := by decide +kernel
theorem d_M_copy_120 : decode prog_12_method_95_code 120 = .ok (.aload_n 0, 1) := by decide +kernel
theorem d_M_copy_121 : decode prog_12_method_95_code 121 = .ok (.getfield 82, 3) := by decide +kernel
theorem d_M_copy_124 : decode prog_12_method_95_code 124 = .ok (.iload 6, 2) := by decide +kernel
theorem d_M_copy_126 : decode prog_12_method_95_code 126 = .ok (.aload_n 0, 1) := by decide +kernel
theorem d_M_copy_127 : decode prog_12_method_95_code 127 = .ok (.getfield 31, 3) := by decide +kernel
theorem d_M_copy_130 : decode prog_12_method_95_code 130 = .ok (.bipush 24, 2) := by decide +kernel
theorem d_M_copy_132 : decode prog_12_method_95_code 132 = .ok (.iload_n 1, 1) := by decide +kernel
theorem d_M_copy_133 : decode prog_12_method_95_code 133 = .ok (.imul, 1) := by decide +kernel
theorem d_M_copy_134 : decode prog_12_method_95_code 134 = .ok (.iload_n 2, 1) := by decide +kernel
theorem d_M_copy_135 : decode prog_12_method_95_code 135 = .ok (.iadd, 1) := by decide +kernel
theorem d_M_copy_136 : decode prog_12_method_95_code 136 = .ok (.iload 6, 2) := by decide +kernel
theorem d_M_copy_138 : decode prog_12_method_95_code 138 = .ok (.iadd, 1) := by decide +kernel
theorem d_M_copy_139 : decode prog_12_method_95_code 139 = .ok (.laload, 1) := by decide +kernel
theorem d_M_copy_140 : decode prog_12_method_95_code 140 = .ok (.lastore, 1) := by decide +kernel
theorem d_M_copy_141 : decode prog_12_method_95_code 141 = .ok (.iinc 6 1, 3) := by decide +kernel
theorem d_M_copy_144 : decode prog_12_method_95_code 144 = .ok (.goto (-31), 3) := by decide +kernel
theorem d_M_copy_147 : decode prog_12_method_95_code 147 = .ok (.iconst 0, 1) := by decide +kernel
theorem d_M_copy_148 : decode prog_12_method_95_code 148 = .ok (.istore 6, 2) := by decide +kernel
theorem d_M_copy_150 : decode prog_12_method_95_code 150 = .ok (.iload 6, 2) := by decide +kernel
theorem d_M_copy_152 : decode prog_12_method_95_code 152 = .ok (.iload 5, 2) := by decide +kernel
theorem d_M_copy_154 : decode prog_12_method_95_code 154 = .ok (.if_icmp .ge 31, 3) := by decide +kernel
theorem d_M_copy_157 : decode prog_12_method_95_code 157 = .ok (.aload_n 0, 1) := by decide +kernel
theorem d_M_copy_158 : decode prog_12_method_95_code 158 = .ok (.getfield 31, 3) := by decide +kernel
theorem d_M_copy_161 : decode prog_12_method_95_code 161 = .ok (.bipush 24, 2) := by decide +kernel
theorem d_M_copy_163 : decode prog_12_method_95_code 163 = .ok (.iload_n 3, 1) := by decide +kernel
theorem d_M_copy_164 : decode prog_12_method_95_code 164 = .ok (.imul, 1) := by decide +kernel
theorem d_M_copy_165 : decode prog_12_method_95_code 165 = .ok (.iload 4, 2) := by decide +kernel
theorem d_M_copy_167 : decode prog_12_method_95_code 167 = .ok (.iadd, 1) := by decide +kernel
theorem d_M_copy_168 : decode prog_12_method_95_code 168 = .ok (.iload 6, 2) := by decide +kernel
theorem d_M_copy_170 : decode prog_12_method_95_code 170 = .ok (.iadd, 1) := by decide +kernel
theorem d_M_copy_171 : decode prog_12_method_95_code 171 = .ok (.aload_n 0, 1) := by decide +kernel
theorem d_M_copy_172 : decode prog_12_method_95_code 172 = .ok (.getfield 82, 3) := by decide +kernel
theorem d_M_copy_175 : decode prog_12_method_95_code 175 = .ok (.iload 6, 2) := by decide +kernel
theorem d_M_copy_177 : decode prog_12_method_95_code 177 = .ok (.laload, 1) := by decide +kernel
theorem d_M_copy_178 : decode prog_12_method_95_code 178 = .ok (.lastore, 1) := by decide +kernel
theorem d_M_copy_179 : decode prog_12_method_95_code 179 = .ok (.iinc 6 1, 3) := by decide +kernel
theorem d_M_copy_182 : decode prog_12_method_95_code 182 = .ok (.goto (-32), 3) := by decide +kernel
theorem d_M_copy_185 : decode prog_12_method_95_code 185 = .ok (.iload 5, 2) := by decide +kernel
theorem d_M_copy_187 : decode prog_12_method_95_code 187 = .ok (.ireturn, 1) := by decide +kernel
theorem d_M_servedAll_0 : decode prog_12_method_99_code 0 = .ok (.iconst 0, 1) := by decide +kernel
theorem d_M_servedAll_1 : decode prog_12_method_99_code 1 = .ok (.istore_n 1, 1) := by decide +kernel
theorem d_M_servedAll_2 : decode prog_12_method_99_code 2 = .ok (.iconst 0, 1) := by decide +kernel
theorem d_M_servedAll_3 : decode prog_12_method_99_code 3 = .ok (.istore_n 2, 1) := by decide +kernel
theorem d_M_servedAll_4 : decode prog_12_method_99_code 4 = .ok (.iload_n 2, 1) := by decide +kernel
theorem d_M_servedAll_5 : decode prog_12_method_99_code 5 = .ok (.aload_n 0, 1) := by decide +kernel
theorem d_M_servedAll_6 : decode prog_12_method_99_code 6 = .ok (.getfield 9, 3) := by decide +kernel
theorem d_M_servedAll_9 : decode prog_12_method_99_code 9 = .ok (.iconst 2, 1) := by decide +kernel
theorem d_M_servedAll_10 : decode prog_12_method_99_code 10 = .ok (.iaload, 1) := by decide +kernel
theorem d_M_servedAll_11 : decode prog_12_method_99_code 11 = .ok (.if_icmp .ge 23, 3) := by decide +kernel
theorem d_M_servedAll_14 : decode prog_12_method_99_code 14 = .ok (.iload_n 1, 1) := by decide +kernel
theorem d_M_servedAll_15 : decode prog_12_method_99_code 15 = .ok (.aload_n 0, 1) := by decide +kernel
theorem d_M_servedAll_16 : decode prog_12_method_99_code 16 = .ok (.iload_n 2, 1) := by decide +kernel
theorem d_M_servedAll_17 : decode prog_12_method_99_code 17 = .ok (.aload_n 0, 1) := by decide +kernel
theorem d_M_servedAll_18 : decode prog_12_method_99_code 18 = .ok (.getfield 9, 3) := by decide +kernel
theorem d_M_servedAll_21 : decode prog_12_method_99_code 21 = .ok (.iconst 0, 1) := by decide +kernel
theorem d_M_servedAll_22 : decode prog_12_method_99_code 22 = .ok (.iaload, 1) := by decide +kernel
theorem d_M_servedAll_23 : decode prog_12_method_99_code 23 = .ok (.invokevirtual 157, 3) := by decide +kernel
theorem d_M_servedAll_26 : decode prog_12_method_99_code 26 = .ok (.iadd, 1) := by decide +kernel
theorem d_M_servedAll_27 : decode prog_12_method_99_code 27 = .ok (.istore_n 1, 1) := by decide +kernel
theorem d_M_servedAll_28 : decode prog_12_method_99_code 28 = .ok (.iinc 2 1, 3) := by decide +kernel
theorem d_M_servedAll_31 : decode prog_12_method_99_code 31 = .ok (.goto (-27), 3) := by decide +kernel
theorem d_M_servedAll_34 : decode prog_12_method_99_code 34 = .ok (.iload_n 1, 1) := by decide +kernel
theorem d_M_servedAll_35 : decode prog_12_method_99_code 35 = .ok (.ireturn, 1) := by decide +kernel
theorem d_M_check_0 : decode prog_12_method_100_code 0 = .ok (.aload_n 0, 1) := by decide +kernel
theorem d_M_check_1 : decode prog_12_method_100_code 1 = .ok (.getfield 366, 3) := by decide +kernel
theorem d_M_check_4 : decode prog_12_method_100_code 4 = .ok (.istore_n 2, 1) := by decide +kernel
theorem d_M_check_5 : decode prog_12_method_100_code 5 = .ok (.aload_n 0, 1) := by decide +kernel
theorem d_M_check_6 : decode prog_12_method_100_code 6 = .ok (.iconst 0, 1) := by decide +kernel
theorem d_M_check_7 : decode prog_12_method_100_code 7 = .ok (.putfield 366, 3) := by decide +kernel
theorem d_M_check_10 : decode prog_12_method_100_code 10 = .ok (.iload_n 1, 1) := by decide +kernel
theorem d_M_check_11 : decode prog_12_method_100_code 11 = .ok (.i2l, 1) := by decide +kernel
theorem d_M_check_12 : decode prog_12_method_100_code 12 = .ok (.lconst 1, 1) := by decide +kernel
theorem d_M_check_13 : decode prog_12_method_100_code 13 = .ok (.ldc2_w 369, 3) := by decide +kernel
theorem d_M_check_16 : decode prog_12_method_100_code 16 = .ok (.invokestatic 85, 3) := by decide +kernel
theorem d_M_check_19 : decode prog_12_method_100_code 19 = .ok (.ifCond .ne 6, 3) := by decide +kernel
theorem d_M_check_22 : decode prog_12_method_100_code 22 = .ok (.ldc 95, 2) := by decide +kernel
theorem d_M_check_24 : decode prog_12_method_100_code 24 = .ok (.ireturn, 1) := by decide +kernel
theorem d_M_check_25 : decode prog_12_method_100_code 25 = .ok (.aload_n 0, 1) := by decide +kernel
theorem d_M_check_26 : decode prog_12_method_100_code 26 = .ok (.getfield 371, 3) := by decide +kernel
theorem d_M_check_29 : decode prog_12_method_100_code 29 = .ok (.ifCond .ne 6, 3) := by decide +kernel
theorem d_M_check_32 : decode prog_12_method_100_code 32 = .ok (.ldc 139, 2) := by decide +kernel
theorem d_M_check_34 : decode prog_12_method_100_code 34 = .ok (.ireturn, 1) := by decide +kernel
theorem d_M_check_35 : decode prog_12_method_100_code 35 = .ok (.iconst 0, 1) := by decide +kernel
theorem d_M_check_36 : decode prog_12_method_100_code 36 = .ok (.istore_n 3, 1) := by decide +kernel
theorem d_M_check_37 : decode prog_12_method_100_code 37 = .ok (.iload_n 3, 1) := by decide +kernel
theorem d_M_check_38 : decode prog_12_method_100_code 38 = .ok (.sipush 2578, 3) := by decide +kernel
theorem d_M_check_41 : decode prog_12_method_100_code 41 = .ok (.if_icmp .ge 33, 3) := by decide +kernel
theorem d_M_check_44 : decode prog_12_method_100_code 44 = .ok (.aload_n 0, 1) := by decide +kernel
theorem d_M_check_45 : decode prog_12_method_100_code 45 = .ok (.getfield 16, 3) := by decide +kernel
theorem d_M_check_48 : decode prog_12_method_100_code 48 = .ok (.iload_n 3, 1) := by decide +kernel
theorem d_M_check_49 : decode prog_12_method_100_code 49 = .ok (.aload_n 0, 1) := by decide +kernel
theorem d_M_check_50 : decode prog_12_method_100_code 50 = .ok (.getfield 9, 3) := by decide +kernel
theorem d_M_check_53 : decode prog_12_method_100_code 53 = .ok (.iload_n 3, 1) := by decide +kernel
theorem d_M_check_54 : decode prog_12_method_100_code 54 = .ok (.iaload, 1) := by decide +kernel
theorem d_M_check_55 : decode prog_12_method_100_code 55 = .ok (.iastore, 1) := by decide +kernel
theorem d_M_check_56 : decode prog_12_method_100_code 56 = .ok (.aload_n 0, 1) := by decide +kernel
theorem d_M_check_57 : decode prog_12_method_100_code 57 = .ok (.getfield 9, 3) := by decide +kernel
theorem d_M_check_60 : decode prog_12_method_100_code 60 = .ok (.iload_n 3, 1) := by decide +kernel
theorem d_M_check_61 : decode prog_12_method_100_code 61 = .ok (.aload_n 0, 1) := by decide +kernel
theorem d_M_check_62 : decode prog_12_method_100_code 62 = .ok (.getfield 13, 3) := by decide +kernel
theorem d_M_check_65 : decode prog_12_method_100_code 65 = .ok (.iload_n 3, 1) := by decide +kernel
theorem d_M_check_66 : decode prog_12_method_100_code 66 = .ok (.iaload, 1) := by decide +kernel
theorem d_M_check_67 : decode prog_12_method_100_code 67 = .ok (.iastore, 1) := by decide +kernel
theorem d_M_check_68 : decode prog_12_method_100_code 68 = .ok (.iinc 3 1, 3) := by decide +kernel
theorem d_M_check_71 : decode prog_12_method_100_code 71 = .ok (.goto (-34), 3) := by decide +kernel
theorem d_M_check_74 : decode prog_12_method_100_code 74 = .ok (.iconst 0, 1) := by decide +kernel
theorem d_M_check_75 : decode prog_12_method_100_code 75 = .ok (.istore_n 3, 1) := by decide +kernel
theorem d_M_check_76 : decode prog_12_method_100_code 76 = .ok (.iconst 1, 1) := by decide +kernel
theorem d_M_check_77 : decode prog_12_method_100_code 77 = .ok (.istore 4, 2) := by decide +kernel
theorem d_M_check_79 : decode prog_12_method_100_code 79 = .ok (.iconst 0, 1) := by decide +kernel
theorem d_M_check_80 : decode prog_12_method_100_code 80 = .ok (.istore 5, 2) := by decide +kernel
theorem d_M_check_82 : decode prog_12_method_100_code 82 = .ok (.iload 5, 2) := by decide +kernel
theorem d_M_check_84 : decode prog_12_method_100_code 84 = .ok (.iconst 2, 1) := by decide +kernel
theorem d_M_check_85 : decode prog_12_method_100_code 85 = .ok (.iload_n 1, 1) := by decide +kernel
theorem d_M_check_86 : decode prog_12_method_100_code 86 = .ok (.imul, 1) := by decide +kernel
theorem d_M_check_87 : decode prog_12_method_100_code 87 = .ok (.if_icmp .ge 80, 3) := by decide +kernel
theorem d_M_check_90 : decode prog_12_method_100_code 90 = .ok (.iload 4, 2) := by decide +kernel
theorem d_M_check_92 : decode prog_12_method_100_code 92 = .ok (.ifCond .eq 75, 3) := by decide +kernel
theorem d_M_check_95 : decode prog_12_method_100_code 95 = .ok (.iload 5, 2) := by decide +kernel
theorem d_M_check_97 : decode prog_12_method_100_code 97 = .ok (.iconst 2, 1) := by decide +kernel
theorem d_M_check_98 : decode prog_12_method_100_code 98 = .ok (.irem, 1) := by decide +kernel
theorem d_M_check_99 : decode prog_12_method_100_code 99 = .ok (.ifCond .ne 7, 3) := by decide +kernel
theorem d_M_check_102 : decode prog_12_method_100_code 102 = .ok (.aload_n 0, 1) := by decide +kernel
theorem d_M_check_103 : decode prog_12_method_100_code 103 = .ok (.invokevirtual 342, 3) := by decide +kernel
theorem d_M_check_106 : decode prog_12_method_100_code 106 = .ok (.iload 5, 2) := by decide +kernel
theorem d_M_check_108 : decode prog_12_method_100_code 108 = .ok (.iload_n 2, 1) := by decide +kernel
theorem d_M_check_109 : decode prog_12_method_100_code 109 = .ok (.if_icmp .ge 36, 3) := by decide +kernel
theorem d_M_check_112 : decode prog_12_method_100_code 112 = .ok (.aload_n 0, 1) := by decide +kernel
theorem d_M_check_113 : decode prog_12_method_100_code 113 = .ok (.getfield 22, 3) := by decide +kernel
theorem d_M_check_116 : decode prog_12_method_100_code 116 = .ok (.iload 5, 2) := by decide +kernel
theorem d_M_check_118 : decode prog_12_method_100_code 118 = .ok (.iaload, 1) := by decide +kernel
theorem d_M_check_119 : decode prog_12_method_100_code 119 = .ok (.iload 5, 2) := by decide +kernel
theorem d_M_check_121 : decode prog_12_method_100_code 121 = .ok (.iconst 2, 1) := by decide +kernel
theorem d_M_check_122 : decode prog_12_method_100_code 122 = .ok (.irem, 1) := by decide +kernel
theorem d_M_check_123 : decode prog_12_method_100_code 123 = .ok (.ifCond .ne 10, 3) := by decide +kernel
theorem d_M_check_126 : decode prog_12_method_100_code 126 = .ok (.aload_n 0, 1) := by decide +kernel
theorem d_M_check_127 : decode prog_12_method_100_code 127 = .ok (.invokevirtual 374, 3) := by decide +kernel
theorem d_M_check_130 : decode prog_12_method_100_code 130 = .ok (.goto 8, 3) := by decide +kernel
theorem d_M_check_133 : decode prog_12_method_100_code 133 = .ok (.aload_n 0, 1) := by decide +kernel
theorem d_M_check_134 : decode prog_12_method_100_code 134 = .ok (.iconst 1, 1) := by decide +kernel
theorem d_M_check_135 : decode prog_12_method_100_code 135 = .ok (.invokevirtual 377, 3) := by decide +kernel
theorem d_M_check_138 : decode prog_12_method_100_code 138 = .ok (.if_icmp .ne 7, 3) := by decide +kernel
theorem d_M_check_141 : decode prog_12_method_100_code 141 = .ok (.iconst 1, 1) := by decide +kernel
theorem d_M_check_142 : decode prog_12_method_100_code 142 = .ok (.goto 4, 3) := by decide +kernel
theorem d_M_check_145 : decode prog_12_method_100_code 145 = .ok (.iconst 0, 1) := by decide +kernel
theorem d_M_check_146 : decode prog_12_method_100_code 146 = .ok (.istore 4, 2) := by decide +kernel
theorem d_M_check_148 : decode prog_12_method_100_code 148 = .ok (.iload_n 3, 1) := by decide +kernel
theorem d_M_check_149 : decode prog_12_method_100_code 149 = .ok (.iload 4, 2) := by decide +kernel
theorem d_M_check_151 : decode prog_12_method_100_code 151 = .ok (.ifCond .eq 7, 3) := by decide +kernel
theorem d_M_check_154 : decode prog_12_method_100_code 154 = .ok (.iconst 1, 1) := by decide +kernel
theorem d_M_check_155 : decode prog_12_method_100_code 155 = .ok (.goto 4, 3) := by decide +kernel
theorem d_M_check_158 : decode prog_12_method_100_code 158 = .ok (.iconst 0, 1) := by decide +kernel
theorem d_M_check_159 : decode prog_12_method_100_code 159 = .ok (.iadd, 1) := by decide +kernel
theorem d_M_check_160 : decode prog_12_method_100_code 160 = .ok (.istore_n 3, 1) := by decide +kernel
theorem d_M_check_161 : decode prog_12_method_100_code 161 = .ok (.iinc 5 1, 3) := by decide +kernel
theorem d_M_check_164 : decode prog_12_method_100_code 164 = .ok (.goto (-82), 3) := by decide +kernel
theorem d_M_check_167 : decode prog_12_method_100_code 167 = .ok (.iconst 0, 1) := by decide +kernel
theorem d_M_check_168 : decode prog_12_method_100_code 168 = .ok (.istore 5, 2) := by decide +kernel
theorem d_M_check_170 : decode prog_12_method_100_code 170 = .ok (.iload 5, 2) := by decide +kernel
theorem d_M_check_172 : decode prog_12_method_100_code 172 = .ok (.sipush 2578, 3) := by decide +kernel
theorem d_M_check_175 : decode prog_12_method_100_code 175 = .ok (.if_icmp .ge 23, 3) := by decide +kernel
theorem d_M_check_178 : decode prog_12_method_100_code 178 = .ok (.aload_n 0, 1) := by decide +kernel
theorem d_M_check_179 : decode prog_12_method_100_code 179 = .ok (.getfield 9, 3) := by decide +kernel
theorem d_M_check_182 : decode prog_12_method_100_code 182 = .ok (.iload 5, 2) := by decide +kernel
theorem d_M_check_184 : decode prog_12_method_100_code 184 = .ok (.aload_n 0, 1) := by decide +kernel
theorem d_M_check_185 : decode prog_12_method_100_code 185 = .ok (.getfield 16, 3) := by decide +kernel
theorem d_M_check_188 : decode prog_12_method_100_code 188 = .ok (.iload 5, 2) := by decide +kernel
theorem d_M_check_190 : decode prog_12_method_100_code 190 = .ok (.iaload, 1) := by decide +kernel
theorem d_M_check_191 : decode prog_12_method_100_code 191 = .ok (.iastore, 1) := by decide +kernel
theorem d_M_check_192 : decode prog_12_method_100_code 192 = .ok (.iinc 5 1, 3) := by decide +kernel
theorem d_M_check_195 : decode prog_12_method_100_code 195 = .ok (.goto (-25), 3) := by decide +kernel
theorem d_M_check_198 : decode prog_12_method_100_code 198 = .ok (.iload 4, 2) := by decide +kernel
theorem d_M_check_200 : decode prog_12_method_100_code 200 = .ok (.ifCond .eq 14, 3) := by decide +kernel
theorem d_M_check_203 : decode prog_12_method_100_code 203 = .ok (.iload_n 2, 1) := by decide +kernel
theorem d_M_check_204 : decode prog_12_method_100_code 204 = .ok (.iconst 2, 1) := by decide +kernel
theorem d_M_check_205 : decode prog_12_method_100_code 205 = .ok (.iload_n 1, 1) := by decide +kernel
theorem d_M_check_206 : decode prog_12_method_100_code 206 = .ok (.imul, 1) := by decide +kernel
theorem d_M_check_207 : decode prog_12_method_100_code 207 = .ok (.if_icmp .ne 7, 3) := by decide +kernel
theorem d_M_check_210 : decode prog_12_method_100_code 210 = .ok (.iconst 0, 1) := by decide +kernel
theorem d_M_check_211 : decode prog_12_method_100_code 211 = .ok (.goto 6, 3) := by decide +kernel
theorem d_M_check_214 : decode prog_12_method_100_code 214 = .ok (.iconst 1, 1) := by decide +kernel
theorem d_M_check_215 : decode prog_12_method_100_code 215 = .ok (.iload_n 3, 1) := by decide +kernel
theorem d_M_check_216 : decode prog_12_method_100_code 216 = .ok (.iadd, 1) := by decide +kernel
theorem d_M_check_217 : decode prog_12_method_100_code 217 = .ok (.ireturn, 1) := by decide +kernel
theorem d_M_keep_0 : decode prog_12_method_101_code 0 = .ok (.iconst 0, 1) := by decide +kernel
theorem d_M_keep_1 : decode prog_12_method_101_code 1 = .ok (.istore_n 1, 1) := by decide +kernel
theorem d_M_keep_2 : decode prog_12_method_101_code 2 = .ok (.iload_n 1, 1) := by decide +kernel
theorem d_M_keep_3 : decode prog_12_method_101_code 3 = .ok (.sipush 2578, 3) := by decide +kernel
theorem d_M_keep_6 : decode prog_12_method_101_code 6 = .ok (.if_icmp .ge 21, 3) := by decide +kernel
theorem d_M_keep_9 : decode prog_12_method_101_code 9 = .ok (.aload_n 0, 1) := by decide +kernel
theorem d_M_keep_10 : decode prog_12_method_101_code 10 = .ok (.getfield 13, 3) := by decide +kernel
theorem d_M_keep_13 : decode prog_12_method_101_code 13 = .ok (.iload_n 1, 1) := by decide +kernel
theorem d_M_keep_14 : decode prog_12_method_101_code 14 = .ok (.aload_n 0, 1) := by decide +kernel
theorem d_M_keep_15 : decode prog_12_method_101_code 15 = .ok (.getfield 9, 3) := by decide +kernel
theorem d_M_keep_18 : decode prog_12_method_101_code 18 = .ok (.iload_n 1, 1) := by decide +kernel
theorem d_M_keep_19 : decode prog_12_method_101_code 19 = .ok (.iaload, 1) := by decide +kernel
theorem d_M_keep_20 : decode prog_12_method_101_code 20 = .ok (.iastore, 1) := by decide +kernel
theorem d_M_keep_21 : decode prog_12_method_101_code 21 = .ok (.iinc 1 1, 3) := by decide +kernel
theorem d_M_keep_24 : decode prog_12_method_101_code 24 = .ok (.goto (-22), 3) := by decide +kernel
theorem d_M_keep_27 : decode prog_12_method_101_code 27 = .ok (.aload_n 0, 1) := by decide +kernel
theorem d_M_keep_28 : decode prog_12_method_101_code 28 = .ok (.iconst 1, 1) := by decide +kernel
theorem d_M_keep_29 : decode prog_12_method_101_code 29 = .ok (.putfield 371, 3) := by decide +kernel
theorem d_M_keep_32 : decode prog_12_method_101_code 32 = .ok (.aload_n 0, 1) := by decide +kernel
theorem d_M_keep_33 : decode prog_12_method_101_code 33 = .ok (.getfield 9, 3) := by decide +kernel
theorem d_M_keep_36 : decode prog_12_method_101_code 36 = .ok (.iconst 0, 1) := by decide +kernel
theorem d_M_keep_37 : decode prog_12_method_101_code 37 = .ok (.iaload, 1) := by decide +kernel
theorem d_M_keep_38 : decode prog_12_method_101_code 38 = .ok (.ireturn, 1) := by decide +kernel
theorem d_M_restore_0 : decode prog_12_method_102_code 0 = .ok (.aload_n 0, 1) := by decide +kernel
theorem d_M_restore_1 : decode prog_12_method_102_code 1 = .ok (.getfield 371, 3) := by decide +kernel
theorem d_M_restore_4 : decode prog_12_method_102_code 4 = .ok (.ifCond .ne 6, 3) := by decide +kernel
theorem d_M_restore_7 : decode prog_12_method_102_code 7 = .ok (.ldc 139, 2) := by decide +kernel
theorem d_M_restore_9 : decode prog_12_method_102_code 9 = .ok (.ireturn, 1) := by decide +kernel
theorem d_M_restore_10 : decode prog_12_method_102_code 10 = .ok (.iconst 0, 1) := by decide +kernel
theorem d_M_restore_11 : decode prog_12_method_102_code 11 = .ok (.istore_n 1, 1) := by decide +kernel
theorem d_M_restore_12 : decode prog_12_method_102_code 12 = .ok (.iload_n 1, 1) := by decide +kernel
theorem d_M_restore_13 : decode prog_12_method_102_code 13 = .ok (.sipush 2578, 3) := by decide +kernel
theorem d_M_restore_16 : decode prog_12_method_102_code 16 = .ok (.if_icmp .ge 21, 3) := by decide +kernel
theorem d_M_restore_19 : decode prog_12_method_102_code 19 = .ok (.aload_n 0, 1) := by decide +kernel
theorem d_M_restore_20 : decode prog_12_method_102_code 20 = .ok (.getfield 9, 3) := by decide +kernel
theorem d_M_restore_23 : decode prog_12_method_102_code 23 = .ok (.iload_n 1, 1) := by decide +kernel
theorem d_M_restore_24 : decode prog_12_method_102_code 24 = .ok (.aload_n 0, 1) := by decide +kernel
theorem d_M_restore_25 : decode prog_12_method_102_code 25 = .ok (.getfield 13, 3) := by decide +kernel
theorem d_M_restore_28 : decode prog_12_method_102_code 28 = .ok (.iload_n 1, 1) := by decide +kernel
theorem d_M_restore_29 : decode prog_12_method_102_code 29 = .ok (.iaload, 1) := by decide +kernel
theorem d_M_restore_30 : decode prog_12_method_102_code 30 = .ok (.iastore, 1) := by decide +kernel
theorem d_M_restore_31 : decode prog_12_method_102_code 31 = .ok (.iinc 1 1, 3) := by decide +kernel
theorem d_M_restore_34 : decode prog_12_method_102_code 34 = .ok (.goto (-22), 3) := by decide +kernel
theorem d_M_restore_37 : decode prog_12_method_102_code 37 = .ok (.aload_n 0, 1) := by decide +kernel
theorem d_M_restore_38 : decode prog_12_method_102_code 38 = .ok (.getfield 9, 3) := by decide +kernel
theorem d_M_restore_41 : decode prog_12_method_102_code 41 = .ok (.iconst 0, 1) := by decide +kernel
theorem d_M_restore_42 : decode prog_12_method_102_code 42 = .ok (.iaload, 1) := by decide +kernel
theorem d_M_restore_43 : decode prog_12_method_102_code 43 = .ok (.ireturn, 1) := by decide +kernel
