/-! decode rows -/
theorem d_M_init_0 : decode prog_12_method_1_code 0 = .ok (.aload_n 0, 1) := by decide +kernel
theorem d_M_init_1 : decode prog_12_method_1_code 1 = .ok (.invokespecial 1, 3) := by decide +kernel
theorem d_M_init_4 : decode prog_12_method_1_code 4 = .ok (.aload_n 0, 1) := by decide +kernel
theorem d_M_init_5 : decode prog_12_method_1_code 5 = .ok (.sipush 2578, 3) := by decide +kernel
theorem d_M_init_8 : decode prog_12_method_1_code 8 = .ok (.newarray .int, 2) := by decide +kernel
theorem d_M_init_10 : decode prog_12_method_1_code 10 = .ok (.putfield 9, 3) := by decide +kernel
theorem d_M_init_13 : decode prog_12_method_1_code 13 = .ok (.aload_n 0, 1) := by decide +kernel
theorem d_M_init_14 : decode prog_12_method_1_code 14 = .ok (.sipush 2578, 3) := by decide +kernel
theorem d_M_init_17 : decode prog_12_method_1_code 17 = .ok (.newarray .int, 2) := by decide +kernel
theorem d_M_init_19 : decode prog_12_method_1_code 19 = .ok (.putfield 13, 3) := by decide +kernel
theorem d_M_init_22 : decode prog_12_method_1_code 22 = .ok (.aload_n 0, 1) := by decide +kernel
theorem d_M_init_23 : decode prog_12_method_1_code 23 = .ok (.sipush 2578, 3) := by decide +kernel
theorem d_M_init_26 : decode prog_12_method_1_code 26 = .ok (.newarray .int, 2) := by decide +kernel
theorem d_M_init_28 : decode prog_12_method_1_code 28 = .ok (.putfield 16, 3) := by decide +kernel
theorem d_M_init_31 : decode prog_12_method_1_code 31 = .ok (.aload_n 0, 1) := by decide +kernel
theorem d_M_init_32 : decode prog_12_method_1_code 32 = .ok (.bipush 96, 2) := by decide +kernel
theorem d_M_init_34 : decode prog_12_method_1_code 34 = .ok (.newarray .int, 2) := by decide +kernel
theorem d_M_init_36 : decode prog_12_method_1_code 36 = .ok (.putfield 19, 3) := by decide +kernel
theorem d_M_init_39 : decode prog_12_method_1_code 39 = .ok (.aload_n 0, 1) := by decide +kernel
theorem d_M_init_40 : decode prog_12_method_1_code 40 = .ok (.bipush 60, 2) := by decide +kernel
theorem d_M_init_42 : decode prog_12_method_1_code 42 = .ok (.newarray .int, 2) := by decide +kernel
theorem d_M_init_44 : decode prog_12_method_1_code 44 = .ok (.putfield 22, 3) := by decide +kernel
theorem d_M_init_47 : decode prog_12_method_1_code 47 = .ok (.aload_n 0, 1) := by decide +kernel
theorem d_M_init_48 : decode prog_12_method_1_code 48 = .ok (.iconst 4, 1) := by decide +kernel
theorem d_M_init_49 : decode prog_12_method_1_code 49 = .ok (.newarray .int, 2) := by decide +kernel
theorem d_M_init_51 : decode prog_12_method_1_code 51 = .ok (.putfield 25, 3) := by decide +kernel
theorem d_M_init_54 : decode prog_12_method_1_code 54 = .ok (.aload_n 0, 1) := by decide +kernel
theorem d_M_init_55 : decode prog_12_method_1_code 55 = .ok (.iconst 4, 1) := by decide +kernel
theorem d_M_init_56 : decode prog_12_method_1_code 56 = .ok (.newarray .int, 2) := by decide +kernel
theorem d_M_init_58 : decode prog_12_method_1_code 58 = .ok (.putfield 28, 3) := by decide +kernel
theorem d_M_init_61 : decode prog_12_method_1_code 61 = .ok (.aload_n 0, 1) := by decide +kernel
theorem d_M_init_62 : decode prog_12_method_1_code 62 = .ok (.bipush 96, 2) := by decide +kernel
theorem d_M_init_64 : decode prog_12_method_1_code 64 = .ok (.newarray .long, 2) := by decide +kernel
theorem d_M_init_66 : decode prog_12_method_1_code 66 = .ok (.putfield 31, 3) := by decide +kernel
theorem d_M_init_69 : decode prog_12_method_1_code 69 = .ok (.aload_n 0, 1) := by decide +kernel
theorem d_M_init_70 : decode prog_12_method_1_code 70 = .ok (.bipush 102, 2) := by decide +kernel
theorem d_M_init_72 : decode prog_12_method_1_code 72 = .ok (.newarray .int, 2) := by decide +kernel
theorem d_M_init_74 : decode prog_12_method_1_code 74 = .ok (.putfield 35, 3) := by decide +kernel
theorem d_M_init_77 : decode prog_12_method_1_code 77 = .ok (.aload_n 0, 1) := by decide +kernel
theorem d_M_init_78 : decode prog_12_method_1_code 78 = .ok (.ldc 38, 2) := by decide +kernel
theorem d_M_init_80 : decode prog_12_method_1_code 80 = .ok (.putfield 40, 3) := by decide +kernel
theorem d_M_init_83 : decode prog_12_method_1_code 83 = .ok (.aload_n 0, 1) := by decide +kernel
theorem d_M_init_84 : decode prog_12_method_1_code 84 = .ok (.bipush 100, 2) := by decide +kernel
theorem d_M_init_86 : decode prog_12_method_1_code 86 = .ok (.newarray .int, 2) := by decide +kernel
theorem d_M_init_88 : decode prog_12_method_1_code 88 = .ok (.putfield 44, 3) := by decide +kernel
theorem d_M_init_91 : decode prog_12_method_1_code 91 = .ok (.aload_n 0, 1) := by decide +kernel
theorem d_M_init_92 : decode prog_12_method_1_code 92 = .ok (.iconst 5, 1) := by decide +kernel
theorem d_M_init_93 : decode prog_12_method_1_code 93 = .ok (.anewarray 47, 3) := by decide +kernel
theorem d_M_init_96 : decode prog_12_method_1_code 96 = .ok (.dup, 1) := by decide +kernel
theorem d_M_init_97 : decode prog_12_method_1_code 97 = .ok (.iconst 0, 1) := by decide +kernel
theorem d_M_init_98 : decode prog_12_method_1_code 98 = .ok (.ldc 49, 2) := by decide +kernel
theorem d_M_init_100 : decode prog_12_method_1_code 100 = .ok (.aastore, 1) := by decide +kernel
theorem d_M_init_101 : decode prog_12_method_1_code 101 = .ok (.dup, 1) := by decide +kernel
theorem d_M_init_102 : decode prog_12_method_1_code 102 = .ok (.iconst 1, 1) := by decide +kernel
theorem d_M_init_103 : decode prog_12_method_1_code 103 = .ok (.ldc 51, 2) := by decide +kernel
theorem d_M_init_105 : decode prog_12_method_1_code 105 = .ok (.aastore, 1) := by decide +kernel
theorem d_M_init_106 : decode prog_12_method_1_code 106 = .ok (.dup, 1) := by decide +kernel
theorem d_M_init_107 : decode prog_12_method_1_code 107 = .ok (.iconst 2, 1) := by decide +kernel
theorem d_M_init_108 : decode prog_12_method_1_code 108 = .ok (.ldc 53, 2) := by decide +kernel
theorem d_M_init_110 : decode prog_12_method_1_code 110 = .ok (.aastore, 1) := by decide +kernel
theorem d_M_init_111 : decode prog_12_method_1_code 111 = .ok (.dup, 1) := by decide +kernel
theorem d_M_init_112 : decode prog_12_method_1_code 112 = .ok (.iconst 3, 1) := by decide +kernel
theorem d_M_init_113 : decode prog_12_method_1_code 113 = .ok (.ldc 55, 2) := by decide +kernel
theorem d_M_init_115 : decode prog_12_method_1_code 115 = .ok (.aastore, 1) := by decide +kernel
theorem d_M_init_116 : decode prog_12_method_1_code 116 = .ok (.dup, 1) := by decide +kernel
theorem d_M_init_117 : decode prog_12_method_1_code 117 = .ok (.iconst 4, 1) := by decide +kernel
theorem d_M_init_118 : decode prog_12_method_1_code 118 = .ok (.ldc 57, 2) := by decide +kernel
theorem d_M_init_120 : decode prog_12_method_1_code 120 = .ok (.aastore, 1) := by decide +kernel
theorem d_M_init_121 : decode prog_12_method_1_code 121 = .ok (.putfield 59, 3) := by decide +kernel
theorem d_M_init_124 : decode prog_12_method_1_code 124 = .ok (.aload_n 0, 1) := by decide +kernel
theorem d_M_init_125 : decode prog_12_method_1_code 125 = .ok (.iconst 5, 1) := by decide +kernel
theorem d_M_init_126 : decode prog_12_method_1_code 126 = .ok (.anewarray 47, 3) := by decide +kernel
theorem d_M_init_129 : decode prog_12_method_1_code 129 = .ok (.dup, 1) := by decide +kernel
theorem d_M_init_130 : decode prog_12_method_1_code 130 = .ok (.iconst 0, 1) := by decide +kernel
theorem d_M_init_131 : decode prog_12_method_1_code 131 = .ok (.ldc 63, 2) := by decide +kernel
theorem d_M_init_133 : decode prog_12_method_1_code 133 = .ok (.aastore, 1) := by decide +kernel
theorem d_M_init_134 : decode prog_12_method_1_code 134 = .ok (.dup, 1) := by decide +kernel
theorem d_M_init_135 : decode prog_12_method_1_code 135 = .ok (.iconst 1, 1) := by decide +kernel
theorem d_M_init_136 : decode prog_12_method_1_code 136 = .ok (.ldc 65, 2) := by decide +kernel
theorem d_M_init_138 : decode prog_12_method_1_code 138 = .ok (.aastore, 1) := by decide +kernel
theorem d_M_init_139 : decode prog_12_method_1_code 139 = .ok (.dup, 1) := by decide +kernel
theorem d_M_init_140 : decode prog_12_method_1_code 140 = .ok (.iconst 2, 1) := by decide +kernel
theorem d_M_init_141 : decode prog_12_method_1_code 141 = .ok (.ldc 67, 2) := by decide +kernel
theorem d_M_init_143 : decode prog_12_method_1_code 143 = .ok (.aastore, 1) := by decide +kernel
theorem d_M_init_144 : decode prog_12_method_1_code 144 = .ok (.dup, 1) := by decide +kernel
theorem d_M_init_145 : decode prog_12_method_1_code 145 = .ok (.iconst 3, 1) := by decide +kernel
theorem d_M_init_146 : decode prog_12_method_1_code 146 = .ok (.ldc 69, 2) := by decide +kernel
theorem d_M_init_148 : decode prog_12_method_1_code 148 = .ok (.aastore, 1) := by decide +kernel
theorem d_M_init_149 : decode prog_12_method_1_code 149 = .ok (.dup, 1) := by decide +kernel
theorem d_M_init_150 : decode prog_12_method_1_code 150 = .ok (.iconst 4, 1) := by decide +kernel
theorem d_M_init_151 : decode prog_12_method_1_code 151 = .ok (.ldc 71, 2) := by decide +kernel
theorem d_M_init_153 : decode prog_12_method_1_code 153 = .ok (.aastore, 1) := by decide +kernel
theorem d_M_init_154 : decode prog_12_method_1_code 154 = .ok (.putfield 73, 3) := by decide +kernel
theorem d_M_init_157 : decode prog_12_method_1_code 157 = .ok (.aload_n 0, 1) := by decide +kernel
theorem d_M_init_158 : decode prog_12_method_1_code 158 = .ok (.bipush 100, 2) := by decide +kernel
theorem d_M_init_160 : decode prog_12_method_1_code 160 = .ok (.newarray .int, 2) := by decide +kernel
theorem d_M_init_162 : decode prog_12_method_1_code 162 = .ok (.putfield 76, 3) := by decide +kernel
theorem d_M_init_165 : decode prog_12_method_1_code 165 = .ok (.aload_n 0, 1) := by decide +kernel
theorem d_M_init_166 : decode prog_12_method_1_code 166 = .ok (.iconst 4, 1) := by decide +kernel
theorem d_M_init_167 : decode prog_12_method_1_code 167 = .ok (.newarray .int, 2) := by decide +kernel
theorem d_M_init_169 : decode prog_12_method_1_code 169 = .ok (.putfield 79, 3) := by decide +kernel
theorem d_M_init_172 : decode prog_12_method_1_code 172 = .ok (.aload_n 0, 1) := by decide +kernel
theorem d_M_init_173 : decode prog_12_method_1_code 173 = .ok (.bipush 24, 2) := by decide +kernel
theorem d_M_init_175 : decode prog_12_method_1_code 175 = .ok (.newarray .long, 2) := by decide +kernel
theorem d_M_init_177 : decode prog_12_method_1_code 177 = .ok (.putfield 82, 3) := by decide +kernel
theorem d_M_init_180 : decode prog_12_method_1_code 180 = .ok (.iconst 0, 1) := by decide +kernel
theorem d_M_init_181 : decode prog_12_method_1_code 181 = .ok (.istore_n 1, 1) := by decide +kernel
theorem d_M_init_182 : decode prog_12_method_1_code 182 = .ok (.iload_n 1, 1) := by decide +kernel
theorem d_M_init_183 : decode prog_12_method_1_code 183 = .ok (.iconst 4, 1) := by decide +kernel
theorem d_M_init_184 : decode prog_12_method_1_code 184 = .ok (.if_icmp .ge 16, 3) := by decide +kernel
theorem d_M_init_187 : decode prog_12_method_1_code 187 = .ok (.aload_n 0, 1) := by decide +kernel
theorem d_M_init_188 : decode prog_12_method_1_code 188 = .ok (.getfield 25, 3) := by decide +kernel
theorem d_M_init_191 : decode prog_12_method_1_code 191 = .ok (.iload_n 1, 1) := by decide +kernel
theorem d_M_init_192 : decode prog_12_method_1_code 192 = .ok (.iconst (-1), 1) := by decide +kernel
theorem d_M_init_193 : decode prog_12_method_1_code 193 = .ok (.iastore, 1) := by decide +kernel
theorem d_M_init_194 : decode prog_12_method_1_code 194 = .ok (.iinc 1 1, 3) := by decide +kernel
theorem d_M_init_197 : decode prog_12_method_1_code 197 = .ok (.goto (-15), 3) := by decide +kernel
theorem d_M_init_200 : decode prog_12_method_1_code 200 = .ok (.return_, 1) := by decide +kernel
theorem d_M_becomes_0 : decode prog_12_method_5_code 0 = .ok (.aload_n 0, 1) := by decide +kernel
theorem d_M_becomes_1 : decode prog_12_method_5_code 1 = .ok (.getfield 9, 3) := by decide +kernel
theorem d_M_becomes_4 : decode prog_12_method_5_code 4 = .ok (.bipush 20, 2) := by decide +kernel
theorem d_M_becomes_6 : decode prog_12_method_5_code 6 = .ok (.bipush 6, 2) := by decide +kernel
theorem d_M_becomes_8 : decode prog_12_method_5_code 8 = .ok (.iload_n 1, 1) := by decide +kernel
theorem d_M_becomes_9 : decode prog_12_method_5_code 9 = .ok (.imul, 1) := by decide +kernel
theorem d_M_becomes_10 : decode prog_12_method_5_code 10 = .ok (.iadd, 1) := by decide +kernel
theorem d_M_becomes_11 : decode prog_12_method_5_code 11 = .ok (.iload_n 2, 1) := by decide +kernel
theorem d_M_becomes_12 : decode prog_12_method_5_code 12 = .ok (.iadd, 1) := by decide +kernel
theorem d_M_becomes_13 : decode prog_12_method_5_code 13 = .ok (.iload_n 3, 1) := by decide +kernel
theorem d_M_becomes_14 : decode prog_12_method_5_code 14 = .ok (.iastore, 1) := by decide +kernel
theorem d_M_becomes_15 : decode prog_12_method_5_code 15 = .ok (.return_, 1) := by decide +kernel
theorem d_M_person_0 : decode prog_12_method_8_code 0 = .ok (.iload_n 1, 1) := by decide +kernel
theorem d_M_person_1 : decode prog_12_method_8_code 1 = .ok (.i2l, 1) := by decide +kernel
theorem d_M_person_2 : decode prog_12_method_8_code 2 = .ok (.lconst 0, 1) := by decide +kernel
theorem d_M_person_3 : decode prog_12_method_8_code 3 = .ok (.ldc2_w 89, 3) := by decide +kernel
theorem d_M_person_6 : decode prog_12_method_8_code 6 = .ok (.invokestatic 85, 3) := by decide +kernel
theorem d_M_person_9 : decode prog_12_method_8_code 9 = .ok (.ifCond .eq 38, 3) := by decide +kernel
theorem d_M_person_12 : decode prog_12_method_8_code 12 = .ok (.iload_n 2, 1) := by decide +kernel
theorem d_M_person_13 : decode prog_12_method_8_code 13 = .ok (.i2l, 1) := by decide +kernel
theorem d_M_person_14 : decode prog_12_method_8_code 14 = .ok (.lconst 0, 1) := by decide +kernel
theorem d_M_person_15 : decode prog_12_method_8_code 15 = .ok (.ldc2_w 91, 3) := by decide +kernel
theorem d_M_person_18 : decode prog_12_method_8_code 18 = .ok (.invokestatic 85, 3) := by decide +kernel
theorem d_M_person_21 : decode prog_12_method_8_code 21 = .ok (.ifCond .eq 26, 3) := by decide +kernel
theorem d_M_person_24 : decode prog_12_method_8_code 24 = .ok (.iload_n 3, 1) := by decide +kernel
theorem d_M_person_25 : decode prog_12_method_8_code 25 = .ok (.i2l, 1) := by decide +kernel
theorem d_M_person_26 : decode prog_12_method_8_code 26 = .ok (.lconst 0, 1) := by decide +kernel
theorem d_M_person_27 : decode prog_12_method_8_code 27 = .ok (.ldc2_w 93, 3) := by decide +kernel
theorem d_M_person_30 : decode prog_12_method_8_code 30 = .ok (.invokestatic 85, 3) := by decide +kernel
theorem d_M_person_33 : decode prog_12_method_8_code 33 = .ok (.ifCond .eq 14, 3) := by decide +kernel
theorem d_M_person_36 : decode prog_12_method_8_code 36 = .ok (.iload 4, 2) := by decide +kernel
theorem d_M_person_38 : decode prog_12_method_8_code 38 = .ok (.i2l, 1) := by decide +kernel
theorem d_M_person_39 : decode prog_12_method_8_code 39 = .ok (.lconst 0, 1) := by decide +kernel
theorem d_M_person_40 : decode prog_12_method_8_code 40 = .ok (.lconst 1, 1) := by decide +kernel
theorem d_M_person_41 : decode prog_12_method_8_code 41 = .ok (.invokestatic 85, 3) := by decide +kernel
theorem d_M_person_44 : decode prog_12_method_8_code 44 = .ok (.ifCond .ne 6, 3) := by decide +kernel
theorem d_M_person_47 : decode prog_12_method_8_code 47 = .ok (.ldc 95, 2) := by decide +kernel
theorem d_M_person_49 : decode prog_12_method_8_code 49 = .ok (.ireturn, 1) := by decide +kernel
theorem d_M_person_50 : decode prog_12_method_8_code 50 = .ok (.aload_n 0, 1) := by decide +kernel
theorem d_M_person_51 : decode prog_12_method_8_code 51 = .ok (.getfield 9, 3) := by decide +kernel
theorem d_M_person_54 : decode prog_12_method_8_code 54 = .ok (.iconst 2, 1) := by decide +kernel
theorem d_M_person_55 : decode prog_12_method_8_code 55 = .ok (.iaload, 1) := by decide +kernel
theorem d_M_person_56 : decode prog_12_method_8_code 56 = .ok (.istore 5, 2) := by decide +kernel
theorem d_M_person_58 : decode prog_12_method_8_code 58 = .ok (.iload 5, 2) := by decide +kernel
theorem d_M_person_60 : decode prog_12_method_8_code 60 = .ok (.bipush 12, 2) := by decide +kernel
theorem d_M_person_62 : decode prog_12_method_8_code 62 = .ok (.if_icmp .eq 14, 3) := by decide +kernel
theorem d_M_person_65 : decode prog_12_method_8_code 65 = .ok (.aload_n 0, 1) := by decide +kernel
theorem d_M_person_66 : decode prog_12_method_8_code 66 = .ok (.getfield 9, 3) := by decide +kernel
theorem d_M_person_69 : decode prog_12_method_8_code 69 = .ok (.iconst 4, 1) := by decide +kernel
theorem d_M_person_70 : decode prog_12_method_8_code 70 = .ok (.iaload, 1) := by decide +kernel
theorem d_M_person_71 : decode prog_12_method_8_code 71 = .ok (.bipush 30, 2) := by decide +kernel
theorem d_M_person_73 : decode prog_12_method_8_code 73 = .ok (.if_icmp .ne 6, 3) := by decide +kernel
theorem d_M_person_76 : decode prog_12_method_8_code 76 = .ok (.ldc 96, 2) := by decide +kernel
theorem d_M_person_78 : decode prog_12_method_8_code 78 = .ok (.ireturn, 1) := by decide +kernel
theorem d_M_person_79 : decode prog_12_method_8_code 79 = .ok (.aload_n 0, 1) := by decide +kernel
theorem d_M_person_80 : decode prog_12_method_8_code 80 = .ok (.iload 5, 2) := by decide +kernel
theorem d_M_person_82 : decode prog_12_method_8_code 82 = .ok (.iconst 0, 1) := by decide +kernel
theorem d_M_person_83 : decode prog_12_method_8_code 83 = .ok (.iload_n 1, 1) := by decide +kernel
theorem d_M_person_84 : decode prog_12_method_8_code 84 = .ok (.invokevirtual 97, 3) := by decide +kernel
theorem d_M_person_87 : decode prog_12_method_8_code 87 = .ok (.aload_n 0, 1) := by decide +kernel
theorem d_M_person_88 : decode prog_12_method_8_code 88 = .ok (.iload 5, 2) := by decide +kernel
theorem d_M_person_90 : decode prog_12_method_8_code 90 = .ok (.iconst 1, 1) := by decide +kernel
theorem d_M_person_91 : decode prog_12_method_8_code 91 = .ok (.iload_n 2, 1) := by decide +kernel
theorem d_M_person_92 : decode prog_12_method_8_code 92 = .ok (.invokevirtual 97, 3) := by decide +kernel
theorem d_M_person_95 : decode prog_12_method_8_code 95 = .ok (.aload_n 0, 1) := by decide +kernel
theorem d_M_person_96 : decode prog_12_method_8_code 96 = .ok (.iload 5, 2) := by decide +kernel
theorem d_M_person_98 : decode prog_12_method_8_code 98 = .ok (.iconst 2, 1) := by decide +kernel
theorem d_M_person_99 : decode prog_12_method_8_code 99 = .ok (.iload_n 3, 1) := by decide +kernel
theorem d_M_person_100 : decode prog_12_method_8_code 100 = .ok (.invokevirtual 97, 3) := by decide +kernel
theorem d_M_person_103 : decode prog_12_method_8_code 103 = .ok (.aload_n 0, 1) := by decide +kernel
theorem d_M_person_104 : decode prog_12_method_8_code 104 = .ok (.iload 5, 2) := by decide +kernel
theorem d_M_person_106 : decode prog_12_method_8_code 106 = .ok (.iconst 3, 1) := by decide +kernel
theorem d_M_person_107 : decode prog_12_method_8_code 107 = .ok (.iconst 0, 1) := by decide +kernel
theorem d_M_person_108 : decode prog_12_method_8_code 108 = .ok (.invokevirtual 97, 3) := by decide +kernel
theorem d_M_person_111 : decode prog_12_method_8_code 111 = .ok (.aload_n 0, 1) := by decide +kernel
theorem d_M_person_112 : decode prog_12_method_8_code 112 = .ok (.iload 5, 2) := by decide +kernel
theorem d_M_person_114 : decode prog_12_method_8_code 114 = .ok (.iconst 4, 1) := by decide +kernel
theorem d_M_person_115 : decode prog_12_method_8_code 115 = .ok (.iload 4, 2) := by decide +kernel
theorem d_M_person_117 : decode prog_12_method_8_code 117 = .ok (.invokevirtual 97, 3) := by decide +kernel
theorem d_M_person_120 : decode prog_12_method_8_code 120 = .ok (.aload_n 0, 1) := by decide +kernel
theorem d_M_person_121 : decode prog_12_method_8_code 121 = .ok (.getfield 9, 3) := by decide +kernel
theorem d_M_person_124 : decode prog_12_method_8_code 124 = .ok (.iconst 2, 1) := by decide +kernel
theorem d_M_person_125 : decode prog_12_method_8_code 125 = .ok (.dup2, 1) := by decide +kernel
theorem d_M_person_126 : decode prog_12_method_8_code 126 = .ok (.iaload, 1) := by decide +kernel
theorem d_M_person_127 : decode prog_12_method_8_code 127 = .ok (.iconst 1, 1) := by decide +kernel
theorem d_M_person_128 : decode prog_12_method_8_code 128 = .ok (.iadd, 1) := by decide +kernel
theorem d_M_person_129 : decode prog_12_method_8_code 129 = .ok (.iastore, 1) := by decide +kernel
theorem d_M_person_130 : decode prog_12_method_8_code 130 = .ok (.aload_n 0, 1) := by decide +kernel
theorem d_M_person_131 : decode prog_12_method_8_code 131 = .ok (.iload 5, 2) := by decide +kernel
theorem d_M_person_133 : decode prog_12_method_8_code 133 = .ok (.invokevirtual 101, 3) := by decide +kernel
theorem d_M_person_136 : decode prog_12_method_8_code 136 = .ok (.iload 5, 2) := by decide +kernel
theorem d_M_person_138 : decode prog_12_method_8_code 138 = .ok (.ireturn, 1) := by decide +kernel
theorem d_M_total_0 : decode prog_12_method_11_code 0 = .ok (.iconst 0, 1) := by decide +kernel
theorem d_M_total_1 : decode prog_12_method_11_code 1 = .ok (.istore_n 2, 1) := by decide +kernel
theorem d_M_total_2 : decode prog_12_method_11_code 2 = .ok (.iconst 0, 1) := by decide +kernel
theorem d_M_total_3 : decode prog_12_method_11_code 3 = .ok (.istore_n 3, 1) := by decide +kernel
theorem d_M_total_4 : decode prog_12_method_11_code 4 = .ok (.iconst 0, 1) := by decide +kernel
theorem d_M_total_5 : decode prog_12_method_11_code 5 = .ok (.istore 4, 2) := by decide +kernel
theorem d_M_total_7 : decode prog_12_method_11_code 7 = .ok (.iload 4, 2) := by decide +kernel
theorem d_M_total_9 : decode prog_12_method_11_code 9 = .ok (.aload_n 0, 1) := by decide +kernel
theorem d_M_total_10 : decode prog_12_method_11_code 10 = .ok (.getfield 9, 3) := by decide +kernel
theorem d_M_total_13 : decode prog_12_method_11_code 13 = .ok (.iconst 3, 1) := by decide +kernel
theorem d_M_total_14 : decode prog_12_method_11_code 14 = .ok (.iaload, 1) := by decide +kernel
theorem d_M_total_15 : decode prog_12_method_11_code 15 = .ok (.if_icmp .ge 88, 3) := by decide +kernel
theorem d_M_total_18 : decode prog_12_method_11_code 18 = .ok (.bipush 92, 2) := by decide +kernel
theorem d_M_total_20 : decode prog_12_method_11_code 20 = .ok (.iconst 3, 1) := by decide +kernel
theorem d_M_total_21 : decode prog_12_method_11_code 21 = .ok (.iload 4, 2) := by decide +kernel
theorem d_M_total_23 : decode prog_12_method_11_code 23 = .ok (.imul, 1) := by decide +kernel
theorem d_M_total_24 : decode prog_12_method_11_code 24 = .ok (.iadd, 1) := by decide +kernel
theorem d_M_total_25 : decode prog_12_method_11_code 25 = .ok (.istore 5, 2) := by decide +kernel
theorem d_M_total_27 : decode prog_12_method_11_code 27 = .ok (.aload_n 0, 1) := by decide +kernel
theorem d_M_total_28 : decode prog_12_method_11_code 28 = .ok (.getfield 9, 3) := by decide +kernel
theorem d_M_total_31 : decode prog_12_method_11_code 31 = .ok (.iload 5, 2) := by decide +kernel
theorem d_M_total_33 : decode prog_12_method_11_code 33 = .ok (.iaload, 1) := by decide +kernel
theorem d_M_total_34 : decode prog_12_method_11_code 34 = .ok (.iload_n 1, 1) := by decide +kernel
theorem d_M_total_35 : decode prog_12_method_11_code 35 = .ok (.if_icmp .ne 62, 3) := by decide +kernel
theorem d_M_total_38 : decode prog_12_method_11_code 38 = .ok (.iload_n 3, 1) := by decide +kernel
theorem d_M_total_39 : decode prog_12_method_11_code 39 = .ok (.aload_n 0, 1) := by decide +kernel
theorem d_M_total_40 : decode prog_12_method_11_code 40 = .ok (.getfield 9, 3) := by decide +kernel
theorem d_M_total_43 : decode prog_12_method_11_code 43 = .ok (.iload 5, 2) := by decide +kernel
theorem d_M_total_45 : decode prog_12_method_11_code 45 = .ok (.iconst 2, 1) := by decide +kernel
theorem d_M_total_46 : decode prog_12_method_11_code 46 = .ok (.iadd, 1) := by decide +kernel
theorem d_M_total_47 : decode prog_12_method_11_code 47 = .ok (.iaload, 1) := by decide +kernel
theorem d_M_total_48 : decode prog_12_method_11_code 48 = .ok (.iconst 1, 1) := by decide +kernel
theorem d_M_total_49 : decode prog_12_method_11_code 49 = .ok (.if_icmp .ne 15, 3) := by decide +kernel
theorem d_M_total_52 : decode prog_12_method_11_code 52 = .ok (.aload_n 0, 1) := by decide +kernel
theorem d_M_total_53 : decode prog_12_method_11_code 53 = .ok (.getfield 9, 3) := by decide +kernel
theorem d_M_total_56 : decode prog_12_method_11_code 56 = .ok (.iload 5, 2) := by decide +kernel
theorem d_M_total_58 : decode prog_12_method_11_code 58 = .ok (.iconst 1, 1) := by decide +kernel
theorem d_M_total_59 : decode prog_12_method_11_code 59 = .ok (.iadd, 1) := by decide +kernel
theorem d_M_total_60 : decode prog_12_method_11_code 60 = .ok (.iaload, 1) := by decide +kernel
theorem d_M_total_61 : decode prog_12_method_11_code 61 = .ok (.goto 4, 3) := by decide +kernel
theorem d_M_total_64 : decode prog_12_method_11_code 64 = .ok (.iconst 0, 1) := by decide +kernel
theorem d_M_total_65 : decode prog_12_method_11_code 65 = .ok (.iadd, 1) := by decide +kernel
theorem d_M_total_66 : decode prog_12_method_11_code 66 = .ok (.istore_n 3, 1) := by decide +kernel
theorem d_M_total_67 : decode prog_12_method_11_code 67 = .ok (.iload_n 2, 1) := by decide +kernel
theorem d_M_total_68 : decode prog_12_method_11_code 68 = .ok (.aload_n 0, 1) := by decide +kernel
theorem d_M_total_69 : decode prog_12_method_11_code 69 = .ok (.getfield 9, 3) := by decide +kernel
theorem d_M_total_72 : decode prog_12_method_11_code 72 = .ok (.iload 5, 2) := by decide +kernel
theorem d_M_total_74 : decode prog_12_method_11_code 74 = .ok (.iconst 2, 1) := by decide +kernel
theorem d_M_total_75 : decode prog_12_method_11_code 75 = .ok (.iadd, 1) := by decide +kernel
theorem d_M_total_76 : decode prog_12_method_11_code 76 = .ok (.iaload, 1) := by decide +kernel
theorem d_M_total_77 : decode prog_12_method_11_code 77 = .ok (.ifCond .ne 15, 3) := by decide +kernel
theorem d_M_total_80 : decode prog_12_method_11_code 80 = .ok (.aload_n 0, 1) := by decide +kernel
theorem d_M_total_81 : decode prog_12_method_11_code 81 = .ok (.getfield 9, 3) := by decide +kernel
theorem d_M_total_84 : decode prog_12_method_11_code 84 = .ok (.iload 5, 2) := by decide +kernel
theorem d_M_total_86 : decode prog_12_method_11_code 86 = .ok (.iconst 1, 1) := by decide +kernel
theorem d_M_total_87 : decode prog_12_method_11_code 87 = .ok (.iadd, 1) := by decide +kernel
theorem d_M_total_88 : decode prog_12_method_11_code 88 = .ok (.iaload, 1) := by decide +kernel
theorem d_M_total_89 : decode prog_12_method_11_code 89 = .ok (.goto 4, 3) := by decide +kernel
theorem d_M_total_92 : decode prog_12_method_11_code 92 = .ok (.iconst 0, 1) := by decide +kernel
theorem d_M_total_93 : decode prog_12_method_11_code 93 = .ok (.invokestatic 109, 3) := by decide +kernel
theorem d_M_total_96 : decode prog_12_method_11_code 96 = .ok (.istore_n 2, 1) := by decide +kernel
theorem d_M_total_97 : decode prog_12_method_11_code 97 = .ok (.iinc 4 1, 3) := by decide +kernel
theorem d_M_total_100 : decode prog_12_method_11_code 100 = .ok (.goto (-93), 3) := by decide +kernel
theorem d_M_total_103 : decode prog_12_method_11_code 103 = .ok (.iload_n 2, 1) := by decide +kernel
theorem d_M_total_104 : decode prog_12_method_11_code 104 = .ok (.iload_n 3, 1) := by decide +kernel
theorem d_M_total_105 : decode prog_12_method_11_code 105 = .ok (.iadd, 1) := by decide +kernel
theorem d_M_total_106 : decode prog_12_method_11_code 106 = .ok (.ireturn, 1) := by decide +kernel
theorem d_M_ofCase_0 : decode prog_12_method_4_code 0 = .ok (.aload_n 0, 1) := by decide +kernel
theorem d_M_ofCase_1 : decode prog_12_method_4_code 1 = .ok (.getfield 9, 3) := by decide +kernel
theorem d_M_ofCase_4 : decode prog_12_method_4_code 4 = .ok (.bipush 20, 2) := by decide +kernel
theorem d_M_ofCase_6 : decode prog_12_method_4_code 6 = .ok (.bipush 6, 2) := by decide +kernel
theorem d_M_ofCase_8 : decode prog_12_method_4_code 8 = .ok (.iload_n 1, 1) := by decide +kernel
theorem d_M_ofCase_9 : decode prog_12_method_4_code 9 = .ok (.imul, 1) := by decide +kernel
theorem d_M_ofCase_10 : decode prog_12_method_4_code 10 = .ok (.iadd, 1) := by decide +kernel
theorem d_M_ofCase_11 : decode prog_12_method_4_code 11 = .ok (.iload_n 2, 1) := by decide +kernel
theorem d_M_ofCase_12 : decode prog_12_method_4_code 12 = .ok (.iadd, 1) := by decide +kernel
theorem d_M_ofCase_13 : decode prog_12_method_4_code 13 = .ok (.iaload, 1) := by decide +kernel
theorem d_M_ofCase_14 : decode prog_12_method_4_code 14 = .ok (.ireturn, 1) := by decide +kernel
theorem d_M_riskOf_0 : decode prog_12_method_13_code 0 = .ok (.sipush 890, 3) := by decide +kernel
theorem d_M_riskOf_3 : decode prog_12_method_13_code 3 = .ok (.iconst 3, 1) := by decide +kernel
theorem d_M_riskOf_4 : decode prog_12_method_13_code 4 = .ok (.aload_n 0, 1) := by decide +kernel
theorem d_M_riskOf_5 : decode prog_12_method_13_code 5 = .ok (.iload_n 1, 1) := by decide +kernel
theorem d_M_riskOf_6 : decode prog_12_method_13_code 6 = .ok (.iconst 2, 1) := by decide +kernel
theorem d_M_riskOf_7 : decode prog_12_method_13_code 7 = .ok (.invokevirtual 105, 3) := by decide +kernel
theorem d_M_riskOf_10 : decode prog_12_method_13_code 10 = .ok (.invokestatic 114, 3) := by decide +kernel
theorem d_M_riskOf_13 : decode prog_12_method_13_code 13 = .ok (.bipush 8, 2) := by decide +kernel
theorem d_M_riskOf_15 : decode prog_12_method_13_code 15 = .ok (.irem, 1) := by decide +kernel
theorem d_M_riskOf_16 : decode prog_12_method_13_code 16 = .ok (.imul, 1) := by decide +kernel
theorem d_M_riskOf_17 : decode prog_12_method_13_code 17 = .ok (.iadd, 1) := by decide +kernel
theorem d_M_riskOf_18 : decode prog_12_method_13_code 18 = .ok (.istore_n 3, 1) := by decide +kernel
theorem d_M_riskOf_19 : decode prog_12_method_13_code 19 = .ok (.aload_n 0, 1) := by decide +kernel
theorem d_M_riskOf_20 : decode prog_12_method_13_code 20 = .ok (.getfield 9, 3) := by decide +kernel
theorem d_M_riskOf_23 : decode prog_12_method_13_code 23 = .ok (.iload_n 3, 1) := by decide +kernel
theorem d_M_riskOf_24 : decode prog_12_method_13_code 24 = .ok (.iconst 1, 1) := by decide +kernel
theorem d_M_riskOf_25 : decode prog_12_method_13_code 25 = .ok (.iadd, 1) := by decide +kernel
theorem d_M_riskOf_26 : decode prog_12_method_13_code 26 = .ok (.iaload, 1) := by decide +kernel
theorem d_M_riskOf_27 : decode prog_12_method_13_code 27 = .ok (.ifCond .ne 7, 3) := by decide +kernel
theorem d_M_riskOf_30 : decode prog_12_method_13_code 30 = .ok (.iconst 0, 1) := by decide +kernel
theorem d_M_riskOf_31 : decode prog_12_method_13_code 31 = .ok (.goto 23, 3) := by decide +kernel
theorem d_M_riskOf_34 : decode prog_12_method_13_code 34 = .ok (.bipush 100, 2) := by decide +kernel
theorem d_M_riskOf_36 : decode prog_12_method_13_code 36 = .ok (.aload_n 0, 1) := by decide +kernel
theorem d_M_riskOf_37 : decode prog_12_method_13_code 37 = .ok (.getfield 9, 3) := by decide +kernel
theorem d_M_riskOf_40 : decode prog_12_method_13_code 40 = .ok (.iload_n 3, 1) := by decide +kernel
theorem d_M_riskOf_41 : decode prog_12_method_13_code 41 = .ok (.iload_n 2, 1) := by decide +kernel
theorem d_M_riskOf_42 : decode prog_12_method_13_code 42 = .ok (.iadd, 1) := by decide +kernel
theorem d_M_riskOf_43 : decode prog_12_method_13_code 43 = .ok (.iaload, 1) := by decide +kernel
theorem d_M_riskOf_44 : decode prog_12_method_13_code 44 = .ok (.imul, 1) := by decide +kernel
theorem d_M_riskOf_45 : decode prog_12_method_13_code 45 = .ok (.aload_n 0, 1) := by decide +kernel
theorem d_M_riskOf_46 : decode prog_12_method_13_code 46 = .ok (.getfield 9, 3) := by decide +kernel
theorem d_M_riskOf_49 : decode prog_12_method_13_code 49 = .ok (.iload_n 3, 1) := by decide +kernel
theorem d_M_riskOf_50 : decode prog_12_method_13_code 50 = .ok (.iconst 1, 1) := by decide +kernel
theorem d_M_riskOf_51 : decode prog_12_method_13_code 51 = .ok (.iadd, 1) := by decide +kernel
theorem d_M_riskOf_52 : decode prog_12_method_13_code 52 = .ok (.iaload, 1) := by decide +kernel
theorem d_M_riskOf_53 : decode prog_12_method_13_code 53 = .ok (.idiv, 1) := by decide +kernel
theorem d_M_riskOf_54 : decode prog_12_method_13_code 54 = .ok (.ireturn, 1) := by decide +kernel
theorem d_M_told_0 : decode prog_12_method_15_code 0 = .ok (.aload_n 0, 1) := by decide +kernel
theorem d_M_told_1 : decode prog_12_method_15_code 1 = .ok (.iload_n 1, 1) := by decide +kernel
theorem d_M_told_2 : decode prog_12_method_15_code 2 = .ok (.iconst 2, 1) := by decide +kernel
theorem d_M_told_3 : decode prog_12_method_15_code 3 = .ok (.invokevirtual 118, 3) := by decide +kernel
theorem d_M_told_6 : decode prog_12_method_15_code 6 = .ok (.ifCond .eq 15, 3) := by decide +kernel
theorem d_M_told_9 : decode prog_12_method_15_code 9 = .ok (.iload_n 2, 1) := by decide +kernel
theorem d_M_told_10 : decode prog_12_method_15_code 10 = .ok (.i2l, 1) := by decide +kernel
theorem d_M_told_11 : decode prog_12_method_15_code 11 = .ok (.lconst 0, 1) := by decide +kernel
theorem d_M_told_12 : decode prog_12_method_15_code 12 = .ok (.ldc2_w 122, 3) := by decide +kernel
theorem d_M_told_15 : decode prog_12_method_15_code 15 = .ok (.invokestatic 85, 3) := by decide +kernel
theorem d_M_told_18 : decode prog_12_method_15_code 18 = .ok (.ifCond .ne 6, 3) := by decide +kernel
theorem d_M_told_21 : decode prog_12_method_15_code 21 = .ok (.ldc 95, 2) := by decide +kernel
theorem d_M_told_23 : decode prog_12_method_15_code 23 = .ok (.ireturn, 1) := by decide +kernel
theorem d_M_told_24 : decode prog_12_method_15_code 24 = .ok (.iload_n 2, 1) := by decide +kernel
theorem d_M_told_25 : decode prog_12_method_15_code 25 = .ok (.tableswitch 80 5 9 #[35, 41, 47, 54, 61], 35) := by decide +kernel
theorem d_M_told_60 : decode prog_12_method_15_code 60 = .ok (.aload_n 0, 1) := by decide +kernel
theorem d_M_told_61 : decode prog_12_method_15_code 61 = .ok (.iload_n 1, 1) := by decide +kernel
theorem d_M_told_62 : decode prog_12_method_15_code 62 = .ok (.invokevirtual 124, 3) := by decide +kernel
theorem d_M_told_65 : decode prog_12_method_15_code 65 = .ok (.ireturn, 1) := by decide +kernel
theorem d_M_told_66 : decode prog_12_method_15_code 66 = .ok (.aload_n 0, 1) := by decide +kernel
theorem d_M_told_67 : decode prog_12_method_15_code 67 = .ok (.iload_n 1, 1) := by decide +kernel
theorem d_M_told_68 : decode prog_12_method_15_code 68 = .ok (.invokevirtual 127, 3) := by decide +kernel
theorem d_M_told_71 : decode prog_12_method_15_code 71 = .ok (.ireturn, 1) := by decide +kernel
theorem d_M_told_72 : decode prog_12_method_15_code 72 = .ok (.aload_n 0, 1) := by decide +kernel
theorem d_M_told_73 : decode prog_12_method_15_code 73 = .ok (.iload_n 1, 1) := by decide +kernel
theorem d_M_told_74 : decode prog_12_method_15_code 74 = .ok (.iconst 0, 1) := by decide +kernel
theorem d_M_told_75 : decode prog_12_method_15_code 75 = .ok (.invokevirtual 130, 3) := by decide +kernel
theorem d_M_told_78 : decode prog_12_method_15_code 78 = .ok (.ireturn, 1) := by decide +kernel
theorem d_M_told_79 : decode prog_12_method_15_code 79 = .ok (.aload_n 0, 1) := by decide +kernel
theorem d_M_told_80 : decode prog_12_method_15_code 80 = .ok (.iload_n 1, 1) := by decide +kernel
theorem d_M_told_81 : decode prog_12_method_15_code 81 = .ok (.iconst 2, 1) := by decide +kernel
theorem d_M_told_82 : decode prog_12_method_15_code 82 = .ok (.invokevirtual 130, 3) := by decide +kernel
theorem d_M_told_85 : decode prog_12_method_15_code 85 = .ok (.ireturn, 1) := by decide +kernel
theorem d_M_told_86 : decode prog_12_method_15_code 86 = .ok (.aload_n 0, 1) := by decide +kernel
theorem d_M_told_87 : decode prog_12_method_15_code 87 = .ok (.iload_n 1, 1) := by decide +kernel
theorem d_M_told_88 : decode prog_12_method_15_code 88 = .ok (.invokevirtual 133, 3) := by decide +kernel
theorem d_M_told_91 : decode prog_12_method_15_code 91 = .ok (.ifCond .ge 8, 3) := by decide +kernel
theorem d_M_told_94 : decode prog_12_method_15_code 94 = .ok (.ldc 136, 2) := by decide +kernel
theorem d_M_told_96 : decode prog_12_method_15_code 96 = .ok (.goto 8, 3) := by decide +kernel
theorem d_M_told_99 : decode prog_12_method_15_code 99 = .ok (.aload_n 0, 1) := by decide +kernel
theorem d_M_told_100 : decode prog_12_method_15_code 100 = .ok (.iload_n 1, 1) := by decide +kernel
theorem d_M_told_101 : decode prog_12_method_15_code 101 = .ok (.invokevirtual 133, 3) := by decide +kernel
theorem d_M_told_104 : decode prog_12_method_15_code 104 = .ok (.ireturn, 1) := by decide +kernel
theorem d_M_told_105 : decode prog_12_method_15_code 105 = .ok (.aload_n 0, 1) := by decide +kernel
theorem d_M_told_106 : decode prog_12_method_15_code 106 = .ok (.iload_n 1, 1) := by decide +kernel
theorem d_M_told_107 : decode prog_12_method_15_code 107 = .ok (.iload_n 2, 1) := by decide +kernel
theorem d_M_told_108 : decode prog_12_method_15_code 108 = .ok (.invokevirtual 105, 3) := by decide +kernel
theorem d_M_told_111 : decode prog_12_method_15_code 111 = .ok (.ireturn, 1) := by decide +kernel
theorem d_M_be_0 : decode prog_12_method_16_code 0 = .ok (.iload_n 2, 1) := by decide +kernel
theorem d_M_be_1 : decode prog_12_method_16_code 1 = .ok (.iconst 1, 1) := by decide +kernel
theorem d_M_be_2 : decode prog_12_method_16_code 2 = .ok (.if_icmp .ne 7, 3) := by decide +kernel
theorem d_M_be_5 : decode prog_12_method_16_code 5 = .ok (.iconst 5, 1) := by decide +kernel
theorem d_M_be_6 : decode prog_12_method_16_code 6 = .ok (.goto 24, 3) := by decide +kernel
theorem d_M_be_9 : decode prog_12_method_16_code 9 = .ok (.iload_n 2, 1) := by decide +kernel
theorem d_M_be_10 : decode prog_12_method_16_code 10 = .ok (.iconst 2, 1) := by decide +kernel
theorem d_M_be_11 : decode prog_12_method_16_code 11 = .ok (.if_icmp .ne 9, 3) := by decide +kernel
theorem d_M_be_14 : decode prog_12_method_16_code 14 = .ok (.sipush 255, 3) := by decide +kernel
theorem d_M_be_17 : decode prog_12_method_16_code 17 = .ok (.goto 13, 3) := by decide +kernel
theorem d_M_be_20 : decode prog_12_method_16_code 20 = .ok (.iload_n 2, 1) := by decide +kernel
theorem d_M_be_21 : decode prog_12_method_16_code 21 = .ok (.iconst 4, 1) := by decide +kernel
theorem d_M_be_22 : decode prog_12_method_16_code 22 = .ok (.if_icmp .ne 7, 3) := by decide +kernel
theorem d_M_be_25 : decode prog_12_method_16_code 25 = .ok (.iconst 1, 1) := by decide +kernel
theorem d_M_be_26 : decode prog_12_method_16_code 26 = .ok (.goto 4, 3) := by decide +kernel
theorem d_M_be_29 : decode prog_12_method_16_code 29 = .ok (.iconst (-1), 1) := by decide +kernel
theorem d_M_be_30 : decode prog_12_method_16_code 30 = .ok (.istore 4, 2) := by decide +kernel
theorem d_M_be_32 : decode prog_12_method_16_code 32 = .ok (.aload_n 0, 1) := by decide +kernel
theorem d_M_be_33 : decode prog_12_method_16_code 33 = .ok (.iload_n 1, 1) := by decide +kernel
theorem d_M_be_34 : decode prog_12_method_16_code 34 = .ok (.iconst 2, 1) := by decide +kernel
theorem d_M_be_35 : decode prog_12_method_16_code 35 = .ok (.invokevirtual 118, 3) := by decide +kernel
theorem d_M_be_38 : decode prog_12_method_16_code 38 = .ok (.ifCond .eq 15, 3) := by decide +kernel
theorem d_M_be_41 : decode prog_12_method_16_code 41 = .ok (.iload_n 3, 1) := by decide +kernel
theorem d_M_be_42 : decode prog_12_method_16_code 42 = .ok (.i2l, 1) := by decide +kernel
theorem d_M_be_43 : decode prog_12_method_16_code 43 = .ok (.lconst 0, 1) := by decide +kernel
theorem d_M_be_44 : decode prog_12_method_16_code 44 = .ok (.iload 4, 2) := by decide +kernel
theorem d_M_be_46 : decode prog_12_method_16_code 46 = .ok (.i2l, 1) := by decide +kernel
theorem d_M_be_47 : decode prog_12_method_16_code 47 = .ok (.invokestatic 85, 3) := by decide +kernel
theorem d_M_be_50 : decode prog_12_method_16_code 50 = .ok (.ifCond .ne 6, 3) := by decide +kernel
theorem d_M_be_53 : decode prog_12_method_16_code 53 = .ok (.ldc 95, 2) := by decide +kernel
theorem d_M_be_55 : decode prog_12_method_16_code 55 = .ok (.ireturn, 1) := by decide +kernel
theorem d_M_be_56 : decode prog_12_method_16_code 56 = .ok (.aload_n 0, 1) := by decide +kernel
theorem d_M_be_57 : decode prog_12_method_16_code 57 = .ok (.iload_n 1, 1) := by decide +kernel
theorem d_M_be_58 : decode prog_12_method_16_code 58 = .ok (.iload_n 2, 1) := by decide +kernel
theorem d_M_be_59 : decode prog_12_method_16_code 59 = .ok (.invokevirtual 105, 3) := by decide +kernel
theorem d_M_be_62 : decode prog_12_method_16_code 62 = .ok (.istore 5, 2) := by decide +kernel
theorem d_M_be_64 : decode prog_12_method_16_code 64 = .ok (.aload_n 0, 1) := by decide +kernel
theorem d_M_be_65 : decode prog_12_method_16_code 65 = .ok (.iload_n 1, 1) := by decide +kernel
theorem d_M_be_66 : decode prog_12_method_16_code 66 = .ok (.iload_n 2, 1) := by decide +kernel
theorem d_M_be_67 : decode prog_12_method_16_code 67 = .ok (.iload_n 3, 1) := by decide +kernel
theorem d_M_be_68 : decode prog_12_method_16_code 68 = .ok (.invokevirtual 97, 3) := by decide +kernel
theorem d_M_be_71 : decode prog_12_method_16_code 71 = .ok (.iload 5, 2) := by decide +kernel
theorem d_M_be_73 : decode prog_12_method_16_code 73 = .ok (.ireturn, 1) := by decide +kernel
theorem d_M_flee_0 : decode prog_12_method_19_code 0 = .ok (.aload_n 0, 1) := by decide +kernel
theorem d_M_flee_1 : decode prog_12_method_19_code 1 = .ok (.iload_n 1, 1) := by decide +kernel
theorem d_M_flee_2 : decode prog_12_method_19_code 2 = .ok (.iconst 2, 1) := by decide +kernel
theorem d_M_flee_3 : decode prog_12_method_19_code 3 = .ok (.invokevirtual 118, 3) := by decide +kernel
theorem d_M_flee_6 : decode prog_12_method_19_code 6 = .ok (.ifCond .ne 6, 3) := by decide +kernel
theorem d_M_flee_9 : decode prog_12_method_19_code 9 = .ok (.ldc 95, 2) := by decide +kernel
theorem d_M_flee_11 : decode prog_12_method_19_code 11 = .ok (.ireturn, 1) := by decide +kernel
theorem d_M_flee_12 : decode prog_12_method_19_code 12 = .ok (.aload_n 0, 1) := by decide +kernel
theorem d_M_flee_13 : decode prog_12_method_19_code 13 = .ok (.iload_n 1, 1) := by decide +kernel
theorem d_M_flee_14 : decode prog_12_method_19_code 14 = .ok (.iconst 3, 1) := by decide +kernel
theorem d_M_flee_15 : decode prog_12_method_19_code 15 = .ok (.invokevirtual 105, 3) := by decide +kernel
theorem d_M_flee_18 : decode prog_12_method_19_code 18 = .ok (.ifCond .ne 12, 3) := by decide +kernel
theorem d_M_flee_21 : decode prog_12_method_19_code 21 = .ok (.aload_n 0, 1) := by decide +kernel
theorem d_M_flee_22 : decode prog_12_method_19_code 22 = .ok (.iload_n 1, 1) := by decide +kernel
theorem d_M_flee_23 : decode prog_12_method_19_code 23 = .ok (.iconst 5, 1) := by decide +kernel
theorem d_M_flee_24 : decode prog_12_method_19_code 24 = .ok (.invokevirtual 105, 3) := by decide +kernel
theorem d_M_flee_27 : decode prog_12_method_19_code 27 = .ok (.ifCond .ge 6, 3) := by decide +kernel
theorem d_M_flee_30 : decode prog_12_method_19_code 30 = .ok (.ldc 139, 2) := by decide +kernel
theorem d_M_flee_32 : decode prog_12_method_19_code 32 = .ok (.ireturn, 1) := by decide +kernel
theorem d_M_flee_33 : decode prog_12_method_19_code 33 = .ok (.aload_n 0, 1) := by decide +kernel
theorem d_M_flee_34 : decode prog_12_method_19_code 34 = .ok (.iload_n 1, 1) := by decide +kernel
theorem d_M_flee_35 : decode prog_12_method_19_code 35 = .ok (.invokevirtual 140, 3) := by decide +kernel
theorem d_M_flee_38 : decode prog_12_method_19_code 38 = .ok (.iconst 1, 1) := by decide +kernel
theorem d_M_flee_39 : decode prog_12_method_19_code 39 = .ok (.ireturn, 1) := by decide +kernel
theorem d_M_caught_0 : decode prog_12_method_20_code 0 = .ok (.aload_n 0, 1) := by decide +kernel
theorem d_M_caught_1 : decode prog_12_method_20_code 1 = .ok (.iload_n 1, 1) := by decide +kernel
theorem d_M_caught_2 : decode prog_12_method_20_code 2 = .ok (.iconst 2, 1) := by decide +kernel
theorem d_M_caught_3 : decode prog_12_method_20_code 3 = .ok (.invokevirtual 118, 3) := by decide +kernel
theorem d_M_caught_6 : decode prog_12_method_20_code 6 = .ok (.ifCond .ne 6, 3) := by decide +kernel
theorem d_M_caught_9 : decode prog_12_method_20_code 9 = .ok (.ldc 95, 2) := by decide +kernel
theorem d_M_caught_11 : decode prog_12_method_20_code 11 = .ok (.ireturn, 1) := by decide +kernel
theorem d_M_caught_12 : decode prog_12_method_20_code 12 = .ok (.aload_n 0, 1) := by decide +kernel
theorem d_M_caught_13 : decode prog_12_method_20_code 13 = .ok (.iload_n 1, 1) := by decide +kernel
theorem d_M_caught_14 : decode prog_12_method_20_code 14 = .ok (.iconst 3, 1) := by decide +kernel
theorem d_M_caught_15 : decode prog_12_method_20_code 15 = .ok (.invokevirtual 105, 3) := by decide +kernel
theorem d_M_caught_18 : decode prog_12_method_20_code 18 = .ok (.ifCond .ne 12, 3) := by decide +kernel
theorem d_M_caught_21 : decode prog_12_method_20_code 21 = .ok (.aload_n 0, 1) := by decide +kernel
theorem d_M_caught_22 : decode prog_12_method_20_code 22 = .ok (.iload_n 1, 1) := by decide +kernel
theorem d_M_caught_23 : decode prog_12_method_20_code 23 = .ok (.iconst 5, 1) := by decide +kernel
theorem d_M_caught_24 : decode prog_12_method_20_code 24 = .ok (.invokevirtual 105, 3) := by decide +kernel
theorem d_M_caught_27 : decode prog_12_method_20_code 27 = .ok (.ifCond .lt 6, 3) := by decide +kernel
theorem d_M_caught_30 : decode prog_12_method_20_code 30 = .ok (.ldc 139, 2) := by decide +kernel
theorem d_M_caught_32 : decode prog_12_method_20_code 32 = .ok (.ireturn, 1) := by decide +kernel
theorem d_M_caught_33 : decode prog_12_method_20_code 33 = .ok (.aload_n 0, 1) := by decide +kernel
theorem d_M_caught_34 : decode prog_12_method_20_code 34 = .ok (.getfield 9, 3) := by decide +kernel
theorem d_M_caught_37 : decode prog_12_method_20_code 37 = .ok (.iconst 4, 1) := by decide +kernel
theorem d_M_caught_38 : decode prog_12_method_20_code 38 = .ok (.iaload, 1) := by decide +kernel
theorem d_M_caught_39 : decode prog_12_method_20_code 39 = .ok (.bipush 30, 2) := by decide +kernel
theorem d_M_caught_41 : decode prog_12_method_20_code 41 = .ok (.if_icmp .ne 6, 3) := by decide +kernel
theorem d_M_caught_44 : decode prog_12_method_20_code 44 = .ok (.ldc 96, 2) := by decide +kernel
theorem d_M_caught_46 : decode prog_12_method_20_code 46 = .ok (.ireturn, 1) := by decide +kernel
theorem d_M_caught_47 : decode prog_12_method_20_code 47 = .ok (.aload_n 0, 1) := by decide +kernel
theorem d_M_caught_48 : decode prog_12_method_20_code 48 = .ok (.iload_n 1, 1) := by decide +kernel
theorem d_M_caught_49 : decode prog_12_method_20_code 49 = .ok (.invokevirtual 101, 3) := by decide +kernel
theorem d_M_caught_52 : decode prog_12_method_20_code 52 = .ok (.iconst 1, 1) := by decide +kernel
theorem d_M_caught_53 : decode prog_12_method_20_code 53 = .ok (.ireturn, 1) := by decide +kernel
theorem d_M_point_0 : decode prog_12_method_22_code 0 = .ok (.iload_n 1, 1) := by decide +kernel
theorem d_M_point_1 : decode prog_12_method_22_code 1 = .ok (.iload_n 2, 1) := by decide +kernel
theorem d_M_point_2 : decode prog_12_method_22_code 2 = .ok (.invokestatic 143, 3) := by decide +kernel
theorem d_M_point_5 : decode prog_12_method_22_code 5 = .ok (.istore_n 3, 1) := by decide +kernel
theorem d_M_point_6 : decode prog_12_method_22_code 6 = .ok (.aload_n 0, 1) := by decide +kernel
theorem d_M_point_7 : decode prog_12_method_22_code 7 = .ok (.getfield 146, 3) := by decide +kernel
theorem d_M_point_10 : decode prog_12_method_22_code 10 = .ok (.istore 4, 2) := by decide +kernel
theorem d_M_point_12 : decode prog_12_method_22_code 12 = .ok (.iload 4, 2) := by decide +kernel
theorem d_M_point_14 : decode prog_12_method_22_code 14 = .ok (.ifCond .le 38, 3) := by decide +kernel
theorem d_M_point_17 : decode prog_12_method_22_code 17 = .ok (.aload_n 0, 1) := by decide +kernel
theorem d_M_point_18 : decode prog_12_method_22_code 18 = .ok (.getfield 35, 3) := by decide +kernel
theorem d_M_point_21 : decode prog_12_method_22_code 21 = .ok (.iload 4, 2) := by decide +kernel
theorem d_M_point_23 : decode prog_12_method_22_code 23 = .ok (.iconst 1, 1) := by decide +kernel
theorem d_M_point_24 : decode prog_12_method_22_code 24 = .ok (.isub, 1) := by decide +kernel
theorem d_M_point_25 : decode prog_12_method_22_code 25 = .ok (.iaload, 1) := by decide +kernel
theorem d_M_point_26 : decode prog_12_method_22_code 26 = .ok (.iload_n 3, 1) := by decide +kernel
theorem d_M_point_27 : decode prog_12_method_22_code 27 = .ok (.if_icmp .le 25, 3) := by decide +kernel
theorem d_M_point_30 : decode prog_12_method_22_code 30 = .ok (.aload_n 0, 1) := by decide +kernel
theorem d_M_point_31 : decode prog_12_method_22_code 31 = .ok (.getfield 35, 3) := by decide +kernel
theorem d_M_point_34 : decode prog_12_method_22_code 34 = .ok (.iload 4, 2) := by decide +kernel
theorem d_M_point_36 : decode prog_12_method_22_code 36 = .ok (.aload_n 0, 1) := by decide +kernel
theorem d_M_point_37 : decode prog_12_method_22_code 37 = .ok (.getfield 35, 3) := by decide +kernel
theorem d_M_point_40 : decode prog_12_method_22_code 40 = .ok (.iload 4, 2) := by decide +kernel
theorem d_M_point_42 : decode prog_12_method_22_code 42 = .ok (.iconst 1, 1) := by decide +kernel
theorem d_M_point_43 : decode prog_12_method_22_code 43 = .ok (.isub, 1) := by decide +kernel
theorem d_M_point_44 : decode prog_12_method_22_code 44 = .ok (.iaload, 1) := by decide +kernel
theorem d_M_point_45 : decode prog_12_method_22_code 45 = .ok (.iastore, 1) := by decide +kernel
theorem d_M_point_46 : decode prog_12_method_22_code 46 = .ok (.iinc 4 (-1), 3) := by decide +kernel
theorem d_M_point_49 : decode prog_12_method_22_code 49 = .ok (.goto (-37), 3) := by decide +kernel
theorem d_M_point_52 : decode prog_12_method_22_code 52 = .ok (.aload_n 0, 1) := by decide +kernel
theorem d_M_point_53 : decode prog_12_method_22_code 53 = .ok (.getfield 35, 3) := by decide +kernel
theorem d_M_point_56 : decode prog_12_method_22_code 56 = .ok (.iload 4, 2) := by decide +kernel
theorem d_M_point_58 : decode prog_12_method_22_code 58 = .ok (.iload_n 3, 1) := by decide +kernel
theorem d_M_point_59 : decode prog_12_method_22_code 59 = .ok (.iastore, 1) := by decide +kernel
theorem d_M_point_60 : decode prog_12_method_22_code 60 = .ok (.aload_n 0, 1) := by decide +kernel
theorem d_M_point_61 : decode prog_12_method_22_code 61 = .ok (.dup, 1) := by decide +kernel
theorem d_M_point_62 : decode prog_12_method_22_code 62 = .ok (.getfield 146, 3) := by decide +kernel
theorem d_M_point_65 : decode prog_12_method_22_code 65 = .ok (.iconst 1, 1) := by decide +kernel
theorem d_M_point_66 : decode prog_12_method_22_code 66 = .ok (.iadd, 1) := by decide +kernel
theorem d_M_point_67 : decode prog_12_method_22_code 67 = .ok (.putfield 146, 3) := by decide +kernel
theorem d_M_point_70 : decode prog_12_method_22_code 70 = .ok (.return_, 1) := by decide +kernel
theorem d_M_servedOn_0 : decode prog_12_method_24_code 0 = .ok (.aload_n 0, 1) := by decide +kernel
theorem d_M_servedOn_1 : decode prog_12_method_24_code 1 = .ok (.iconst 0, 1) := by decide +kernel
theorem d_M_servedOn_2 : decode prog_12_method_24_code 2 = .ok (.putfield 146, 3) := by decide +kernel
theorem d_M_servedOn_5 : decode prog_12_method_24_code 5 = .ok (.aload_n 0, 1) := by decide +kernel
theorem d_M_servedOn_6 : decode prog_12_method_24_code 6 = .ok (.iconst 0, 1) := by decide +kernel
theorem d_M_servedOn_7 : decode prog_12_method_24_code 7 = .ok (.iload_n 2, 1) := by decide +kernel
theorem d_M_servedOn_8 : decode prog_12_method_24_code 8 = .ok (.invokevirtual 150, 3) := by decide +kernel
theorem d_M_servedOn_11 : decode prog_12_method_24_code 11 = .ok (.aload_n 0, 1) := by decide +kernel
theorem d_M_servedOn_12 : decode prog_12_method_24_code 12 = .ok (.iload_n 2, 1) := by decide +kernel
theorem d_M_servedOn_13 : decode prog_12_method_24_code 13 = .ok (.iload_n 2, 1) := by decide +kernel
theorem d_M_servedOn_14 : decode prog_12_method_24_code 14 = .ok (.invokevirtual 150, 3) := by decide +kernel
theorem d_M_servedOn_17 : decode prog_12_method_24_code 17 = .ok (.iconst 0, 1) := by decide +kernel
theorem d_M_servedOn_18 : decode prog_12_method_24_code 18 = .ok (.istore_n 3, 1) := by decide +kernel
theorem d_M_servedOn_19 : decode prog_12_method_24_code 19 = .ok (.iload_n 3, 1) := by decide +kernel
theorem d_M_servedOn_20 : decode prog_12_method_24_code 20 = .ok (.aload_n 0, 1) := by decide +kernel
theorem d_M_servedOn_21 : decode prog_12_method_24_code 21 = .ok (.getfield 9, 3) := by decide +kernel
theorem d_M_servedOn_24 : decode prog_12_method_24_code 24 = .ok (.iconst 4, 1) := by decide +kernel
theorem d_M_servedOn_25 : decode prog_12_method_24_code 25 = .ok (.iaload, 1) := by decide +kernel
theorem d_M_servedOn_26 : decode prog_12_method_24_code 26 = .ok (.if_icmp .ge 76, 3) := by decide +kernel
theorem d_M_servedOn_29 : decode prog_12_method_24_code 29 = .ok (.aload_n 0, 1) := by decide +kernel
theorem d_M_servedOn_30 : decode prog_12_method_24_code 30 = .ok (.getfield 9, 3) := by decide +kernel
theorem d_M_servedOn_33 : decode prog_12_method_24_code 33 = .ok (.sipush 164, 3) := by decide +kernel
theorem d_M_servedOn_36 : decode prog_12_method_24_code 36 = .ok (.iconst 3, 1) := by decide +kernel
theorem d_M_servedOn_37 : decode prog_12_method_24_code 37 = .ok (.iload_n 3, 1) := by decide +kernel
theorem d_M_servedOn_38 : decode prog_12_method_24_code 38 = .ok (.imul, 1) := by decide +kernel
theorem d_M_servedOn_39 : decode prog_12_method_24_code 39 = .ok (.iadd, 1) := by decide +kernel
theorem d_M_servedOn_40 : decode prog_12_method_24_code 40 = .ok (.iaload, 1) := by decide +kernel
theorem d_M_servedOn_41 : decode prog_12_method_24_code 41 = .ok (.iload_n 1, 1) := by decide +kernel
theorem d_M_servedOn_42 : decode prog_12_method_24_code 42 = .ok (.if_icmp .ne 54, 3) := by decide +kernel
theorem d_M_servedOn_45 : decode prog_12_method_24_code 45 = .ok (.aload_n 0, 1) := by decide +kernel
theorem d_M_servedOn_46 : decode prog_12_method_24_code 46 = .ok (.getfield 9, 3) := by decide +kernel
theorem d_M_servedOn_49 : decode prog_12_method_24_code 49 = .ok (.sipush 164, 3) := by decide +kernel
theorem d_M_servedOn_52 : decode prog_12_method_24_code 52 = .ok (.iconst 3, 1) := by decide +kernel
theorem d_M_servedOn_53 : decode prog_12_method_24_code 53 = .ok (.iload_n 3, 1) := by decide +kernel
theorem d_M_servedOn_54 : decode prog_12_method_24_code 54 = .ok (.imul, 1) := by decide +kernel
theorem d_M_servedOn_55 : decode prog_12_method_24_code 55 = .ok (.iadd, 1) := by decide +kernel
theorem d_M_servedOn_56 : decode prog_12_method_24_code 56 = .ok (.iconst 2, 1) := by decide +kernel
theorem d_M_servedOn_57 : decode prog_12_method_24_code 57 = .ok (.iadd, 1) := by decide +kernel
theorem d_M_servedOn_58 : decode prog_12_method_24_code 58 = .ok (.iaload, 1) := by decide +kernel
theorem d_M_servedOn_59 : decode prog_12_method_24_code 59 = .ok (.istore 4, 2) := by decide +kernel
theorem d_M_servedOn_61 : decode prog_12_method_24_code 61 = .ok (.aload_n 0, 1) := by decide +kernel
theorem d_M_servedOn_62 : decode prog_12_method_24_code 62 = .ok (.aload_n 0, 1) := by decide +kernel
theorem d_M_servedOn_63 : decode prog_12_method_24_code 63 = .ok (.getfield 9, 3) := by decide +kernel
theorem d_M_servedOn_66 : decode prog_12_method_24_code 66 = .ok (.sipush 164, 3) := by decide +kernel
theorem d_M_servedOn_69 : decode prog_12_method_24_code 69 = .ok (.iconst 3, 1) := by decide +kernel
theorem d_M_servedOn_70 : decode prog_12_method_24_code 70 = .ok (.iload_n 3, 1) := by decide +kernel
theorem d_M_servedOn_71 : decode prog_12_method_24_code 71 = .ok (.imul, 1) := by decide +kernel
theorem d_M_servedOn_72 : decode prog_12_method_24_code 72 = .ok (.iadd, 1) := by decide +kernel
theorem d_M_servedOn_73 : decode prog_12_method_24_code 73 = .ok (.iconst 1, 1) := by decide +kernel
theorem d_M_servedOn_74 : decode prog_12_method_24_code 74 = .ok (.iadd, 1) := by decide +kernel
theorem d_M_servedOn_75 : decode prog_12_method_24_code 75 = .ok (.iaload, 1) := by decide +kernel
theorem d_M_servedOn_76 : decode prog_12_method_24_code 76 = .ok (.iload_n 2, 1) := by decide +kernel
theorem d_M_servedOn_77 : decode prog_12_method_24_code 77 = .ok (.invokevirtual 150, 3) := by decide +kernel
theorem d_M_servedOn_80 : decode prog_12_method_24_code 80 = .ok (.aload_n 0, 1) := by decide +kernel
theorem d_M_servedOn_81 : decode prog_12_method_24_code 81 = .ok (.iload 4, 2) := by decide +kernel
theorem d_M_servedOn_83 : decode prog_12_method_24_code 83 = .ok (.ifCond .ge 7, 3) := by decide +kernel
theorem d_M_servedOn_86 : decode prog_12_method_24_code 86 = .ok (.iload_n 2, 1) := by decide +kernel
theorem d_M_servedOn_87 : decode prog_12_method_24_code 87 = .ok (.goto 5, 3) := by decide +kernel
theorem d_M_servedOn_90 : decode prog_12_method_24_code 90 = .ok (.iload 4, 2) := by decide +kernel
theorem d_M_servedOn_92 : decode prog_12_method_24_code 92 = .ok (.iload_n 2, 1) := by decide +kernel
theorem d_M_servedOn_93 : decode prog_12_method_24_code 93 = .ok (.invokevirtual 150, 3) := by decide +kernel
theorem d_M_servedOn_96 : decode prog_12_method_24_code 96 = .ok (.iinc 3 1, 3) := by decide +kernel
theorem d_M_servedOn_99 : decode prog_12_method_24_code 99 = .ok (.goto (-80), 3) := by decide +kernel
theorem d_M_servedOn_102 : decode prog_12_method_24_code 102 = .ok (.iconst 0, 1) := by decide +kernel
theorem d_M_servedOn_103 : decode prog_12_method_24_code 103 = .ok (.istore_n 3, 1) := by decide +kernel
theorem d_M_servedOn_104 : decode prog_12_method_24_code 104 = .ok (.iload_n 3, 1) := by decide +kernel
theorem d_M_servedOn_105 : decode prog_12_method_24_code 105 = .ok (.aload_n 0, 1) := by decide +kernel
theorem d_M_servedOn_106 : decode prog_12_method_24_code 106 = .ok (.getfield 9, 3) := by decide +kernel
theorem d_M_servedOn_109 : decode prog_12_method_24_code 109 = .ok (.iconst 5, 1) := by decide +kernel
theorem d_M_servedOn_110 : decode prog_12_method_24_code 110 = .ok (.iaload, 1) := by decide +kernel
theorem d_M_servedOn_111 : decode prog_12_method_24_code 111 = .ok (.if_icmp .ge 63, 3) := by decide +kernel
theorem d_M_servedOn_114 : decode prog_12_method_24_code 114 = .ok (.aload_n 0, 1) := by decide +kernel
theorem d_M_servedOn_115 : decode prog_12_method_24_code 115 = .ok (.getfield 9, 3) := by decide +kernel
theorem d_M_servedOn_118 : decode prog_12_method_24_code 118 = .ok (.sipush 254, 3) := by decide +kernel
theorem d_M_servedOn_121 : decode prog_12_method_24_code 121 = .ok (.iconst 3, 1) := by decide +kernel
theorem d_M_servedOn_122 : decode prog_12_method_24_code 122 = .ok (.iload_n 3, 1) := by decide +kernel
theorem d_M_servedOn_123 : decode prog_12_method_24_code 123 = .ok (.imul, 1) := by decide +kernel
theorem d_M_servedOn_124 : decode prog_12_method_24_code 124 = .ok (.iadd, 1) := by decide +kernel
theorem d_M_servedOn_125 : decode prog_12_method_24_code 125 = .ok (.iaload, 1) := by decide +kernel
theorem d_M_servedOn_126 : decode prog_12_method_24_code 126 = .ok (.iload_n 1, 1) := by decide +kernel
theorem d_M_servedOn_127 : decode prog_12_method_24_code 127 = .ok (.if_icmp .ne 41, 3) := by decide +kernel
theorem d_M_servedOn_130 : decode prog_12_method_24_code 130 = .ok (.aload_n 0, 1) := by decide +kernel
theorem d_M_servedOn_131 : decode prog_12_method_24_code 131 = .ok (.aload_n 0, 1) := by decide +kernel
theorem d_M_servedOn_132 : decode prog_12_method_24_code 132 = .ok (.getfield 9, 3) := by decide +kernel
theorem d_M_servedOn_135 : decode prog_12_method_24_code 135 = .ok (.sipush 254, 3) := by decide +kernel
theorem d_M_servedOn_138 : decode prog_12_method_24_code 138 = .ok (.iconst 3, 1) := by decide +kernel
theorem d_M_servedOn_139 : decode prog_12_method_24_code 139 = .ok (.iload_n 3, 1) := by decide +kernel
theorem d_M_servedOn_140 : decode prog_12_method_24_code 140 = .ok (.imul, 1) := by decide +kernel
theorem d_M_servedOn_141 : decode prog_12_method_24_code 141 = .ok (.iadd, 1) := by decide +kernel
theorem d_M_servedOn_142 : decode prog_12_method_24_code 142 = .ok (.iconst 1, 1) := by decide +kernel
theorem d_M_servedOn_143 : decode prog_12_method_24_code 143 = .ok (.iadd, 1) := by decide +kernel
theorem d_M_servedOn_144 : decode prog_12_method_24_code 144 = .ok (.iaload, 1) := by decide +kernel
theorem d_M_servedOn_145 : decode prog_12_method_24_code 145 = .ok (.iload_n 2, 1) := by decide +kernel
theorem d_M_servedOn_146 : decode prog_12_method_24_code 146 = .ok (.invokevirtual 150, 3) := by decide +kernel
theorem d_M_servedOn_149 : decode prog_12_method_24_code 149 = .ok (.aload_n 0, 1) := by decide +kernel
theorem d_M_servedOn_150 : decode prog_12_method_24_code 150 = .ok (.aload_n 0, 1) := by decide +kernel
theorem d_M_servedOn_151 : decode prog_12_method_24_code 151 = .ok (.getfield 9, 3) := by decide +kernel
theorem d_M_servedOn_154 : decode prog_12_method_24_code 154 = .ok (.sipush 254, 3) := by decide +kernel
theorem d_M_servedOn_157 : decode prog_12_method_24_code 157 = .ok (.iconst 3, 1) := by decide +kernel
theorem d_M_servedOn_158 : decode prog_12_method_24_code 158 = .ok (.iload_n 3, 1) := by decide +kernel
theorem d_M_servedOn_159 : decode prog_12_method_24_code 159 = .ok (.imul, 1) := by decide +kernel
theorem d_M_servedOn_160 : decode prog_12_method_24_code 160 = .ok (.iadd, 1) := by decide +kernel
theorem d_M_servedOn_161 : decode prog_12_method_24_code 161 = .ok (.iconst 2, 1) := by decide +kernel
theorem d_M_servedOn_162 : decode prog_12_method_24_code 162 = .ok (.iadd, 1) := by decide +kernel
theorem d_M_servedOn_163 : decode prog_12_method_24_code 163 = .ok (.iaload, 1) := by decide +kernel
theorem d_M_servedOn_164 : decode prog_12_method_24_code 164 = .ok (.iload_n 2, 1) := by decide +kernel
theorem d_M_servedOn_165 : decode prog_12_method_24_code 165 = .ok (.invokevirtual 150, 3) := by decide +kernel
theorem d_M_servedOn_168 : decode prog_12_method_24_code 168 = .ok (.iinc 3 1, 3) := by decide +kernel
theorem d_M_servedOn_171 : decode prog_12_method_24_code 171 = .ok (.goto (-67), 3) := by decide +kernel
theorem d_M_servedOn_174 : decode prog_12_method_24_code 174 = .ok (.iconst 0, 1) := by decide +kernel
theorem d_M_servedOn_175 : decode prog_12_method_24_code 175 = .ok (.istore_n 3, 1) := by decide +kernel
theorem d_M_servedOn_176 : decode prog_12_method_24_code 176 = .ok (.iconst 0, 1) := by decide +kernel
theorem d_M_servedOn_177 : decode prog_12_method_24_code 177 = .ok (.istore 4, 2) := by decide +kernel
theorem d_M_servedOn_179 : decode prog_12_method_24_code 179 = .ok (.iload 4, 2) := by decide +kernel
theorem d_M_servedOn_181 : decode prog_12_method_24_code 181 = .ok (.iconst 1, 1) := by decide +kernel
theorem d_M_servedOn_182 : decode prog_12_method_24_code 182 = .ok (.iadd, 1) := by decide +kernel
theorem d_M_servedOn_183 : decode prog_12_method_24_code 183 = .ok (.aload_n 0, 1) := by decide +kernel
theorem d_M_servedOn_184 : decode prog_12_method_24_code 184 = .ok (.getfield 146, 3) := by decide +kernel
theorem d_M_servedOn_187 : decode prog_12_method_24_code 187 = .ok (.if_icmp .ge 67, 3) := by decide +kernel
theorem d_M_servedOn_190 : decode prog_12_method_24_code 190 = .ok (.iload_n 3, 1) := by decide +kernel
theorem d_M_servedOn_191 : decode prog_12_method_24_code 191 = .ok (.aload_n 0, 1) := by decide +kernel
theorem d_M_servedOn_192 : decode prog_12_method_24_code 192 = .ok (.getfield 35, 3) := by decide +kernel
theorem d_M_servedOn_195 : decode prog_12_method_24_code 195 = .ok (.iload 4, 2) := by decide +kernel
theorem d_M_servedOn_197 : decode prog_12_method_24_code 197 = .ok (.iaload, 1) := by decide +kernel
theorem d_M_servedOn_198 : decode prog_12_method_24_code 198 = .ok (.aload_n 0, 1) := by decide +kernel
theorem d_M_servedOn_199 : decode prog_12_method_24_code 199 = .ok (.getfield 35, 3) := by decide +kernel
theorem d_M_servedOn_202 : decode prog_12_method_24_code 202 = .ok (.iload 4, 2) := by decide +kernel
theorem d_M_servedOn_204 : decode prog_12_method_24_code 204 = .ok (.iconst 1, 1) := by decide +kernel
theorem d_M_servedOn_205 : decode prog_12_method_24_code 205 = .ok (.iadd, 1) := by decide +kernel
theorem d_M_servedOn_206 : decode prog_12_method_24_code 206 = .ok (.iaload, 1) := by decide +kernel
theorem d_M_servedOn_207 : decode prog_12_method_24_code 207 = .ok (.if_icmp .ge 38, 3) := by decide +kernel
theorem d_M_servedOn_210 : decode prog_12_method_24_code 210 = .ok (.aload_n 0, 1) := by decide +kernel
theorem d_M_servedOn_211 : decode prog_12_method_24_code 211 = .ok (.iload_n 1, 1) := by decide +kernel
theorem d_M_servedOn_212 : decode prog_12_method_24_code 212 = .ok (.aload_n 0, 1) := by decide +kernel
theorem d_M_servedOn_213 : decode prog_12_method_24_code 213 = .ok (.getfield 35, 3) := by decide +kernel
theorem d_M_servedOn_216 : decode prog_12_method_24_code 216 = .ok (.iload 4, 2) := by decide +kernel
theorem d_M_servedOn_218 : decode prog_12_method_24_code 218 = .ok (.iaload, 1) := by decide +kernel
theorem d_M_servedOn_219 : decode prog_12_method_24_code 219 = .ok (.invokevirtual 154, 3) := by decide +kernel
theorem d_M_servedOn_222 : decode prog_12_method_24_code 222 = .ok (.ifCond .eq 23, 3) := by decide +kernel
theorem d_M_servedOn_225 : decode prog_12_method_24_code 225 = .ok (.aload_n 0, 1) := by decide +kernel
theorem d_M_servedOn_226 : decode prog_12_method_24_code 226 = .ok (.getfield 35, 3) := by decide +kernel
theorem d_M_servedOn_229 : decode prog_12_method_24_code 229 = .ok (.iload 4, 2) := by decide +kernel
theorem d_M_servedOn_231 : decode prog_12_method_24_code 231 = .ok (.iconst 1, 1) := by decide +kernel
theorem d_M_servedOn_232 : decode prog_12_method_24_code 232 = .ok (.iadd, 1) := by decide +kernel
theorem d_M_servedOn_233 : decode prog_12_method_24_code 233 = .ok (.iaload, 1) := by decide +kernel
theorem d_M_servedOn_234 : decode prog_12_method_24_code 234 = .ok (.aload_n 0, 1) := by decide +kernel
theorem d_M_servedOn_235 : decode prog_12_method_24_code 235 = .ok (.getfield 35, 3) := by decide +kernel
theorem d_M_servedOn_238 : decode prog_12_method_24_code 238 = .ok (.iload 4, 2) := by decide +kernel
theorem d_M_servedOn_240 : decode prog_12_method_24_code 240 = .ok (.iaload, 1) := by decide +kernel
theorem d_M_servedOn_241 : decode prog_12_method_24_code 241 = .ok (.isub, 1) := by decide +kernel
theorem d_M_servedOn_242 : decode prog_12_method_24_code 242 = .ok (.goto 4, 3) := by decide +kernel
theorem d_M_servedOn_245 : decode prog_12_method_24_code 245 = .ok (.iconst 0, 1) := by decide +kernel
theorem d_M_servedOn_246 : decode prog_12_method_24_code 246 = .ok (.iadd, 1) := by decide +kernel
theorem d_M_servedOn_247 : decode prog_12_method_24_code 247 = .ok (.istore_n 3, 1) := by decide +kernel
theorem d_M_servedOn_248 : decode prog_12_method_24_code 248 = .ok (.iinc 4 1, 3) := by decide +kernel
theorem d_M_servedOn_251 : decode prog_12_method_24_code 251 = .ok (.goto (-72), 3) := by decide +kernel
theorem d_M_servedOn_254 : decode prog_12_method_24_code 254 = .ok (.iload_n 3, 1) := by decide +kernel
theorem d_M_servedOn_255 : decode prog_12_method_24_code 255 = .ok (.ireturn, 1) := by decide +kernel
theorem d_M_creditOf_0 : decode prog_12_method_28_code 0 = .ok (.iconst 0, 1) := by decide +kernel
theorem d_M_creditOf_1 : decode prog_12_method_28_code 1 = .ok (.istore_n 3, 1) := by decide +kernel
theorem d_M_creditOf_2 : decode prog_12_method_28_code 2 = .ok (.iconst 0, 1) := by decide +kernel
theorem d_M_creditOf_3 : decode prog_12_method_28_code 3 = .ok (.istore 4, 2) := by decide +kernel
theorem d_M_creditOf_5 : decode prog_12_method_28_code 5 = .ok (.iload 4, 2) := by decide +kernel
theorem d_M_creditOf_7 : decode prog_12_method_28_code 7 = .ok (.aload_n 0, 1) := by decide +kernel
theorem d_M_creditOf_8 : decode prog_12_method_28_code 8 = .ok (.getfield 9, 3) := by decide +kernel
theorem d_M_creditOf_11 : decode prog_12_method_28_code 11 = .ok (.bipush 6, 2) := by decide +kernel
theorem d_M_creditOf_13 : decode prog_12_method_28_code 13 = .ok (.iaload, 1) := by decide +kernel
theorem d_M_creditOf_14 : decode prog_12_method_28_code 14 = .ok (.if_icmp .ge 96, 3) := by decide +kernel
theorem d_M_creditOf_17 : decode prog_12_method_28_code 17 = .ok (.sipush 314, 3) := by decide +kernel
theorem d_M_creditOf_20 : decode prog_12_method_28_code 20 = .ok (.iconst 4, 1) := by decide +kernel
theorem d_M_creditOf_21 : decode prog_12_method_28_code 21 = .ok (.iload 4, 2) := by decide +kernel
theorem d_M_creditOf_23 : decode prog_12_method_28_code 23 = .ok (.imul, 1) := by decide +kernel
theorem d_M_creditOf_24 : decode prog_12_method_28_code 24 = .ok (.iadd, 1) := by decide +kernel
theorem d_M_creditOf_25 : decode prog_12_method_28_code 25 = .ok (.istore 5, 2) := by decide +kernel
theorem d_M_creditOf_27 : decode prog_12_method_28_code 27 = .ok (.aload_n 0, 1) := by decide +kernel
theorem d_M_creditOf_28 : decode prog_12_method_28_code 28 = .ok (.getfield 9, 3) := by decide +kernel
theorem d_M_creditOf_31 : decode prog_12_method_28_code 31 = .ok (.iload 5, 2) := by decide +kernel
theorem d_M_creditOf_33 : decode prog_12_method_28_code 33 = .ok (.iconst 3, 1) := by decide +kernel
theorem d_M_creditOf_34 : decode prog_12_method_28_code 34 = .ok (.iadd, 1) := by decide +kernel
theorem d_M_creditOf_35 : decode prog_12_method_28_code 35 = .ok (.iaload, 1) := by decide +kernel
theorem d_M_creditOf_36 : decode prog_12_method_28_code 36 = .ok (.ifCond .lt 20, 3) := by decide +kernel
theorem d_M_creditOf_39 : decode prog_12_method_28_code 39 = .ok (.aload_n 0, 1) := by decide +kernel
theorem d_M_creditOf_40 : decode prog_12_method_28_code 40 = .ok (.getfield 9, 3) := by decide +kernel
theorem d_M_creditOf_43 : decode prog_12_method_28_code 43 = .ok (.iload 5, 2) := by decide +kernel
theorem d_M_creditOf_45 : decode prog_12_method_28_code 45 = .ok (.iconst 3, 1) := by decide +kernel
theorem d_M_creditOf_46 : decode prog_12_method_28_code 46 = .ok (.iadd, 1) := by decide +kernel
theorem d_M_creditOf_47 : decode prog_12_method_28_code 47 = .ok (.iaload, 1) := by decide +kernel
theorem d_M_creditOf_48 : decode prog_12_method_28_code 48 = .ok (.iload_n 2, 1) := by decide +kernel
theorem d_M_creditOf_49 : decode prog_12_method_28_code 49 = .ok (.if_icmp .gt 7, 3) := by decide +kernel
theorem d_M_creditOf_52 : decode prog_12_method_28_code 52 = .ok (.iconst 1, 1) := by decide +kernel
theorem d_M_creditOf_53 : decode prog_12_method_28_code 53 = .ok (.goto 4, 3) := by decide +kernel
theorem d_M_creditOf_56 : decode prog_12_method_28_code 56 = .ok (.iconst 0, 1) := by decide +kernel
theorem d_M_creditOf_57 : decode prog_12_method_28_code 57 = .ok (.istore 6, 2) := by decide +kernel
theorem d_M_creditOf_59 : decode prog_12_method_28_code 59 = .ok (.iload_n 3, 1) := by decide +kernel
theorem d_M_creditOf_60 : decode prog_12_method_28_code 60 = .ok (.aload_n 0, 1) := by decide +kernel
theorem d_M_creditOf_61 : decode prog_12_method_28_code 61 = .ok (.getfield 9, 3) := by decide +kernel
theorem d_M_creditOf_64 : decode prog_12_method_28_code 64 = .ok (.iload 5, 2) := by decide +kernel
theorem d_M_creditOf_66 : decode prog_12_method_28_code 66 = .ok (.iaload, 1) := by decide +kernel
theorem d_M_creditOf_67 : decode prog_12_method_28_code 67 = .ok (.iload_n 1, 1) := by decide +kernel
theorem d_M_creditOf_68 : decode prog_12_method_28_code 68 = .ok (.if_icmp .ne 33, 3) := by decide +kernel
theorem d_M_creditOf_71 : decode prog_12_method_28_code 71 = .ok (.aload_n 0, 1) := by decide +kernel
theorem d_M_creditOf_72 : decode prog_12_method_28_code 72 = .ok (.getfield 9, 3) := by decide +kernel
theorem d_M_creditOf_75 : decode prog_12_method_28_code 75 = .ok (.iload 5, 2) := by decide +kernel
theorem d_M_creditOf_77 : decode prog_12_method_28_code 77 = .ok (.iconst 2, 1) := by decide +kernel
theorem d_M_creditOf_78 : decode prog_12_method_28_code 78 = .ok (.iadd, 1) := by decide +kernel
theorem d_M_creditOf_79 : decode prog_12_method_28_code 79 = .ok (.iaload, 1) := by decide +kernel
theorem d_M_creditOf_80 : decode prog_12_method_28_code 80 = .ok (.iload_n 2, 1) := by decide +kernel
theorem d_M_creditOf_81 : decode prog_12_method_28_code 81 = .ok (.if_icmp .gt 20, 3) := by decide +kernel
theorem d_M_creditOf_84 : decode prog_12_method_28_code 84 = .ok (.iload 6, 2) := by decide +kernel
theorem d_M_creditOf_86 : decode prog_12_method_28_code 86 = .ok (.ifCond .ne 15, 3) := by decide +kernel
theorem d_M_creditOf_89 : decode prog_12_method_28_code 89 = .ok (.aload_n 0, 1) := by decide +kernel
theorem d_M_creditOf_90 : decode prog_12_method_28_code 90 = .ok (.getfield 9, 3) := by decide +kernel
theorem d_M_creditOf_93 : decode prog_12_method_28_code 93 = .ok (.iload 5, 2) := by decide +kernel
theorem d_M_creditOf_95 : decode prog_12_method_28_code 95 = .ok (.iconst 1, 1) := by decide +kernel
theorem d_M_creditOf_96 : decode prog_12_method_28_code 96 = .ok (.iadd, 1) := by decide +kernel
theorem d_M_creditOf_97 : decode prog_12_method_28_code 97 = .ok (.iaload, 1) := by decide +kernel
theorem d_M_creditOf_98 : decode prog_12_method_28_code 98 = .ok (.goto 4, 3) := by decide +kernel
theorem d_M_creditOf_101 : decode prog_12_method_28_code 101 = .ok (.iconst 0, 1) := by decide +kernel
theorem d_M_creditOf_102 : decode prog_12_method_28_code 102 = .ok (.iadd, 1) := by decide +kernel
theorem d_M_creditOf_103 : decode prog_12_method_28_code 103 = .ok (.istore_n 3, 1) := by decide +kernel
theorem d_M_creditOf_104 : decode prog_12_method_28_code 104 = .ok (.iinc 4 1, 3) := by decide +kernel
theorem d_M_creditOf_107 : decode prog_12_method_28_code 107 = .ok (.goto (-102), 3) := by decide +kernel
theorem d_M_creditOf_110 : decode prog_12_method_28_code 110 = .ok (.iload_n 3, 1) := by decide +kernel
theorem d_M_creditOf_111 : decode prog_12_method_28_code 111 = .ok (.ireturn, 1) := by decide +kernel
theorem d_M_counting_0 : decode prog_12_method_52_code 0 = .ok (.iconst (-1), 1) := by decide +kernel
theorem d_M_counting_1 : decode prog_12_method_52_code 1 = .ok (.istore_n 3, 1) := by decide +kernel
theorem d_M_counting_2 : decode prog_12_method_52_code 2 = .ok (.iconst 0, 1) := by decide +kernel
theorem d_M_counting_3 : decode prog_12_method_52_code 3 = .ok (.istore 4, 2) := by decide +kernel
theorem d_M_counting_5 : decode prog_12_method_52_code 5 = .ok (.iload 4, 2) := by decide +kernel
theorem d_M_counting_7 : decode prog_12_method_52_code 7 = .ok (.aload_n 0, 1) := by decide +kernel
theorem d_M_counting_8 : decode prog_12_method_52_code 8 = .ok (.getfield 9, 3) := by decide +kernel
theorem d_M_counting_11 : decode prog_12_method_52_code 11 = .ok (.bipush 7, 2) := by decide +kernel
theorem d_M_counting_13 : decode prog_12_method_52_code 13 = .ok (.iaload, 1) := by decide +kernel
theorem d_M_counting_14 : decode prog_12_method_52_code 14 = .ok (.if_icmp .ge 126, 3) := by decide +kernel
theorem d_M_counting_17 : decode prog_12_method_52_code 17 = .ok (.sipush 914, 3) := by decide +kernel
theorem d_M_counting_20 : decode prog_12_method_52_code 20 = .ok (.bipush 104, 2) := by decide +kernel
theorem d_M_counting_22 : decode prog_12_method_52_code 22 = .ok (.iload 4, 2) := by decide +kernel
theorem d_M_counting_24 : decode prog_12_method_52_code 24 = .ok (.imul, 1) := by decide +kernel
theorem d_M_counting_25 : decode prog_12_method_52_code 25 = .ok (.iadd, 1) := by decide +kernel
theorem d_M_counting_26 : decode prog_12_method_52_code 26 = .ok (.istore 5, 2) := by decide +kernel
theorem d_M_counting_28 : decode prog_12_method_52_code 28 = .ok (.aload_n 0, 1) := by decide +kernel
theorem d_M_counting_29 : decode prog_12_method_52_code 29 = .ok (.getfield 9, 3) := by decide +kernel
theorem d_M_counting_32 : decode prog_12_method_52_code 32 = .ok (.iload 5, 2) := by decide +kernel
theorem d_M_counting_34 : decode prog_12_method_52_code 34 = .ok (.iaload, 1) := by decide +kernel
theorem d_M_counting_35 : decode prog_12_method_52_code 35 = .ok (.iload_n 2, 1) := by decide +kernel
theorem d_M_counting_36 : decode prog_12_method_52_code 36 = .ok (.if_icmp .ne 52, 3) := by decide +kernel
theorem d_M_counting_39 : decode prog_12_method_52_code 39 = .ok (.aload_n 0, 1) := by decide +kernel
theorem d_M_counting_40 : decode prog_12_method_52_code 40 = .ok (.getfield 9, 3) := by decide +kernel
theorem d_M_counting_43 : decode prog_12_method_52_code 43 = .ok (.iload 5, 2) := by decide +kernel
theorem d_M_counting_45 : decode prog_12_method_52_code 45 = .ok (.iconst 1, 1) := by decide +kernel
theorem d_M_counting_46 : decode prog_12_method_52_code 46 = .ok (.iadd, 1) := by decide +kernel
theorem d_M_counting_47 : decode prog_12_method_52_code 47 = .ok (.iaload, 1) := by decide +kernel
theorem d_M_counting_48 : decode prog_12_method_52_code 48 = .ok (.iload_n 1, 1) := by decide +kernel
theorem d_M_counting_49 : decode prog_12_method_52_code 49 = .ok (.if_icmp .eq 17, 3) := by decide +kernel
theorem d_M_counting_52 : decode prog_12_method_52_code 52 = .ok (.aload_n 0, 1) := by decide +kernel
theorem d_M_counting_53 : decode prog_12_method_52_code 53 = .ok (.getfield 9, 3) := by decide +kernel
theorem d_M_counting_56 : decode prog_12_method_52_code 56 = .ok (.iload 5, 2) := by decide +kernel
theorem d_M_counting_58 : decode prog_12_method_52_code 58 = .ok (.iconst 1, 1) := by decide +kernel
theorem d_M_counting_59 : decode prog_12_method_52_code 59 = .ok (.iadd, 1) := by decide +kernel
theorem d_M_counting_60 : decode prog_12_method_52_code 60 = .ok (.iaload, 1) := by decide +kernel
theorem d_M_counting_61 : decode prog_12_method_52_code 61 = .ok (.bipush 8, 2) := by decide +kernel
theorem d_M_counting_63 : decode prog_12_method_52_code 63 = .ok (.if_icmp .ne 25, 3) := by decide +kernel
theorem d_M_counting_66 : decode prog_12_method_52_code 66 = .ok (.aload_n 0, 1) := by decide +kernel
theorem d_M_counting_67 : decode prog_12_method_52_code 67 = .ok (.getfield 9, 3) := by decide +kernel
theorem d_M_counting_70 : decode prog_12_method_52_code 70 = .ok (.iload 5, 2) := by decide +kernel
theorem d_M_counting_72 : decode prog_12_method_52_code 72 = .ok (.iconst 2, 1) := by decide +kernel
theorem d_M_counting_73 : decode prog_12_method_52_code 73 = .ok (.iadd, 1) := by decide +kernel
theorem d_M_counting_74 : decode prog_12_method_52_code 74 = .ok (.iaload, 1) := by decide +kernel
theorem d_M_counting_75 : decode prog_12_method_52_code 75 = .ok (.aload_n 0, 1) := by decide +kernel
theorem d_M_counting_76 : decode prog_12_method_52_code 76 = .ok (.getfield 9, 3) := by decide +kernel
theorem d_M_counting_79 : decode prog_12_method_52_code 79 = .ok (.iconst 0, 1) := by decide +kernel
theorem d_M_counting_80 : decode prog_12_method_52_code 80 = .ok (.iaload, 1) := by decide +kernel
theorem d_M_counting_81 : decode prog_12_method_52_code 81 = .ok (.if_icmp .gt 7, 3) := by decide +kernel
theorem d_M_counting_84 : decode prog_12_method_52_code 84 = .ok (.iconst 1, 1) := by decide +kernel
theorem d_M_counting_85 : decode prog_12_method_52_code 85 = .ok (.goto 4, 3) := by decide +kernel
theorem d_M_counting_88 : decode prog_12_method_52_code 88 = .ok (.iconst 0, 1) := by decide +kernel
theorem d_M_counting_89 : decode prog_12_method_52_code 89 = .ok (.istore 6, 2) := by decide +kernel
theorem d_M_counting_91 : decode prog_12_method_52_code 91 = .ok (.iload 6, 2) := by decide +kernel
theorem d_M_counting_93 : decode prog_12_method_52_code 93 = .ok (.ifCond .eq 39, 3) := by decide +kernel
theorem d_M_counting_96 : decode prog_12_method_52_code 96 = .ok (.iload_n 3, 1) := by decide +kernel
theorem d_M_counting_97 : decode prog_12_method_52_code 97 = .ok (.ifCond .lt 30, 3) := by decide +kernel
theorem d_M_counting_100 : decode prog_12_method_52_code 100 = .ok (.aload_n 0, 1) := by decide +kernel
theorem d_M_counting_101 : decode prog_12_method_52_code 101 = .ok (.getfield 9, 3) := by decide +kernel
theorem d_M_counting_104 : decode prog_12_method_52_code 104 = .ok (.iload 5, 2) := by decide +kernel
theorem d_M_counting_106 : decode prog_12_method_52_code 106 = .ok (.iconst 2, 1) := by decide +kernel
theorem d_M_counting_107 : decode prog_12_method_52_code 107 = .ok (.iadd, 1) := by decide +kernel
theorem d_M_counting_108 : decode prog_12_method_52_code 108 = .ok (.iaload, 1) := by decide +kernel
theorem d_M_counting_109 : decode prog_12_method_52_code 109 = .ok (.aload_n 0, 1) := by decide +kernel
theorem d_M_counting_110 : decode prog_12_method_52_code 110 = .ok (.getfield 9, 3) := by decide +kernel
theorem d_M_counting_113 : decode prog_12_method_52_code 113 = .ok (.sipush 914, 3) := by decide +kernel
theorem d_M_counting_116 : decode prog_12_method_52_code 116 = .ok (.bipush 104, 2) := by decide +kernel
theorem d_M_counting_118 : decode prog_12_method_52_code 118 = .ok (.iload_n 3, 1) := by decide +kernel
theorem d_M_counting_119 : decode prog_12_method_52_code 119 = .ok (.imul, 1) := by decide +kernel
theorem d_M_counting_120 : decode prog_12_method_52_code 120 = .ok (.iadd, 1) := by decide +kernel
theorem d_M_counting_121 : decode prog_12_method_52_code 121 = .ok (.iconst 2, 1) := by decide +kernel
theorem d_M_counting_122 : decode prog_12_method_52_code 122 = .ok (.iadd, 1) := by decide +kernel
theorem d_M_counting_123 : decode prog_12_method_52_code 123 = .ok (.iaload, 1) := by decide +kernel
theorem d_M_counting_124 : decode prog_12_method_52_code 124 = .ok (.if_icmp .lt 8, 3) := by decide +kernel
theorem d_M_counting_127 : decode prog_12_method_52_code 127 = .ok (.iload 4, 2) := by decide +kernel
theorem d_M_counting_129 : decode prog_12_method_52_code 129 = .ok (.goto 4, 3) := by decide +kernel
theorem d_M_counting_132 : decode prog_12_method_52_code 132 = .ok (.iload_n 3, 1) := by decide +kernel
theorem d_M_counting_133 : decode prog_12_method_52_code 133 = .ok (.istore_n 3, 1) := by decide +kernel
theorem d_M_counting_134 : decode prog_12_method_52_code 134 = .ok (.iinc 4 1, 3) := by decide +kernel
theorem d_M_counting_137 : decode prog_12_method_52_code 137 = .ok (.goto (-132), 3) := by decide +kernel
theorem d_M_counting_140 : decode prog_12_method_52_code 140 = .ok (.iload_n 3, 1) := by decide +kernel
theorem d_M_counting_141 : decode prog_12_method_52_code 141 = .ok (.ireturn, 1) := by decide +kernel
theorem d_M_worked_0 : decode prog_12_method_55_code 0 = .ok (.iconst 0, 1) := by decide +kernel
theorem d_M_worked_1 : decode prog_12_method_55_code 1 = .ok (.istore_n 2, 1) := by decide +kernel
theorem d_M_worked_2 : decode prog_12_method_55_code 2 = .ok (.sipush 914, 3) := by decide +kernel
theorem d_M_worked_5 : decode prog_12_method_55_code 5 = .ok (.bipush 104, 2) := by decide +kernel
theorem d_M_worked_7 : decode prog_12_method_55_code 7 = .ok (.iload_n 1, 1) := by decide +kernel
theorem d_M_worked_8 : decode prog_12_method_55_code 8 = .ok (.imul, 1) := by decide +kernel
theorem d_M_worked_9 : decode prog_12_method_55_code 9 = .ok (.iadd, 1) := by decide +kernel
theorem d_M_worked_10 : decode prog_12_method_55_code 10 = .ok (.iconst 4, 1) := by decide +kernel
theorem d_M_worked_11 : decode prog_12_method_55_code 11 = .ok (.iadd, 1) := by decide +kernel
theorem d_M_worked_12 : decode prog_12_method_55_code 12 = .ok (.istore_n 3, 1) := by decide +kernel
theorem d_M_worked_13 : decode prog_12_method_55_code 13 = .ok (.aload_n 0, 1) := by decide +kernel
theorem d_M_worked_14 : decode prog_12_method_55_code 14 = .ok (.getfield 9, 3) := by decide +kernel
theorem d_M_worked_17 : decode prog_12_method_55_code 17 = .ok (.iload_n 3, 1) := by decide +kernel
theorem d_M_worked_18 : decode prog_12_method_55_code 18 = .ok (.iaload, 1) := by decide +kernel
theorem d_M_worked_19 : decode prog_12_method_55_code 19 = .ok (.ldc_w 278, 3) := by decide +kernel
theorem d_M_worked_22 : decode prog_12_method_55_code 22 = .ok (.if_icmp .eq 127, 3) := by decide +kernel
theorem d_M_worked_25 : decode prog_12_method_55_code 25 = .ok (.aload_n 0, 1) := by decide +kernel
theorem d_M_worked_26 : decode prog_12_method_55_code 26 = .ok (.getfield 9, 3) := by decide +kernel
theorem d_M_worked_29 : decode prog_12_method_55_code 29 = .ok (.iload_n 3, 1) := by decide +kernel
theorem d_M_worked_30 : decode prog_12_method_55_code 30 = .ok (.iaload, 1) := by decide +kernel
theorem d_M_worked_31 : decode prog_12_method_55_code 31 = .ok (.istore 4, 2) := by decide +kernel
theorem d_M_worked_33 : decode prog_12_method_55_code 33 = .ok (.iload 4, 2) := by decide +kernel
theorem d_M_worked_35 : decode prog_12_method_55_code 35 = .ok (.ldc_w 260, 3) := by decide +kernel
theorem d_M_worked_38 : decode prog_12_method_55_code 38 = .ok (.if_icmp .ge 37, 3) := by decide +kernel
theorem d_M_worked_41 : decode prog_12_method_55_code 41 = .ok (.aload_n 0, 1) := by decide +kernel
theorem d_M_worked_42 : decode prog_12_method_55_code 42 = .ok (.getfield 76, 3) := by decide +kernel
theorem d_M_worked_45 : decode prog_12_method_55_code 45 = .ok (.iload_n 2, 1) := by decide +kernel
theorem d_M_worked_46 : decode prog_12_method_55_code 46 = .ok (.iload 4, 2) := by decide +kernel
theorem d_M_worked_48 : decode prog_12_method_55_code 48 = .ok (.ldc 239, 2) := by decide +kernel
theorem d_M_worked_50 : decode prog_12_method_55_code 50 = .ok (.if_icmp .ge 8, 3) := by decide +kernel
theorem d_M_worked_53 : decode prog_12_method_55_code 53 = .ok (.iload 4, 2) := by decide +kernel
theorem d_M_worked_55 : decode prog_12_method_55_code 55 = .ok (.goto 13, 3) := by decide +kernel
theorem d_M_worked_58 : decode prog_12_method_55_code 58 = .ok (.aload_n 0, 1) := by decide +kernel
theorem d_M_worked_59 : decode prog_12_method_55_code 59 = .ok (.getfield 79, 3) := by decide +kernel
theorem d_M_worked_62 : decode prog_12_method_55_code 62 = .ok (.iload 4, 2) := by decide +kernel
theorem d_M_worked_64 : decode prog_12_method_55_code 64 = .ok (.ldc 239, 2) := by decide +kernel
theorem d_M_worked_66 : decode prog_12_method_55_code 66 = .ok (.isub, 1) := by decide +kernel
theorem d_M_worked_67 : decode prog_12_method_55_code 67 = .ok (.iaload, 1) := by decide +kernel
theorem d_M_worked_68 : decode prog_12_method_55_code 68 = .ok (.iastore, 1) := by decide +kernel
theorem d_M_worked_69 : decode prog_12_method_55_code 69 = .ok (.iinc 2 1, 3) := by decide +kernel
theorem d_M_worked_72 : decode prog_12_method_55_code 72 = .ok (.goto 71, 3) := by decide +kernel
theorem d_M_worked_75 : decode prog_12_method_55_code 75 = .ok (.iload 4, 2) := by decide +kernel
theorem d_M_worked_77 : decode prog_12_method_55_code 77 = .ok (.ldc 246, 2) := by decide +kernel
theorem d_M_worked_79 : decode prog_12_method_55_code 79 = .ok (.if_icmp .ne 30, 3) := by decide +kernel
theorem d_M_worked_82 : decode prog_12_method_55_code 82 = .ok (.aload_n 0, 1) := by decide +kernel
theorem d_M_worked_83 : decode prog_12_method_55_code 83 = .ok (.getfield 76, 3) := by decide +kernel
theorem d_M_worked_86 : decode prog_12_method_55_code 86 = .ok (.iload_n 2, 1) := by decide +kernel
theorem d_M_worked_87 : decode prog_12_method_55_code 87 = .ok (.iconst 1, 1) := by decide +kernel
theorem d_M_worked_88 : decode prog_12_method_55_code 88 = .ok (.isub, 1) := by decide +kernel
theorem d_M_worked_89 : decode prog_12_method_55_code 89 = .ok (.aload_n 0, 1) := by decide +kernel
theorem d_M_worked_90 : decode prog_12_method_55_code 90 = .ok (.getfield 76, 3) := by decide +kernel
theorem d_M_worked_93 : decode prog_12_method_55_code 93 = .ok (.iload_n 2, 1) := by decide +kernel
theorem d_M_worked_94 : decode prog_12_method_55_code 94 = .ok (.iconst 1, 1) := by decide +kernel
theorem d_M_worked_95 : decode prog_12_method_55_code 95 = .ok (.isub, 1) := by decide +kernel
theorem d_M_worked_96 : decode prog_12_method_55_code 96 = .ok (.iaload, 1) := by decide +kernel
theorem d_M_worked_97 : decode prog_12_method_55_code 97 = .ok (.ifCond .ne 7, 3) := by decide +kernel
theorem d_M_worked_100 : decode prog_12_method_55_code 100 = .ok (.iconst 1, 1) := by decide +kernel
theorem d_M_worked_101 : decode prog_12_method_55_code 101 = .ok (.goto 4, 3) := by decide +kernel
theorem d_M_worked_104 : decode prog_12_method_55_code 104 = .ok (.iconst 0, 1) := by decide +kernel
theorem d_M_worked_105 : decode prog_12_method_55_code 105 = .ok (.iastore, 1) := by decide +kernel
theorem d_M_worked_106 : decode prog_12_method_55_code 106 = .ok (.goto 37, 3) := by decide +kernel
theorem d_M_worked_109 : decode prog_12_method_55_code 109 = .ok (.iinc 2 (-1), 3) := by decide +kernel
theorem d_M_worked_112 : decode prog_12_method_55_code 112 = .ok (.aload_n 0, 1) := by decide +kernel
theorem d_M_worked_113 : decode prog_12_method_55_code 113 = .ok (.getfield 76, 3) := by decide +kernel
theorem d_M_worked_116 : decode prog_12_method_55_code 116 = .ok (.iload_n 2, 1) := by decide +kernel
theorem d_M_worked_117 : decode prog_12_method_55_code 117 = .ok (.iconst 1, 1) := by decide +kernel
theorem d_M_worked_118 : decode prog_12_method_55_code 118 = .ok (.isub, 1) := by decide +kernel
theorem d_M_worked_119 : decode prog_12_method_55_code 119 = .ok (.iload 4, 2) := by decide +kernel
theorem d_M_worked_121 : decode prog_12_method_55_code 121 = .ok (.ldc_w 260, 3) := by decide +kernel
theorem d_M_worked_124 : decode prog_12_method_55_code 124 = .ok (.isub, 1) := by decide +kernel
theorem d_M_worked_125 : decode prog_12_method_55_code 125 = .ok (.aload_n 0, 1) := by decide +kernel
theorem d_M_worked_126 : decode prog_12_method_55_code 126 = .ok (.getfield 76, 3) := by decide +kernel
theorem d_M_worked_129 : decode prog_12_method_55_code 129 = .ok (.iload_n 2, 1) := by decide +kernel
theorem d_M_worked_130 : decode prog_12_method_55_code 130 = .ok (.iconst 1, 1) := by decide +kernel
theorem d_M_worked_131 : decode prog_12_method_55_code 131 = .ok (.isub, 1) := by decide +kernel
theorem d_M_worked_132 : decode prog_12_method_55_code 132 = .ok (.iaload, 1) := by decide +kernel
theorem d_M_worked_133 : decode prog_12_method_55_code 133 = .ok (.aload_n 0, 1) := by decide +kernel
theorem d_M_worked_134 : decode prog_12_method_55_code 134 = .ok (.getfield 76, 3) := by decide +kernel
theorem d_M_worked_137 : decode prog_12_method_55_code 137 = .ok (.iload_n 2, 1) := by decide +kernel
theorem d_M_worked_138 : decode prog_12_method_55_code 138 = .ok (.iaload, 1) := by decide +kernel
theorem d_M_worked_139 : decode prog_12_method_55_code 139 = .ok (.invokestatic 288, 3) := by decide +kernel
theorem d_M_worked_142 : decode prog_12_method_55_code 142 = .ok (.iastore, 1) := by decide +kernel
theorem d_M_worked_143 : decode prog_12_method_55_code 143 = .ok (.iinc 3 1, 3) := by decide +kernel
theorem d_M_worked_146 : decode prog_12_method_55_code 146 = .ok (.goto (-133), 3) := by decide +kernel
theorem d_M_worked_149 : decode prog_12_method_55_code 149 = .ok (.aload_n 0, 1) := by decide +kernel
theorem d_M_worked_150 : decode prog_12_method_55_code 150 = .ok (.getfield 76, 3) := by decide +kernel
theorem d_M_worked_153 : decode prog_12_method_55_code 153 = .ok (.iconst 0, 1) := by decide +kernel
theorem d_M_worked_154 : decode prog_12_method_55_code 154 = .ok (.iaload, 1) := by decide +kernel
theorem d_M_worked_155 : decode prog_12_method_55_code 155 = .ok (.ireturn, 1) := by decide +kernel
theorem d_M_firstOf_0 : decode prog_12_method_30_code 0 = .ok (.aload_n 0, 1) := by decide +kernel
theorem d_M_firstOf_1 : decode prog_12_method_30_code 1 = .ok (.aload_n 0, 1) := by decide +kernel
theorem d_M_firstOf_2 : decode prog_12_method_30_code 2 = .ok (.iload_n 1, 1) := by decide +kernel
theorem d_M_firstOf_3 : decode prog_12_method_30_code 3 = .ok (.iconst 0, 1) := by decide +kernel
theorem d_M_firstOf_4 : decode prog_12_method_30_code 4 = .ok (.invokevirtual 105, 3) := by decide +kernel
theorem d_M_firstOf_7 : decode prog_12_method_30_code 7 = .ok (.iconst 0, 1) := by decide +kernel
theorem d_M_firstOf_8 : decode prog_12_method_30_code 8 = .ok (.aload_n 0, 1) := by decide +kernel
theorem d_M_firstOf_9 : decode prog_12_method_30_code 9 = .ok (.iload_n 1, 1) := by decide +kernel
theorem d_M_firstOf_10 : decode prog_12_method_30_code 10 = .ok (.invokevirtual 124, 3) := by decide +kernel
theorem d_M_firstOf_13 : decode prog_12_method_30_code 13 = .ok (.aload_n 0, 1) := by decide +kernel
theorem d_M_firstOf_14 : decode prog_12_method_30_code 14 = .ok (.iload_n 1, 1) := by decide +kernel
theorem d_M_firstOf_15 : decode prog_12_method_30_code 15 = .ok (.aload_n 0, 1) := by decide +kernel
theorem d_M_firstOf_16 : decode prog_12_method_30_code 16 = .ok (.getfield 9, 3) := by decide +kernel
theorem d_M_firstOf_19 : decode prog_12_method_30_code 19 = .ok (.iconst 0, 1) := by decide +kernel
theorem d_M_firstOf_20 : decode prog_12_method_30_code 20 = .ok (.iaload, 1) := by decide +kernel
theorem d_M_firstOf_21 : decode prog_12_method_30_code 21 = .ok (.invokevirtual 167, 3) := by decide +kernel
theorem d_M_firstOf_24 : decode prog_12_method_30_code 24 = .ok (.aload_n 0, 1) := by decide +kernel
theorem d_M_firstOf_25 : decode prog_12_method_30_code 25 = .ok (.iload_n 1, 1) := by decide +kernel
theorem d_M_firstOf_26 : decode prog_12_method_30_code 26 = .ok (.invokevirtual 127, 3) := by decide +kernel
theorem d_M_firstOf_29 : decode prog_12_method_30_code 29 = .ok (.iconst 0, 1) := by decide +kernel
theorem d_M_firstOf_30 : decode prog_12_method_30_code 30 = .ok (.invokevirtual 170, 3) := by decide +kernel
theorem d_M_firstOf_33 : decode prog_12_method_30_code 33 = .ok (.ireturn, 1) := by decide +kernel
theorem d_M_due_0 : decode prog_12_method_32_code 0 = .ok (.aload_n 0, 1) := by decide +kernel
theorem d_M_due_1 : decode prog_12_method_32_code 1 = .ok (.iload_n 1, 1) := by decide +kernel
theorem d_M_due_2 : decode prog_12_method_32_code 2 = .ok (.iconst 2, 1) := by decide +kernel
theorem d_M_due_3 : decode prog_12_method_32_code 3 = .ok (.invokevirtual 118, 3) := by decide +kernel
theorem d_M_due_6 : decode prog_12_method_32_code 6 = .ok (.ifCond .eq 15, 3) := by decide +kernel
theorem d_M_due_9 : decode prog_12_method_32_code 9 = .ok (.iload_n 2, 1) := by decide +kernel
theorem d_M_due_10 : decode prog_12_method_32_code 10 = .ok (.i2l, 1) := by decide +kernel
theorem d_M_due_11 : decode prog_12_method_32_code 11 = .ok (.lconst 0, 1) := by decide +kernel
theorem d_M_due_12 : decode prog_12_method_32_code 12 = .ok (.ldc2_w 137, 3) := by decide +kernel
theorem d_M_due_15 : decode prog_12_method_32_code 15 = .ok (.invokestatic 85, 3) := by decide +kernel
theorem d_M_due_18 : decode prog_12_method_32_code 18 = .ok (.ifCond .ne 8, 3) := by decide +kernel
theorem d_M_due_21 : decode prog_12_method_32_code 21 = .ok (.ldc 95, 2) := by decide +kernel
theorem d_M_due_23 : decode prog_12_method_32_code 23 = .ok (.goto 17, 3) := by decide +kernel
theorem d_M_due_26 : decode prog_12_method_32_code 26 = .ok (.aload_n 0, 1) := by decide +kernel
theorem d_M_due_27 : decode prog_12_method_32_code 27 = .ok (.iload_n 1, 1) := by decide +kernel
theorem d_M_due_28 : decode prog_12_method_32_code 28 = .ok (.iload_n 2, 1) := by decide +kernel
theorem d_M_due_29 : decode prog_12_method_32_code 29 = .ok (.invokevirtual 177, 3) := by decide +kernel
theorem d_M_due_32 : decode prog_12_method_32_code 32 = .ok (.ifCond .eq 7, 3) := by decide +kernel
theorem d_M_due_35 : decode prog_12_method_32_code 35 = .ok (.iconst 1, 1) := by decide +kernel
theorem d_M_due_36 : decode prog_12_method_32_code 36 = .ok (.goto 4, 3) := by decide +kernel
theorem d_M_due_39 : decode prog_12_method_32_code 39 = .ok (.iconst 0, 1) := by decide +kernel
theorem d_M_due_40 : decode prog_12_method_32_code 40 = .ok (.ireturn, 1) := by decide +kernel
theorem d_M_isLetter_0 : decode prog_12_method_36_code 0 = .ok (.iload_n 1, 1) := by decide +kernel
theorem d_M_isLetter_1 : decode prog_12_method_36_code 1 = .ok (.aload_n 0, 1) := by decide +kernel
theorem d_M_isLetter_2 : decode prog_12_method_36_code 2 = .ok (.getfield 180, 3) := by decide +kernel
theorem d_M_isLetter_5 : decode prog_12_method_36_code 5 = .ok (.if_icmp .ge 26, 3) := by decide +kernel
theorem d_M_isLetter_8 : decode prog_12_method_36_code 8 = .ok (.aload_n 0, 1) := by decide +kernel
theorem d_M_isLetter_9 : decode prog_12_method_36_code 9 = .ok (.getfield 19, 3) := by decide +kernel
theorem d_M_isLetter_12 : decode prog_12_method_36_code 12 = .ok (.iload_n 1, 1) := by decide +kernel
theorem d_M_isLetter_13 : decode prog_12_method_36_code 13 = .ok (.iaload, 1) := by decide +kernel
theorem d_M_isLetter_14 : decode prog_12_method_36_code 14 = .ok (.i2l, 1) := by decide +kernel
theorem d_M_isLetter_15 : decode prog_12_method_36_code 15 = .ok (.ldc2_w 183, 3) := by decide +kernel
theorem d_M_isLetter_18 : decode prog_12_method_36_code 18 = .ok (.ldc2_w 185, 3) := by decide +kernel
theorem d_M_isLetter_21 : decode prog_12_method_36_code 21 = .ok (.invokestatic 85, 3) := by decide +kernel
theorem d_M_isLetter_24 : decode prog_12_method_36_code 24 = .ok (.ifCond .eq 7, 3) := by decide +kernel
theorem d_M_isLetter_27 : decode prog_12_method_36_code 27 = .ok (.iconst 1, 1) := by decide +kernel
theorem d_M_isLetter_28 : decode prog_12_method_36_code 28 = .ok (.goto 4, 3) := by decide +kernel
theorem d_M_isLetter_31 : decode prog_12_method_36_code 31 = .ok (.iconst 0, 1) := by decide +kernel
theorem d_M_isLetter_32 : decode prog_12_method_36_code 32 = .ok (.ireturn, 1) := by decide +kernel
theorem d_M_next_0 : decode prog_12_method_38_code 0 = .ok (.aload_n 0, 1) := by decide +kernel
theorem d_M_next_1 : decode prog_12_method_38_code 1 = .ok (.getfield 191, 3) := by decide +kernel
theorem d_M_next_4 : decode prog_12_method_38_code 4 = .ok (.iconst 1, 1) := by decide +kernel
theorem d_M_next_5 : decode prog_12_method_38_code 5 = .ok (.if_icmp .eq 11, 3) := by decide +kernel
theorem d_M_next_8 : decode prog_12_method_38_code 8 = .ok (.aload_n 0, 1) := by decide +kernel
theorem d_M_next_9 : decode prog_12_method_38_code 9 = .ok (.getfield 191, 3) := by decide +kernel
theorem d_M_next_12 : decode prog_12_method_38_code 12 = .ok (.iconst 2, 1) := by decide +kernel
theorem d_M_next_13 : decode prog_12_method_38_code 13 = .ok (.if_icmp .ne 7, 3) := by decide +kernel
theorem d_M_next_16 : decode prog_12_method_38_code 16 = .ok (.iconst 1, 1) := by decide +kernel
theorem d_M_next_17 : decode prog_12_method_38_code 17 = .ok (.goto 4, 3) := by decide +kernel
theorem d_M_next_20 : decode prog_12_method_38_code 20 = .ok (.iconst 0, 1) := by decide +kernel
theorem d_M_next_21 : decode prog_12_method_38_code 21 = .ok (.istore_n 1, 1) := by decide +kernel
theorem d_M_next_22 : decode prog_12_method_38_code 22 = .ok (.aload_n 0, 1) := by decide +kernel
theorem d_M_next_23 : decode prog_12_method_38_code 23 = .ok (.getfield 194, 3) := by decide +kernel
theorem d_M_next_26 : decode prog_12_method_38_code 26 = .ok (.istore_n 2, 1) := by decide +kernel
theorem d_M_next_27 : decode prog_12_method_38_code 27 = .ok (.aload_n 0, 1) := by decide +kernel
theorem d_M_next_28 : decode prog_12_method_38_code 28 = .ok (.aload_n 0, 1) := by decide +kernel
theorem d_M_next_29 : decode prog_12_method_38_code 29 = .ok (.getfield 194, 3) := by decide +kernel
theorem d_M_next_32 : decode prog_12_method_38_code 32 = .ok (.putfield 197, 3) := by decide +kernel
theorem d_M_next_35 : decode prog_12_method_38_code 35 = .ok (.aload_n 0, 1) := by decide +kernel
theorem d_M_next_36 : decode prog_12_method_38_code 36 = .ok (.getfield 197, 3) := by decide +kernel
theorem d_M_next_39 : decode prog_12_method_38_code 39 = .ok (.aload_n 0, 1) := by decide +kernel
theorem d_M_next_40 : decode prog_12_method_38_code 40 = .ok (.getfield 180, 3) := by decide +kernel
theorem d_M_next_43 : decode prog_12_method_38_code 43 = .ok (.if_icmp .ge 30, 3) := by decide +kernel
theorem d_M_next_46 : decode prog_12_method_38_code 46 = .ok (.aload_n 0, 1) := by decide +kernel
theorem d_M_next_47 : decode prog_12_method_38_code 47 = .ok (.getfield 19, 3) := by decide +kernel
theorem d_M_next_50 : decode prog_12_method_38_code 50 = .ok (.aload_n 0, 1) := by decide +kernel
theorem d_M_next_51 : decode prog_12_method_38_code 51 = .ok (.getfield 197, 3) := by decide +kernel
theorem d_M_next_54 : decode prog_12_method_38_code 54 = .ok (.iaload, 1) := by decide +kernel
theorem d_M_next_55 : decode prog_12_method_38_code 55 = .ok (.bipush 32, 2) := by decide +kernel
theorem d_M_next_57 : decode prog_12_method_38_code 57 = .ok (.if_icmp .ne 16, 3) := by decide +kernel
theorem d_M_next_60 : decode prog_12_method_38_code 60 = .ok (.aload_n 0, 1) := by decide +kernel
theorem d_M_next_61 : decode prog_12_method_38_code 61 = .ok (.dup, 1) := by decide +kernel
theorem d_M_next_62 : decode prog_12_method_38_code 62 = .ok (.getfield 197, 3) := by decide +kernel
theorem d_M_next_65 : decode prog_12_method_38_code 65 = .ok (.iconst 1, 1) := by decide +kernel
theorem d_M_next_66 : decode prog_12_method_38_code 66 = .ok (.iadd, 1) := by decide +kernel
theorem d_M_next_67 : decode prog_12_method_38_code 67 = .ok (.putfield 197, 3) := by decide +kernel
theorem d_M_next_70 : decode prog_12_method_38_code 70 = .ok (.goto (-35), 3) := by decide +kernel
theorem d_M_next_73 : decode prog_12_method_38_code 73 = .ok (.aload_n 0, 1) := by decide +kernel
theorem d_M_next_74 : decode prog_12_method_38_code 74 = .ok (.aload_n 0, 1) := by decide +kernel
theorem d_M_next_75 : decode prog_12_method_38_code 75 = .ok (.getfield 197, 3) := by decide +kernel
theorem d_M_next_78 : decode prog_12_method_38_code 78 = .ok (.putfield 194, 3) := by decide +kernel
theorem d_M_next_81 : decode prog_12_method_38_code 81 = .ok (.aload_n 0, 1) := by decide +kernel
theorem d_M_next_82 : decode prog_12_method_38_code 82 = .ok (.getfield 197, 3) := by decide +kernel
theorem d_M_next_85 : decode prog_12_method_38_code 85 = .ok (.aload_n 0, 1) := by decide +kernel
theorem d_M_next_86 : decode prog_12_method_38_code 86 = .ok (.getfield 180, 3) := by decide +kernel
theorem d_M_next_89 : decode prog_12_method_38_code 89 = .ok (.if_icmp .ne 9, 3) := by decide +kernel
theorem d_M_next_92 : decode prog_12_method_38_code 92 = .ok (.aload_n 0, 1) := by decide +kernel
theorem d_M_next_93 : decode prog_12_method_38_code 93 = .ok (.iconst 0, 1) := by decide +kernel
theorem d_M_next_94 : decode prog_12_method_38_code 94 = .ok (.putfield 191, 3) := by decide +kernel
theorem d_M_next_97 : decode prog_12_method_38_code 97 = .ok (.return_, 1) := by decide +kernel
theorem d_M_next_98 : decode prog_12_method_38_code 98 = .ok (.aload_n 0, 1) := by decide +kernel
theorem d_M_next_99 : decode prog_12_method_38_code 99 = .ok (.aload_n 0, 1) := by decide +kernel
theorem d_M_next_100 : decode prog_12_method_38_code 100 = .ok (.aload_n 0, 1) := by decide +kernel
theorem d_M_next_101 : decode prog_12_method_38_code 101 = .ok (.getfield 197, 3) := by decide +kernel
theorem d_M_next_104 : decode prog_12_method_38_code 104 = .ok (.invokevirtual 200, 3) := by decide +kernel
theorem d_M_next_107 : decode prog_12_method_38_code 107 = .ok (.ifCond .eq 7, 3) := by decide +kernel
theorem d_M_next_110 : decode prog_12_method_38_code 110 = .ok (.iconst 1, 1) := by decide +kernel
theorem d_M_next_111 : decode prog_12_method_38_code 111 = .ok (.goto 19, 3) := by decide +kernel
theorem d_M_next_114 : decode prog_12_method_38_code 114 = .ok (.aload_n 0, 1) := by decide +kernel
theorem d_M_next_115 : decode prog_12_method_38_code 115 = .ok (.aload_n 0, 1) := by decide +kernel
theorem d_M_next_116 : decode prog_12_method_38_code 116 = .ok (.getfield 197, 3) := by decide +kernel
theorem d_M_next_119 : decode prog_12_method_38_code 119 = .ok (.invokevirtual 204, 3) := by decide +kernel
theorem d_M_next_122 : decode prog_12_method_38_code 122 = .ok (.ifCond .eq 7, 3) := by decide +kernel
theorem d_M_next_125 : decode prog_12_method_38_code 125 = .ok (.iconst 2, 1) := by decide +kernel
theorem d_M_next_126 : decode prog_12_method_38_code 126 = .ok (.goto 4, 3) := by decide +kernel
theorem d_M_next_129 : decode prog_12_method_38_code 129 = .ok (.iconst 3, 1) := by decide +kernel
theorem d_M_next_130 : decode prog_12_method_38_code 130 = .ok (.putfield 191, 3) := by decide +kernel
theorem d_M_next_133 : decode prog_12_method_38_code 133 = .ok (.aload_n 0, 1) := by decide +kernel
theorem d_M_next_134 : decode prog_12_method_38_code 134 = .ok (.dup, 1) := by decide +kernel
theorem d_M_next_135 : decode prog_12_method_38_code 135 = .ok (.getfield 194, 3) := by decide +kernel
theorem d_M_next_138 : decode prog_12_method_38_code 138 = .ok (.iconst 1, 1) := by decide +kernel
theorem d_M_next_139 : decode prog_12_method_38_code 139 = .ok (.iadd, 1) := by decide +kernel
theorem d_M_next_140 : decode prog_12_method_38_code 140 = .ok (.putfield 194, 3) := by decide +kernel
theorem d_M_next_143 : decode prog_12_method_38_code 143 = .ok (.aload_n 0, 1) := by decide +kernel
theorem d_M_next_144 : decode prog_12_method_38_code 144 = .ok (.getfield 191, 3) := by decide +kernel
theorem d_M_next_147 : decode prog_12_method_38_code 147 = .ok (.iconst 1, 1) := by decide +kernel
theorem d_M_next_148 : decode prog_12_method_38_code 148 = .ok (.if_icmp .ne 14, 3) := by decide +kernel
theorem d_M_next_151 : decode prog_12_method_38_code 151 = .ok (.aload_n 0, 1) := by decide +kernel
theorem d_M_next_152 : decode prog_12_method_38_code 152 = .ok (.aload_n 0, 1) := by decide +kernel
theorem d_M_next_153 : decode prog_12_method_38_code 153 = .ok (.getfield 194, 3) := by decide +kernel
theorem d_M_next_156 : decode prog_12_method_38_code 156 = .ok (.invokevirtual 200, 3) := by decide +kernel
theorem d_M_next_159 : decode prog_12_method_38_code 159 = .ok (.ifCond .ne 22, 3) := by decide +kernel
theorem d_M_next_162 : decode prog_12_method_38_code 162 = .ok (.aload_n 0, 1) := by decide +kernel
theorem d_M_next_163 : decode prog_12_method_38_code 163 = .ok (.getfield 191, 3) := by decide +kernel
theorem d_M_next_166 : decode prog_12_method_38_code 166 = .ok (.iconst 2, 1) := by decide +kernel
theorem d_M_next_167 : decode prog_12_method_38_code 167 = .ok (.if_icmp .ne 27, 3) := by decide +kernel
theorem d_M_next_170 : decode prog_12_method_38_code 170 = .ok (.aload_n 0, 1) := by decide +kernel
theorem d_M_next_171 : decode prog_12_method_38_code 171 = .ok (.aload_n 0, 1) := by decide +kernel
theorem d_M_next_172 : decode prog_12_method_38_code 172 = .ok (.getfield 194, 3) := by decide +kernel
theorem d_M_next_175 : decode prog_12_method_38_code 175 = .ok (.invokevirtual 204, 3) := by decide +kernel
theorem d_M_next_178 : decode prog_12_method_38_code 178 = .ok (.ifCond .eq 16, 3) := by decide +kernel
theorem d_M_next_181 : decode prog_12_method_38_code 181 = .ok (.aload_n 0, 1) := by decide +kernel
theorem d_M_next_182 : decode prog_12_method_38_code 182 = .ok (.dup, 1) := by decide +kernel
theorem d_M_next_183 : decode prog_12_method_38_code 183 = .ok (.getfield 194, 3) := by decide +kernel
theorem d_M_next_186 : decode prog_12_method_38_code 186 = .ok (.iconst 1, 1) := by decide +kernel
theorem d_M_next_187 : decode prog_12_method_38_code 187 = .ok (.iadd, 1) := by decide +kernel
theorem d_M_next_188 : decode prog_12_method_38_code 188 = .ok (.putfield 194, 3) := by decide +kernel
theorem d_M_next_191 : decode prog_12_method_38_code 191 = .ok (.goto (-48), 3) := by decide +kernel
theorem d_M_next_194 : decode prog_12_method_38_code 194 = .ok (.aload_n 0, 1) := by decide +kernel
theorem d_M_next_195 : decode prog_12_method_38_code 195 = .ok (.getfield 191, 3) := by decide +kernel
theorem d_M_next_198 : decode prog_12_method_38_code 198 = .ok (.iconst 3, 1) := by decide +kernel
theorem d_M_next_199 : decode prog_12_method_38_code 199 = .ok (.if_icmp .eq 15, 3) := by decide +kernel
theorem d_M_next_202 : decode prog_12_method_38_code 202 = .ok (.iload_n 1, 1) := by decide +kernel
theorem d_M_next_203 : decode prog_12_method_38_code 203 = .ok (.ifCond .eq 11, 3) := by decide +kernel
theorem d_M_next_206 : decode prog_12_method_38_code 206 = .ok (.aload_n 0, 1) := by decide +kernel
theorem d_M_next_207 : decode prog_12_method_38_code 207 = .ok (.getfield 197, 3) := by decide +kernel
theorem d_M_next_210 : decode prog_12_method_38_code 210 = .ok (.iload_n 2, 1) := by decide +kernel
theorem d_M_next_211 : decode prog_12_method_38_code 211 = .ok (.if_icmp .eq 24, 3) := by decide +kernel
theorem d_M_next_214 : decode prog_12_method_38_code 214 = .ok (.aload_n 0, 1) := by decide +kernel
theorem d_M_next_215 : decode prog_12_method_38_code 215 = .ok (.getfield 191, 3) := by decide +kernel
theorem d_M_next_218 : decode prog_12_method_38_code 218 = .ok (.iconst 2, 1) := by decide +kernel
theorem d_M_next_219 : decode prog_12_method_38_code 219 = .ok (.if_icmp .ne 21, 3) := by decide +kernel
theorem d_M_next_222 : decode prog_12_method_38_code 222 = .ok (.aload_n 0, 1) := by decide +kernel
theorem d_M_next_223 : decode prog_12_method_38_code 223 = .ok (.getfield 194, 3) := by decide +kernel
theorem d_M_next_226 : decode prog_12_method_38_code 226 = .ok (.aload_n 0, 1) := by decide +kernel
theorem d_M_next_227 : decode prog_12_method_38_code 227 = .ok (.getfield 197, 3) := by decide +kernel
theorem d_M_next_230 : decode prog_12_method_38_code 230 = .ok (.isub, 1) := by decide +kernel
theorem d_M_next_231 : decode prog_12_method_38_code 231 = .ok (.iconst 4, 1) := by decide +kernel
theorem d_M_next_232 : decode prog_12_method_38_code 232 = .ok (.if_icmp .le 8, 3) := by decide +kernel
theorem d_M_next_235 : decode prog_12_method_38_code 235 = .ok (.aload_n 0, 1) := by decide +kernel
theorem d_M_next_236 : decode prog_12_method_38_code 236 = .ok (.iconst 4, 1) := by decide +kernel
theorem d_M_next_237 : decode prog_12_method_38_code 237 = .ok (.putfield 191, 3) := by decide +kernel
theorem d_M_next_240 : decode prog_12_method_38_code 240 = .ok (.return_, 1) := by decide +kernel
theorem d_M_need_0 : decode prog_12_method_40_code 0 = .ok (.aload_n 0, 1) := by decide +kernel
theorem d_M_need_1 : decode prog_12_method_40_code 1 = .ok (.aload_n 0, 1) := by decide +kernel
theorem d_M_need_2 : decode prog_12_method_40_code 2 = .ok (.getfield 207, 3) := by decide +kernel
theorem d_M_need_5 : decode prog_12_method_40_code 5 = .ok (.ifCond .ne 7, 3) := by decide +kernel
theorem d_M_need_8 : decode prog_12_method_40_code 8 = .ok (.iload_n 1, 1) := by decide +kernel
theorem d_M_need_9 : decode prog_12_method_40_code 9 = .ok (.ifCond .ne 7, 3) := by decide +kernel
theorem d_M_need_12 : decode prog_12_method_40_code 12 = .ok (.iconst 1, 1) := by decide +kernel
theorem d_M_need_13 : decode prog_12_method_40_code 13 = .ok (.goto 4, 3) := by decide +kernel
theorem d_M_need_16 : decode prog_12_method_40_code 16 = .ok (.iconst 0, 1) := by decide +kernel
theorem d_M_need_17 : decode prog_12_method_40_code 17 = .ok (.putfield 207, 3) := by decide +kernel
theorem d_M_need_20 : decode prog_12_method_40_code 20 = .ok (.aload_n 0, 1) := by decide +kernel
theorem d_M_need_21 : decode prog_12_method_40_code 21 = .ok (.getfield 207, 3) := by decide +kernel
theorem d_M_need_24 : decode prog_12_method_40_code 24 = .ok (.ifCond .ne 7, 3) := by decide +kernel
theorem d_M_need_27 : decode prog_12_method_40_code 27 = .ok (.aload_n 0, 1) := by decide +kernel
theorem d_M_need_28 : decode prog_12_method_40_code 28 = .ok (.invokevirtual 211, 3) := by decide +kernel
theorem d_M_need_31 : decode prog_12_method_40_code 31 = .ok (.return_, 1) := by decide +kernel
theorem d_M_isSign_0 : decode prog_12_method_39_code 0 = .ok (.aload_n 0, 1) := by decide +kernel
theorem d_M_isSign_1 : decode prog_12_method_39_code 1 = .ok (.getfield 207, 3) := by decide +kernel
theorem d_M_isSign_4 : decode prog_12_method_39_code 4 = .ok (.ifCond .ne 28, 3) := by decide +kernel
theorem d_M_isSign_7 : decode prog_12_method_39_code 7 = .ok (.aload_n 0, 1) := by decide +kernel
theorem d_M_isSign_8 : decode prog_12_method_39_code 8 = .ok (.getfield 191, 3) := by decide +kernel
theorem d_M_isSign_11 : decode prog_12_method_39_code 11 = .ok (.iconst 3, 1) := by decide +kernel
theorem d_M_isSign_12 : decode prog_12_method_39_code 12 = .ok (.if_icmp .ne 20, 3) := by decide +kernel
theorem d_M_isSign_15 : decode prog_12_method_39_code 15 = .ok (.aload_n 0, 1) := by decide +kernel
theorem d_M_isSign_16 : decode prog_12_method_39_code 16 = .ok (.getfield 19, 3) := by decide +kernel
theorem d_M_isSign_19 : decode prog_12_method_39_code 19 = .ok (.aload_n 0, 1) := by decide +kernel
theorem d_M_isSign_20 : decode prog_12_method_39_code 20 = .ok (.getfield 197, 3) := by decide +kernel
theorem d_M_isSign_23 : decode prog_12_method_39_code 23 = .ok (.iaload, 1) := by decide +kernel
theorem d_M_isSign_24 : decode prog_12_method_39_code 24 = .ok (.iload_n 1, 1) := by decide +kernel
theorem d_M_isSign_25 : decode prog_12_method_39_code 25 = .ok (.if_icmp .ne 7, 3) := by decide +kernel
theorem d_M_isSign_28 : decode prog_12_method_39_code 28 = .ok (.iconst 1, 1) := by decide +kernel
theorem d_M_isSign_29 : decode prog_12_method_39_code 29 = .ok (.goto 4, 3) := by decide +kernel
theorem d_M_isSign_32 : decode prog_12_method_39_code 32 = .ok (.iconst 0, 1) := by decide +kernel
theorem d_M_isSign_33 : decode prog_12_method_39_code 33 = .ok (.ireturn, 1) := by decide +kernel
theorem d_M_signHere_0 : decode prog_12_method_43_code 0 = .ok (.iconst (-1), 1) := by decide +kernel
theorem d_M_signHere_1 : decode prog_12_method_43_code 1 = .ok (.istore_n 3, 1) := by decide +kernel
theorem d_M_signHere_2 : decode prog_12_method_43_code 2 = .ok (.iload_n 1, 1) := by decide +kernel
theorem d_M_signHere_3 : decode prog_12_method_43_code 3 = .ok (.istore 4, 2) := by decide +kernel
theorem d_M_signHere_5 : decode prog_12_method_43_code 5 = .ok (.iload 4, 2) := by decide +kernel
theorem d_M_signHere_7 : decode prog_12_method_43_code 7 = .ok (.iload_n 2, 1) := by decide +kernel
theorem d_M_signHere_8 : decode prog_12_method_43_code 8 = .ok (.if_icmp .gt 30, 3) := by decide +kernel
theorem d_M_signHere_11 : decode prog_12_method_43_code 11 = .ok (.aload_n 0, 1) := by decide +kernel
theorem d_M_signHere_12 : decode prog_12_method_43_code 12 = .ok (.ldc 225, 2) := by decide +kernel
theorem d_M_signHere_14 : decode prog_12_method_43_code 14 = .ok (.iload 4, 2) := by decide +kernel
theorem d_M_signHere_16 : decode prog_12_method_43_code 16 = .ok (.invokevirtual 218, 3) := by decide +kernel
theorem d_M_signHere_19 : decode prog_12_method_43_code 19 = .ok (.invokevirtual 227, 3) := by decide +kernel
theorem d_M_signHere_22 : decode prog_12_method_43_code 22 = .ok (.ifCond .eq 8, 3) := by decide +kernel
theorem d_M_signHere_25 : decode prog_12_method_43_code 25 = .ok (.iload 4, 2) := by decide +kernel
theorem d_M_signHere_27 : decode prog_12_method_43_code 27 = .ok (.goto 4, 3) := by decide +kernel
theorem d_M_signHere_30 : decode prog_12_method_43_code 30 = .ok (.iload_n 3, 1) := by decide +kernel
theorem d_M_signHere_31 : decode prog_12_method_43_code 31 = .ok (.istore_n 3, 1) := by decide +kernel
theorem d_M_signHere_32 : decode prog_12_method_43_code 32 = .ok (.iinc 4 1, 3) := by decide +kernel
theorem d_M_signHere_35 : decode prog_12_method_43_code 35 = .ok (.goto (-30), 3) := by decide +kernel
theorem d_M_signHere_38 : decode prog_12_method_43_code 38 = .ok (.iload_n 3, 1) := by decide +kernel
theorem d_M_signHere_39 : decode prog_12_method_43_code 39 = .ok (.ireturn, 1) := by decide +kernel
theorem d_M_sum_0 : decode prog_12_method_46_code 0 = .ok (.aload_n 0, 1) := by decide +kernel
theorem d_M_sum_1 : decode prog_12_method_46_code 1 = .ok (.invokevirtual 261, 3) := by decide +kernel
theorem d_M_sum_4 : decode prog_12_method_46_code 4 = .ok (.aload_n 0, 1) := by decide +kernel
theorem d_M_sum_5 : decode prog_12_method_46_code 5 = .ok (.iconst 5, 1) := by decide +kernel
theorem d_M_sum_6 : decode prog_12_method_46_code 6 = .ok (.bipush 6, 2) := by decide +kernel
theorem d_M_sum_8 : decode prog_12_method_46_code 8 = .ok (.invokevirtual 257, 3) := by decide +kernel
theorem d_M_sum_11 : decode prog_12_method_46_code 11 = .ok (.istore_n 1, 1) := by decide +kernel
theorem d_M_sum_12 : decode prog_12_method_46_code 12 = .ok (.iload_n 1, 1) := by decide +kernel
theorem d_M_sum_13 : decode prog_12_method_46_code 13 = .ok (.ifCond .lt 31, 3) := by decide +kernel
theorem d_M_sum_16 : decode prog_12_method_46_code 16 = .ok (.aload_n 0, 1) := by decide +kernel
theorem d_M_sum_17 : decode prog_12_method_46_code 17 = .ok (.invokevirtual 211, 3) := by decide +kernel
theorem d_M_sum_20 : decode prog_12_method_46_code 20 = .ok (.aload_n 0, 1) := by decide +kernel
theorem d_M_sum_21 : decode prog_12_method_46_code 21 = .ok (.invokevirtual 261, 3) := by decide +kernel
theorem d_M_sum_24 : decode prog_12_method_46_code 24 = .ok (.aload_n 0, 1) := by decide +kernel
theorem d_M_sum_25 : decode prog_12_method_46_code 25 = .ok (.ldc_w 260, 3) := by decide +kernel
theorem d_M_sum_28 : decode prog_12_method_46_code 28 = .ok (.iload_n 1, 1) := by decide +kernel
theorem d_M_sum_29 : decode prog_12_method_46_code 29 = .ok (.iadd, 1) := by decide +kernel
theorem d_M_sum_30 : decode prog_12_method_46_code 30 = .ok (.invokevirtual 230, 3) := by decide +kernel
theorem d_M_sum_33 : decode prog_12_method_46_code 33 = .ok (.aload_n 0, 1) := by decide +kernel
theorem d_M_sum_34 : decode prog_12_method_46_code 34 = .ok (.iconst 5, 1) := by decide +kernel
theorem d_M_sum_35 : decode prog_12_method_46_code 35 = .ok (.bipush 6, 2) := by decide +kernel
theorem d_M_sum_37 : decode prog_12_method_46_code 37 = .ok (.invokevirtual 257, 3) := by decide +kernel
theorem d_M_sum_40 : decode prog_12_method_46_code 40 = .ok (.istore_n 1, 1) := by decide +kernel
theorem d_M_sum_41 : decode prog_12_method_46_code 41 = .ok (.goto (-29), 3) := by decide +kernel
theorem d_M_sum_44 : decode prog_12_method_46_code 44 = .ok (.return_, 1) := by decide +kernel
theorem d_M_both_0 : decode prog_12_method_48_code 0 = .ok (.aload_n 0, 1) := by decide +kernel
theorem d_M_both_1 : decode prog_12_method_48_code 1 = .ok (.invokevirtual 267, 3) := by decide +kernel
theorem d_M_both_4 : decode prog_12_method_48_code 4 = .ok (.aload_n 0, 1) := by decide +kernel
theorem d_M_both_5 : decode prog_12_method_48_code 5 = .ok (.iconst 1, 1) := by decide +kernel
theorem d_M_both_6 : decode prog_12_method_48_code 6 = .ok (.iconst 1, 1) := by decide +kernel
theorem d_M_both_7 : decode prog_12_method_48_code 7 = .ok (.invokevirtual 257, 3) := by decide +kernel
theorem d_M_both_10 : decode prog_12_method_48_code 10 = .ok (.ifCond .lt 21, 3) := by decide +kernel
theorem d_M_both_13 : decode prog_12_method_48_code 13 = .ok (.aload_n 0, 1) := by decide +kernel
theorem d_M_both_14 : decode prog_12_method_48_code 14 = .ok (.invokevirtual 211, 3) := by decide +kernel
theorem d_M_both_17 : decode prog_12_method_48_code 17 = .ok (.aload_n 0, 1) := by decide +kernel
theorem d_M_both_18 : decode prog_12_method_48_code 18 = .ok (.invokevirtual 267, 3) := by decide +kernel
theorem d_M_both_21 : decode prog_12_method_48_code 21 = .ok (.aload_n 0, 1) := by decide +kernel
theorem d_M_both_22 : decode prog_12_method_48_code 22 = .ok (.ldc_w 270, 3) := by decide +kernel
theorem d_M_both_25 : decode prog_12_method_48_code 25 = .ok (.invokevirtual 230, 3) := by decide +kernel
theorem d_M_both_28 : decode prog_12_method_48_code 28 = .ok (.goto (-24), 3) := by decide +kernel
theorem d_M_both_31 : decode prog_12_method_48_code 31 = .ok (.return_, 1) := by decide +kernel
theorem d_M_text_0 : decode prog_12_method_50_code 0 = .ok (.aload_n 0, 1) := by decide +kernel
theorem d_M_text_1 : decode prog_12_method_50_code 1 = .ok (.iconst 0, 1) := by decide +kernel
theorem d_M_text_2 : decode prog_12_method_50_code 2 = .ok (.putfield 194, 3) := by decide +kernel
theorem d_M_text_5 : decode prog_12_method_50_code 5 = .ok (.aload_n 0, 1) := by decide +kernel
theorem d_M_text_6 : decode prog_12_method_50_code 6 = .ok (.iconst 0, 1) := by decide +kernel
theorem d_M_text_7 : decode prog_12_method_50_code 7 = .ok (.putfield 191, 3) := by decide +kernel
theorem d_M_text_10 : decode prog_12_method_50_code 10 = .ok (.aload_n 0, 1) := by decide +kernel
theorem d_M_text_11 : decode prog_12_method_50_code 11 = .ok (.iconst 0, 1) := by decide +kernel
theorem d_M_text_12 : decode prog_12_method_50_code 12 = .ok (.putfield 207, 3) := by decide +kernel
theorem d_M_text_15 : decode prog_12_method_50_code 15 = .ok (.aload_n 0, 1) := by decide +kernel
theorem d_M_text_16 : decode prog_12_method_50_code 16 = .ok (.iconst 0, 1) := by decide +kernel
theorem d_M_text_17 : decode prog_12_method_50_code 17 = .ok (.putfield 247, 3) := by decide +kernel
theorem d_M_text_20 : decode prog_12_method_50_code 20 = .ok (.aload_n 0, 1) := by decide +kernel
theorem d_M_text_21 : decode prog_12_method_50_code 21 = .ok (.iconst 0, 1) := by decide +kernel
theorem d_M_text_22 : decode prog_12_method_50_code 22 = .ok (.putfield 240, 3) := by decide +kernel
theorem d_M_text_25 : decode prog_12_method_50_code 25 = .ok (.aload_n 0, 1) := by decide +kernel
theorem d_M_text_26 : decode prog_12_method_50_code 26 = .ok (.iconst 0, 1) := by decide +kernel
theorem d_M_text_27 : decode prog_12_method_50_code 27 = .ok (.putfield 222, 3) := by decide +kernel
theorem d_M_text_30 : decode prog_12_method_50_code 30 = .ok (.aload_n 0, 1) := by decide +kernel
theorem d_M_text_31 : decode prog_12_method_50_code 31 = .ok (.iconst 0, 1) := by decide +kernel
theorem d_M_text_32 : decode prog_12_method_50_code 32 = .ok (.putfield 233, 3) := by decide +kernel
theorem d_M_text_35 : decode prog_12_method_50_code 35 = .ok (.aload_n 0, 1) := by decide +kernel
theorem d_M_text_36 : decode prog_12_method_50_code 36 = .ok (.invokevirtual 211, 3) := by decide +kernel
theorem d_M_text_39 : decode prog_12_method_50_code 39 = .ok (.iconst (-1), 1) := by decide +kernel
theorem d_M_text_40 : decode prog_12_method_50_code 40 = .ok (.istore_n 3, 1) := by decide +kernel
theorem d_M_text_41 : decode prog_12_method_50_code 41 = .ok (.iconst 0, 1) := by decide +kernel
theorem d_M_text_42 : decode prog_12_method_50_code 42 = .ok (.istore 4, 2) := by decide +kernel
theorem d_M_text_44 : decode prog_12_method_50_code 44 = .ok (.iload 4, 2) := by decide +kernel
theorem d_M_text_46 : decode prog_12_method_50_code 46 = .ok (.iconst 5, 1) := by decide +kernel
theorem d_M_text_47 : decode prog_12_method_50_code 47 = .ok (.if_icmp .ge 30, 3) := by decide +kernel
theorem d_M_text_50 : decode prog_12_method_50_code 50 = .ok (.aload_n 0, 1) := by decide +kernel
theorem d_M_text_51 : decode prog_12_method_50_code 51 = .ok (.aload_n 0, 1) := by decide +kernel
theorem d_M_text_52 : decode prog_12_method_50_code 52 = .ok (.getfield 59, 3) := by decide +kernel
theorem d_M_text_55 : decode prog_12_method_50_code 55 = .ok (.iload 4, 2) := by decide +kernel
theorem d_M_text_57 : decode prog_12_method_50_code 57 = .ok (.aaload, 1) := by decide +kernel
theorem d_M_text_58 : decode prog_12_method_50_code 58 = .ok (.invokevirtual 274, 3) := by decide +kernel
theorem d_M_text_61 : decode prog_12_method_50_code 61 = .ok (.ifCond .eq 8, 3) := by decide +kernel
theorem d_M_text_64 : decode prog_12_method_50_code 64 = .ok (.iload 4, 2) := by decide +kernel
theorem d_M_text_66 : decode prog_12_method_50_code 66 = .ok (.goto 4, 3) := by decide +kernel
theorem d_M_text_69 : decode prog_12_method_50_code 69 = .ok (.iload_n 3, 1) := by decide +kernel
theorem d_M_text_70 : decode prog_12_method_50_code 70 = .ok (.istore_n 3, 1) := by decide +kernel
theorem d_M_text_71 : decode prog_12_method_50_code 71 = .ok (.iinc 4 1, 3) := by decide +kernel
theorem d_M_text_74 : decode prog_12_method_50_code 74 = .ok (.goto (-30), 3) := by decide +kernel
theorem d_M_text_77 : decode prog_12_method_50_code 77 = .ok (.aload_n 0, 1) := by decide +kernel
theorem d_M_text_78 : decode prog_12_method_50_code 78 = .ok (.iload_n 3, 1) := by decide +kernel
theorem d_M_text_79 : decode prog_12_method_50_code 79 = .ok (.ifCond .lt 7, 3) := by decide +kernel
theorem d_M_text_82 : decode prog_12_method_50_code 82 = .ok (.iconst 1, 1) := by decide +kernel
theorem d_M_text_83 : decode prog_12_method_50_code 83 = .ok (.goto 4, 3) := by decide +kernel
theorem d_M_text_86 : decode prog_12_method_50_code 86 = .ok (.iconst 0, 1) := by decide +kernel
theorem d_M_text_87 : decode prog_12_method_50_code 87 = .ok (.invokevirtual 253, 3) := by decide +kernel
theorem d_M_text_90 : decode prog_12_method_50_code 90 = .ok (.aload_n 0, 1) := by decide +kernel
theorem d_M_text_91 : decode prog_12_method_50_code 91 = .ok (.iload_n 3, 1) := by decide +kernel
theorem d_M_text_92 : decode prog_12_method_50_code 92 = .ok (.ifCond .ge 8, 3) := by decide +kernel
theorem d_M_text_95 : decode prog_12_method_50_code 95 = .ok (.ldc 38, 2) := by decide +kernel
theorem d_M_text_97 : decode prog_12_method_50_code 97 = .ok (.goto 9, 3) := by decide +kernel
theorem d_M_text_100 : decode prog_12_method_50_code 100 = .ok (.aload_n 0, 1) := by decide +kernel
theorem d_M_text_101 : decode prog_12_method_50_code 101 = .ok (.getfield 73, 3) := by decide +kernel
theorem d_M_text_104 : decode prog_12_method_50_code 104 = .ok (.iload_n 3, 1) := by decide +kernel
theorem d_M_text_105 : decode prog_12_method_50_code 105 = .ok (.aaload, 1) := by decide +kernel
theorem d_M_text_106 : decode prog_12_method_50_code 106 = .ok (.putfield 40, 3) := by decide +kernel
theorem d_M_text_109 : decode prog_12_method_50_code 109 = .ok (.aload_n 0, 1) := by decide +kernel
theorem d_M_text_110 : decode prog_12_method_50_code 110 = .ok (.invokevirtual 250, 3) := by decide +kernel
theorem d_M_text_113 : decode prog_12_method_50_code 113 = .ok (.aload_n 0, 1) := by decide +kernel
theorem d_M_text_114 : decode prog_12_method_50_code 114 = .ok (.ldc_w 278, 3) := by decide +kernel
theorem d_M_text_117 : decode prog_12_method_50_code 117 = .ok (.invokevirtual 230, 3) := by decide +kernel
theorem d_M_text_120 : decode prog_12_method_50_code 120 = .ok (.aload_n 0, 1) := by decide +kernel
theorem d_M_text_121 : decode prog_12_method_50_code 121 = .ok (.aload_n 0, 1) := by decide +kernel
theorem d_M_text_122 : decode prog_12_method_50_code 122 = .ok (.getfield 207, 3) := by decide +kernel
theorem d_M_text_125 : decode prog_12_method_50_code 125 = .ok (.ifCond .ne 10, 3) := by decide +kernel
theorem d_M_text_128 : decode prog_12_method_50_code 128 = .ok (.aload_n 0, 1) := by decide +kernel
theorem d_M_text_129 : decode prog_12_method_50_code 129 = .ok (.getfield 191, 3) := by decide +kernel
theorem d_M_text_132 : decode prog_12_method_50_code 132 = .ok (.ifCond .eq 7, 3) := by decide +kernel
theorem d_M_text_135 : decode prog_12_method_50_code 135 = .ok (.iconst 1, 1) := by decide +kernel
theorem d_M_text_136 : decode prog_12_method_50_code 136 = .ok (.goto 4, 3) := by decide +kernel
theorem d_M_text_139 : decode prog_12_method_50_code 139 = .ok (.iconst 0, 1) := by decide +kernel
theorem d_M_text_140 : decode prog_12_method_50_code 140 = .ok (.putfield 207, 3) := by decide +kernel
theorem d_M_text_143 : decode prog_12_method_50_code 143 = .ok (.aload_n 0, 1) := by decide +kernel
theorem d_M_text_144 : decode prog_12_method_50_code 144 = .ok (.getfield 197, 3) := by decide +kernel
theorem d_M_text_147 : decode prog_12_method_50_code 147 = .ok (.istore 4, 2) := by decide +kernel
theorem d_M_text_149 : decode prog_12_method_50_code 149 = .ok (.aload_n 0, 1) := by decide +kernel
theorem d_M_text_150 : decode prog_12_method_50_code 150 = .ok (.iconst 0, 1) := by decide +kernel
theorem d_M_text_151 : decode prog_12_method_50_code 151 = .ok (.putfield 180, 3) := by decide +kernel
theorem d_M_text_154 : decode prog_12_method_50_code 154 = .ok (.iload_n 1, 1) := by decide +kernel
theorem d_M_text_155 : decode prog_12_method_50_code 155 = .ok (.i2l, 1) := by decide +kernel
theorem d_M_text_156 : decode prog_12_method_50_code 156 = .ok (.lconst 0, 1) := by decide +kernel
theorem d_M_text_157 : decode prog_12_method_50_code 157 = .ok (.ldc2_w 279, 3) := by decide +kernel
theorem d_M_text_160 : decode prog_12_method_50_code 160 = .ok (.invokestatic 85, 3) := by decide +kernel
theorem d_M_text_163 : decode prog_12_method_50_code 163 = .ok (.ifCond .eq 15, 3) := by decide +kernel
theorem d_M_text_166 : decode prog_12_method_50_code 166 = .ok (.iload_n 2, 1) := by decide +kernel
theorem d_M_text_167 : decode prog_12_method_50_code 167 = .ok (.i2l, 1) := by decide +kernel
theorem d_M_text_168 : decode prog_12_method_50_code 168 = .ok (.lconst 0, 1) := by decide +kernel
theorem d_M_text_169 : decode prog_12_method_50_code 169 = .ok (.ldc2_w 165, 3) := by decide +kernel
theorem d_M_text_172 : decode prog_12_method_50_code 172 = .ok (.invokestatic 85, 3) := by decide +kernel
theorem d_M_text_175 : decode prog_12_method_50_code 175 = .ok (.ifCond .ne 6, 3) := by decide +kernel
theorem d_M_text_178 : decode prog_12_method_50_code 178 = .ok (.ldc 95, 2) := by decide +kernel
theorem d_M_text_180 : decode prog_12_method_50_code 180 = .ok (.ireturn, 1) := by decide +kernel
theorem d_M_text_181 : decode prog_12_method_50_code 181 = .ok (.aload_n 0, 1) := by decide +kernel
theorem d_M_text_182 : decode prog_12_method_50_code 182 = .ok (.getfield 207, 3) := by decide +kernel
theorem d_M_text_185 : decode prog_12_method_50_code 185 = .ok (.ifCond .eq 9, 3) := by decide +kernel
theorem d_M_text_188 : decode prog_12_method_50_code 188 = .ok (.bipush (-100), 2) := by decide +kernel
theorem d_M_text_190 : decode prog_12_method_50_code 190 = .ok (.iload 4, 2) := by decide +kernel
theorem d_M_text_192 : decode prog_12_method_50_code 192 = .ok (.isub, 1) := by decide +kernel
theorem d_M_text_193 : decode prog_12_method_50_code 193 = .ok (.ireturn, 1) := by decide +kernel
theorem d_M_text_194 : decode prog_12_method_50_code 194 = .ok (.aload_n 0, 1) := by decide +kernel
theorem d_M_text_195 : decode prog_12_method_50_code 195 = .ok (.getfield 9, 3) := by decide +kernel
theorem d_M_text_198 : decode prog_12_method_50_code 198 = .ok (.bipush 7, 2) := by decide +kernel
theorem d_M_text_200 : decode prog_12_method_50_code 200 = .ok (.iaload, 1) := by decide +kernel
theorem d_M_text_201 : decode prog_12_method_50_code 201 = .ok (.istore 5, 2) := by decide +kernel
theorem d_M_text_203 : decode prog_12_method_50_code 203 = .ok (.iload 5, 2) := by decide +kernel
theorem d_M_text_205 : decode prog_12_method_50_code 205 = .ok (.bipush 16, 2) := by decide +kernel
theorem d_M_text_207 : decode prog_12_method_50_code 207 = .ok (.if_icmp .ne 6, 3) := by decide +kernel
theorem d_M_text_210 : decode prog_12_method_50_code 210 = .ok (.ldc 96, 2) := by decide +kernel
theorem d_M_text_212 : decode prog_12_method_50_code 212 = .ok (.ireturn, 1) := by decide +kernel
theorem d_M_text_213 : decode prog_12_method_50_code 213 = .ok (.sipush 914, 3) := by decide +kernel
theorem d_M_text_216 : decode prog_12_method_50_code 216 = .ok (.bipush 104, 2) := by decide +kernel
theorem d_M_text_218 : decode prog_12_method_50_code 218 = .ok (.iload 5, 2) := by decide +kernel
theorem d_M_text_220 : decode prog_12_method_50_code 220 = .ok (.imul, 1) := by decide +kernel
theorem d_M_text_221 : decode prog_12_method_50_code 221 = .ok (.iadd, 1) := by decide +kernel
theorem d_M_text_222 : decode prog_12_method_50_code 222 = .ok (.istore 6, 2) := by decide +kernel
theorem d_M_text_224 : decode prog_12_method_50_code 224 = .ok (.aload_n 0, 1) := by decide +kernel
theorem d_M_text_225 : decode prog_12_method_50_code 225 = .ok (.getfield 9, 3) := by decide +kernel
theorem d_M_text_228 : decode prog_12_method_50_code 228 = .ok (.iload 6, 2) := by decide +kernel
theorem d_M_text_230 : decode prog_12_method_50_code 230 = .ok (.iload_n 3, 1) := by decide +kernel
theorem d_M_text_231 : decode prog_12_method_50_code 231 = .ok (.iastore, 1) := by decide +kernel
theorem d_M_text_232 : decode prog_12_method_50_code 232 = .ok (.aload_n 0, 1) := by decide +kernel
theorem d_M_text_233 : decode prog_12_method_50_code 233 = .ok (.getfield 9, 3) := by decide +kernel
theorem d_M_text_236 : decode prog_12_method_50_code 236 = .ok (.iload 6, 2) := by decide +kernel
theorem d_M_text_238 : decode prog_12_method_50_code 238 = .ok (.iconst 1, 1) := by decide +kernel
theorem d_M_text_239 : decode prog_12_method_50_code 239 = .ok (.iadd, 1) := by decide +kernel
theorem d_M_text_240 : decode prog_12_method_50_code 240 = .ok (.iload_n 1, 1) := by decide +kernel
theorem d_M_text_241 : decode prog_12_method_50_code 241 = .ok (.iastore, 1) := by decide +kernel
theorem d_M_text_242 : decode prog_12_method_50_code 242 = .ok (.aload_n 0, 1) := by decide +kernel
theorem d_M_text_243 : decode prog_12_method_50_code 243 = .ok (.getfield 9, 3) := by decide +kernel
theorem d_M_text_246 : decode prog_12_method_50_code 246 = .ok (.iload 6, 2) := by decide +kernel
theorem d_M_text_248 : decode prog_12_method_50_code 248 = .ok (.iconst 2, 1) := by decide +kernel
theorem d_M_text_249 : decode prog_12_method_50_code 249 = .ok (.iadd, 1) := by decide +kernel
theorem d_M_text_250 : decode prog_12_method_50_code 250 = .ok (.iload_n 2, 1) := by decide +kernel
theorem d_M_text_251 : decode prog_12_method_50_code 251 = .ok (.iastore, 1) := by decide +kernel
theorem d_M_text_252 : decode prog_12_method_50_code 252 = .ok (.aload_n 0, 1) := by decide +kernel
theorem d_M_text_253 : decode prog_12_method_50_code 253 = .ok (.getfield 9, 3) := by decide +kernel
theorem d_M_text_256 : decode prog_12_method_50_code 256 = .ok (.iload 6, 2) := by decide +kernel
theorem d_M_text_258 : decode prog_12_method_50_code 258 = .ok (.iconst 3, 1) := by decide +kernel
theorem d_M_text_259 : decode prog_12_method_50_code 259 = .ok (.iadd, 1) := by decide +kernel
theorem d_M_text_260 : decode prog_12_method_50_code 260 = .ok (.aload_n 0, 1) := by decide +kernel
theorem d_M_text_261 : decode prog_12_method_50_code 261 = .ok (.getfield 233, 3) := by decide +kernel
theorem d_M_text_264 : decode prog_12_method_50_code 264 = .ok (.iastore, 1) := by decide +kernel
theorem d_M_text_265 : decode prog_12_method_50_code 265 = .ok (.iconst 0, 1) := by decide +kernel
theorem d_M_text_266 : decode prog_12_method_50_code 266 = .ok (.istore 7, 2) := by decide +kernel
theorem d_M_text_268 : decode prog_12_method_50_code 268 = .ok (.iload 7, 2) := by decide +kernel
theorem d_M_text_270 : decode prog_12_method_50_code 270 = .ok (.aload_n 0, 1) := by decide +kernel
theorem d_M_text_271 : decode prog_12_method_50_code 271 = .ok (.getfield 222, 3) := by decide +kernel
theorem d_M_text_274 : decode prog_12_method_50_code 274 = .ok (.if_icmp .ge 28, 3) := by decide +kernel
theorem d_M_text_277 : decode prog_12_method_50_code 277 = .ok (.aload_n 0, 1) := by decide +kernel
theorem d_M_text_278 : decode prog_12_method_50_code 278 = .ok (.getfield 9, 3) := by decide +kernel
theorem d_M_text_281 : decode prog_12_method_50_code 281 = .ok (.iload 6, 2) := by decide +kernel
theorem d_M_text_283 : decode prog_12_method_50_code 283 = .ok (.iconst 4, 1) := by decide +kernel
theorem d_M_text_284 : decode prog_12_method_50_code 284 = .ok (.iadd, 1) := by decide +kernel
theorem d_M_text_285 : decode prog_12_method_50_code 285 = .ok (.iload 7, 2) := by decide +kernel
theorem d_M_text_287 : decode prog_12_method_50_code 287 = .ok (.iadd, 1) := by decide +kernel
theorem d_M_text_288 : decode prog_12_method_50_code 288 = .ok (.aload_n 0, 1) := by decide +kernel
theorem d_M_text_289 : decode prog_12_method_50_code 289 = .ok (.getfield 44, 3) := by decide +kernel
theorem d_M_text_292 : decode prog_12_method_50_code 292 = .ok (.iload 7, 2) := by decide +kernel
theorem d_M_text_294 : decode prog_12_method_50_code 294 = .ok (.iaload, 1) := by decide +kernel
theorem d_M_text_295 : decode prog_12_method_50_code 295 = .ok (.iastore, 1) := by decide +kernel
theorem d_M_text_296 : decode prog_12_method_50_code 296 = .ok (.iinc 7 1, 3) := by decide +kernel
theorem d_M_text_299 : decode prog_12_method_50_code 299 = .ok (.goto (-31), 3) := by decide +kernel
theorem d_M_text_302 : decode prog_12_method_50_code 302 = .ok (.aload_n 0, 1) := by decide +kernel
theorem d_M_text_303 : decode prog_12_method_50_code 303 = .ok (.getfield 9, 3) := by decide +kernel
theorem d_M_text_306 : decode prog_12_method_50_code 306 = .ok (.bipush 7, 2) := by decide +kernel
theorem d_M_text_308 : decode prog_12_method_50_code 308 = .ok (.dup2, 1) := by decide +kernel
theorem d_M_text_309 : decode prog_12_method_50_code 309 = .ok (.iaload, 1) := by decide +kernel
theorem d_M_text_310 : decode prog_12_method_50_code 310 = .ok (.iconst 1, 1) := by decide +kernel
theorem d_M_text_311 : decode prog_12_method_50_code 311 = .ok (.iadd, 1) := by decide +kernel
theorem d_M_text_312 : decode prog_12_method_50_code 312 = .ok (.iastore, 1) := by decide +kernel
theorem d_M_text_313 : decode prog_12_method_50_code 313 = .ok (.iload 5, 2) := by decide +kernel
theorem d_M_text_315 : decode prog_12_method_50_code 315 = .ok (.ireturn, 1) := by decide +kernel
theorem d_M_of_0 : decode prog_12_method_51_code 0 = .ok (.aload_n 0, 1) := by decide +kernel
theorem d_M_of_1 : decode prog_12_method_51_code 1 = .ok (.iload_n 1, 1) := by decide +kernel
theorem d_M_of_2 : decode prog_12_method_51_code 2 = .ok (.bipush 7, 2) := by decide +kernel
theorem d_M_of_4 : decode prog_12_method_51_code 4 = .ok (.invokevirtual 118, 3) := by decide +kernel
theorem d_M_of_7 : decode prog_12_method_51_code 7 = .ok (.ifCond .eq 15, 3) := by decide +kernel
theorem d_M_of_10 : decode prog_12_method_51_code 10 = .ok (.iload_n 2, 1) := by decide +kernel
theorem d_M_of_11 : decode prog_12_method_51_code 11 = .ok (.i2l, 1) := by decide +kernel
theorem d_M_of_12 : decode prog_12_method_51_code 12 = .ok (.lconst 0, 1) := by decide +kernel
theorem d_M_of_13 : decode prog_12_method_51_code 13 = .ok (.ldc2_w 281, 3) := by decide +kernel
theorem d_M_of_16 : decode prog_12_method_51_code 16 = .ok (.invokestatic 85, 3) := by decide +kernel
theorem d_M_of_19 : decode prog_12_method_51_code 19 = .ok (.ifCond .ne 8, 3) := by decide +kernel
theorem d_M_of_22 : decode prog_12_method_51_code 22 = .ok (.ldc 95, 2) := by decide +kernel
theorem d_M_of_24 : decode prog_12_method_51_code 24 = .ok (.goto 18, 3) := by decide +kernel
theorem d_M_of_27 : decode prog_12_method_51_code 27 = .ok (.aload_n 0, 1) := by decide +kernel
theorem d_M_of_28 : decode prog_12_method_51_code 28 = .ok (.getfield 9, 3) := by decide +kernel
theorem d_M_of_31 : decode prog_12_method_51_code 31 = .ok (.sipush 914, 3) := by decide +kernel
theorem d_M_of_34 : decode prog_12_method_51_code 34 = .ok (.bipush 104, 2) := by decide +kernel
theorem d_M_of_36 : decode prog_12_method_51_code 36 = .ok (.iload_n 1, 1) := by decide +kernel
theorem d_M_of_37 : decode prog_12_method_51_code 37 = .ok (.imul, 1) := by decide +kernel
theorem d_M_of_38 : decode prog_12_method_51_code 38 = .ok (.iadd, 1) := by decide +kernel
theorem d_M_of_39 : decode prog_12_method_51_code 39 = .ok (.iload_n 2, 1) := by decide +kernel
theorem d_M_of_40 : decode prog_12_method_51_code 40 = .ok (.iadd, 1) := by decide +kernel
theorem d_M_of_41 : decode prog_12_method_51_code 41 = .ok (.iaload, 1) := by decide +kernel
theorem d_M_of_42 : decode prog_12_method_51_code 42 = .ok (.ireturn, 1) := by decide +kernel
theorem d_M_why_0 : decode prog_12_method_53_code 0 = .ok (.iload_n 1, 1) := by decide +kernel
theorem d_M_why_1 : decode prog_12_method_53_code 1 = .ok (.i2l, 1) := by decide +kernel
theorem d_M_why_2 : decode prog_12_method_53_code 2 = .ok (.lconst 0, 1) := by decide +kernel
theorem d_M_why_3 : decode prog_12_method_53_code 3 = .ok (.ldc2_w 89, 3) := by decide +kernel
theorem d_M_why_6 : decode prog_12_method_53_code 6 = .ok (.invokestatic 85, 3) := by decide +kernel
theorem d_M_why_9 : decode prog_12_method_53_code 9 = .ok (.ifCond .eq 15, 3) := by decide +kernel
theorem d_M_why_12 : decode prog_12_method_53_code 12 = .ok (.iload_n 2, 1) := by decide +kernel
theorem d_M_why_13 : decode prog_12_method_53_code 13 = .ok (.i2l, 1) := by decide +kernel
theorem d_M_why_14 : decode prog_12_method_53_code 14 = .ok (.lconst 0, 1) := by decide +kernel
theorem d_M_why_15 : decode prog_12_method_53_code 15 = .ok (.ldc2_w 283, 3) := by decide +kernel
theorem d_M_why_18 : decode prog_12_method_53_code 18 = .ok (.invokestatic 85, 3) := by decide +kernel
theorem d_M_why_21 : decode prog_12_method_53_code 21 = .ok (.ifCond .ne 6, 3) := by decide +kernel
theorem d_M_why_24 : decode prog_12_method_53_code 24 = .ok (.ldc 95, 2) := by decide +kernel
theorem d_M_why_26 : decode prog_12_method_53_code 26 = .ok (.ireturn, 1) := by decide +kernel
theorem d_M_why_27 : decode prog_12_method_53_code 27 = .ok (.aload_n 0, 1) := by decide +kernel
theorem d_M_why_28 : decode prog_12_method_53_code 28 = .ok (.iload_n 1, 1) := by decide +kernel
theorem d_M_why_29 : decode prog_12_method_53_code 29 = .ok (.iload_n 2, 1) := by decide +kernel
theorem d_M_why_30 : decode prog_12_method_53_code 30 = .ok (.invokevirtual 285, 3) := by decide +kernel
theorem d_M_why_33 : decode prog_12_method_53_code 33 = .ok (.istore_n 3, 1) := by decide +kernel
theorem d_M_why_34 : decode prog_12_method_53_code 34 = .ok (.iload_n 3, 1) := by decide +kernel
theorem d_M_why_35 : decode prog_12_method_53_code 35 = .ok (.ifCond .ge 8, 3) := by decide +kernel
theorem d_M_why_38 : decode prog_12_method_53_code 38 = .ok (.ldc 136, 2) := by decide +kernel
theorem d_M_why_40 : decode prog_12_method_53_code 40 = .ok (.goto 4, 3) := by decide +kernel
theorem d_M_why_43 : decode prog_12_method_53_code 43 = .ok (.iload_n 3, 1) := by decide +kernel
theorem d_M_why_44 : decode prog_12_method_53_code 44 = .ok (.ireturn, 1) := by decide +kernel
theorem d_M_rules_0 : decode prog_12_method_57_code 0 = .ok (.iload_n 1, 1) := by decide +kernel
theorem d_M_rules_1 : decode prog_12_method_57_code 1 = .ok (.i2l, 1) := by decide +kernel
theorem d_M_rules_2 : decode prog_12_method_57_code 2 = .ok (.lconst 0, 1) := by decide +kernel
theorem d_M_rules_3 : decode prog_12_method_57_code 3 = .ok (.ldc2_w 89, 3) := by decide +kernel
theorem d_M_rules_6 : decode prog_12_method_57_code 6 = .ok (.invokestatic 85, 3) := by decide +kernel
theorem d_M_rules_9 : decode prog_12_method_57_code 9 = .ok (.ifCond .eq 15, 3) := by decide +kernel
theorem d_M_rules_12 : decode prog_12_method_57_code 12 = .ok (.iload_n 2, 1) := by decide +kernel
theorem d_M_rules_13 : decode prog_12_method_57_code 13 = .ok (.i2l, 1) := by decide +kernel
theorem d_M_rules_14 : decode prog_12_method_57_code 14 = .ok (.lconst 0, 1) := by decide +kernel
theorem d_M_rules_15 : decode prog_12_method_57_code 15 = .ok (.ldc2_w 283, 3) := by decide +kernel
theorem d_M_rules_18 : decode prog_12_method_57_code 18 = .ok (.invokestatic 85, 3) := by decide +kernel
theorem d_M_rules_21 : decode prog_12_method_57_code 21 = .ok (.ifCond .ne 8, 3) := by decide +kernel
theorem d_M_rules_24 : decode prog_12_method_57_code 24 = .ok (.ldc 95, 2) := by decide +kernel
theorem d_M_rules_26 : decode prog_12_method_57_code 26 = .ok (.goto 16, 3) := by decide +kernel
theorem d_M_rules_29 : decode prog_12_method_57_code 29 = .ok (.aload_n 0, 1) := by decide +kernel
theorem d_M_rules_30 : decode prog_12_method_57_code 30 = .ok (.iload_n 1, 1) := by decide +kernel
theorem d_M_rules_31 : decode prog_12_method_57_code 31 = .ok (.iload_n 2, 1) := by decide +kernel
theorem d_M_rules_32 : decode prog_12_method_57_code 32 = .ok (.iload_n 3, 1) := by decide +kernel
theorem d_M_rules_33 : decode prog_12_method_57_code 33 = .ok (.iload 4, 2) := by decide +kernel
theorem d_M_rules_35 : decode prog_12_method_57_code 35 = .ok (.iload 5, 2) := by decide +kernel
theorem d_M_rules_37 : decode prog_12_method_57_code 37 = .ok (.iload 6, 2) := by decide +kernel
theorem d_M_rules_39 : decode prog_12_method_57_code 39 = .ok (.invokevirtual 170, 3) := by decide +kernel
theorem d_M_rules_42 : decode prog_12_method_57_code 42 = .ok (.ireturn, 1) := by decide +kernel
theorem d_M_as_0 : decode prog_12_method_61_code 0 = .ok (.aload_n 0, 1) := by decide +kernel
theorem d_M_as_1 : decode prog_12_method_61_code 1 = .ok (.iload_n 1, 1) := by decide +kernel
theorem d_M_as_2 : decode prog_12_method_61_code 2 = .ok (.bipush 8, 2) := by decide +kernel
theorem d_M_as_4 : decode prog_12_method_61_code 4 = .ok (.invokevirtual 118, 3) := by decide +kernel
theorem d_M_as_7 : decode prog_12_method_61_code 7 = .ok (.ifCond .eq 15, 3) := by decide +kernel
theorem d_M_as_10 : decode prog_12_method_61_code 10 = .ok (.iload_n 2, 1) := by decide +kernel
theorem d_M_as_11 : decode prog_12_method_61_code 11 = .ok (.i2l, 1) := by decide +kernel
theorem d_M_as_12 : decode prog_12_method_61_code 12 = .ok (.lconst 0, 1) := by decide +kernel
theorem d_M_as_13 : decode prog_12_method_61_code 13 = .ok (.ldc2_w 283, 3) := by decide +kernel
theorem d_M_as_16 : decode prog_12_method_61_code 16 = .ok (.invokestatic 85, 3) := by decide +kernel
theorem d_M_as_19 : decode prog_12_method_61_code 19 = .ok (.ifCond .ne 6, 3) := by decide +kernel
theorem d_M_as_22 : decode prog_12_method_61_code 22 = .ok (.ldc 95, 2) := by decide +kernel
theorem d_M_as_24 : decode prog_12_method_61_code 24 = .ok (.ireturn, 1) := by decide +kernel
theorem d_M_as_25 : decode prog_12_method_61_code 25 = .ok (.aload_n 0, 1) := by decide +kernel
theorem d_M_as_26 : decode prog_12_method_61_code 26 = .ok (.getfield 9, 3) := by decide +kernel
theorem d_M_as_29 : decode prog_12_method_61_code 29 = .ok (.sipush 474, 3) := by decide +kernel
theorem d_M_as_32 : decode prog_12_method_61_code 32 = .ok (.iconst 4, 1) := by decide +kernel
theorem d_M_as_33 : decode prog_12_method_61_code 33 = .ok (.iload_n 1, 1) := by decide +kernel
theorem d_M_as_34 : decode prog_12_method_61_code 34 = .ok (.imul, 1) := by decide +kernel
theorem d_M_as_35 : decode prog_12_method_61_code 35 = .ok (.iadd, 1) := by decide +kernel
theorem d_M_as_36 : decode prog_12_method_61_code 36 = .ok (.iaload, 1) := by decide +kernel
theorem d_M_as_37 : decode prog_12_method_61_code 37 = .ok (.istore_n 3, 1) := by decide +kernel
theorem d_M_as_38 : decode prog_12_method_61_code 38 = .ok (.iload_n 3, 1) := by decide +kernel
theorem d_M_as_39 : decode prog_12_method_61_code 39 = .ok (.ifCond .lt 16, 3) := by decide +kernel
theorem d_M_as_42 : decode prog_12_method_61_code 42 = .ok (.iload_n 3, 1) := by decide +kernel
theorem d_M_as_43 : decode prog_12_method_61_code 43 = .ok (.iload_n 2, 1) := by decide +kernel
theorem d_M_as_44 : decode prog_12_method_61_code 44 = .ok (.if_icmp .eq 11, 3) := by decide +kernel
theorem d_M_as_47 : decode prog_12_method_61_code 47 = .ok (.iload_n 3, 1) := by decide +kernel
theorem d_M_as_48 : decode prog_12_method_61_code 48 = .ok (.invokestatic 296, 3) := by decide +kernel
theorem d_M_as_51 : decode prog_12_method_61_code 51 = .ok (.istore_n 3, 1) := by decide +kernel
theorem d_M_as_52 : decode prog_12_method_61_code 52 = .ok (.goto (-14), 3) := by decide +kernel
theorem d_M_as_55 : decode prog_12_method_61_code 55 = .ok (.iload_n 3, 1) := by decide +kernel
theorem d_M_as_56 : decode prog_12_method_61_code 56 = .ok (.ifCond .ge 8, 3) := by decide +kernel
theorem d_M_as_59 : decode prog_12_method_61_code 59 = .ok (.ldc 164, 2) := by decide +kernel
theorem d_M_as_61 : decode prog_12_method_61_code 61 = .ok (.goto 17, 3) := by decide +kernel
theorem d_M_as_64 : decode prog_12_method_61_code 64 = .ok (.aload_n 0, 1) := by decide +kernel
theorem d_M_as_65 : decode prog_12_method_61_code 65 = .ok (.getfield 9, 3) := by decide +kernel
theorem d_M_as_68 : decode prog_12_method_61_code 68 = .ok (.sipush 474, 3) := by decide +kernel
theorem d_M_as_71 : decode prog_12_method_61_code 71 = .ok (.iconst 4, 1) := by decide +kernel
theorem d_M_as_72 : decode prog_12_method_61_code 72 = .ok (.iload_n 1, 1) := by decide +kernel
theorem d_M_as_73 : decode prog_12_method_61_code 73 = .ok (.imul, 1) := by decide +kernel
theorem d_M_as_74 : decode prog_12_method_61_code 74 = .ok (.iadd, 1) := by decide +kernel
theorem d_M_as_75 : decode prog_12_method_61_code 75 = .ok (.iconst 2, 1) := by decide +kernel
theorem d_M_as_76 : decode prog_12_method_61_code 76 = .ok (.iadd, 1) := by decide +kernel
theorem d_M_as_77 : decode prog_12_method_61_code 77 = .ok (.iaload, 1) := by decide +kernel
theorem d_M_as_78 : decode prog_12_method_61_code 78 = .ok (.ireturn, 1) := by decide +kernel
theorem d_M_member_0 : decode prog_12_method_62_code 0 = .ok (.iload_n 1, 1) := by decide +kernel
theorem d_M_member_1 : decode prog_12_method_62_code 1 = .ok (.i2l, 1) := by decide +kernel
theorem d_M_member_2 : decode prog_12_method_62_code 2 = .ok (.lconst 0, 1) := by decide +kernel
theorem d_M_member_3 : decode prog_12_method_62_code 3 = .ok (.ldc2_w 299, 3) := by decide +kernel
theorem d_M_member_6 : decode prog_12_method_62_code 6 = .ok (.invokestatic 85, 3) := by decide +kernel
theorem d_M_member_9 : decode prog_12_method_62_code 9 = .ok (.ifCond .eq 15, 3) := by decide +kernel
theorem d_M_member_12 : decode prog_12_method_62_code 12 = .ok (.iload_n 2, 1) := by decide +kernel
theorem d_M_member_13 : decode prog_12_method_62_code 13 = .ok (.i2l, 1) := by decide +kernel
theorem d_M_member_14 : decode prog_12_method_62_code 14 = .ok (.lconst 0, 1) := by decide +kernel
theorem d_M_member_15 : decode prog_12_method_62_code 15 = .ok (.ldc2_w 301, 3) := by decide +kernel
theorem d_M_member_18 : decode prog_12_method_62_code 18 = .ok (.invokestatic 85, 3) := by decide +kernel
theorem d_M_member_21 : decode prog_12_method_62_code 21 = .ok (.ifCond .ne 6, 3) := by decide +kernel
theorem d_M_member_24 : decode prog_12_method_62_code 24 = .ok (.ldc 95, 2) := by decide +kernel
theorem d_M_member_26 : decode prog_12_method_62_code 26 = .ok (.ireturn, 1) := by decide +kernel
theorem d_M_member_27 : decode prog_12_method_62_code 27 = .ok (.aload_n 0, 1) := by decide +kernel
theorem d_M_member_28 : decode prog_12_method_62_code 28 = .ok (.getfield 9, 3) := by decide +kernel
theorem d_M_member_31 : decode prog_12_method_62_code 31 = .ok (.bipush 9, 2) := by decide +kernel
theorem d_M_member_33 : decode prog_12_method_62_code 33 = .ok (.iaload, 1) := by decide +kernel
theorem d_M_member_34 : decode prog_12_method_62_code 34 = .ok (.istore_n 3, 1) := by decide +kernel
theorem d_M_member_35 : decode prog_12_method_62_code 35 = .ok (.iload_n 3, 1) := by decide +kernel
theorem d_M_member_36 : decode prog_12_method_62_code 36 = .ok (.bipush 9, 2) := by decide +kernel
theorem d_M_member_38 : decode prog_12_method_62_code 38 = .ok (.if_icmp .ne 6, 3) := by decide +kernel
theorem d_M_member_41 : decode prog_12_method_62_code 41 = .ok (.ldc 96, 2) := by decide +kernel
theorem d_M_member_43 : decode prog_12_method_62_code 43 = .ok (.ireturn, 1) := by decide +kernel
theorem d_M_member_44 : decode prog_12_method_62_code 44 = .ok (.aload_n 0, 1) := by decide +kernel
theorem d_M_member_45 : decode prog_12_method_62_code 45 = .ok (.getfield 9, 3) := by decide +kernel
theorem d_M_member_48 : decode prog_12_method_62_code 48 = .ok (.sipush 634, 3) := by decide +kernel
theorem d_M_member_51 : decode prog_12_method_62_code 51 = .ok (.iconst 4, 1) := by decide +kernel
theorem d_M_member_52 : decode prog_12_method_62_code 52 = .ok (.iload_n 3, 1) := by decide +kernel
theorem d_M_member_53 : decode prog_12_method_62_code 53 = .ok (.imul, 1) := by decide +kernel
theorem d_M_member_54 : decode prog_12_method_62_code 54 = .ok (.iadd, 1) := by decide +kernel
theorem d_M_member_55 : decode prog_12_method_62_code 55 = .ok (.iload_n 1, 1) := by decide +kernel
theorem d_M_member_56 : decode prog_12_method_62_code 56 = .ok (.iastore, 1) := by decide +kernel
theorem d_M_member_57 : decode prog_12_method_62_code 57 = .ok (.aload_n 0, 1) := by decide +kernel
theorem d_M_member_58 : decode prog_12_method_62_code 58 = .ok (.getfield 9, 3) := by decide +kernel
theorem d_M_member_61 : decode prog_12_method_62_code 61 = .ok (.sipush 634, 3) := by decide +kernel
theorem d_M_member_64 : decode prog_12_method_62_code 64 = .ok (.iconst 4, 1) := by decide +kernel
theorem d_M_member_65 : decode prog_12_method_62_code 65 = .ok (.iload_n 3, 1) := by decide +kernel
theorem d_M_member_66 : decode prog_12_method_62_code 66 = .ok (.imul, 1) := by decide +kernel
theorem d_M_member_67 : decode prog_12_method_62_code 67 = .ok (.iadd, 1) := by decide +kernel
theorem d_M_member_68 : decode prog_12_method_62_code 68 = .ok (.iconst 1, 1) := by decide +kernel
theorem d_M_member_69 : decode prog_12_method_62_code 69 = .ok (.iadd, 1) := by decide +kernel
theorem d_M_member_70 : decode prog_12_method_62_code 70 = .ok (.iload_n 2, 1) := by decide +kernel
theorem d_M_member_71 : decode prog_12_method_62_code 71 = .ok (.iastore, 1) := by decide +kernel
theorem d_M_member_72 : decode prog_12_method_62_code 72 = .ok (.aload_n 0, 1) := by decide +kernel
theorem d_M_member_73 : decode prog_12_method_62_code 73 = .ok (.getfield 9, 3) := by decide +kernel
theorem d_M_member_76 : decode prog_12_method_62_code 76 = .ok (.sipush 634, 3) := by decide +kernel
theorem d_M_member_79 : decode prog_12_method_62_code 79 = .ok (.iconst 4, 1) := by decide +kernel
theorem d_M_member_80 : decode prog_12_method_62_code 80 = .ok (.iload_n 3, 1) := by decide +kernel
theorem d_M_member_81 : decode prog_12_method_62_code 81 = .ok (.imul, 1) := by decide +kernel
theorem d_M_member_82 : decode prog_12_method_62_code 82 = .ok (.iadd, 1) := by decide +kernel
theorem d_M_member_83 : decode prog_12_method_62_code 83 = .ok (.iconst 2, 1) := by decide +kernel
theorem d_M_member_84 : decode prog_12_method_62_code 84 = .ok (.iadd, 1) := by decide +kernel
theorem d_M_member_85 : decode prog_12_method_62_code 85 = .ok (.iconst 0, 1) := by decide +kernel
theorem d_M_member_86 : decode prog_12_method_62_code 86 = .ok (.iastore, 1) := by decide +kernel
theorem d_M_member_87 : decode prog_12_method_62_code 87 = .ok (.aload_n 0, 1) := by decide +kernel
theorem d_M_member_88 : decode prog_12_method_62_code 88 = .ok (.getfield 9, 3) := by decide +kernel
theorem d_M_member_91 : decode prog_12_method_62_code 91 = .ok (.sipush 634, 3) := by decide +kernel
theorem d_M_member_94 : decode prog_12_method_62_code 94 = .ok (.iconst 4, 1) := by decide +kernel
theorem d_M_member_95 : decode prog_12_method_62_code 95 = .ok (.iload_n 3, 1) := by decide +kernel
theorem d_M_member_96 : decode prog_12_method_62_code 96 = .ok (.imul, 1) := by decide +kernel
theorem d_M_member_97 : decode prog_12_method_62_code 97 = .ok (.iadd, 1) := by decide +kernel
theorem d_M_member_98 : decode prog_12_method_62_code 98 = .ok (.iconst 3, 1) := by decide +kernel
theorem d_M_member_99 : decode prog_12_method_62_code 99 = .ok (.iadd, 1) := by decide +kernel
theorem d_M_member_100 : decode prog_12_method_62_code 100 = .ok (.iconst 0, 1) := by decide +kernel
theorem d_M_member_101 : decode prog_12_method_62_code 101 = .ok (.iastore, 1) := by decide +kernel
theorem d_M_member_102 : decode prog_12_method_62_code 102 = .ok (.aload_n 0, 1) := by decide +kernel
theorem d_M_member_103 : decode prog_12_method_62_code 103 = .ok (.getfield 9, 3) := by decide +kernel
theorem d_M_member_106 : decode prog_12_method_62_code 106 = .ok (.bipush 9, 2) := by decide +kernel
theorem d_M_member_108 : decode prog_12_method_62_code 108 = .ok (.dup2, 1) := by decide +kernel
theorem d_M_member_109 : decode prog_12_method_62_code 109 = .ok (.iaload, 1) := by decide +kernel
theorem d_M_member_110 : decode prog_12_method_62_code 110 = .ok (.iconst 1, 1) := by decide +kernel
theorem d_M_member_111 : decode prog_12_method_62_code 111 = .ok (.iadd, 1) := by decide +kernel
theorem d_M_member_112 : decode prog_12_method_62_code 112 = .ok (.iastore, 1) := by decide +kernel
theorem d_M_member_113 : decode prog_12_method_62_code 113 = .ok (.iload_n 3, 1) := by decide +kernel
theorem d_M_member_114 : decode prog_12_method_62_code 114 = .ok (.ireturn, 1) := by decide +kernel
theorem d_M_conflict_0 : decode prog_12_method_63_code 0 = .ok (.aload_n 0, 1) := by decide +kernel
theorem d_M_conflict_1 : decode prog_12_method_63_code 1 = .ok (.iload_n 1, 1) := by decide +kernel
theorem d_M_conflict_2 : decode prog_12_method_63_code 2 = .ok (.bipush 9, 2) := by decide +kernel
theorem d_M_conflict_4 : decode prog_12_method_63_code 4 = .ok (.invokevirtual 118, 3) := by decide +kernel
theorem d_M_conflict_7 : decode prog_12_method_63_code 7 = .ok (.ifCond .eq 22, 3) := by decide +kernel
theorem d_M_conflict_10 : decode prog_12_method_63_code 10 = .ok (.aload_n 0, 1) := by decide +kernel
theorem d_M_conflict_11 : decode prog_12_method_63_code 11 = .ok (.iload_n 2, 1) := by decide +kernel
theorem d_M_conflict_12 : decode prog_12_method_63_code 12 = .ok (.iconst 2, 1) := by decide +kernel
theorem d_M_conflict_13 : decode prog_12_method_63_code 13 = .ok (.invokevirtual 118, 3) := by decide +kernel
theorem d_M_conflict_16 : decode prog_12_method_63_code 16 = .ok (.ifCond .eq 13, 3) := by decide +kernel
theorem d_M_conflict_19 : decode prog_12_method_63_code 19 = .ok (.iload_n 3, 1) := by decide +kernel
theorem d_M_conflict_20 : decode prog_12_method_63_code 20 = .ok (.i2l, 1) := by decide +kernel
theorem d_M_conflict_21 : decode prog_12_method_63_code 21 = .ok (.lconst 0, 1) := by decide +kernel
theorem d_M_conflict_22 : decode prog_12_method_63_code 22 = .ok (.lconst 1, 1) := by decide +kernel
theorem d_M_conflict_23 : decode prog_12_method_63_code 23 = .ok (.invokestatic 85, 3) := by decide +kernel
theorem d_M_conflict_26 : decode prog_12_method_63_code 26 = .ok (.ifCond .ne 6, 3) := by decide +kernel
theorem d_M_conflict_29 : decode prog_12_method_63_code 29 = .ok (.ldc 95, 2) := by decide +kernel
theorem d_M_conflict_31 : decode prog_12_method_63_code 31 = .ok (.ireturn, 1) := by decide +kernel
theorem d_M_conflict_32 : decode prog_12_method_63_code 32 = .ok (.sipush 634, 3) := by decide +kernel
theorem d_M_conflict_35 : decode prog_12_method_63_code 35 = .ok (.iconst 4, 1) := by decide +kernel
theorem d_M_conflict_36 : decode prog_12_method_63_code 36 = .ok (.iload_n 1, 1) := by decide +kernel
theorem d_M_conflict_37 : decode prog_12_method_63_code 37 = .ok (.imul, 1) := by decide +kernel
theorem d_M_conflict_38 : decode prog_12_method_63_code 38 = .ok (.iadd, 1) := by decide +kernel
theorem d_M_conflict_39 : decode prog_12_method_63_code 39 = .ok (.iconst 2, 1) := by decide +kernel
theorem d_M_conflict_40 : decode prog_12_method_63_code 40 = .ok (.iadd, 1) := by decide +kernel
theorem d_M_conflict_41 : decode prog_12_method_63_code 41 = .ok (.istore 4, 2) := by decide +kernel
theorem d_M_conflict_43 : decode prog_12_method_63_code 43 = .ok (.aload_n 0, 1) := by decide +kernel
theorem d_M_conflict_44 : decode prog_12_method_63_code 44 = .ok (.getfield 9, 3) := by decide +kernel
theorem d_M_conflict_47 : decode prog_12_method_63_code 47 = .ok (.iload 4, 2) := by decide +kernel
theorem d_M_conflict_49 : decode prog_12_method_63_code 49 = .ok (.iaload, 1) := by decide +kernel
theorem d_M_conflict_50 : decode prog_12_method_63_code 50 = .ok (.iload_n 2, 1) := by decide +kernel
theorem d_M_conflict_51 : decode prog_12_method_63_code 51 = .ok (.ishr, 1) := by decide +kernel
theorem d_M_conflict_52 : decode prog_12_method_63_code 52 = .ok (.iconst 1, 1) := by decide +kernel
theorem d_M_conflict_53 : decode prog_12_method_63_code 53 = .ok (.iand, 1) := by decide +kernel
theorem d_M_conflict_54 : decode prog_12_method_63_code 54 = .ok (.istore 5, 2) := by decide +kernel
theorem d_M_conflict_56 : decode prog_12_method_63_code 56 = .ok (.aload_n 0, 1) := by decide +kernel
theorem d_M_conflict_57 : decode prog_12_method_63_code 57 = .ok (.getfield 9, 3) := by decide +kernel
theorem d_M_conflict_60 : decode prog_12_method_63_code 60 = .ok (.iload 4, 2) := by decide +kernel
theorem d_M_conflict_62 : decode prog_12_method_63_code 62 = .ok (.iload_n 3, 1) := by decide +kernel
theorem d_M_conflict_63 : decode prog_12_method_63_code 63 = .ok (.iconst 1, 1) := by decide +kernel
theorem d_M_conflict_64 : decode prog_12_method_63_code 64 = .ok (.if_icmp .ne 17, 3) := by decide +kernel
theorem d_M_conflict_67 : decode prog_12_method_63_code 67 = .ok (.aload_n 0, 1) := by decide +kernel
theorem d_M_conflict_68 : decode prog_12_method_63_code 68 = .ok (.getfield 9, 3) := by decide +kernel
theorem d_M_conflict_71 : decode prog_12_method_63_code 71 = .ok (.iload 4, 2) := by decide +kernel
theorem d_M_conflict_73 : decode prog_12_method_63_code 73 = .ok (.iaload, 1) := by decide +kernel
theorem d_M_conflict_74 : decode prog_12_method_63_code 74 = .ok (.iconst 1, 1) := by decide +kernel
theorem d_M_conflict_75 : decode prog_12_method_63_code 75 = .ok (.iload_n 2, 1) := by decide +kernel
theorem d_M_conflict_76 : decode prog_12_method_63_code 76 = .ok (.ishl, 1) := by decide +kernel
theorem d_M_conflict_77 : decode prog_12_method_63_code 77 = .ok (.ior, 1) := by decide +kernel
theorem d_M_conflict_78 : decode prog_12_method_63_code 78 = .ok (.goto 16, 3) := by decide +kernel
theorem d_M_conflict_81 : decode prog_12_method_63_code 81 = .ok (.aload_n 0, 1) := by decide +kernel
theorem d_M_conflict_82 : decode prog_12_method_63_code 82 = .ok (.getfield 9, 3) := by decide +kernel
theorem d_M_conflict_85 : decode prog_12_method_63_code 85 = .ok (.iload 4, 2) := by decide +kernel
theorem d_M_conflict_87 : decode prog_12_method_63_code 87 = .ok (.iaload, 1) := by decide +kernel
theorem d_M_conflict_88 : decode prog_12_method_63_code 88 = .ok (.iconst 1, 1) := by decide +kernel
theorem d_M_conflict_89 : decode prog_12_method_63_code 89 = .ok (.iload_n 2, 1) := by decide +kernel
theorem d_M_conflict_90 : decode prog_12_method_63_code 90 = .ok (.ishl, 1) := by decide +kernel
theorem d_M_conflict_91 : decode prog_12_method_63_code 91 = .ok (.iconst (-1), 1) := by decide +kernel
theorem d_M_conflict_92 : decode prog_12_method_63_code 92 = .ok (.ixor, 1) := by decide +kernel
theorem d_M_conflict_93 : decode prog_12_method_63_code 93 = .ok (.iand, 1) := by decide +kernel
theorem d_M_conflict_94 : decode prog_12_method_63_code 94 = .ok (.iastore, 1) := by decide +kernel
theorem d_M_conflict_95 : decode prog_12_method_63_code 95 = .ok (.iload 5, 2) := by decide +kernel
theorem d_M_conflict_97 : decode prog_12_method_63_code 97 = .ok (.ireturn, 1) := by decide +kernel
theorem d_M_is_0 : decode prog_12_method_64_code 0 = .ok (.aload_n 0, 1) := by decide +kernel
theorem d_M_is_1 : decode prog_12_method_64_code 1 = .ok (.iload_n 1, 1) := by decide +kernel
theorem d_M_is_2 : decode prog_12_method_64_code 2 = .ok (.bipush 9, 2) := by decide +kernel
theorem d_M_is_4 : decode prog_12_method_64_code 4 = .ok (.invokevirtual 118, 3) := by decide +kernel
theorem d_M_is_7 : decode prog_12_method_64_code 7 = .ok (.ifCond .eq 15, 3) := by decide +kernel
theorem d_M_is_10 : decode prog_12_method_64_code 10 = .ok (.iload_n 2, 1) := by decide +kernel
theorem d_M_is_11 : decode prog_12_method_64_code 11 = .ok (.i2l, 1) := by decide +kernel
theorem d_M_is_12 : decode prog_12_method_64_code 12 = .ok (.lconst 0, 1) := by decide +kernel
theorem d_M_is_13 : decode prog_12_method_64_code 13 = .ok (.ldc2_w 281, 3) := by decide +kernel
theorem d_M_is_16 : decode prog_12_method_64_code 16 = .ok (.invokestatic 85, 3) := by decide +kernel
theorem d_M_is_19 : decode prog_12_method_64_code 19 = .ok (.ifCond .ne 8, 3) := by decide +kernel
theorem d_M_is_22 : decode prog_12_method_64_code 22 = .ok (.ldc 95, 2) := by decide +kernel
theorem d_M_is_24 : decode prog_12_method_64_code 24 = .ok (.goto 17, 3) := by decide +kernel
theorem d_M_is_27 : decode prog_12_method_64_code 27 = .ok (.aload_n 0, 1) := by decide +kernel
theorem d_M_is_28 : decode prog_12_method_64_code 28 = .ok (.getfield 9, 3) := by decide +kernel
theorem d_M_is_31 : decode prog_12_method_64_code 31 = .ok (.sipush 634, 3) := by decide +kernel
theorem d_M_is_34 : decode prog_12_method_64_code 34 = .ok (.iconst 4, 1) := by decide +kernel
theorem d_M_is_35 : decode prog_12_method_64_code 35 = .ok (.iload_n 1, 1) := by decide +kernel
theorem d_M_is_36 : decode prog_12_method_64_code 36 = .ok (.imul, 1) := by decide +kernel
theorem d_M_is_37 : decode prog_12_method_64_code 37 = .ok (.iadd, 1) := by decide +kernel
theorem d_M_is_38 : decode prog_12_method_64_code 38 = .ok (.iload_n 2, 1) := by decide +kernel
theorem d_M_is_39 : decode prog_12_method_64_code 39 = .ok (.iadd, 1) := by decide +kernel
theorem d_M_is_40 : decode prog_12_method_64_code 40 = .ok (.iaload, 1) := by decide +kernel
theorem d_M_is_41 : decode prog_12_method_64_code 41 = .ok (.ireturn, 1) := by decide +kernel
theorem d_M_turns_0 : decode prog_12_method_66_code 0 = .ok (.aload_n 0, 1) := by decide +kernel
theorem d_M_turns_1 : decode prog_12_method_66_code 1 = .ok (.getfield 9, 3) := by decide +kernel
theorem d_M_turns_4 : decode prog_12_method_66_code 4 = .ok (.sipush 634, 3) := by decide +kernel
theorem d_M_turns_7 : decode prog_12_method_66_code 7 = .ok (.iconst 4, 1) := by decide +kernel
theorem d_M_turns_8 : decode prog_12_method_66_code 8 = .ok (.iload_n 1, 1) := by decide +kernel
theorem d_M_turns_9 : decode prog_12_method_66_code 9 = .ok (.imul, 1) := by decide +kernel
theorem d_M_turns_10 : decode prog_12_method_66_code 10 = .ok (.iadd, 1) := by decide +kernel
theorem d_M_turns_11 : decode prog_12_method_66_code 11 = .ok (.iconst 3, 1) := by decide +kernel
theorem d_M_turns_12 : decode prog_12_method_66_code 12 = .ok (.iadd, 1) := by decide +kernel
theorem d_M_turns_13 : decode prog_12_method_66_code 13 = .ok (.iaload, 1) := by decide +kernel
theorem d_M_turns_14 : decode prog_12_method_66_code 14 = .ok (.ireturn, 1) := by decide +kernel
theorem d_M_mayGo_0 : decode prog_12_method_65_code 0 = .ok (.sipush 634, 3) := by decide +kernel
theorem d_M_mayGo_3 : decode prog_12_method_65_code 3 = .ok (.iconst 4, 1) := by decide +kernel
theorem d_M_mayGo_4 : decode prog_12_method_65_code 4 = .ok (.iload_n 1, 1) := by decide +kernel
theorem d_M_mayGo_5 : decode prog_12_method_65_code 5 = .ok (.imul, 1) := by decide +kernel
theorem d_M_mayGo_6 : decode prog_12_method_65_code 6 = .ok (.iadd, 1) := by decide +kernel
theorem d_M_mayGo_7 : decode prog_12_method_65_code 7 = .ok (.istore 5, 2) := by decide +kernel
theorem d_M_mayGo_9 : decode prog_12_method_65_code 9 = .ok (.aload_n 0, 1) := by decide +kernel
theorem d_M_mayGo_10 : decode prog_12_method_65_code 10 = .ok (.getfield 9, 3) := by decide +kernel
theorem d_M_mayGo_13 : decode prog_12_method_65_code 13 = .ok (.iload 5, 2) := by decide +kernel
theorem d_M_mayGo_15 : decode prog_12_method_65_code 15 = .ok (.iconst 1, 1) := by decide +kernel
theorem d_M_mayGo_16 : decode prog_12_method_65_code 16 = .ok (.iadd, 1) := by decide +kernel
theorem d_M_mayGo_17 : decode prog_12_method_65_code 17 = .ok (.iaload, 1) := by decide +kernel
theorem d_M_mayGo_18 : decode prog_12_method_65_code 18 = .ok (.iload_n 3, 1) := by decide +kernel
theorem d_M_mayGo_19 : decode prog_12_method_65_code 19 = .ok (.invokestatic 303, 3) := by decide +kernel
theorem d_M_mayGo_22 : decode prog_12_method_65_code 22 = .ok (.ifCond .eq 39, 3) := by decide +kernel
theorem d_M_mayGo_25 : decode prog_12_method_65_code 25 = .ok (.aload_n 0, 1) := by decide +kernel
theorem d_M_mayGo_26 : decode prog_12_method_65_code 26 = .ok (.getfield 9, 3) := by decide +kernel
theorem d_M_mayGo_29 : decode prog_12_method_65_code 29 = .ok (.iload 5, 2) := by decide +kernel
theorem d_M_mayGo_31 : decode prog_12_method_65_code 31 = .ok (.iaload, 1) := by decide +kernel
theorem d_M_mayGo_32 : decode prog_12_method_65_code 32 = .ok (.iload 4, 2) := by decide +kernel
theorem d_M_mayGo_34 : decode prog_12_method_65_code 34 = .ok (.bipush 7, 2) := by decide +kernel
theorem d_M_mayGo_36 : decode prog_12_method_65_code 36 = .ok (.irem, 1) := by decide +kernel
theorem d_M_mayGo_37 : decode prog_12_method_65_code 37 = .ok (.invokestatic 303, 3) := by decide +kernel
theorem d_M_mayGo_40 : decode prog_12_method_65_code 40 = .ok (.ifCond .ne 21, 3) := by decide +kernel
theorem d_M_mayGo_43 : decode prog_12_method_65_code 43 = .ok (.aload_n 0, 1) := by decide +kernel
theorem d_M_mayGo_44 : decode prog_12_method_65_code 44 = .ok (.getfield 9, 3) := by decide +kernel
theorem d_M_mayGo_47 : decode prog_12_method_65_code 47 = .ok (.iload 5, 2) := by decide +kernel
theorem d_M_mayGo_49 : decode prog_12_method_65_code 49 = .ok (.iconst 2, 1) := by decide +kernel
theorem d_M_mayGo_50 : decode prog_12_method_65_code 50 = .ok (.iadd, 1) := by decide +kernel
theorem d_M_mayGo_51 : decode prog_12_method_65_code 51 = .ok (.iaload, 1) := by decide +kernel
theorem d_M_mayGo_52 : decode prog_12_method_65_code 52 = .ok (.iload_n 2, 1) := by decide +kernel
theorem d_M_mayGo_53 : decode prog_12_method_65_code 53 = .ok (.iand, 1) := by decide +kernel
theorem d_M_mayGo_54 : decode prog_12_method_65_code 54 = .ok (.ifCond .ne 7, 3) := by decide +kernel
theorem d_M_mayGo_57 : decode prog_12_method_65_code 57 = .ok (.iconst 1, 1) := by decide +kernel
theorem d_M_mayGo_58 : decode prog_12_method_65_code 58 = .ok (.goto 4, 3) := by decide +kernel
theorem d_M_mayGo_61 : decode prog_12_method_65_code 61 = .ok (.iconst 0, 1) := by decide +kernel
theorem d_M_mayGo_62 : decode prog_12_method_65_code 62 = .ok (.ireturn, 1) := by decide +kernel
theorem d_M_board_0 : decode prog_12_method_68_code 0 = .ok (.iload_n 1, 1) := by decide +kernel
theorem d_M_board_1 : decode prog_12_method_68_code 1 = .ok (.ifCond .lt 39, 3) := by decide +kernel
theorem d_M_board_4 : decode prog_12_method_68_code 4 = .ok (.iload_n 1, 1) := by decide +kernel
theorem d_M_board_5 : decode prog_12_method_68_code 5 = .ok (.iconst 1, 1) := by decide +kernel
theorem d_M_board_6 : decode prog_12_method_68_code 6 = .ok (.aload_n 0, 1) := by decide +kernel
theorem d_M_board_7 : decode prog_12_method_68_code 7 = .ok (.getfield 9, 3) := by decide +kernel
theorem d_M_board_10 : decode prog_12_method_68_code 10 = .ok (.iconst 2, 1) := by decide +kernel
theorem d_M_board_11 : decode prog_12_method_68_code 11 = .ok (.iaload, 1) := by decide +kernel
theorem d_M_board_12 : decode prog_12_method_68_code 12 = .ok (.ishl, 1) := by decide +kernel
theorem d_M_board_13 : decode prog_12_method_68_code 13 = .ok (.if_icmp .ge 27, 3) := by decide +kernel
theorem d_M_board_16 : decode prog_12_method_68_code 16 = .ok (.iload_n 2, 1) := by decide +kernel
theorem d_M_board_17 : decode prog_12_method_68_code 17 = .ok (.i2l, 1) := by decide +kernel
theorem d_M_board_18 : decode prog_12_method_68_code 18 = .ok (.lconst 0, 1) := by decide +kernel
theorem d_M_board_19 : decode prog_12_method_68_code 19 = .ok (.ldc2_w 91, 3) := by decide +kernel
theorem d_M_board_22 : decode prog_12_method_68_code 22 = .ok (.invokestatic 85, 3) := by decide +kernel
theorem d_M_board_25 : decode prog_12_method_68_code 25 = .ok (.ifCond .eq 15, 3) := by decide +kernel
theorem d_M_board_28 : decode prog_12_method_68_code 28 = .ok (.iload_n 3, 1) := by decide +kernel
theorem d_M_board_29 : decode prog_12_method_68_code 29 = .ok (.i2l, 1) := by decide +kernel
theorem d_M_board_30 : decode prog_12_method_68_code 30 = .ok (.lconst 0, 1) := by decide +kernel
theorem d_M_board_31 : decode prog_12_method_68_code 31 = .ok (.ldc2_w 137, 3) := by decide +kernel
theorem d_M_board_34 : decode prog_12_method_68_code 34 = .ok (.invokestatic 85, 3) := by decide +kernel
theorem d_M_board_37 : decode prog_12_method_68_code 37 = .ok (.ifCond .ne 6, 3) := by decide +kernel
theorem d_M_board_40 : decode prog_12_method_68_code 40 = .ok (.ldc 95, 2) := by decide +kernel
theorem d_M_board_42 : decode prog_12_method_68_code 42 = .ok (.ireturn, 1) := by decide +kernel
theorem d_M_board_43 : decode prog_12_method_68_code 43 = .ok (.aload_n 0, 1) := by decide +kernel
theorem d_M_board_44 : decode prog_12_method_68_code 44 = .ok (.iload_n 1, 1) := by decide +kernel
theorem d_M_board_45 : decode prog_12_method_68_code 45 = .ok (.iload_n 2, 1) := by decide +kernel
theorem d_M_board_46 : decode prog_12_method_68_code 46 = .ok (.iload_n 3, 1) := by decide +kernel
theorem d_M_board_47 : decode prog_12_method_68_code 47 = .ok (.invokevirtual 313, 3) := by decide +kernel
theorem d_M_board_50 : decode prog_12_method_68_code 50 = .ok (.istore 4, 2) := by decide +kernel
theorem d_M_board_52 : decode prog_12_method_68_code 52 = .ok (.iload 4, 2) := by decide +kernel
theorem d_M_board_54 : decode prog_12_method_68_code 54 = .ok (.ifCond .ge 8, 3) := by decide +kernel
theorem d_M_board_57 : decode prog_12_method_68_code 57 = .ok (.ldc 136, 2) := by decide +kernel
theorem d_M_board_59 : decode prog_12_method_68_code 59 = .ok (.goto 5, 3) := by decide +kernel
theorem d_M_board_62 : decode prog_12_method_68_code 62 = .ok (.iload 4, 2) := by decide +kernel
theorem d_M_board_64 : decode prog_12_method_68_code 64 = .ok (.ireturn, 1) := by decide +kernel
theorem d_M_ofHearing_0 : decode prog_12_method_69_code 0 = .ok (.sipush 670, 3) := by decide +kernel
theorem d_M_ofHearing_3 : decode prog_12_method_69_code 3 = .ok (.bipush 6, 2) := by decide +kernel
theorem d_M_ofHearing_5 : decode prog_12_method_69_code 5 = .ok (.iload_n 0, 1) := by decide +kernel
theorem d_M_ofHearing_6 : decode prog_12_method_69_code 6 = .ok (.imul, 1) := by decide +kernel
theorem d_M_ofHearing_7 : decode prog_12_method_69_code 7 = .ok (.iadd, 1) := by decide +kernel
theorem d_M_ofHearing_8 : decode prog_12_method_69_code 8 = .ok (.iload_n 1, 1) := by decide +kernel
theorem d_M_ofHearing_9 : decode prog_12_method_69_code 9 = .ok (.iadd, 1) := by decide +kernel
theorem d_M_ofHearing_10 : decode prog_12_method_69_code 10 = .ok (.ireturn, 1) := by decide +kernel
theorem d_M_hasReport_0 : decode prog_12_method_72_code 0 = .ok (.iconst 0, 1) := by decide +kernel
theorem d_M_hasReport_1 : decode prog_12_method_72_code 1 = .ok (.istore_n 2, 1) := by decide +kernel
theorem d_M_hasReport_2 : decode prog_12_method_72_code 2 = .ok (.iconst 0, 1) := by decide +kernel
theorem d_M_hasReport_3 : decode prog_12_method_72_code 3 = .ok (.istore_n 3, 1) := by decide +kernel
theorem d_M_hasReport_4 : decode prog_12_method_72_code 4 = .ok (.iload_n 3, 1) := by decide +kernel
theorem d_M_hasReport_5 : decode prog_12_method_72_code 5 = .ok (.aload_n 0, 1) := by decide +kernel
theorem d_M_hasReport_6 : decode prog_12_method_72_code 6 = .ok (.getfield 9, 3) := by decide +kernel
theorem d_M_hasReport_9 : decode prog_12_method_72_code 9 = .ok (.bipush 8, 2) := by decide +kernel
theorem d_M_hasReport_11 : decode prog_12_method_72_code 11 = .ok (.iaload, 1) := by decide +kernel
theorem d_M_hasReport_12 : decode prog_12_method_72_code 12 = .ok (.if_icmp .ge 103, 3) := by decide +kernel
theorem d_M_hasReport_15 : decode prog_12_method_72_code 15 = .ok (.sipush 474, 3) := by decide +kernel
theorem d_M_hasReport_18 : decode prog_12_method_72_code 18 = .ok (.iconst 4, 1) := by decide +kernel
theorem d_M_hasReport_19 : decode prog_12_method_72_code 19 = .ok (.iload_n 3, 1) := by decide +kernel
theorem d_M_hasReport_20 : decode prog_12_method_72_code 20 = .ok (.imul, 1) := by decide +kernel
theorem d_M_hasReport_21 : decode prog_12_method_72_code 21 = .ok (.iadd, 1) := by decide +kernel
theorem d_M_hasReport_22 : decode prog_12_method_72_code 22 = .ok (.istore 4, 2) := by decide +kernel
theorem d_M_hasReport_24 : decode prog_12_method_72_code 24 = .ok (.aload_n 0, 1) := by decide +kernel
theorem d_M_hasReport_25 : decode prog_12_method_72_code 25 = .ok (.getfield 9, 3) := by decide +kernel
theorem d_M_hasReport_28 : decode prog_12_method_72_code 28 = .ok (.iload 4, 2) := by decide +kernel
theorem d_M_hasReport_30 : decode prog_12_method_72_code 30 = .ok (.iaload, 1) := by decide +kernel
theorem d_M_hasReport_31 : decode prog_12_method_72_code 31 = .ok (.iconst 1, 1) := by decide +kernel
theorem d_M_hasReport_32 : decode prog_12_method_72_code 32 = .ok (.if_icmp .eq 14, 3) := by decide +kernel
theorem d_M_hasReport_35 : decode prog_12_method_72_code 35 = .ok (.aload_n 0, 1) := by decide +kernel
theorem d_M_hasReport_36 : decode prog_12_method_72_code 36 = .ok (.getfield 9, 3) := by decide +kernel
theorem d_M_hasReport_39 : decode prog_12_method_72_code 39 = .ok (.iload 4, 2) := by decide +kernel
theorem d_M_hasReport_41 : decode prog_12_method_72_code 41 = .ok (.iaload, 1) := by decide +kernel
theorem d_M_hasReport_42 : decode prog_12_method_72_code 42 = .ok (.iconst 2, 1) := by decide +kernel
theorem d_M_hasReport_43 : decode prog_12_method_72_code 43 = .ok (.if_icmp .ne 35, 3) := by decide +kernel
theorem d_M_hasReport_46 : decode prog_12_method_72_code 46 = .ok (.aload_n 0, 1) := by decide +kernel
theorem d_M_hasReport_47 : decode prog_12_method_72_code 47 = .ok (.getfield 9, 3) := by decide +kernel
theorem d_M_hasReport_50 : decode prog_12_method_72_code 50 = .ok (.iconst 0, 1) := by decide +kernel
theorem d_M_hasReport_51 : decode prog_12_method_72_code 51 = .ok (.iaload, 1) := by decide +kernel
theorem d_M_hasReport_52 : decode prog_12_method_72_code 52 = .ok (.aload_n 0, 1) := by decide +kernel
theorem d_M_hasReport_53 : decode prog_12_method_72_code 53 = .ok (.getfield 9, 3) := by decide +kernel
theorem d_M_hasReport_56 : decode prog_12_method_72_code 56 = .ok (.iload 4, 2) := by decide +kernel
theorem d_M_hasReport_58 : decode prog_12_method_72_code 58 = .ok (.iconst 3, 1) := by decide +kernel
theorem d_M_hasReport_59 : decode prog_12_method_72_code 59 = .ok (.iadd, 1) := by decide +kernel
theorem d_M_hasReport_60 : decode prog_12_method_72_code 60 = .ok (.iaload, 1) := by decide +kernel
theorem d_M_hasReport_61 : decode prog_12_method_72_code 61 = .ok (.aload_n 0, 1) := by decide +kernel
theorem d_M_hasReport_62 : decode prog_12_method_72_code 62 = .ok (.getfield 9, 3) := by decide +kernel
theorem d_M_hasReport_65 : decode prog_12_method_72_code 65 = .ok (.iload 4, 2) := by decide +kernel
theorem d_M_hasReport_67 : decode prog_12_method_72_code 67 = .ok (.iconst 2, 1) := by decide +kernel
theorem d_M_hasReport_68 : decode prog_12_method_72_code 68 = .ok (.iadd, 1) := by decide +kernel
theorem d_M_hasReport_69 : decode prog_12_method_72_code 69 = .ok (.iaload, 1) := by decide +kernel
theorem d_M_hasReport_70 : decode prog_12_method_72_code 70 = .ok (.iadd, 1) := by decide +kernel
theorem d_M_hasReport_71 : decode prog_12_method_72_code 71 = .ok (.if_icmp .ge 7, 3) := by decide +kernel
theorem d_M_hasReport_74 : decode prog_12_method_72_code 74 = .ok (.iconst 1, 1) := by decide +kernel
theorem d_M_hasReport_75 : decode prog_12_method_72_code 75 = .ok (.goto 4, 3) := by decide +kernel
theorem d_M_hasReport_78 : decode prog_12_method_72_code 78 = .ok (.iconst 0, 1) := by decide +kernel
theorem d_M_hasReport_79 : decode prog_12_method_72_code 79 = .ok (.istore 5, 2) := by decide +kernel
theorem d_M_hasReport_81 : decode prog_12_method_72_code 81 = .ok (.iload_n 2, 1) := by decide +kernel
theorem d_M_hasReport_82 : decode prog_12_method_72_code 82 = .ok (.ifCond .ne 21, 3) := by decide +kernel
theorem d_M_hasReport_85 : decode prog_12_method_72_code 85 = .ok (.iload 5, 2) := by decide +kernel
theorem d_M_hasReport_87 : decode prog_12_method_72_code 87 = .ok (.ifCond .eq 20, 3) := by decide +kernel
theorem d_M_hasReport_90 : decode prog_12_method_72_code 90 = .ok (.aload_n 0, 1) := by decide +kernel
theorem d_M_hasReport_91 : decode prog_12_method_72_code 91 = .ok (.getfield 9, 3) := by decide +kernel
theorem d_M_hasReport_94 : decode prog_12_method_72_code 94 = .ok (.iload 4, 2) := by decide +kernel
theorem d_M_hasReport_96 : decode prog_12_method_72_code 96 = .ok (.iconst 1, 1) := by decide +kernel
theorem d_M_hasReport_97 : decode prog_12_method_72_code 97 = .ok (.iadd, 1) := by decide +kernel
theorem d_M_hasReport_98 : decode prog_12_method_72_code 98 = .ok (.iaload, 1) := by decide +kernel
theorem d_M_hasReport_99 : decode prog_12_method_72_code 99 = .ok (.iload_n 1, 1) := by decide +kernel
theorem d_M_hasReport_100 : decode prog_12_method_72_code 100 = .ok (.if_icmp .ne 7, 3) := by decide +kernel
theorem d_M_hasReport_103 : decode prog_12_method_72_code 103 = .ok (.iconst 1, 1) := by decide +kernel
theorem d_M_hasReport_104 : decode prog_12_method_72_code 104 = .ok (.goto 4, 3) := by decide +kernel
theorem d_M_hasReport_107 : decode prog_12_method_72_code 107 = .ok (.iconst 0, 1) := by decide +kernel
theorem d_M_hasReport_108 : decode prog_12_method_72_code 108 = .ok (.istore_n 2, 1) := by decide +kernel
theorem d_M_hasReport_109 : decode prog_12_method_72_code 109 = .ok (.iinc 3 1, 3) := by decide +kernel
theorem d_M_hasReport_112 : decode prog_12_method_72_code 112 = .ok (.goto (-108), 3) := by decide +kernel
theorem d_M_hasReport_115 : decode prog_12_method_72_code 115 = .ok (.iload_n 2, 1) := by decide +kernel
theorem d_M_hasReport_116 : decode prog_12_method_72_code 116 = .ok (.ireturn, 1) := by decide +kernel
theorem d_M_causeOf_0 : decode prog_12_method_74_code 0 = .ok (.aload_n 0, 1) := by decide +kernel
theorem d_M_causeOf_1 : decode prog_12_method_74_code 1 = .ok (.iload_n 1, 1) := by decide +kernel
theorem d_M_causeOf_2 : decode prog_12_method_74_code 2 = .ok (.aload_n 0, 1) := by decide +kernel
theorem d_M_causeOf_3 : decode prog_12_method_74_code 3 = .ok (.getfield 9, 3) := by decide +kernel
theorem d_M_causeOf_6 : decode prog_12_method_74_code 6 = .ok (.iconst 0, 1) := by decide +kernel
theorem d_M_causeOf_7 : decode prog_12_method_74_code 7 = .ok (.iaload, 1) := by decide +kernel
theorem d_M_causeOf_8 : decode prog_12_method_74_code 8 = .ok (.invokevirtual 177, 3) := by decide +kernel
theorem d_M_causeOf_11 : decode prog_12_method_74_code 11 = .ok (.ifCond .ne 7, 3) := by decide +kernel
theorem d_M_causeOf_14 : decode prog_12_method_74_code 14 = .ok (.iconst 1, 1) := by decide +kernel
theorem d_M_causeOf_15 : decode prog_12_method_74_code 15 = .ok (.goto 28, 3) := by decide +kernel
theorem d_M_causeOf_18 : decode prog_12_method_74_code 18 = .ok (.aload_n 0, 1) := by decide +kernel
theorem d_M_causeOf_19 : decode prog_12_method_74_code 19 = .ok (.iload_n 1, 1) := by decide +kernel
theorem d_M_causeOf_20 : decode prog_12_method_74_code 20 = .ok (.invokevirtual 319, 3) := by decide +kernel
theorem d_M_causeOf_23 : decode prog_12_method_74_code 23 = .ok (.ifCond .ne 7, 3) := by decide +kernel
theorem d_M_causeOf_26 : decode prog_12_method_74_code 26 = .ok (.iconst 2, 1) := by decide +kernel
theorem d_M_causeOf_27 : decode prog_12_method_74_code 27 = .ok (.goto 16, 3) := by decide +kernel
theorem d_M_causeOf_30 : decode prog_12_method_74_code 30 = .ok (.aload_n 0, 1) := by decide +kernel
theorem d_M_causeOf_31 : decode prog_12_method_74_code 31 = .ok (.iload_n 1, 1) := by decide +kernel
theorem d_M_causeOf_32 : decode prog_12_method_74_code 32 = .ok (.invokevirtual 322, 3) := by decide +kernel
theorem d_M_causeOf_35 : decode prog_12_method_74_code 35 = .ok (.ifCond .ne 7, 3) := by decide +kernel
theorem d_M_causeOf_38 : decode prog_12_method_74_code 38 = .ok (.iconst 3, 1) := by decide +kernel
theorem d_M_causeOf_39 : decode prog_12_method_74_code 39 = .ok (.goto 4, 3) := by decide +kernel
theorem d_M_causeOf_42 : decode prog_12_method_74_code 42 = .ok (.iconst 0, 1) := by decide +kernel
theorem d_M_causeOf_43 : decode prog_12_method_74_code 43 = .ok (.ireturn, 1) := by decide +kernel
theorem d_M_puts_0 : decode prog_12_method_76_code 0 = .ok (.iload_n 1, 1) := by decide +kernel
theorem d_M_puts_1 : decode prog_12_method_76_code 1 = .ok (.i2l, 1) := by decide +kernel
theorem d_M_puts_2 : decode prog_12_method_76_code 2 = .ok (.lconst 1, 1) := by decide +kernel
theorem d_M_puts_3 : decode prog_12_method_76_code 3 = .ok (.ldc2_w 283, 3) := by decide +kernel
theorem d_M_puts_6 : decode prog_12_method_76_code 6 = .ok (.invokestatic 85, 3) := by decide +kernel
theorem d_M_puts_9 : decode prog_12_method_76_code 9 = .ok (.ifCond .eq 15, 3) := by decide +kernel
theorem d_M_puts_12 : decode prog_12_method_76_code 12 = .ok (.aload_n 0, 1) := by decide +kernel
theorem d_M_puts_13 : decode prog_12_method_76_code 13 = .ok (.getfield 9, 3) := by decide +kernel
theorem d_M_puts_16 : decode prog_12_method_76_code 16 = .ok (.bipush 12, 2) := by decide +kernel
theorem d_M_puts_18 : decode prog_12_method_76_code 18 = .ok (.iload_n 1, 1) := by decide +kernel
theorem d_M_puts_19 : decode prog_12_method_76_code 19 = .ok (.iadd, 1) := by decide +kernel
theorem d_M_puts_20 : decode prog_12_method_76_code 20 = .ok (.iaload, 1) := by decide +kernel
theorem d_M_puts_21 : decode prog_12_method_76_code 21 = .ok (.goto 5, 3) := by decide +kernel
theorem d_M_puts_24 : decode prog_12_method_76_code 24 = .ok (.ldc 95, 2) := by decide +kernel
theorem d_M_puts_26 : decode prog_12_method_76_code 26 = .ok (.ireturn, 1) := by decide +kernel
theorem d_M_recall_0 : decode prog_12_method_82_code 0 = .ok (.aload_n 0, 1) := by decide +kernel
theorem d_M_recall_1 : decode prog_12_method_82_code 1 = .ok (.iload_n 1, 1) := by decide +kernel
theorem d_M_recall_2 : decode prog_12_method_82_code 2 = .ok (.iconst 2, 1) := by decide +kernel
theorem d_M_recall_3 : decode prog_12_method_82_code 3 = .ok (.invokevirtual 118, 3) := by decide +kernel
theorem d_M_recall_6 : decode prog_12_method_82_code 6 = .ok (.ifCond .ne 6, 3) := by decide +kernel
theorem d_M_recall_9 : decode prog_12_method_82_code 9 = .ok (.ldc 95, 2) := by decide +kernel
theorem d_M_recall_11 : decode prog_12_method_82_code 11 = .ok (.ireturn, 1) := by decide +kernel
theorem d_M_recall_12 : decode prog_12_method_82_code 12 = .ok (.aload_n 0, 1) := by decide +kernel
theorem d_M_recall_13 : decode prog_12_method_82_code 13 = .ok (.iload_n 1, 1) := by decide +kernel
theorem d_M_recall_14 : decode prog_12_method_82_code 14 = .ok (.iconst 3, 1) := by decide +kernel
theorem d_M_recall_15 : decode prog_12_method_82_code 15 = .ok (.invokevirtual 105, 3) := by decide +kernel
theorem d_M_recall_18 : decode prog_12_method_82_code 18 = .ok (.iconst 1, 1) := by decide +kernel
theorem d_M_recall_19 : decode prog_12_method_82_code 19 = .ok (.if_icmp .eq 6, 3) := by decide +kernel
theorem d_M_recall_22 : decode prog_12_method_82_code 22 = .ok (.ldc 139, 2) := by decide +kernel
theorem d_M_recall_24 : decode prog_12_method_82_code 24 = .ok (.ireturn, 1) := by decide +kernel
theorem d_M_recall_25 : decode prog_12_method_82_code 25 = .ok (.aload_n 0, 1) := by decide +kernel
theorem d_M_recall_26 : decode prog_12_method_82_code 26 = .ok (.getfield 9, 3) := by decide +kernel
theorem d_M_recall_29 : decode prog_12_method_82_code 29 = .ok (.iconst 4, 1) := by decide +kernel
theorem d_M_recall_30 : decode prog_12_method_82_code 30 = .ok (.iaload, 1) := by decide +kernel
theorem d_M_recall_31 : decode prog_12_method_82_code 31 = .ok (.bipush 30, 2) := by decide +kernel
theorem d_M_recall_33 : decode prog_12_method_82_code 33 = .ok (.if_icmp .ne 6, 3) := by decide +kernel
theorem d_M_recall_36 : decode prog_12_method_82_code 36 = .ok (.ldc 96, 2) := by decide +kernel
theorem d_M_recall_38 : decode prog_12_method_82_code 38 = .ok (.ireturn, 1) := by decide +kernel
theorem d_M_recall_39 : decode prog_12_method_82_code 39 = .ok (.aload_n 0, 1) := by decide +kernel
theorem d_M_recall_40 : decode prog_12_method_82_code 40 = .ok (.iload_n 1, 1) := by decide +kernel
theorem d_M_recall_41 : decode prog_12_method_82_code 41 = .ok (.iconst 3, 1) := by decide +kernel
theorem d_M_recall_42 : decode prog_12_method_82_code 42 = .ok (.iconst 0, 1) := by decide +kernel
theorem d_M_recall_43 : decode prog_12_method_82_code 43 = .ok (.invokevirtual 97, 3) := by decide +kernel
theorem d_M_recall_46 : decode prog_12_method_82_code 46 = .ok (.aload_n 0, 1) := by decide +kernel
theorem d_M_recall_47 : decode prog_12_method_82_code 47 = .ok (.iload_n 1, 1) := by decide +kernel
theorem d_M_recall_48 : decode prog_12_method_82_code 48 = .ok (.invokevirtual 101, 3) := by decide +kernel
theorem d_M_recall_51 : decode prog_12_method_82_code 51 = .ok (.iconst 1, 1) := by decide +kernel
theorem d_M_recall_52 : decode prog_12_method_82_code 52 = .ok (.ireturn, 1) := by decide +kernel
theorem d_M_unwind_0 : decode prog_12_method_83_code 0 = .ok (.aload_n 0, 1) := by decide +kernel
theorem d_M_unwind_1 : decode prog_12_method_83_code 1 = .ok (.iload_n 1, 1) := by decide +kernel
theorem d_M_unwind_2 : decode prog_12_method_83_code 2 = .ok (.bipush 10, 2) := by decide +kernel
theorem d_M_unwind_4 : decode prog_12_method_83_code 4 = .ok (.invokevirtual 118, 3) := by decide +kernel
theorem d_M_unwind_7 : decode prog_12_method_83_code 7 = .ok (.ifCond .ne 6, 3) := by decide +kernel
theorem d_M_unwind_10 : decode prog_12_method_83_code 10 = .ok (.ldc 95, 2) := by decide +kernel
theorem d_M_unwind_12 : decode prog_12_method_83_code 12 = .ok (.ireturn, 1) := by decide +kernel
theorem d_M_unwind_13 : decode prog_12_method_83_code 13 = .ok (.aload_n 0, 1) := by decide +kernel
theorem d_M_unwind_14 : decode prog_12_method_83_code 14 = .ok (.getfield 9, 3) := by decide +kernel
theorem d_M_unwind_17 : decode prog_12_method_83_code 17 = .ok (.iload_n 1, 1) := by decide +kernel
theorem d_M_unwind_18 : decode prog_12_method_83_code 18 = .ok (.iconst 0, 1) := by decide +kernel
theorem d_M_unwind_19 : decode prog_12_method_83_code 19 = .ok (.invokestatic 316, 3) := by decide +kernel
theorem d_M_unwind_22 : decode prog_12_method_83_code 22 = .ok (.iaload, 1) := by decide +kernel
theorem d_M_unwind_23 : decode prog_12_method_83_code 23 = .ok (.istore_n 2, 1) := by decide +kernel
theorem d_M_unwind_24 : decode prog_12_method_83_code 24 = .ok (.iconst (-1), 1) := by decide +kernel
theorem d_M_unwind_25 : decode prog_12_method_83_code 25 = .ok (.istore_n 3, 1) := by decide +kernel
theorem d_M_unwind_26 : decode prog_12_method_83_code 26 = .ok (.iconst 0, 1) := by decide +kernel
theorem d_M_unwind_27 : decode prog_12_method_83_code 27 = .ok (.istore 4, 2) := by decide +kernel
theorem d_M_unwind_29 : decode prog_12_method_83_code 29 = .ok (.iload 4, 2) := by decide +kernel
theorem d_M_unwind_31 : decode prog_12_method_83_code 31 = .ok (.aload_n 0, 1) := by decide +kernel
theorem d_M_unwind_32 : decode prog_12_method_83_code 32 = .ok (.getfield 9, 3) := by decide +kernel
theorem d_M_unwind_35 : decode prog_12_method_83_code 35 = .ok (.bipush 10, 2) := by decide +kernel
theorem d_M_unwind_37 : decode prog_12_method_83_code 37 = .ok (.iaload, 1) := by decide +kernel
theorem d_M_unwind_38 : decode prog_12_method_83_code 38 = .ok (.if_icmp .ge 46, 3) := by decide +kernel
theorem d_M_unwind_41 : decode prog_12_method_83_code 41 = .ok (.aload_n 0, 1) := by decide +kernel
theorem d_M_unwind_42 : decode prog_12_method_83_code 42 = .ok (.getfield 9, 3) := by decide +kernel
theorem d_M_unwind_45 : decode prog_12_method_83_code 45 = .ok (.iload 4, 2) := by decide +kernel
theorem d_M_unwind_47 : decode prog_12_method_83_code 47 = .ok (.iconst 0, 1) := by decide +kernel
theorem d_M_unwind_48 : decode prog_12_method_83_code 48 = .ok (.invokestatic 316, 3) := by decide +kernel
theorem d_M_unwind_51 : decode prog_12_method_83_code 51 = .ok (.iaload, 1) := by decide +kernel
theorem d_M_unwind_52 : decode prog_12_method_83_code 52 = .ok (.iload_n 2, 1) := by decide +kernel
theorem d_M_unwind_53 : decode prog_12_method_83_code 53 = .ok (.if_icmp .ne 23, 3) := by decide +kernel
theorem d_M_unwind_56 : decode prog_12_method_83_code 56 = .ok (.aload_n 0, 1) := by decide +kernel
theorem d_M_unwind_57 : decode prog_12_method_83_code 57 = .ok (.getfield 9, 3) := by decide +kernel
theorem d_M_unwind_60 : decode prog_12_method_83_code 60 = .ok (.iload 4, 2) := by decide +kernel
theorem d_M_unwind_62 : decode prog_12_method_83_code 62 = .ok (.iconst 2, 1) := by decide +kernel
theorem d_M_unwind_63 : decode prog_12_method_83_code 63 = .ok (.invokestatic 316, 3) := by decide +kernel
theorem d_M_unwind_66 : decode prog_12_method_83_code 66 = .ok (.iaload, 1) := by decide +kernel
theorem d_M_unwind_67 : decode prog_12_method_83_code 67 = .ok (.iconst 2, 1) := by decide +kernel
theorem d_M_unwind_68 : decode prog_12_method_83_code 68 = .ok (.if_icmp .ne 8, 3) := by decide +kernel
theorem d_M_unwind_71 : decode prog_12_method_83_code 71 = .ok (.iload 4, 2) := by decide +kernel
theorem d_M_unwind_73 : decode prog_12_method_83_code 73 = .ok (.goto 4, 3) := by decide +kernel
theorem d_M_unwind_76 : decode prog_12_method_83_code 76 = .ok (.iload_n 3, 1) := by decide +kernel
theorem d_M_unwind_77 : decode prog_12_method_83_code 77 = .ok (.istore_n 3, 1) := by decide +kernel
theorem d_M_unwind_78 : decode prog_12_method_83_code 78 = .ok (.iinc 4 1, 3) := by decide +kernel
theorem d_M_unwind_81 : decode prog_12_method_83_code 81 = .ok (.goto (-52), 3) := by decide +kernel
theorem d_M_unwind_84 : decode prog_12_method_83_code 84 = .ok (.iload_n 3, 1) := by decide +kernel
theorem d_M_unwind_85 : decode prog_12_method_83_code 85 = .ok (.iload_n 1, 1) := by decide +kernel
theorem d_M_unwind_86 : decode prog_12_method_83_code 86 = .ok (.if_icmp .ne 13, 3) := by decide +kernel
theorem d_M_unwind_89 : decode prog_12_method_83_code 89 = .ok (.aload_n 0, 1) := by decide +kernel
theorem d_M_unwind_90 : decode prog_12_method_83_code 90 = .ok (.iload_n 2, 1) := by decide +kernel
theorem d_M_unwind_91 : decode prog_12_method_83_code 91 = .ok (.iconst 3, 1) := by decide +kernel
theorem d_M_unwind_92 : decode prog_12_method_83_code 92 = .ok (.invokevirtual 105, 3) := by decide +kernel
theorem d_M_unwind_95 : decode prog_12_method_83_code 95 = .ok (.iconst 1, 1) := by decide +kernel
theorem d_M_unwind_96 : decode prog_12_method_83_code 96 = .ok (.if_icmp .eq 6, 3) := by decide +kernel
theorem d_M_unwind_99 : decode prog_12_method_83_code 99 = .ok (.ldc 139, 2) := by decide +kernel
theorem d_M_unwind_101 : decode prog_12_method_83_code 101 = .ok (.ireturn, 1) := by decide +kernel
theorem d_M_unwind_102 : decode prog_12_method_83_code 102 = .ok (.aload_n 0, 1) := by decide +kernel
theorem d_M_unwind_103 : decode prog_12_method_83_code 103 = .ok (.aload_n 0, 1) := by decide +kernel
theorem d_M_unwind_104 : decode prog_12_method_83_code 104 = .ok (.iload_n 2, 1) := by decide +kernel
theorem d_M_unwind_105 : decode prog_12_method_83_code 105 = .ok (.iconst 0, 1) := by decide +kernel
theorem d_M_unwind_106 : decode prog_12_method_83_code 106 = .ok (.invokevirtual 105, 3) := by decide +kernel
theorem d_M_unwind_109 : decode prog_12_method_83_code 109 = .ok (.iconst 4, 1) := by decide +kernel
theorem d_M_unwind_110 : decode prog_12_method_83_code 110 = .ok (.aload_n 0, 1) := by decide +kernel
theorem d_M_unwind_111 : decode prog_12_method_83_code 111 = .ok (.getfield 9, 3) := by decide +kernel
theorem d_M_unwind_114 : decode prog_12_method_83_code 114 = .ok (.iconst 0, 1) := by decide +kernel
theorem d_M_unwind_115 : decode prog_12_method_83_code 115 = .ok (.iaload, 1) := by decide +kernel
theorem d_M_unwind_116 : decode prog_12_method_83_code 116 = .ok (.aload_n 0, 1) := by decide +kernel
theorem d_M_unwind_117 : decode prog_12_method_83_code 117 = .ok (.getfield 9, 3) := by decide +kernel
theorem d_M_unwind_120 : decode prog_12_method_83_code 120 = .ok (.iload_n 1, 1) := by decide +kernel
theorem d_M_unwind_121 : decode prog_12_method_83_code 121 = .ok (.iconst 1, 1) := by decide +kernel
theorem d_M_unwind_122 : decode prog_12_method_83_code 122 = .ok (.invokestatic 316, 3) := by decide +kernel
theorem d_M_unwind_125 : decode prog_12_method_83_code 125 = .ok (.iaload, 1) := by decide +kernel
theorem d_M_unwind_126 : decode prog_12_method_83_code 126 = .ok (.isub, 1) := by decide +kernel
theorem d_M_unwind_127 : decode prog_12_method_83_code 127 = .ok (.iconst 0, 1) := by decide +kernel
theorem d_M_unwind_128 : decode prog_12_method_83_code 128 = .ok (.iconst 0, 1) := by decide +kernel
theorem d_M_unwind_129 : decode prog_12_method_83_code 129 = .ok (.iconst 0, 1) := by decide +kernel
theorem d_M_unwind_130 : decode prog_12_method_83_code 130 = .ok (.invokevirtual 170, 3) := by decide +kernel
theorem d_M_unwind_133 : decode prog_12_method_83_code 133 = .ok (.ifCond .eq 7, 3) := by decide +kernel
theorem d_M_unwind_136 : decode prog_12_method_83_code 136 = .ok (.iconst 1, 1) := by decide +kernel
theorem d_M_unwind_137 : decode prog_12_method_83_code 137 = .ok (.goto 4, 3) := by decide +kernel
theorem d_M_unwind_140 : decode prog_12_method_83_code 140 = .ok (.iconst 0, 1) := by decide +kernel
theorem d_M_unwind_141 : decode prog_12_method_83_code 141 = .ok (.istore 4, 2) := by decide +kernel
theorem d_M_unwind_143 : decode prog_12_method_83_code 143 = .ok (.iload 4, 2) := by decide +kernel
theorem d_M_unwind_145 : decode prog_12_method_83_code 145 = .ok (.ifCond .ne 17, 3) := by decide +kernel
theorem d_M_unwind_148 : decode prog_12_method_83_code 148 = .ok (.aload_n 0, 1) := by decide +kernel
theorem d_M_unwind_149 : decode prog_12_method_83_code 149 = .ok (.getfield 9, 3) := by decide +kernel
theorem d_M_unwind_152 : decode prog_12_method_83_code 152 = .ok (.iconst 4, 1) := by decide +kernel
theorem d_M_unwind_153 : decode prog_12_method_83_code 153 = .ok (.iaload, 1) := by decide +kernel
theorem d_M_unwind_154 : decode prog_12_method_83_code 154 = .ok (.bipush 30, 2) := by decide +kernel
theorem d_M_unwind_156 : decode prog_12_method_83_code 156 = .ok (.if_icmp .ne 6, 3) := by decide +kernel
theorem d_M_unwind_159 : decode prog_12_method_83_code 159 = .ok (.ldc 96, 2) := by decide +kernel
theorem d_M_unwind_161 : decode prog_12_method_83_code 161 = .ok (.ireturn, 1) := by decide +kernel
theorem d_M_unwind_162 : decode prog_12_method_83_code 162 = .ok (.aload_n 0, 1) := by decide +kernel
theorem d_M_unwind_163 : decode prog_12_method_83_code 163 = .ok (.getfield 9, 3) := by decide +kernel
theorem d_M_unwind_166 : decode prog_12_method_83_code 166 = .ok (.iload_n 1, 1) := by decide +kernel
theorem d_M_unwind_167 : decode prog_12_method_83_code 167 = .ok (.iconst 2, 1) := by decide +kernel
theorem d_M_unwind_168 : decode prog_12_method_83_code 168 = .ok (.invokestatic 316, 3) := by decide +kernel
theorem d_M_unwind_171 : decode prog_12_method_83_code 171 = .ok (.iconst 3, 1) := by decide +kernel
theorem d_M_unwind_172 : decode prog_12_method_83_code 172 = .ok (.iastore, 1) := by decide +kernel
theorem d_M_unwind_173 : decode prog_12_method_83_code 173 = .ok (.aload_n 0, 1) := by decide +kernel
theorem d_M_unwind_174 : decode prog_12_method_83_code 174 = .ok (.iload_n 2, 1) := by decide +kernel
theorem d_M_unwind_175 : decode prog_12_method_83_code 175 = .ok (.iconst 3, 1) := by decide +kernel
theorem d_M_unwind_176 : decode prog_12_method_83_code 176 = .ok (.iconst 0, 1) := by decide +kernel
theorem d_M_unwind_177 : decode prog_12_method_83_code 177 = .ok (.invokevirtual 97, 3) := by decide +kernel
theorem d_M_unwind_180 : decode prog_12_method_83_code 180 = .ok (.iload 4, 2) := by decide +kernel
theorem d_M_unwind_182 : decode prog_12_method_83_code 182 = .ok (.ifCond .ne 10, 3) := by decide +kernel
theorem d_M_unwind_185 : decode prog_12_method_83_code 185 = .ok (.aload_n 0, 1) := by decide +kernel
theorem d_M_unwind_186 : decode prog_12_method_83_code 186 = .ok (.iload_n 2, 1) := by decide +kernel
theorem d_M_unwind_187 : decode prog_12_method_83_code 187 = .ok (.invokevirtual 101, 3) := by decide +kernel
theorem d_M_unwind_190 : decode prog_12_method_83_code 190 = .ok (.iconst 0, 1) := by decide +kernel
theorem d_M_unwind_191 : decode prog_12_method_83_code 191 = .ok (.ireturn, 1) := by decide +kernel
theorem d_M_unwind_192 : decode prog_12_method_83_code 192 = .ok (.iconst 0, 1) := by decide +kernel
theorem d_M_unwind_193 : decode prog_12_method_83_code 193 = .ok (.istore 5, 2) := by decide +kernel
theorem d_M_unwind_195 : decode prog_12_method_83_code 195 = .ok (.iload 5, 2) := by decide +kernel
theorem d_M_unwind_197 : decode prog_12_method_83_code 197 = .ok (.aload_n 0, 1) := by decide +kernel
theorem d_M_unwind_198 : decode prog_12_method_83_code 198 = .ok (.getfield 9, 3) := by decide +kernel
theorem d_M_unwind_201 : decode prog_12_method_83_code 201 = .ok (.iconst 4, 1) := by decide +kernel
theorem d_M_unwind_202 : decode prog_12_method_83_code 202 = .ok (.iaload, 1) := by decide +kernel
theorem d_M_unwind_203 : decode prog_12_method_83_code 203 = .ok (.if_icmp .ge 34, 3) := by decide +kernel
theorem d_M_unwind_206 : decode prog_12_method_83_code 206 = .ok (.aload_n 0, 1) := by decide +kernel
theorem d_M_unwind_207 : decode prog_12_method_83_code 207 = .ok (.getfield 9, 3) := by decide +kernel
theorem d_M_unwind_210 : decode prog_12_method_83_code 210 = .ok (.sipush 164, 3) := by decide +kernel
theorem d_M_unwind_213 : decode prog_12_method_83_code 213 = .ok (.iconst 3, 1) := by decide +kernel
theorem d_M_unwind_214 : decode prog_12_method_83_code 214 = .ok (.iload 5, 2) := by decide +kernel
theorem d_M_unwind_216 : decode prog_12_method_83_code 216 = .ok (.imul, 1) := by decide +kernel
theorem d_M_unwind_217 : decode prog_12_method_83_code 217 = .ok (.iadd, 1) := by decide +kernel
theorem d_M_unwind_218 : decode prog_12_method_83_code 218 = .ok (.iaload, 1) := by decide +kernel
theorem d_M_unwind_219 : decode prog_12_method_83_code 219 = .ok (.iload_n 2, 1) := by decide +kernel
theorem d_M_unwind_220 : decode prog_12_method_83_code 220 = .ok (.if_icmp .ne 11, 3) := by decide +kernel
theorem d_M_unwind_223 : decode prog_12_method_83_code 223 = .ok (.aload_n 0, 1) := by decide +kernel
theorem d_M_unwind_224 : decode prog_12_method_83_code 224 = .ok (.iload_n 2, 1) := by decide +kernel
theorem d_M_unwind_225 : decode prog_12_method_83_code 225 = .ok (.iconst 5, 1) := by decide +kernel
theorem d_M_unwind_226 : decode prog_12_method_83_code 226 = .ok (.iload 5, 2) := by decide +kernel
theorem d_M_unwind_228 : decode prog_12_method_83_code 228 = .ok (.invokevirtual 97, 3) := by decide +kernel
theorem d_M_unwind_231 : decode prog_12_method_83_code 231 = .ok (.iinc 5 1, 3) := by decide +kernel
theorem d_M_unwind_234 : decode prog_12_method_83_code 234 = .ok (.goto (-39), 3) := by decide +kernel
theorem d_M_unwind_237 : decode prog_12_method_83_code 237 = .ok (.aload_n 0, 1) := by decide +kernel
theorem d_M_unwind_238 : decode prog_12_method_83_code 238 = .ok (.getfield 9, 3) := by decide +kernel
theorem d_M_unwind_241 : decode prog_12_method_83_code 241 = .ok (.sipush 164, 3) := by decide +kernel
theorem d_M_unwind_244 : decode prog_12_method_83_code 244 = .ok (.iconst 3, 1) := by decide +kernel
theorem d_M_unwind_245 : decode prog_12_method_83_code 245 = .ok (.aload_n 0, 1) := by decide +kernel
theorem d_M_unwind_246 : decode prog_12_method_83_code 246 = .ok (.iload_n 2, 1) := by decide +kernel
theorem d_M_unwind_247 : decode prog_12_method_83_code 247 = .ok (.iconst 5, 1) := by decide +kernel
theorem d_M_unwind_248 : decode prog_12_method_83_code 248 = .ok (.invokevirtual 105, 3) := by decide +kernel
theorem d_M_unwind_251 : decode prog_12_method_83_code 251 = .ok (.imul, 1) := by decide +kernel
theorem d_M_unwind_252 : decode prog_12_method_83_code 252 = .ok (.iadd, 1) := by decide +kernel
theorem d_M_unwind_253 : decode prog_12_method_83_code 253 = .ok (.iconst 2, 1) := by decide +kernel
theorem d_M_unwind_254 : decode prog_12_method_83_code 254 = .ok (.iadd, 1) := by decide +kernel
theorem d_M_unwind_255 : decode prog_12_method_83_code 255 = .ok (.iconst (-1), 1) := by decide +kernel
theorem d_M_unwind_256 : decode prog_12_method_83_code 256 = .ok (.iastore, 1) := by decide +kernel
theorem d_M_unwind_257 : decode prog_12_method_83_code 257 = .ok (.iconst 1, 1) := by decide +kernel
theorem d_M_unwind_258 : decode prog_12_method_83_code 258 = .ok (.ireturn, 1) := by decide +kernel
theorem d_M_putOff_0 : decode prog_12_method_77_code 0 = .ok (.aload_n 0, 1) := by decide +kernel
theorem d_M_putOff_1 : decode prog_12_method_77_code 1 = .ok (.getfield 9, 3) := by decide +kernel
theorem d_M_putOff_4 : decode prog_12_method_77_code 4 = .ok (.iload_n 1, 1) := by decide +kernel
theorem d_M_putOff_5 : decode prog_12_method_77_code 5 = .ok (.iconst 0, 1) := by decide +kernel
theorem d_M_putOff_6 : decode prog_12_method_77_code 6 = .ok (.invokestatic 316, 3) := by decide +kernel
theorem d_M_putOff_9 : decode prog_12_method_77_code 9 = .ok (.iaload, 1) := by decide +kernel
theorem d_M_putOff_10 : decode prog_12_method_77_code 10 = .ok (.istore_n 3, 1) := by decide +kernel
theorem d_M_putOff_11 : decode prog_12_method_77_code 11 = .ok (.aload_n 0, 1) := by decide +kernel
theorem d_M_putOff_12 : decode prog_12_method_77_code 12 = .ok (.getfield 9, 3) := by decide +kernel
theorem d_M_putOff_15 : decode prog_12_method_77_code 15 = .ok (.iload_n 1, 1) := by decide +kernel
theorem d_M_putOff_16 : decode prog_12_method_77_code 16 = .ok (.iconst 1, 1) := by decide +kernel
theorem d_M_putOff_17 : decode prog_12_method_77_code 17 = .ok (.invokestatic 316, 3) := by decide +kernel
theorem d_M_putOff_20 : decode prog_12_method_77_code 20 = .ok (.aload_n 0, 1) := by decide +kernel
theorem d_M_putOff_21 : decode prog_12_method_77_code 21 = .ok (.getfield 9, 3) := by decide +kernel
theorem d_M_putOff_24 : decode prog_12_method_77_code 24 = .ok (.iconst 0, 1) := by decide +kernel
theorem d_M_putOff_25 : decode prog_12_method_77_code 25 = .ok (.iaload, 1) := by decide +kernel
theorem d_M_putOff_26 : decode prog_12_method_77_code 26 = .ok (.aload_n 0, 1) := by decide +kernel
theorem d_M_putOff_27 : decode prog_12_method_77_code 27 = .ok (.aload_n 0, 1) := by decide +kernel
theorem d_M_putOff_28 : decode prog_12_method_77_code 28 = .ok (.iload_n 3, 1) := by decide +kernel
theorem d_M_putOff_29 : decode prog_12_method_77_code 29 = .ok (.iconst 0, 1) := by decide +kernel
theorem d_M_putOff_30 : decode prog_12_method_77_code 30 = .ok (.invokevirtual 105, 3) := by decide +kernel
theorem d_M_putOff_33 : decode prog_12_method_77_code 33 = .ok (.iconst 3, 1) := by decide +kernel
theorem d_M_putOff_34 : decode prog_12_method_77_code 34 = .ok (.iload_n 2, 1) := by decide +kernel
theorem d_M_putOff_35 : decode prog_12_method_77_code 35 = .ok (.iconst 0, 1) := by decide +kernel
theorem d_M_putOff_36 : decode prog_12_method_77_code 36 = .ok (.iconst 0, 1) := by decide +kernel
theorem d_M_putOff_37 : decode prog_12_method_77_code 37 = .ok (.iconst 0, 1) := by decide +kernel
theorem d_M_putOff_38 : decode prog_12_method_77_code 38 = .ok (.invokevirtual 170, 3) := by decide +kernel
theorem d_M_putOff_41 : decode prog_12_method_77_code 41 = .ok (.iadd, 1) := by decide +kernel
theorem d_M_putOff_42 : decode prog_12_method_77_code 42 = .ok (.iastore, 1) := by decide +kernel
theorem d_M_putOff_43 : decode prog_12_method_77_code 43 = .ok (.aload_n 0, 1) := by decide +kernel
theorem d_M_putOff_44 : decode prog_12_method_77_code 44 = .ok (.getfield 9, 3) := by decide +kernel
theorem d_M_putOff_47 : decode prog_12_method_77_code 47 = .ok (.iload_n 1, 1) := by decide +kernel
theorem d_M_putOff_48 : decode prog_12_method_77_code 48 = .ok (.iconst 3, 1) := by decide +kernel
theorem d_M_putOff_49 : decode prog_12_method_77_code 49 = .ok (.invokestatic 316, 3) := by decide +kernel
theorem d_M_putOff_52 : decode prog_12_method_77_code 52 = .ok (.dup2, 1) := by decide +kernel
theorem d_M_putOff_53 : decode prog_12_method_77_code 53 = .ok (.iaload, 1) := by decide +kernel
theorem d_M_putOff_54 : decode prog_12_method_77_code 54 = .ok (.iconst 1, 1) := by decide +kernel
theorem d_M_putOff_55 : decode prog_12_method_77_code 55 = .ok (.iadd, 1) := by decide +kernel
theorem d_M_putOff_56 : decode prog_12_method_77_code 56 = .ok (.iastore, 1) := by decide +kernel
theorem d_M_putOff_57 : decode prog_12_method_77_code 57 = .ok (.aload_n 0, 1) := by decide +kernel
theorem d_M_putOff_58 : decode prog_12_method_77_code 58 = .ok (.getfield 9, 3) := by decide +kernel
theorem d_M_putOff_61 : decode prog_12_method_77_code 61 = .ok (.iload_n 1, 1) := by decide +kernel
theorem d_M_putOff_62 : decode prog_12_method_77_code 62 = .ok (.iconst 4, 1) := by decide +kernel
theorem d_M_putOff_63 : decode prog_12_method_77_code 63 = .ok (.invokestatic 316, 3) := by decide +kernel
theorem d_M_putOff_66 : decode prog_12_method_77_code 66 = .ok (.iload_n 2, 1) := by decide +kernel
theorem d_M_putOff_67 : decode prog_12_method_77_code 67 = .ok (.iastore, 1) := by decide +kernel
theorem d_M_putOff_68 : decode prog_12_method_77_code 68 = .ok (.aload_n 0, 1) := by decide +kernel
theorem d_M_putOff_69 : decode prog_12_method_77_code 69 = .ok (.getfield 9, 3) := by decide +kernel
theorem d_M_putOff_72 : decode prog_12_method_77_code 72 = .ok (.bipush 12, 2) := by decide +kernel
theorem d_M_putOff_74 : decode prog_12_method_77_code 74 = .ok (.iload_n 2, 1) := by decide +kernel
theorem d_M_putOff_75 : decode prog_12_method_77_code 75 = .ok (.iadd, 1) := by decide +kernel
theorem d_M_putOff_76 : decode prog_12_method_77_code 76 = .ok (.dup2, 1) := by decide +kernel
theorem d_M_putOff_77 : decode prog_12_method_77_code 77 = .ok (.iaload, 1) := by decide +kernel
theorem d_M_putOff_78 : decode prog_12_method_77_code 78 = .ok (.iconst 1, 1) := by decide +kernel
theorem d_M_putOff_79 : decode prog_12_method_77_code 79 = .ok (.iadd, 1) := by decide +kernel
theorem d_M_putOff_80 : decode prog_12_method_77_code 80 = .ok (.iastore, 1) := by decide +kernel
theorem d_M_putOff_81 : decode prog_12_method_77_code 81 = .ok (.return_, 1) := by decide +kernel
theorem d_M_prisonGoes_0 : decode prog_12_method_80_code 0 = .ok (.iconst 0, 1) := by decide +kernel
theorem d_M_prisonGoes_1 : decode prog_12_method_80_code 1 = .ok (.istore_n 2, 1) := by decide +kernel
theorem d_M_prisonGoes_2 : decode prog_12_method_80_code 2 = .ok (.iconst 0, 1) := by decide +kernel
theorem d_M_prisonGoes_3 : decode prog_12_method_80_code 3 = .ok (.istore_n 3, 1) := by decide +kernel
theorem d_M_prisonGoes_4 : decode prog_12_method_80_code 4 = .ok (.iconst 0, 1) := by decide +kernel
theorem d_M_prisonGoes_5 : decode prog_12_method_80_code 5 = .ok (.istore 4, 2) := by decide +kernel
theorem d_M_prisonGoes_7 : decode prog_12_method_80_code 7 = .ok (.iload 4, 2) := by decide +kernel
theorem d_M_prisonGoes_9 : decode prog_12_method_80_code 9 = .ok (.aload_n 0, 1) := by decide +kernel
theorem d_M_prisonGoes_10 : decode prog_12_method_80_code 10 = .ok (.getfield 9, 3) := by decide +kernel
theorem d_M_prisonGoes_13 : decode prog_12_method_80_code 13 = .ok (.bipush 10, 2) := by decide +kernel
theorem d_M_prisonGoes_15 : decode prog_12_method_80_code 15 = .ok (.iaload, 1) := by decide +kernel
theorem d_M_prisonGoes_16 : decode prog_12_method_80_code 16 = .ok (.if_icmp .ge 90, 3) := by decide +kernel
theorem d_M_prisonGoes_19 : decode prog_12_method_80_code 19 = .ok (.aload_n 0, 1) := by decide +kernel
theorem d_M_prisonGoes_20 : decode prog_12_method_80_code 20 = .ok (.getfield 9, 3) := by decide +kernel
theorem d_M_prisonGoes_23 : decode prog_12_method_80_code 23 = .ok (.iload 4, 2) := by decide +kernel
theorem d_M_prisonGoes_25 : decode prog_12_method_80_code 25 = .ok (.iconst 0, 1) := by decide +kernel
theorem d_M_prisonGoes_26 : decode prog_12_method_80_code 26 = .ok (.invokestatic 316, 3) := by decide +kernel
theorem d_M_prisonGoes_29 : decode prog_12_method_80_code 29 = .ok (.iaload, 1) := by decide +kernel
theorem d_M_prisonGoes_30 : decode prog_12_method_80_code 30 = .ok (.istore 5, 2) := by decide +kernel
theorem d_M_prisonGoes_32 : decode prog_12_method_80_code 32 = .ok (.aload_n 0, 1) := by decide +kernel
theorem d_M_prisonGoes_33 : decode prog_12_method_80_code 33 = .ok (.iload 4, 2) := by decide +kernel
theorem d_M_prisonGoes_35 : decode prog_12_method_80_code 35 = .ok (.invokevirtual 328, 3) := by decide +kernel
theorem d_M_prisonGoes_38 : decode prog_12_method_80_code 38 = .ok (.ifCond .eq 62, 3) := by decide +kernel
theorem d_M_prisonGoes_41 : decode prog_12_method_80_code 41 = .ok (.aload_n 0, 1) := by decide +kernel
theorem d_M_prisonGoes_42 : decode prog_12_method_80_code 42 = .ok (.iload 5, 2) := by decide +kernel
theorem d_M_prisonGoes_44 : decode prog_12_method_80_code 44 = .ok (.iconst 3, 1) := by decide +kernel
theorem d_M_prisonGoes_45 : decode prog_12_method_80_code 45 = .ok (.invokevirtual 105, 3) := by decide +kernel
theorem d_M_prisonGoes_48 : decode prog_12_method_80_code 48 = .ok (.ifCond .ne 52, 3) := by decide +kernel
theorem d_M_prisonGoes_51 : decode prog_12_method_80_code 51 = .ok (.aload_n 0, 1) := by decide +kernel
theorem d_M_prisonGoes_52 : decode prog_12_method_80_code 52 = .ok (.iload 5, 2) := by decide +kernel
theorem d_M_prisonGoes_54 : decode prog_12_method_80_code 54 = .ok (.iconst 1, 1) := by decide +kernel
theorem d_M_prisonGoes_55 : decode prog_12_method_80_code 55 = .ok (.invokevirtual 105, 3) := by decide +kernel
theorem d_M_prisonGoes_58 : decode prog_12_method_80_code 58 = .ok (.iload_n 1, 1) := by decide +kernel
theorem d_M_prisonGoes_59 : decode prog_12_method_80_code 59 = .ok (.if_icmp .ne 41, 3) := by decide +kernel
theorem d_M_prisonGoes_62 : decode prog_12_method_80_code 62 = .ok (.aload_n 0, 1) := by decide +kernel
theorem d_M_prisonGoes_63 : decode prog_12_method_80_code 63 = .ok (.iload 5, 2) := by decide +kernel
theorem d_M_prisonGoes_65 : decode prog_12_method_80_code 65 = .ok (.invokevirtual 325, 3) := by decide +kernel
theorem d_M_prisonGoes_68 : decode prog_12_method_80_code 68 = .ok (.istore 6, 2) := by decide +kernel
theorem d_M_prisonGoes_70 : decode prog_12_method_80_code 70 = .ok (.iload 6, 2) := by decide +kernel
theorem d_M_prisonGoes_72 : decode prog_12_method_80_code 72 = .ok (.ifCond .le 14, 3) := by decide +kernel
theorem d_M_prisonGoes_75 : decode prog_12_method_80_code 75 = .ok (.aload_n 0, 1) := by decide +kernel
theorem d_M_prisonGoes_76 : decode prog_12_method_80_code 76 = .ok (.iload 4, 2) := by decide +kernel
theorem d_M_prisonGoes_78 : decode prog_12_method_80_code 78 = .ok (.iload 6, 2) := by decide +kernel
theorem d_M_prisonGoes_80 : decode prog_12_method_80_code 80 = .ok (.invokevirtual 331, 3) := by decide +kernel
theorem d_M_prisonGoes_83 : decode prog_12_method_80_code 83 = .ok (.goto 17, 3) := by decide +kernel
theorem d_M_prisonGoes_86 : decode prog_12_method_80_code 86 = .ok (.iload_n 2, 1) := by decide +kernel
theorem d_M_prisonGoes_87 : decode prog_12_method_80_code 87 = .ok (.iconst 1, 1) := by decide +kernel
theorem d_M_prisonGoes_88 : decode prog_12_method_80_code 88 = .ok (.iload 4, 2) := by decide +kernel
theorem d_M_prisonGoes_90 : decode prog_12_method_80_code 90 = .ok (.ishl, 1) := by decide +kernel
theorem d_M_prisonGoes_91 : decode prog_12_method_80_code 91 = .ok (.ior, 1) := by decide +kernel
theorem d_M_prisonGoes_92 : decode prog_12_method_80_code 92 = .ok (.istore_n 2, 1) := by decide +kernel
theorem d_M_prisonGoes_93 : decode prog_12_method_80_code 93 = .ok (.iload_n 3, 1) := by decide +kernel
theorem d_M_prisonGoes_94 : decode prog_12_method_80_code 94 = .ok (.iconst 1, 1) := by decide +kernel
theorem d_M_prisonGoes_95 : decode prog_12_method_80_code 95 = .ok (.iload 5, 2) := by decide +kernel
theorem d_M_prisonGoes_97 : decode prog_12_method_80_code 97 = .ok (.ishl, 1) := by decide +kernel
theorem d_M_prisonGoes_98 : decode prog_12_method_80_code 98 = .ok (.ior, 1) := by decide +kernel
theorem d_M_prisonGoes_99 : decode prog_12_method_80_code 99 = .ok (.istore_n 3, 1) := by decide +kernel
theorem d_M_prisonGoes_100 : decode prog_12_method_80_code 100 = .ok (.iinc 4 1, 3) := by decide +kernel
theorem d_M_prisonGoes_103 : decode prog_12_method_80_code 103 = .ok (.goto (-96), 3) := by decide +kernel
theorem d_M_prisonGoes_106 : decode prog_12_method_80_code 106 = .ok (.aload_n 0, 1) := by decide +kernel
theorem d_M_prisonGoes_107 : decode prog_12_method_80_code 107 = .ok (.iload_n 3, 1) := by decide +kernel
theorem d_M_prisonGoes_108 : decode prog_12_method_80_code 108 = .ok (.iload_n 1, 1) := by decide +kernel
theorem d_M_prisonGoes_109 : decode prog_12_method_80_code 109 = .ok (.aload_n 0, 1) := by decide +kernel
theorem d_M_prisonGoes_110 : decode prog_12_method_80_code 110 = .ok (.getfield 9, 3) := by decide +kernel
theorem d_M_prisonGoes_113 : decode prog_12_method_80_code 113 = .ok (.iconst 0, 1) := by decide +kernel
theorem d_M_prisonGoes_114 : decode prog_12_method_80_code 114 = .ok (.iaload, 1) := by decide +kernel
theorem d_M_prisonGoes_115 : decode prog_12_method_80_code 115 = .ok (.invokevirtual 313, 3) := by decide +kernel
theorem d_M_prisonGoes_118 : decode prog_12_method_80_code 118 = .ok (.istore 4, 2) := by decide +kernel
theorem d_M_prisonGoes_120 : decode prog_12_method_80_code 120 = .ok (.iconst 0, 1) := by decide +kernel
theorem d_M_prisonGoes_121 : decode prog_12_method_80_code 121 = .ok (.istore 5, 2) := by decide +kernel
theorem d_M_prisonGoes_123 : decode prog_12_method_80_code 123 = .ok (.iload 5, 2) := by decide +kernel
theorem d_M_prisonGoes_125 : decode prog_12_method_80_code 125 = .ok (.aload_n 0, 1) := by decide +kernel
theorem d_M_prisonGoes_126 : decode prog_12_method_80_code 126 = .ok (.getfield 9, 3) := by decide +kernel
theorem d_M_prisonGoes_129 : decode prog_12_method_80_code 129 = .ok (.bipush 10, 2) := by decide +kernel
theorem d_M_prisonGoes_131 : decode prog_12_method_80_code 131 = .ok (.iaload, 1) := by decide +kernel
theorem d_M_prisonGoes_132 : decode prog_12_method_80_code 132 = .ok (.if_icmp .ge 30, 3) := by decide +kernel
theorem d_M_prisonGoes_135 : decode prog_12_method_80_code 135 = .ok (.iload 4, 2) := by decide +kernel
theorem d_M_prisonGoes_137 : decode prog_12_method_80_code 137 = .ok (.ifCond .ge 25, 3) := by decide +kernel
theorem d_M_prisonGoes_140 : decode prog_12_method_80_code 140 = .ok (.iload_n 2, 1) := by decide +kernel
theorem d_M_prisonGoes_141 : decode prog_12_method_80_code 141 = .ok (.iload 5, 2) := by decide +kernel
theorem d_M_prisonGoes_143 : decode prog_12_method_80_code 143 = .ok (.invokestatic 303, 3) := by decide +kernel
theorem d_M_prisonGoes_146 : decode prog_12_method_80_code 146 = .ok (.ifCond .eq 10, 3) := by decide +kernel
theorem d_M_prisonGoes_149 : decode prog_12_method_80_code 149 = .ok (.aload_n 0, 1) := by decide +kernel
theorem d_M_prisonGoes_150 : decode prog_12_method_80_code 150 = .ok (.iload 5, 2) := by decide +kernel
theorem d_M_prisonGoes_152 : decode prog_12_method_80_code 152 = .ok (.iconst 4, 1) := by decide +kernel
theorem d_M_prisonGoes_153 : decode prog_12_method_80_code 153 = .ok (.invokevirtual 331, 3) := by decide +kernel
theorem d_M_prisonGoes_156 : decode prog_12_method_80_code 156 = .ok (.iinc 5 1, 3) := by decide +kernel
theorem d_M_prisonGoes_159 : decode prog_12_method_80_code 159 = .ok (.goto (-36), 3) := by decide +kernel
theorem d_M_prisonGoes_162 : decode prog_12_method_80_code 162 = .ok (.iload 4, 2) := by decide +kernel
theorem d_M_prisonGoes_164 : decode prog_12_method_80_code 164 = .ok (.ifCond .lt 112, 3) := by decide +kernel
theorem d_M_prisonGoes_167 : decode prog_12_method_80_code 167 = .ok (.iload_n 2, 1) := by decide +kernel
theorem d_M_prisonGoes_168 : decode prog_12_method_80_code 168 = .ok (.ifCond .eq 108, 3) := by decide +kernel
theorem d_M_prisonGoes_171 : decode prog_12_method_80_code 171 = .ok (.aload_n 0, 1) := by decide +kernel
theorem d_M_prisonGoes_172 : decode prog_12_method_80_code 172 = .ok (.getfield 9, 3) := by decide +kernel
theorem d_M_prisonGoes_175 : decode prog_12_method_80_code 175 = .ok (.sipush 634, 3) := by decide +kernel
theorem d_M_prisonGoes_178 : decode prog_12_method_80_code 178 = .ok (.iconst 4, 1) := by decide +kernel
theorem d_M_prisonGoes_179 : decode prog_12_method_80_code 179 = .ok (.iload 4, 2) := by decide +kernel
theorem d_M_prisonGoes_181 : decode prog_12_method_80_code 181 = .ok (.bipush 100, 2) := by decide +kernel
theorem d_M_prisonGoes_183 : decode prog_12_method_80_code 183 = .ok (.idiv, 1) := by decide +kernel
theorem d_M_prisonGoes_184 : decode prog_12_method_80_code 184 = .ok (.imul, 1) := by decide +kernel
theorem d_M_prisonGoes_185 : decode prog_12_method_80_code 185 = .ok (.iadd, 1) := by decide +kernel
theorem d_M_prisonGoes_186 : decode prog_12_method_80_code 186 = .ok (.iconst 3, 1) := by decide +kernel
theorem d_M_prisonGoes_187 : decode prog_12_method_80_code 187 = .ok (.iadd, 1) := by decide +kernel
theorem d_M_prisonGoes_188 : decode prog_12_method_80_code 188 = .ok (.dup2, 1) := by decide +kernel
theorem d_M_prisonGoes_189 : decode prog_12_method_80_code 189 = .ok (.iaload, 1) := by decide +kernel
theorem d_M_prisonGoes_190 : decode prog_12_method_80_code 190 = .ok (.iconst 1, 1) := by decide +kernel
theorem d_M_prisonGoes_191 : decode prog_12_method_80_code 191 = .ok (.iadd, 1) := by decide +kernel
theorem d_M_prisonGoes_192 : decode prog_12_method_80_code 192 = .ok (.iastore, 1) := by decide +kernel
theorem d_M_prisonGoes_193 : decode prog_12_method_80_code 193 = .ok (.aload_n 0, 1) := by decide +kernel
theorem d_M_prisonGoes_194 : decode prog_12_method_80_code 194 = .ok (.getfield 9, 3) := by decide +kernel
theorem d_M_prisonGoes_197 : decode prog_12_method_80_code 197 = .ok (.sipush 634, 3) := by decide +kernel
theorem d_M_prisonGoes_200 : decode prog_12_method_80_code 200 = .ok (.iconst 4, 1) := by decide +kernel
theorem d_M_prisonGoes_201 : decode prog_12_method_80_code 201 = .ok (.iload 4, 2) := by decide +kernel
theorem d_M_prisonGoes_203 : decode prog_12_method_80_code 203 = .ok (.bipush 10, 2) := by decide +kernel
theorem d_M_prisonGoes_205 : decode prog_12_method_80_code 205 = .ok (.idiv, 1) := by decide +kernel
theorem d_M_prisonGoes_206 : decode prog_12_method_80_code 206 = .ok (.bipush 10, 2) := by decide +kernel
theorem d_M_prisonGoes_208 : decode prog_12_method_80_code 208 = .ok (.irem, 1) := by decide +kernel
theorem d_M_prisonGoes_209 : decode prog_12_method_80_code 209 = .ok (.imul, 1) := by decide +kernel
theorem d_M_prisonGoes_210 : decode prog_12_method_80_code 210 = .ok (.iadd, 1) := by decide +kernel
theorem d_M_prisonGoes_211 : decode prog_12_method_80_code 211 = .ok (.iconst 3, 1) := by decide +kernel
theorem d_M_prisonGoes_212 : decode prog_12_method_80_code 212 = .ok (.iadd, 1) := by decide +kernel
theorem d_M_prisonGoes_213 : decode prog_12_method_80_code 213 = .ok (.dup2, 1) := by decide +kernel
theorem d_M_prisonGoes_214 : decode prog_12_method_80_code 214 = .ok (.iaload, 1) := by decide +kernel
theorem d_M_prisonGoes_215 : decode prog_12_method_80_code 215 = .ok (.iconst 1, 1) := by decide +kernel
theorem d_M_prisonGoes_216 : decode prog_12_method_80_code 216 = .ok (.iadd, 1) := by decide +kernel
theorem d_M_prisonGoes_217 : decode prog_12_method_80_code 217 = .ok (.iastore, 1) := by decide +kernel
theorem d_M_prisonGoes_218 : decode prog_12_method_80_code 218 = .ok (.aload_n 0, 1) := by decide +kernel
theorem d_M_prisonGoes_219 : decode prog_12_method_80_code 219 = .ok (.getfield 9, 3) := by decide +kernel
theorem d_M_prisonGoes_222 : decode prog_12_method_80_code 222 = .ok (.sipush 634, 3) := by decide +kernel
theorem d_M_prisonGoes_225 : decode prog_12_method_80_code 225 = .ok (.iconst 4, 1) := by decide +kernel
theorem d_M_prisonGoes_226 : decode prog_12_method_80_code 226 = .ok (.iload 4, 2) := by decide +kernel
theorem d_M_prisonGoes_228 : decode prog_12_method_80_code 228 = .ok (.bipush 10, 2) := by decide +kernel
theorem d_M_prisonGoes_230 : decode prog_12_method_80_code 230 = .ok (.irem, 1) := by decide +kernel
theorem d_M_prisonGoes_231 : decode prog_12_method_80_code 231 = .ok (.imul, 1) := by decide +kernel
theorem d_M_prisonGoes_232 : decode prog_12_method_80_code 232 = .ok (.iadd, 1) := by decide +kernel
theorem d_M_prisonGoes_233 : decode prog_12_method_80_code 233 = .ok (.iconst 3, 1) := by decide +kernel
theorem d_M_prisonGoes_234 : decode prog_12_method_80_code 234 = .ok (.iadd, 1) := by decide +kernel
theorem d_M_prisonGoes_235 : decode prog_12_method_80_code 235 = .ok (.dup2, 1) := by decide +kernel
theorem d_M_prisonGoes_236 : decode prog_12_method_80_code 236 = .ok (.iaload, 1) := by decide +kernel
theorem d_M_prisonGoes_237 : decode prog_12_method_80_code 237 = .ok (.iconst 1, 1) := by decide +kernel
theorem d_M_prisonGoes_238 : decode prog_12_method_80_code 238 = .ok (.iadd, 1) := by decide +kernel
theorem d_M_prisonGoes_239 : decode prog_12_method_80_code 239 = .ok (.iastore, 1) := by decide +kernel
theorem d_M_prisonGoes_240 : decode prog_12_method_80_code 240 = .ok (.iconst 0, 1) := by decide +kernel
theorem d_M_prisonGoes_241 : decode prog_12_method_80_code 241 = .ok (.istore 5, 2) := by decide +kernel
theorem d_M_prisonGoes_243 : decode prog_12_method_80_code 243 = .ok (.iload 5, 2) := by decide +kernel
theorem d_M_prisonGoes_245 : decode prog_12_method_80_code 245 = .ok (.aload_n 0, 1) := by decide +kernel
theorem d_M_prisonGoes_246 : decode prog_12_method_80_code 246 = .ok (.getfield 9, 3) := by decide +kernel
theorem d_M_prisonGoes_249 : decode prog_12_method_80_code 249 = .ok (.bipush 10, 2) := by decide +kernel
theorem d_M_prisonGoes_251 : decode prog_12_method_80_code 251 = .ok (.iaload, 1) := by decide +kernel
theorem d_M_prisonGoes_252 : decode prog_12_method_80_code 252 = .ok (.if_icmp .ge 24, 3) := by decide +kernel
theorem d_M_prisonGoes_255 : decode prog_12_method_80_code 255 = .ok (.iload_n 2, 1) := by decide +kernel
theorem d_M_prisonGoes_256 : decode prog_12_method_80_code 256 = .ok (.iload 5, 2) := by decide +kernel
theorem d_M_prisonGoes_258 : decode prog_12_method_80_code 258 = .ok (.invokestatic 303, 3) := by decide +kernel
theorem d_M_prisonGoes_261 : decode prog_12_method_80_code 261 = .ok (.ifCond .eq 9, 3) := by decide +kernel
theorem d_M_prisonGoes_264 : decode prog_12_method_80_code 264 = .ok (.aload_n 0, 1) := by decide +kernel
theorem d_M_prisonGoes_265 : decode prog_12_method_80_code 265 = .ok (.iload 5, 2) := by decide +kernel
theorem d_M_prisonGoes_267 : decode prog_12_method_80_code 267 = .ok (.invokevirtual 334, 3) := by decide +kernel
theorem d_M_prisonGoes_270 : decode prog_12_method_80_code 270 = .ok (.iinc 5 1, 3) := by decide +kernel
theorem d_M_prisonGoes_273 : decode prog_12_method_80_code 273 = .ok (.goto (-30), 3) := by decide +kernel
theorem d_M_prisonGoes_276 : decode prog_12_method_80_code 276 = .ok (.return_, 1) := by decide +kernel
theorem d_M_run_0 : decode prog_12_method_84_code 0 = .ok (.iload_n 1, 1) := by decide +kernel
theorem d_M_run_1 : decode prog_12_method_84_code 1 = .ok (.i2l, 1) := by decide +kernel
theorem d_M_run_2 : decode prog_12_method_84_code 2 = .ok (.lconst 1, 1) := by decide +kernel
theorem d_M_run_3 : decode prog_12_method_84_code 3 = .ok (.ldc2_w 340, 3) := by decide +kernel
theorem d_M_run_6 : decode prog_12_method_84_code 6 = .ok (.invokestatic 85, 3) := by decide +kernel
theorem d_M_run_9 : decode prog_12_method_84_code 9 = .ok (.ifCond .ne 6, 3) := by decide +kernel
theorem d_M_run_12 : decode prog_12_method_84_code 12 = .ok (.ldc 95, 2) := by decide +kernel
theorem d_M_run_14 : decode prog_12_method_84_code 14 = .ok (.ireturn, 1) := by decide +kernel
theorem d_M_run_15 : decode prog_12_method_84_code 15 = .ok (.aload_n 0, 1) := by decide +kernel
theorem d_M_run_16 : decode prog_12_method_84_code 16 = .ok (.getfield 9, 3) := by decide +kernel
theorem d_M_run_19 : decode prog_12_method_84_code 19 = .ok (.iconst 0, 1) := by decide +kernel
theorem d_M_run_20 : decode prog_12_method_84_code 20 = .ok (.iaload, 1) := by decide +kernel
theorem d_M_run_21 : decode prog_12_method_84_code 21 = .ok (.iload_n 1, 1) := by decide +kernel
theorem d_M_run_22 : decode prog_12_method_84_code 22 = .ok (.iadd, 1) := by decide +kernel
theorem d_M_run_23 : decode prog_12_method_84_code 23 = .ok (.sipush 2999, 3) := by decide +kernel
theorem d_M_run_26 : decode prog_12_method_84_code 26 = .ok (.if_icmp .le 6, 3) := by decide +kernel
theorem d_M_run_29 : decode prog_12_method_84_code 29 = .ok (.ldc 96, 2) := by decide +kernel
theorem d_M_run_31 : decode prog_12_method_84_code 31 = .ok (.ireturn, 1) := by decide +kernel
theorem d_M_run_32 : decode prog_12_method_84_code 32 = .ok (.iconst 0, 1) := by decide +kernel
theorem d_M_run_33 : decode prog_12_method_84_code 33 = .ok (.istore_n 2, 1) := by decide +kernel
theorem d_M_run_34 : decode prog_12_method_84_code 34 = .ok (.iload_n 2, 1) := by decide +kernel
theorem d_M_run_35 : decode prog_12_method_84_code 35 = .ok (.iload_n 1, 1) := by decide +kernel
theorem d_M_run_36 : decode prog_12_method_84_code 36 = .ok (.if_icmp .ge 13, 3) := by decide +kernel
theorem d_M_run_39 : decode prog_12_method_84_code 39 = .ok (.aload_n 0, 1) := by decide +kernel
theorem d_M_run_40 : decode prog_12_method_84_code 40 = .ok (.invokevirtual 342, 3) := by decide +kernel
theorem d_M_run_43 : decode prog_12_method_84_code 43 = .ok (.iinc 2 1, 3) := by decide +kernel
theorem d_M_run_46 : decode prog_12_method_84_code 46 = .ok (.goto (-12), 3) := by decide +kernel
theorem d_M_run_49 : decode prog_12_method_84_code 49 = .ok (.aload_n 0, 1) := by decide +kernel
theorem d_M_run_50 : decode prog_12_method_84_code 50 = .ok (.getfield 9, 3) := by decide +kernel
theorem d_M_run_53 : decode prog_12_method_84_code 53 = .ok (.iconst 0, 1) := by decide +kernel
theorem d_M_run_54 : decode prog_12_method_84_code 54 = .ok (.iaload, 1) := by decide +kernel
theorem d_M_run_55 : decode prog_12_method_84_code 55 = .ok (.ireturn, 1) := by decide +kernel
theorem d_M_table_0 : decode prog_12_method_85_code 0 = .ok (.iload_n 1, 1) := by decide +kernel
theorem d_M_table_1 : decode prog_12_method_85_code 1 = .ok (.i2l, 1) := by decide +kernel
theorem d_M_table_2 : decode prog_12_method_85_code 2 = .ok (.lconst 0, 1) := by decide +kernel
theorem d_M_table_3 : decode prog_12_method_85_code 3 = .ok (.ldc2_w 89, 3) := by decide +kernel
theorem d_M_table_6 : decode prog_12_method_85_code 6 = .ok (.invokestatic 85, 3) := by decide +kernel
theorem d_M_table_9 : decode prog_12_method_85_code 9 = .ok (.ifCond .eq 27, 3) := by decide +kernel
theorem d_M_table_12 : decode prog_12_method_85_code 12 = .ok (.iload_n 2, 1) := by decide +kernel
theorem d_M_table_13 : decode prog_12_method_85_code 13 = .ok (.i2l, 1) := by decide +kernel
theorem d_M_table_14 : decode prog_12_method_85_code 14 = .ok (.lconst 0, 1) := by decide +kernel
theorem d_M_table_15 : decode prog_12_method_85_code 15 = .ok (.ldc2_w 345, 3) := by decide +kernel
theorem d_M_table_18 : decode prog_12_method_85_code 18 = .ok (.invokestatic 85, 3) := by decide +kernel
theorem d_M_table_21 : decode prog_12_method_85_code 21 = .ok (.ifCond .eq 15, 3) := by decide +kernel
theorem d_M_table_24 : decode prog_12_method_85_code 24 = .ok (.iload_n 3, 1) := by decide +kernel
theorem d_M_table_25 : decode prog_12_method_85_code 25 = .ok (.i2l, 1) := by decide +kernel
theorem d_M_table_26 : decode prog_12_method_85_code 26 = .ok (.lconst 0, 1) := by decide +kernel
theorem d_M_table_27 : decode prog_12_method_85_code 27 = .ok (.ldc2_w 137, 3) := by decide +kernel
theorem d_M_table_30 : decode prog_12_method_85_code 30 = .ok (.invokestatic 85, 3) := by decide +kernel
theorem d_M_table_33 : decode prog_12_method_85_code 33 = .ok (.ifCond .ne 6, 3) := by decide +kernel
theorem d_M_table_36 : decode prog_12_method_85_code 36 = .ok (.ldc 95, 2) := by decide +kernel
theorem d_M_table_38 : decode prog_12_method_85_code 38 = .ok (.ireturn, 1) := by decide +kernel
theorem d_M_table_39 : decode prog_12_method_85_code 39 = .ok (.aload_n 0, 1) := by decide +kernel
theorem d_M_table_40 : decode prog_12_method_85_code 40 = .ok (.getfield 9, 3) := by decide +kernel
theorem d_M_table_43 : decode prog_12_method_85_code 43 = .ok (.sipush 890, 3) := by decide +kernel
theorem d_M_table_46 : decode prog_12_method_85_code 46 = .ok (.iconst 3, 1) := by decide +kernel
theorem d_M_table_47 : decode prog_12_method_85_code 47 = .ok (.iload_n 1, 1) := by decide +kernel
theorem d_M_table_48 : decode prog_12_method_85_code 48 = .ok (.imul, 1) := by decide +kernel
theorem d_M_table_49 : decode prog_12_method_85_code 49 = .ok (.iadd, 1) := by decide +kernel
theorem d_M_table_50 : decode prog_12_method_85_code 50 = .ok (.iload_n 2, 1) := by decide +kernel
theorem d_M_table_51 : decode prog_12_method_85_code 51 = .ok (.iadd, 1) := by decide +kernel
theorem d_M_table_52 : decode prog_12_method_85_code 52 = .ok (.iaload, 1) := by decide +kernel
theorem d_M_table_53 : decode prog_12_method_85_code 53 = .ok (.istore 4, 2) := by decide +kernel
theorem d_M_table_55 : decode prog_12_method_85_code 55 = .ok (.aload_n 0, 1) := by decide +kernel
theorem d_M_table_56 : decode prog_12_method_85_code 56 = .ok (.getfield 9, 3) := by decide +kernel
theorem d_M_table_59 : decode prog_12_method_85_code 59 = .ok (.sipush 890, 3) := by decide +kernel
theorem d_M_table_62 : decode prog_12_method_85_code 62 = .ok (.iconst 3, 1) := by decide +kernel
theorem d_M_table_63 : decode prog_12_method_85_code 63 = .ok (.iload_n 1, 1) := by decide +kernel
theorem d_M_table_64 : decode prog_12_method_85_code 64 = .ok (.imul, 1) := by decide +kernel
theorem d_M_table_65 : decode prog_12_method_85_code 65 = .ok (.iadd, 1) := by decide +kernel
theorem d_M_table_66 : decode prog_12_method_85_code 66 = .ok (.iload_n 2, 1) := by decide +kernel
theorem d_M_table_67 : decode prog_12_method_85_code 67 = .ok (.iadd, 1) := by decide +kernel
theorem d_M_table_68 : decode prog_12_method_85_code 68 = .ok (.iload_n 3, 1) := by decide +kernel
theorem d_M_table_69 : decode prog_12_method_85_code 69 = .ok (.iastore, 1) := by decide +kernel
theorem d_M_table_70 : decode prog_12_method_85_code 70 = .ok (.iload 4, 2) := by decide +kernel
theorem d_M_table_72 : decode prog_12_method_85_code 72 = .ok (.ireturn, 1) := by decide +kernel
theorem d_M_like_0 : decode prog_12_method_86_code 0 = .ok (.aload_n 0, 1) := by decide +kernel
theorem d_M_like_1 : decode prog_12_method_86_code 1 = .ok (.iload_n 1, 1) := by decide +kernel
theorem d_M_like_2 : decode prog_12_method_86_code 2 = .ok (.iconst 2, 1) := by decide +kernel
theorem d_M_like_3 : decode prog_12_method_86_code 3 = .ok (.invokevirtual 118, 3) := by decide +kernel
theorem d_M_like_6 : decode prog_12_method_86_code 6 = .ok (.ifCond .eq 15, 3) := by decide +kernel
theorem d_M_like_9 : decode prog_12_method_86_code 9 = .ok (.iload_n 2, 1) := by decide +kernel
theorem d_M_like_10 : decode prog_12_method_86_code 10 = .ok (.i2l, 1) := by decide +kernel
theorem d_M_like_11 : decode prog_12_method_86_code 11 = .ok (.lconst 0, 1) := by decide +kernel
theorem d_M_like_12 : decode prog_12_method_86_code 12 = .ok (.ldc2_w 345, 3) := by decide +kernel
theorem d_M_like_15 : decode prog_12_method_86_code 15 = .ok (.invokestatic 85, 3) := by decide +kernel
theorem d_M_like_18 : decode prog_12_method_86_code 18 = .ok (.ifCond .ne 6, 3) := by decide +kernel
theorem d_M_like_21 : decode prog_12_method_86_code 21 = .ok (.ldc 95, 2) := by decide +kernel
theorem d_M_like_23 : decode prog_12_method_86_code 23 = .ok (.ireturn, 1) := by decide +kernel
theorem d_M_like_24 : decode prog_12_method_86_code 24 = .ok (.iconst 0, 1) := by decide +kernel
theorem d_M_like_25 : decode prog_12_method_86_code 25 = .ok (.istore_n 3, 1) := by decide +kernel
theorem d_M_like_26 : decode prog_12_method_86_code 26 = .ok (.iconst 0, 1) := by decide +kernel
theorem d_M_like_27 : decode prog_12_method_86_code 27 = .ok (.istore 4, 2) := by decide +kernel
theorem d_M_like_29 : decode prog_12_method_86_code 29 = .ok (.iconst 0, 1) := by decide +kernel
theorem d_M_like_30 : decode prog_12_method_86_code 30 = .ok (.istore 5, 2) := by decide +kernel
theorem d_M_like_32 : decode prog_12_method_86_code 32 = .ok (.iload 5, 2) := by decide +kernel
theorem d_M_like_34 : decode prog_12_method_86_code 34 = .ok (.aload_n 0, 1) := by decide +kernel
theorem d_M_like_35 : decode prog_12_method_86_code 35 = .ok (.getfield 9, 3) := by decide +kernel
theorem d_M_like_38 : decode prog_12_method_86_code 38 = .ok (.bipush 10, 2) := by decide +kernel
theorem d_M_like_40 : decode prog_12_method_86_code 40 = .ok (.iaload, 1) := by decide +kernel
theorem d_M_like_41 : decode prog_12_method_86_code 41 = .ok (.if_icmp .ge 131, 3) := by decide +kernel
theorem d_M_like_44 : decode prog_12_method_86_code 44 = .ok (.aload_n 0, 1) := by decide +kernel
theorem d_M_like_45 : decode prog_12_method_86_code 45 = .ok (.getfield 9, 3) := by decide +kernel
theorem d_M_like_48 : decode prog_12_method_86_code 48 = .ok (.iload 5, 2) := by decide +kernel
theorem d_M_like_50 : decode prog_12_method_86_code 50 = .ok (.iconst 0, 1) := by decide +kernel
theorem d_M_like_51 : decode prog_12_method_86_code 51 = .ok (.invokestatic 316, 3) := by decide +kernel
theorem d_M_like_54 : decode prog_12_method_86_code 54 = .ok (.iaload, 1) := by decide +kernel
theorem d_M_like_55 : decode prog_12_method_86_code 55 = .ok (.istore 6, 2) := by decide +kernel
theorem d_M_like_57 : decode prog_12_method_86_code 57 = .ok (.aload_n 0, 1) := by decide +kernel
theorem d_M_like_58 : decode prog_12_method_86_code 58 = .ok (.getfield 9, 3) := by decide +kernel
theorem d_M_like_61 : decode prog_12_method_86_code 61 = .ok (.iload 5, 2) := by decide +kernel
theorem d_M_like_63 : decode prog_12_method_86_code 63 = .ok (.iconst 2, 1) := by decide +kernel
theorem d_M_like_64 : decode prog_12_method_86_code 64 = .ok (.invokestatic 316, 3) := by decide +kernel
theorem d_M_like_67 : decode prog_12_method_86_code 67 = .ok (.iaload, 1) := by decide +kernel
theorem d_M_like_68 : decode prog_12_method_86_code 68 = .ok (.istore 7, 2) := by decide +kernel
theorem d_M_like_70 : decode prog_12_method_86_code 70 = .ok (.iload 6, 2) := by decide +kernel
theorem d_M_like_72 : decode prog_12_method_86_code 72 = .ok (.iload_n 1, 1) := by decide +kernel
theorem d_M_like_73 : decode prog_12_method_86_code 73 = .ok (.if_icmp .eq 44, 3) := by decide +kernel
theorem d_M_like_76 : decode prog_12_method_86_code 76 = .ok (.aload_n 0, 1) := by decide +kernel
theorem d_M_like_77 : decode prog_12_method_86_code 77 = .ok (.iload 6, 2) := by decide +kernel
theorem d_M_like_79 : decode prog_12_method_86_code 79 = .ok (.iconst 0, 1) := by decide +kernel
theorem d_M_like_80 : decode prog_12_method_86_code 80 = .ok (.invokevirtual 105, 3) := by decide +kernel
theorem d_M_like_83 : decode prog_12_method_86_code 83 = .ok (.aload_n 0, 1) := by decide +kernel
theorem d_M_like_84 : decode prog_12_method_86_code 84 = .ok (.iload_n 1, 1) := by decide +kernel
theorem d_M_like_85 : decode prog_12_method_86_code 85 = .ok (.iconst 0, 1) := by decide +kernel
theorem d_M_like_86 : decode prog_12_method_86_code 86 = .ok (.invokevirtual 105, 3) := by decide +kernel
theorem d_M_like_89 : decode prog_12_method_86_code 89 = .ok (.if_icmp .ne 28, 3) := by decide +kernel
theorem d_M_like_92 : decode prog_12_method_86_code 92 = .ok (.aload_n 0, 1) := by decide +kernel
theorem d_M_like_93 : decode prog_12_method_86_code 93 = .ok (.iload 6, 2) := by decide +kernel
theorem d_M_like_95 : decode prog_12_method_86_code 95 = .ok (.iconst 2, 1) := by decide +kernel
theorem d_M_like_96 : decode prog_12_method_86_code 96 = .ok (.invokevirtual 105, 3) := by decide +kernel
theorem d_M_like_99 : decode prog_12_method_86_code 99 = .ok (.aload_n 0, 1) := by decide +kernel
theorem d_M_like_100 : decode prog_12_method_86_code 100 = .ok (.iload_n 1, 1) := by decide +kernel
theorem d_M_like_101 : decode prog_12_method_86_code 101 = .ok (.iconst 2, 1) := by decide +kernel
theorem d_M_like_102 : decode prog_12_method_86_code 102 = .ok (.invokevirtual 105, 3) := by decide +kernel
theorem d_M_like_105 : decode prog_12_method_86_code 105 = .ok (.ixor, 1) := by decide +kernel
theorem d_M_like_106 : decode prog_12_method_86_code 106 = .ok (.invokestatic 114, 3) := by decide +kernel
theorem d_M_like_109 : decode prog_12_method_86_code 109 = .ok (.iconst 2, 1) := by decide +kernel
theorem d_M_like_110 : decode prog_12_method_86_code 110 = .ok (.if_icmp .ge 7, 3) := by decide +kernel
theorem d_M_like_113 : decode prog_12_method_86_code 113 = .ok (.iconst 1, 1) := by decide +kernel
theorem d_M_like_114 : decode prog_12_method_86_code 114 = .ok (.goto 4, 3) := by decide +kernel
theorem d_M_like_117 : decode prog_12_method_86_code 117 = .ok (.iconst 0, 1) := by decide +kernel
theorem d_M_like_118 : decode prog_12_method_86_code 118 = .ok (.istore 8, 2) := by decide +kernel
theorem d_M_like_120 : decode prog_12_method_86_code 120 = .ok (.iload_n 3, 1) := by decide +kernel
theorem d_M_like_121 : decode prog_12_method_86_code 121 = .ok (.iload 8, 2) := by decide +kernel
theorem d_M_like_123 : decode prog_12_method_86_code 123 = .ok (.ifCond .eq 19, 3) := by decide +kernel
theorem d_M_like_126 : decode prog_12_method_86_code 126 = .ok (.iload 7, 2) := by decide +kernel
theorem d_M_like_128 : decode prog_12_method_86_code 128 = .ok (.iconst 1, 1) := by decide +kernel
theorem d_M_like_129 : decode prog_12_method_86_code 129 = .ok (.if_icmp .eq 9, 3) := by decide +kernel
theorem d_M_like_132 : decode prog_12_method_86_code 132 = .ok (.iload 7, 2) := by decide +kernel
theorem d_M_like_134 : decode prog_12_method_86_code 134 = .ok (.iconst 2, 1) := by decide +kernel
theorem d_M_like_135 : decode prog_12_method_86_code 135 = .ok (.if_icmp .ne 7, 3) := by decide +kernel
theorem d_M_like_138 : decode prog_12_method_86_code 138 = .ok (.iconst 1, 1) := by decide +kernel
theorem d_M_like_139 : decode prog_12_method_86_code 139 = .ok (.goto 4, 3) := by decide +kernel
theorem d_M_like_142 : decode prog_12_method_86_code 142 = .ok (.iconst 0, 1) := by decide +kernel
theorem d_M_like_143 : decode prog_12_method_86_code 143 = .ok (.iadd, 1) := by decide +kernel
theorem d_M_like_144 : decode prog_12_method_86_code 144 = .ok (.istore_n 3, 1) := by decide +kernel
theorem d_M_like_145 : decode prog_12_method_86_code 145 = .ok (.iload 4, 2) := by decide +kernel
theorem d_M_like_147 : decode prog_12_method_86_code 147 = .ok (.iload 8, 2) := by decide +kernel
theorem d_M_like_149 : decode prog_12_method_86_code 149 = .ok (.ifCond .eq 13, 3) := by decide +kernel
theorem d_M_like_152 : decode prog_12_method_86_code 152 = .ok (.iload 7, 2) := by decide +kernel
theorem d_M_like_154 : decode prog_12_method_86_code 154 = .ok (.iconst 2, 1) := by decide +kernel
theorem d_M_like_155 : decode prog_12_method_86_code 155 = .ok (.if_icmp .ne 7, 3) := by decide +kernel
theorem d_M_like_158 : decode prog_12_method_86_code 158 = .ok (.iconst 1, 1) := by decide +kernel
theorem d_M_like_159 : decode prog_12_method_86_code 159 = .ok (.goto 4, 3) := by decide +kernel
theorem d_M_like_162 : decode prog_12_method_86_code 162 = .ok (.iconst 0, 1) := by decide +kernel
theorem d_M_like_163 : decode prog_12_method_86_code 163 = .ok (.iadd, 1) := by decide +kernel
theorem d_M_like_164 : decode prog_12_method_86_code 164 = .ok (.istore 4, 2) := by decide +kernel
theorem d_M_like_166 : decode prog_12_method_86_code 166 = .ok (.iinc 5 1, 3) := by decide +kernel
theorem d_M_like_169 : decode prog_12_method_86_code 169 = .ok (.goto (-137), 3) := by decide +kernel
theorem d_M_like_172 : decode prog_12_method_86_code 172 = .ok (.iload_n 2, 1) := by decide +kernel
theorem d_M_like_173 : decode prog_12_method_86_code 173 = .ok (.ifCond .ne 7, 3) := by decide +kernel
theorem d_M_like_176 : decode prog_12_method_86_code 176 = .ok (.iload_n 3, 1) := by decide +kernel
theorem d_M_like_177 : decode prog_12_method_86_code 177 = .ok (.goto 29, 3) := by decide +kernel
theorem d_M_like_180 : decode prog_12_method_86_code 180 = .ok (.iload_n 2, 1) := by decide +kernel
theorem d_M_like_181 : decode prog_12_method_86_code 181 = .ok (.iconst 1, 1) := by decide +kernel
theorem d_M_like_182 : decode prog_12_method_86_code 182 = .ok (.if_icmp .ne 8, 3) := by decide +kernel
theorem d_M_like_185 : decode prog_12_method_86_code 185 = .ok (.iload 4, 2) := by decide +kernel
theorem d_M_like_187 : decode prog_12_method_86_code 187 = .ok (.goto 19, 3) := by decide +kernel
theorem d_M_like_190 : decode prog_12_method_86_code 190 = .ok (.iload_n 3, 1) := by decide +kernel
theorem d_M_like_191 : decode prog_12_method_86_code 191 = .ok (.ifCond .ne 8, 3) := by decide +kernel
theorem d_M_like_194 : decode prog_12_method_86_code 194 = .ok (.ldc 136, 2) := by decide +kernel
theorem d_M_like_196 : decode prog_12_method_86_code 196 = .ok (.goto 10, 3) := by decide +kernel
theorem d_M_like_199 : decode prog_12_method_86_code 199 = .ok (.bipush 100, 2) := by decide +kernel
theorem d_M_like_201 : decode prog_12_method_86_code 201 = .ok (.iload 4, 2) := by decide +kernel
theorem d_M_like_203 : decode prog_12_method_86_code 203 = .ok (.imul, 1) := by decide +kernel
theorem d_M_like_204 : decode prog_12_method_86_code 204 = .ok (.iload_n 3, 1) := by decide +kernel
theorem d_M_like_205 : decode prog_12_method_86_code 205 = .ok (.idiv, 1) := by decide +kernel
theorem d_M_like_206 : decode prog_12_method_86_code 206 = .ok (.ireturn, 1) := by decide +kernel
theorem d_M_twice_0 : decode prog_12_method_87_code 0 = .ok (.iload_n 1, 1) := by decide +kernel
theorem d_M_twice_1 : decode prog_12_method_87_code 1 = .ok (.i2l, 1) := by decide +kernel
theorem d_M_twice_2 : decode prog_12_method_87_code 2 = .ok (.lconst 0, 1) := by decide +kernel
theorem d_M_twice_3 : decode prog_12_method_87_code 3 = .ok (.lconst 1, 1) := by decide +kernel
theorem d_M_twice_4 : decode prog_12_method_87_code 4 = .ok (.invokestatic 85, 3) := by decide +kernel
theorem d_M_twice_7 : decode prog_12_method_87_code 7 = .ok (.ifCond .eq 13, 3) := by decide +kernel
theorem d_M_twice_10 : decode prog_12_method_87_code 10 = .ok (.iload_n 2, 1) := by decide +kernel
theorem d_M_twice_11 : decode prog_12_method_87_code 11 = .ok (.i2l, 1) := by decide +kernel
theorem d_M_twice_12 : decode prog_12_method_87_code 12 = .ok (.lconst 0, 1) := by decide +kernel
theorem d_M_twice_13 : decode prog_12_method_87_code 13 = .ok (.lconst 1, 1) := by decide +kernel
theorem d_M_twice_14 : decode prog_12_method_87_code 14 = .ok (.invokestatic 85, 3) := by decide +kernel
theorem d_M_twice_17 : decode prog_12_method_87_code 17 = .ok (.ifCond .ne 6, 3) := by decide +kernel
theorem d_M_twice_20 : decode prog_12_method_87_code 20 = .ok (.ldc 95, 2) := by decide +kernel
theorem d_M_twice_22 : decode prog_12_method_87_code 22 = .ok (.ireturn, 1) := by decide +kernel
theorem d_M_twice_23 : decode prog_12_method_87_code 23 = .ok (.aload_n 0, 1) := by decide +kernel
theorem d_M_twice_24 : decode prog_12_method_87_code 24 = .ok (.getfield 9, 3) := by decide +kernel
theorem d_M_twice_27 : decode prog_12_method_87_code 27 = .ok (.bipush 11, 2) := by decide +kernel
theorem d_M_twice_29 : decode prog_12_method_87_code 29 = .ok (.iaload, 1) := by decide +kernel
theorem d_M_twice_30 : decode prog_12_method_87_code 30 = .ok (.istore_n 3, 1) := by decide +kernel
theorem d_M_twice_31 : decode prog_12_method_87_code 31 = .ok (.iload_n 3, 1) := by decide +kernel
theorem d_M_twice_32 : decode prog_12_method_87_code 32 = .ok (.bipush 20, 2) := by decide +kernel
theorem d_M_twice_34 : decode prog_12_method_87_code 34 = .ok (.if_icmp .ne 6, 3) := by decide +kernel
theorem d_M_twice_37 : decode prog_12_method_87_code 37 = .ok (.ldc 96, 2) := by decide +kernel
theorem d_M_twice_39 : decode prog_12_method_87_code 39 = .ok (.ireturn, 1) := by decide +kernel
theorem d_M_twice_40 : decode prog_12_method_87_code 40 = .ok (.aload_n 0, 1) := by decide +kernel
theorem d_M_twice_41 : decode prog_12_method_87_code 41 = .ok (.getfield 9, 3) := by decide +kernel
theorem d_M_twice_44 : decode prog_12_method_87_code 44 = .ok (.sipush 850, 3) := by decide +kernel
theorem d_M_twice_47 : decode prog_12_method_87_code 47 = .ok (.iconst 2, 1) := by decide +kernel
theorem d_M_twice_48 : decode prog_12_method_87_code 48 = .ok (.iload_n 3, 1) := by decide +kernel
theorem d_M_twice_49 : decode prog_12_method_87_code 49 = .ok (.imul, 1) := by decide +kernel
theorem d_M_twice_50 : decode prog_12_method_87_code 50 = .ok (.iadd, 1) := by decide +kernel
theorem d_M_twice_51 : decode prog_12_method_87_code 51 = .ok (.iload_n 1, 1) := by decide +kernel
theorem d_M_twice_52 : decode prog_12_method_87_code 52 = .ok (.iastore, 1) := by decide +kernel
theorem d_M_twice_53 : decode prog_12_method_87_code 53 = .ok (.aload_n 0, 1) := by decide +kernel
theorem d_M_twice_54 : decode prog_12_method_87_code 54 = .ok (.getfield 9, 3) := by decide +kernel
theorem d_M_twice_57 : decode prog_12_method_87_code 57 = .ok (.sipush 850, 3) := by decide +kernel
theorem d_M_twice_60 : decode prog_12_method_87_code 60 = .ok (.iconst 2, 1) := by decide +kernel
theorem d_M_twice_61 : decode prog_12_method_87_code 61 = .ok (.iload_n 3, 1) := by decide +kernel
theorem d_M_twice_62 : decode prog_12_method_87_code 62 = .ok (.imul, 1) := by decide +kernel
theorem d_M_twice_63 : decode prog_12_method_87_code 63 = .ok (.iadd, 1) := by decide +kernel
theorem d_M_twice_64 : decode prog_12_method_87_code 64 = .ok (.iconst 1, 1) := by decide +kernel
theorem d_M_twice_65 : decode prog_12_method_87_code 65 = .ok (.iadd, 1) := by decide +kernel
theorem d_M_twice_66 : decode prog_12_method_87_code 66 = .ok (.iload_n 2, 1) := by decide +kernel
theorem d_M_twice_67 : decode prog_12_method_87_code 67 = .ok (.iastore, 1) := by decide +kernel
theorem d_M_twice_68 : decode prog_12_method_87_code 68 = .ok (.aload_n 0, 1) := by decide +kernel
theorem d_M_twice_69 : decode prog_12_method_87_code 69 = .ok (.getfield 9, 3) := by decide +kernel
theorem d_M_twice_72 : decode prog_12_method_87_code 72 = .ok (.bipush 11, 2) := by decide +kernel
theorem d_M_twice_74 : decode prog_12_method_87_code 74 = .ok (.dup2, 1) := by decide +kernel
theorem d_M_twice_75 : decode prog_12_method_87_code 75 = .ok (.iaload, 1) := by decide +kernel
theorem d_M_twice_76 : decode prog_12_method_87_code 76 = .ok (.iconst 1, 1) := by decide +kernel
theorem d_M_twice_77 : decode prog_12_method_87_code 77 = .ok (.iadd, 1) := by decide +kernel
theorem d_M_twice_78 : decode prog_12_method_87_code 78 = .ok (.iastore, 1) := by decide +kernel
theorem d_M_twice_79 : decode prog_12_method_87_code 79 = .ok (.aload_n 0, 1) := by decide +kernel
theorem d_M_twice_80 : decode prog_12_method_87_code 80 = .ok (.getfield 9, 3) := by decide +kernel
theorem d_M_twice_83 : decode prog_12_method_87_code 83 = .ok (.bipush 11, 2) := by decide +kernel
theorem d_M_twice_85 : decode prog_12_method_87_code 85 = .ok (.iaload, 1) := by decide +kernel
theorem d_M_twice_86 : decode prog_12_method_87_code 86 = .ok (.ireturn, 1) := by decide +kernel
theorem d_M_spread_0 : decode prog_12_method_88_code 0 = .ok (.iconst 0, 1) := by decide +kernel
theorem d_M_spread_1 : decode prog_12_method_88_code 1 = .ok (.istore_n 1, 1) := by decide +kernel
theorem d_M_spread_2 : decode prog_12_method_88_code 2 = .ok (.iconst 0, 1) := by decide +kernel
theorem d_M_spread_3 : decode prog_12_method_88_code 3 = .ok (.istore_n 2, 1) := by decide +kernel
theorem d_M_spread_4 : decode prog_12_method_88_code 4 = .ok (.iload_n 2, 1) := by decide +kernel
theorem d_M_spread_5 : decode prog_12_method_88_code 5 = .ok (.aload_n 0, 1) := by decide +kernel
theorem d_M_spread_6 : decode prog_12_method_88_code 6 = .ok (.getfield 9, 3) := by decide +kernel
theorem d_M_spread_9 : decode prog_12_method_88_code 9 = .ok (.bipush 11, 2) := by decide +kernel
theorem d_M_spread_11 : decode prog_12_method_88_code 11 = .ok (.iaload, 1) := by decide +kernel
theorem d_M_spread_12 : decode prog_12_method_88_code 12 = .ok (.if_icmp .ge 46, 3) := by decide +kernel
theorem d_M_spread_15 : decode prog_12_method_88_code 15 = .ok (.iload_n 1, 1) := by decide +kernel
theorem d_M_spread_16 : decode prog_12_method_88_code 16 = .ok (.aload_n 0, 1) := by decide +kernel
theorem d_M_spread_17 : decode prog_12_method_88_code 17 = .ok (.getfield 9, 3) := by decide +kernel
theorem d_M_spread_20 : decode prog_12_method_88_code 20 = .ok (.sipush 850, 3) := by decide +kernel
theorem d_M_spread_23 : decode prog_12_method_88_code 23 = .ok (.iconst 2, 1) := by decide +kernel
theorem d_M_spread_24 : decode prog_12_method_88_code 24 = .ok (.iload_n 2, 1) := by decide +kernel
theorem d_M_spread_25 : decode prog_12_method_88_code 25 = .ok (.imul, 1) := by decide +kernel
theorem d_M_spread_26 : decode prog_12_method_88_code 26 = .ok (.iadd, 1) := by decide +kernel
theorem d_M_spread_27 : decode prog_12_method_88_code 27 = .ok (.iaload, 1) := by decide +kernel
theorem d_M_spread_28 : decode prog_12_method_88_code 28 = .ok (.aload_n 0, 1) := by decide +kernel
theorem d_M_spread_29 : decode prog_12_method_88_code 29 = .ok (.getfield 9, 3) := by decide +kernel
theorem d_M_spread_32 : decode prog_12_method_88_code 32 = .ok (.sipush 850, 3) := by decide +kernel
theorem d_M_spread_35 : decode prog_12_method_88_code 35 = .ok (.iconst 2, 1) := by decide +kernel
theorem d_M_spread_36 : decode prog_12_method_88_code 36 = .ok (.iload_n 2, 1) := by decide +kernel
theorem d_M_spread_37 : decode prog_12_method_88_code 37 = .ok (.imul, 1) := by decide +kernel
theorem d_M_spread_38 : decode prog_12_method_88_code 38 = .ok (.iadd, 1) := by decide +kernel
theorem d_M_spread_39 : decode prog_12_method_88_code 39 = .ok (.iconst 1, 1) := by decide +kernel
theorem d_M_spread_40 : decode prog_12_method_88_code 40 = .ok (.iadd, 1) := by decide +kernel
theorem d_M_spread_41 : decode prog_12_method_88_code 41 = .ok (.iaload, 1) := by decide +kernel
theorem d_M_spread_42 : decode prog_12_method_88_code 42 = .ok (.if_icmp .eq 7, 3) := by decide +kernel
theorem d_M_spread_45 : decode prog_12_method_88_code 45 = .ok (.iconst 1, 1) := by decide +kernel
theorem d_M_spread_46 : decode prog_12_method_88_code 46 = .ok (.goto 4, 3) := by decide +kernel
theorem d_M_spread_49 : decode prog_12_method_88_code 49 = .ok (.iconst 0, 1) := by decide +kernel
theorem d_M_spread_50 : decode prog_12_method_88_code 50 = .ok (.iadd, 1) := by decide +kernel
theorem d_M_spread_51 : decode prog_12_method_88_code 51 = .ok (.istore_n 1, 1) := by decide +kernel
theorem d_M_spread_52 : decode prog_12_method_88_code 52 = .ok (.iinc 2 1, 3) := by decide +kernel
theorem d_M_spread_55 : decode prog_12_method_88_code 55 = .ok (.goto (-51), 3) := by decide +kernel
theorem d_M_spread_58 : decode prog_12_method_88_code 58 = .ok (.aload_n 0, 1) := by decide +kernel
theorem d_M_spread_59 : decode prog_12_method_88_code 59 = .ok (.getfield 9, 3) := by decide +kernel
theorem d_M_spread_62 : decode prog_12_method_88_code 62 = .ok (.bipush 11, 2) := by decide +kernel
theorem d_M_spread_64 : decode prog_12_method_88_code 64 = .ok (.iaload, 1) := by decide +kernel
theorem d_M_spread_65 : decode prog_12_method_88_code 65 = .ok (.ifCond .ne 8, 3) := by decide +kernel
theorem d_M_spread_68 : decode prog_12_method_88_code 68 = .ok (.ldc 136, 2) := by decide +kernel
theorem d_M_spread_70 : decode prog_12_method_88_code 70 = .ok (.goto 15, 3) := by decide +kernel
theorem d_M_spread_73 : decode prog_12_method_88_code 73 = .ok (.bipush 100, 2) := by decide +kernel
theorem d_M_spread_75 : decode prog_12_method_88_code 75 = .ok (.iload_n 1, 1) := by decide +kernel
theorem d_M_spread_76 : decode prog_12_method_88_code 76 = .ok (.imul, 1) := by decide +kernel
theorem d_M_spread_77 : decode prog_12_method_88_code 77 = .ok (.aload_n 0, 1) := by decide +kernel
theorem d_M_spread_78 : decode prog_12_method_88_code 78 = .ok (.getfield 9, 3) := by decide +kernel
theorem d_M_spread_81 : decode prog_12_method_88_code 81 = .ok (.bipush 11, 2) := by decide +kernel
theorem d_M_spread_83 : decode prog_12_method_88_code 83 = .ok (.iaload, 1) := by decide +kernel
theorem d_M_spread_84 : decode prog_12_method_88_code 84 = .ok (.idiv, 1) := by decide +kernel
theorem d_M_spread_85 : decode prog_12_method_88_code 85 = .ok (.ireturn, 1) := by decide +kernel
theorem d_M_seed_0 : decode prog_12_method_89_code 0 = .ok (.iload_n 1, 1) := by decide +kernel
theorem d_M_seed_1 : decode prog_12_method_89_code 1 = .ok (.i2l, 1) := by decide +kernel
theorem d_M_seed_2 : decode prog_12_method_89_code 2 = .ok (.lconst 0, 1) := by decide +kernel
theorem d_M_seed_3 : decode prog_12_method_89_code 3 = .ok (.ldc2_w 347, 3) := by decide +kernel
theorem d_M_seed_6 : decode prog_12_method_89_code 6 = .ok (.invokestatic 85, 3) := by decide +kernel
theorem d_M_seed_9 : decode prog_12_method_89_code 9 = .ok (.ifCond .ne 6, 3) := by decide +kernel
theorem d_M_seed_12 : decode prog_12_method_89_code 12 = .ok (.ldc 95, 2) := by decide +kernel
theorem d_M_seed_14 : decode prog_12_method_89_code 14 = .ok (.ireturn, 1) := by decide +kernel
theorem d_M_seed_15 : decode prog_12_method_89_code 15 = .ok (.aload_n 0, 1) := by decide +kernel
theorem d_M_seed_16 : decode prog_12_method_89_code 16 = .ok (.getfield 9, 3) := by decide +kernel
theorem d_M_seed_19 : decode prog_12_method_89_code 19 = .ok (.iconst 1, 1) := by decide +kernel
theorem d_M_seed_20 : decode prog_12_method_89_code 20 = .ok (.iaload, 1) := by decide +kernel
theorem d_M_seed_21 : decode prog_12_method_89_code 21 = .ok (.istore_n 2, 1) := by decide +kernel
theorem d_M_seed_22 : decode prog_12_method_89_code 22 = .ok (.aload_n 0, 1) := by decide +kernel
theorem d_M_seed_23 : decode prog_12_method_89_code 23 = .ok (.getfield 9, 3) := by decide +kernel
theorem d_M_seed_26 : decode prog_12_method_89_code 26 = .ok (.iconst 1, 1) := by decide +kernel
theorem d_M_seed_27 : decode prog_12_method_89_code 27 = .ok (.iload_n 1, 1) := by decide +kernel
theorem d_M_seed_28 : decode prog_12_method_89_code 28 = .ok (.iastore, 1) := by decide +kernel
theorem d_M_seed_29 : decode prog_12_method_89_code 29 = .ok (.iload_n 2, 1) := by decide +kernel
theorem d_M_seed_30 : decode prog_12_method_89_code 30 = .ok (.ireturn, 1) := by decide +kernel
theorem d_M_leftAt_0 : decode prog_12_method_90_code 0 = .ok (.iload_n 2, 1) := by decide +kernel
theorem d_M_leftAt_1 : decode prog_12_method_90_code 1 = .ok (.istore_n 3, 1) := by decide +kernel
theorem d_M_leftAt_2 : decode prog_12_method_90_code 2 = .ok (.iconst 0, 1) := by decide +kernel
theorem d_M_leftAt_3 : decode prog_12_method_90_code 3 = .ok (.istore 4, 2) := by decide +kernel
theorem d_M_leftAt_5 : decode prog_12_method_90_code 5 = .ok (.iload_n 1, 1) := by decide +kernel
theorem d_M_leftAt_6 : decode prog_12_method_90_code 6 = .ok (.iload 4, 2) := by decide +kernel
theorem d_M_leftAt_8 : decode prog_12_method_90_code 8 = .ok (.invokestatic 303, 3) := by decide +kernel
theorem d_M_leftAt_11 : decode prog_12_method_90_code 11 = .ok (.ifCond .ne 7, 3) := by decide +kernel
theorem d_M_leftAt_14 : decode prog_12_method_90_code 14 = .ok (.iload_n 3, 1) := by decide +kernel
theorem d_M_leftAt_15 : decode prog_12_method_90_code 15 = .ok (.ifCond .le 26, 3) := by decide +kernel
theorem d_M_leftAt_18 : decode prog_12_method_90_code 18 = .ok (.iload_n 3, 1) := by decide +kernel
theorem d_M_leftAt_19 : decode prog_12_method_90_code 19 = .ok (.iload_n 1, 1) := by decide +kernel
theorem d_M_leftAt_20 : decode prog_12_method_90_code 20 = .ok (.iload 4, 2) := by decide +kernel
theorem d_M_leftAt_22 : decode prog_12_method_90_code 22 = .ok (.invokestatic 303, 3) := by decide +kernel
theorem d_M_leftAt_25 : decode prog_12_method_90_code 25 = .ok (.ifCond .eq 7, 3) := by decide +kernel
theorem d_M_leftAt_28 : decode prog_12_method_90_code 28 = .ok (.iconst 0, 1) := by decide +kernel
theorem d_M_leftAt_29 : decode prog_12_method_90_code 29 = .ok (.goto 4, 3) := by decide +kernel
theorem d_M_leftAt_32 : decode prog_12_method_90_code 32 = .ok (.iconst 1, 1) := by decide +kernel
theorem d_M_leftAt_33 : decode prog_12_method_90_code 33 = .ok (.isub, 1) := by decide +kernel
theorem d_M_leftAt_34 : decode prog_12_method_90_code 34 = .ok (.istore_n 3, 1) := by decide +kernel
theorem d_M_leftAt_35 : decode prog_12_method_90_code 35 = .ok (.iinc 4 1, 3) := by decide +kernel
theorem d_M_leftAt_38 : decode prog_12_method_90_code 38 = .ok (.goto (-33), 3) := by decide +kernel
theorem d_M_leftAt_41 : decode prog_12_method_90_code 41 = .ok (.iload 4, 2) := by decide +kernel
theorem d_M_leftAt_43 : decode prog_12_method_90_code 43 = .ok (.ireturn, 1) := by decide +kernel
theorem d_M_isSheet_0 : decode prog_12_method_92_code 0 = .ok (.iload_n 0, 1) := by decide +kernel
theorem d_M_isSheet_1 : decode prog_12_method_92_code 1 = .ok (.i2l, 1) := by decide +kernel
theorem d_M_isSheet_2 : decode prog_12_method_92_code 2 = .ok (.lconst 0, 1) := by decide +kernel
theorem d_M_isSheet_3 : decode prog_12_method_92_code 3 = .ok (.ldc2_w 281, 3) := by decide +kernel
theorem d_M_isSheet_6 : decode prog_12_method_92_code 6 = .ok (.invokestatic 85, 3) := by decide +kernel
theorem d_M_isSheet_9 : decode prog_12_method_92_code 9 = .ok (.ireturn, 1) := by decide +kernel
theorem d_M_add_0 : decode prog_12_method_94_code 0 = .ok (.iload_n 1, 1) := by decide +kernel
theorem d_M_add_1 : decode prog_12_method_94_code 1 = .ok (.invokestatic 358, 3) := by decide +kernel
theorem d_M_add_4 : decode prog_12_method_94_code 4 = .ok (.ifCond .ne 6, 3) := by decide +kernel
theorem d_M_add_7 : decode prog_12_method_94_code 7 = .ok (.ldc 95, 2) := by decide +kernel
theorem d_M_add_9 : decode prog_12_method_94_code 9 = .ok (.ireturn, 1) := by decide +kernel
theorem d_M_add_10 : decode prog_12_method_94_code 10 = .ok (.aload_n 0, 1) := by decide +kernel
theorem d_M_add_11 : decode prog_12_method_94_code 11 = .ok (.getfield 25, 3) := by decide +kernel
theorem d_M_add_14 : decode prog_12_method_94_code 14 = .ok (.iload_n 1, 1) := by decide +kernel
theorem d_M_add_15 : decode prog_12_method_94_code 15 = .ok (.iaload, 1) := by decide +kernel
theorem d_M_add_16 : decode prog_12_method_94_code 16 = .ok (.ifCond .ge 7, 3) := by decide +kernel
theorem d_M_add_19 : decode prog_12_method_94_code 19 = .ok (.ldc_w 364, 3) := by decide +kernel
theorem d_M_add_22 : decode prog_12_method_94_code 22 = .ok (.ireturn, 1) := by decide +kernel
theorem d_M_add_23 : decode prog_12_method_94_code 23 = .ok (.iload_n 2, 1) := by decide +kernel
theorem d_M_add_24 : decode prog_12_method_94_code 24 = .ok (.i2l, 1) := by decide +kernel
theorem d_M_add_25 : decode prog_12_method_94_code 25 = .ok (.lconst 0, 1) := by decide +kernel
theorem d_M_add_26 : decode prog_12_method_94_code 26 = .ok (.aload_n 0, 1) := by decide +kernel
theorem d_M_add_27 : decode prog_12_method_94_code 27 = .ok (.getfield 28, 3) := by decide +kernel
theorem d_M_add_30 : decode prog_12_method_94_code 30 = .ok (.iload_n 1, 1) := by decide +kernel
theorem d_M_add_31 : decode prog_12_method_94_code 31 = .ok (.iaload, 1) := by decide +kernel
theorem d_M_add_32 : decode prog_12_method_94_code 32 = .ok (.iconst 1, 1) := by decide +kernel
theorem d_M_add_33 : decode prog_12_method_94_code 33 = .ok (.isub, 1) := by decide +kernel
theorem d_M_add_34 : decode prog_12_method_94_code 34 = .ok (.i2l, 1) := by decide +kernel
theorem d_M_add_35 : decode prog_12_method_94_code 35 = .ok (.invokestatic 85, 3) := by decide +kernel
theorem d_M_add_38 : decode prog_12_method_94_code 38 = .ok (.ifCond .ne 7, 3) := by decide +kernel
theorem d_M_add_41 : decode prog_12_method_94_code 41 = .ok (.ldc_w 365, 3) := by decide +kernel
theorem d_M_add_44 : decode prog_12_method_94_code 44 = .ok (.ireturn, 1) := by decide +kernel
theorem d_M_add_45 : decode prog_12_method_94_code 45 = .ok (.bipush 24, 2) := by decide +kernel
theorem d_M_add_47 : decode prog_12_method_94_code 47 = .ok (.iload_n 1, 1) := by decide +kernel
theorem d_M_add_48 : decode prog_12_method_94_code 48 = .ok (.imul, 1) := by decide +kernel
theorem d_M_add_49 : decode prog_12_method_94_code 49 = .ok (.iload_n 2, 1) := by decide +kernel
theorem d_M_add_50 : decode prog_12_method_94_code 50 = .ok (.iadd, 1) := by decide +kernel
theorem d_M_add_51 : decode prog_12_method_94_code 51 = .ok (.istore 4, 2) := by decide +kernel
theorem d_M_add_53 : decode prog_12_method_94_code 53 = .ok (.aload_n 0, 1) := by decide +kernel
theorem d_M_add_54 : decode prog_12_method_94_code 54 = .ok (.getfield 31, 3) := by decide +kernel
theorem d_M_add_57 : decode prog_12_method_94_code 57 = .ok (.iload 4, 2) := by decide +kernel
theorem d_M_add_59 : decode prog_12_method_94_code 59 = .ok (.laload, 1) := by decide +kernel
theorem d_M_add_60 : decode prog_12_method_94_code 60 = .ok (.iload_n 3, 1) := by decide +kernel
theorem d_M_add_61 : decode prog_12_method_94_code 61 = .ok (.i2l, 1) := by decide +kernel
theorem d_M_add_62 : decode prog_12_method_94_code 62 = .ok (.ladd, 1) := by decide +kernel
theorem d_M_add_63 : decode prog_12_method_94_code 63 = .ok (.lstore 5, 2) := by decide +kernel
theorem d_M_add_65 : decode prog_12_method_94_code 65 = .ok (.aload_n 0, 1) := by decide +kernel
theorem d_M_add_66 : decode prog_12_method_94_code 66 = .ok (.getfield 31, 3) := by decide +kernel
theorem d_M_add_69 : decode prog_12_method_94_code 69 = .ok (.iload 4, 2) := by decide +kernel
theorem d_M_add_71 : decode prog_12_method_94_code 71 = .ok (.aload_n 0, 1) := by decide +kernel
theorem d_M_add_72 : decode prog_12_method_94_code 72 = .ok (.getfield 25, 3) := by decide +kernel
theorem d_M_add_75 : decode prog_12_method_94_code 75 = .ok (.iload_n 1, 1) := by decide +kernel
theorem d_M_add_76 : decode prog_12_method_94_code 76 = .ok (.iaload, 1) := by decide +kernel
theorem d_M_add_77 : decode prog_12_method_94_code 77 = .ok (.ifCond .ne 11, 3) := by decide +kernel
theorem d_M_add_80 : decode prog_12_method_94_code 80 = .ok (.lload 5, 2) := by decide +kernel
theorem d_M_add_82 : decode prog_12_method_94_code 82 = .ok (.l2i, 1) := by decide +kernel
theorem d_M_add_83 : decode prog_12_method_94_code 83 = .ok (.i2b, 1) := by decide +kernel
theorem d_M_add_84 : decode prog_12_method_94_code 84 = .ok (.i2l, 1) := by decide +kernel
theorem d_M_add_85 : decode prog_12_method_94_code 85 = .ok (.goto 23, 3) := by decide +kernel
theorem d_M_add_88 : decode prog_12_method_94_code 88 = .ok (.aload_n 0, 1) := by decide +kernel
theorem d_M_add_89 : decode prog_12_method_94_code 89 = .ok (.getfield 25, 3) := by decide +kernel
theorem d_M_add_92 : decode prog_12_method_94_code 92 = .ok (.iload_n 1, 1) := by decide +kernel
theorem d_M_add_93 : decode prog_12_method_94_code 93 = .ok (.iaload, 1) := by decide +kernel
theorem d_M_add_94 : decode prog_12_method_94_code 94 = .ok (.iconst 1, 1) := by decide +kernel
theorem d_M_add_95 : decode prog_12_method_94_code 95 = .ok (.if_icmp .ne 11, 3) := by decide +kernel
theorem d_M_add_98 : decode prog_12_method_94_code 98 = .ok (.lload 5, 2) := by decide +kernel
theorem d_M_add_100 : decode prog_12_method_94_code 100 = .ok (.l2i, 1) := by decide +kernel
theorem d_M_add_101 : decode prog_12_method_94_code 101 = .ok (.i2s, 1) := by decide +kernel
theorem d_M_add_102 : decode prog_12_method_94_code 102 = .ok (.i2l, 1) := by decide +kernel
theorem d_M_add_103 : decode prog_12_method_94_code 103 = .ok (.goto 5, 3) := by decide +kernel
theorem d_M_add_106 : decode prog_12_method_94_code 106 = .ok (.lload 5, 2) := by decide +kernel
theorem d_M_add_108 : decode prog_12_method_94_code 108 = .ok (.lastore, 1) := by decide +kernel
theorem d_M_add_109 : decode prog_12_method_94_code 109 = .ok (.aload_n 0, 1) := by decide +kernel
theorem d_M_add_110 : decode prog_12_method_94_code 110 = .ok (.getfield 31, 3) := by decide +kernel
theorem d_M_add_113 : decode prog_12_method_94_code 113 = .ok (.iload 4, 2) := by decide +kernel
theorem d_M_add_115 : decode prog_12_method_94_code 115 = .ok (.laload, 1) := by decide +kernel
theorem d_M_add_116 : decode prog_12_method_94_code 116 = .ok (.l2i, 1) := by decide +kernel
theorem d_M_add_117 : decode prog_12_method_94_code 117 = .ok (.ireturn, 1) := by decide +kernel
theorem d_M_same_0 : decode prog_12_method_96_code 0 = .ok (.iload_n 1, 1) := by decide +kernel
theorem d_M_same_1 : decode prog_12_method_96_code 1 = .ok (.ifCond .ge 6, 3) := by decide +kernel
theorem d_M_same_4 : decode prog_12_method_96_code 4 = .ok (.ldc 95, 2) := by decide +kernel
theorem d_M_same_6 : decode prog_12_method_96_code 6 = .ok (.ireturn, 1) := by decide +kernel
theorem d_M_same_7 : decode prog_12_method_96_code 7 = .ok (.iconst 0, 1) := by decide +kernel
theorem d_M_same_8 : decode prog_12_method_96_code 8 = .ok (.istore_n 3, 1) := by decide +kernel
theorem d_M_same_9 : decode prog_12_method_96_code 9 = .ok (.iconst 0, 1) := by decide +kernel
theorem d_M_same_10 : decode prog_12_method_96_code 10 = .ok (.istore 4, 2) := by decide +kernel
theorem d_M_same_12 : decode prog_12_method_96_code 12 = .ok (.iload 4, 2) := by decide +kernel
theorem d_M_same_14 : decode prog_12_method_96_code 14 = .ok (.iconst 4, 1) := by decide +kernel
theorem d_M_same_15 : decode prog_12_method_96_code 15 = .ok (.if_icmp .ge 83, 3) := by decide +kernel
theorem d_M_same_18 : decode prog_12_method_96_code 18 = .ok (.aload_n 0, 1) := by decide +kernel
theorem d_M_same_19 : decode prog_12_method_96_code 19 = .ok (.getfield 25, 3) := by decide +kernel
theorem d_M_same_22 : decode prog_12_method_96_code 22 = .ok (.iload 4, 2) := by decide +kernel
theorem d_M_same_24 : decode prog_12_method_96_code 24 = .ok (.iaload, 1) := by decide +kernel
theorem d_M_same_25 : decode prog_12_method_96_code 25 = .ok (.ifCond .ne 9, 3) := by decide +kernel
theorem d_M_same_28 : decode prog_12_method_96_code 28 = .ok (.iload_n 2, 1) := by decide +kernel
theorem d_M_same_29 : decode prog_12_method_96_code 29 = .ok (.i2b, 1) := by decide +kernel
theorem d_M_same_30 : decode prog_12_method_96_code 30 = .ok (.i2l, 1) := by decide +kernel
theorem d_M_same_31 : decode prog_12_method_96_code 31 = .ok (.goto 22, 3) := by decide +kernel
theorem d_M_same_34 : decode prog_12_method_96_code 34 = .ok (.aload_n 0, 1) := by decide +kernel
theorem d_M_same_35 : decode prog_12_method_96_code 35 = .ok (.getfield 25, 3) := by decide +kernel
theorem d_M_same_38 : decode prog_12_method_96_code 38 = .ok (.iload 4, 2) := by decide +kernel
theorem d_M_same_40 : decode prog_12_method_96_code 40 = .ok (.iaload, 1) := by decide +kernel
theorem d_M_same_41 : decode prog_12_method_96_code 41 = .ok (.iconst 1, 1) := by decide +kernel
theorem d_M_same_42 : decode prog_12_method_96_code 42 = .ok (.if_icmp .ne 9, 3) := by decide +kernel
theorem d_M_same_45 : decode prog_12_method_96_code 45 = .ok (.iload_n 2, 1) := by decide +kernel
theorem d_M_same_46 : decode prog_12_method_96_code 46 = .ok (.i2s, 1) := by decide +kernel
theorem d_M_same_47 : decode prog_12_method_96_code 47 = .ok (.i2l, 1) := by decide +kernel
theorem d_M_same_48 : decode prog_12_method_96_code 48 = .ok (.goto 5, 3) := by decide +kernel
theorem d_M_same_51 : decode prog_12_method_96_code 51 = .ok (.iload_n 2, 1) := by decide +kernel
theorem d_M_same_52 : decode prog_12_method_96_code 52 = .ok (.i2l, 1) := by decide +kernel
theorem d_M_same_53 : decode prog_12_method_96_code 53 = .ok (.lstore 5, 2) := by decide +kernel
theorem d_M_same_55 : decode prog_12_method_96_code 55 = .ok (.iload_n 3, 1) := by decide +kernel
theorem d_M_same_56 : decode prog_12_method_96_code 56 = .ok (.iload_n 1, 1) := by decide +kernel
theorem d_M_same_57 : decode prog_12_method_96_code 57 = .ok (.aload_n 0, 1) := by decide +kernel
theorem d_M_same_58 : decode prog_12_method_96_code 58 = .ok (.getfield 28, 3) := by decide +kernel
theorem d_M_same_61 : decode prog_12_method_96_code 61 = .ok (.iload 4, 2) := by decide +kernel
theorem d_M_same_63 : decode prog_12_method_96_code 63 = .ok (.iaload, 1) := by decide +kernel
theorem d_M_same_64 : decode prog_12_method_96_code 64 = .ok (.if_icmp .ge 25, 3) := by decide +kernel
theorem d_M_same_67 : decode prog_12_method_96_code 67 = .ok (.aload_n 0, 1) := by decide +kernel
theorem d_M_same_68 : decode prog_12_method_96_code 68 = .ok (.getfield 31, 3) := by decide +kernel
theorem d_M_same_71 : decode prog_12_method_96_code 71 = .ok (.bipush 24, 2) := by decide +kernel
theorem d_M_same_73 : decode prog_12_method_96_code 73 = .ok (.iload 4, 2) := by decide +kernel
theorem d_M_same_75 : decode prog_12_method_96_code 75 = .ok (.imul, 1) := by decide +kernel
theorem d_M_same_76 : decode prog_12_method_96_code 76 = .ok (.iload_n 1, 1) := by decide +kernel
theorem d_M_same_77 : decode prog_12_method_96_code 77 = .ok (.iadd, 1) := by decide +kernel
theorem d_M_same_78 : decode prog_12_method_96_code 78 = .ok (.laload, 1) := by decide +kernel
theorem d_M_same_79 : decode prog_12_method_96_code 79 = .ok (.lload 5, 2) := by decide +kernel
theorem d_M_same_81 : decode prog_12_method_96_code 81 = .ok (.lcmp, 1) := by decide +kernel
theorem d_M_same_82 : decode prog_12_method_96_code 82 = .ok (.ifCond .ne 7, 3) := by decide +kernel
theorem d_M_same_85 : decode prog_12_method_96_code 85 = .ok (.iconst 1, 1) := by decide +kernel
theorem d_M_same_86 : decode prog_12_method_96_code 86 = .ok (.goto 4, 3) := by decide +kernel
theorem d_M_same_89 : decode prog_12_method_96_code 89 = .ok (.iconst 0, 1) := by decide +kernel
theorem d_M_same_90 : decode prog_12_method_96_code 90 = .ok (.iadd, 1) := by decide +kernel
theorem d_M_same_91 : decode prog_12_method_96_code 91 = .ok (.istore_n 3, 1) := by decide +kernel
theorem d_M_same_92 : decode prog_12_method_96_code 92 = .ok (.iinc 4 1, 3) := by decide +kernel
theorem d_M_same_95 : decode prog_12_method_96_code 95 = .ok (.goto (-83), 3) := by decide +kernel
theorem d_M_same_98 : decode prog_12_method_96_code 98 = .ok (.iload_n 3, 1) := by decide +kernel
theorem d_M_same_99 : decode prog_12_method_96_code 99 = .ok (.ireturn, 1) := by decide +kernel
theorem d_M_tell_0 : decode prog_12_method_97_code 0 = .ok (.aload_n 0, 1) := by decide +kernel
theorem d_M_tell_1 : decode prog_12_method_97_code 1 = .ok (.getfield 366, 3) := by decide +kernel
theorem d_M_tell_4 : decode prog_12_method_97_code 4 = .ok (.bipush 60, 2) := by decide +kernel
theorem d_M_tell_6 : decode prog_12_method_97_code 6 = .ok (.if_icmp .ne 6, 3) := by decide +kernel
theorem d_M_tell_9 : decode prog_12_method_97_code 9 = .ok (.ldc 96, 2) := by decide +kernel
theorem d_M_tell_11 : decode prog_12_method_97_code 11 = .ok (.ireturn, 1) := by decide +kernel
theorem d_M_tell_12 : decode prog_12_method_97_code 12 = .ok (.aload_n 0, 1) := by decide +kernel
theorem d_M_tell_13 : decode prog_12_method_97_code 13 = .ok (.getfield 22, 3) := by decide +kernel
theorem d_M_tell_16 : decode prog_12_method_97_code 16 = .ok (.aload_n 0, 1) := by decide +kernel
theorem d_M_tell_17 : decode prog_12_method_97_code 17 = .ok (.getfield 366, 3) := by decide +kernel
theorem d_M_tell_20 : decode prog_12_method_97_code 20 = .ok (.iload_n 1, 1) := by decide +kernel
theorem d_M_tell_21 : decode prog_12_method_97_code 21 = .ok (.iastore, 1) := by decide +kernel
theorem d_M_tell_22 : decode prog_12_method_97_code 22 = .ok (.aload_n 0, 1) := by decide +kernel
theorem d_M_tell_23 : decode prog_12_method_97_code 23 = .ok (.dup, 1) := by decide +kernel
theorem d_M_tell_24 : decode prog_12_method_97_code 24 = .ok (.getfield 366, 3) := by decide +kernel
theorem d_M_tell_27 : decode prog_12_method_97_code 27 = .ok (.iconst 1, 1) := by decide +kernel
theorem d_M_tell_28 : decode prog_12_method_97_code 28 = .ok (.iadd, 1) := by decide +kernel
theorem d_M_tell_29 : decode prog_12_method_97_code 29 = .ok (.putfield 366, 3) := by decide +kernel
theorem d_M_tell_32 : decode prog_12_method_97_code 32 = .ok (.aload_n 0, 1) := by decide +kernel
theorem d_M_tell_33 : decode prog_12_method_97_code 33 = .ok (.getfield 366, 3) := by decide +kernel
theorem d_M_tell_36 : decode prog_12_method_97_code 36 = .ok (.ireturn, 1) := by decide +kernel
theorem d_M_casesIn_0 : decode prog_12_method_98_code 0 = .ok (.iconst 0, 1) := by decide +kernel
theorem d_M_casesIn_1 : decode prog_12_method_98_code 1 = .ok (.istore_n 2, 1) := by decide +kernel
theorem d_M_casesIn_2 : decode prog_12_method_98_code 2 = .ok (.iconst 0, 1) := by decide +kernel
theorem d_M_casesIn_3 : decode prog_12_method_98_code 3 = .ok (.istore_n 3, 1) := by decide +kernel
theorem d_M_casesIn_4 : decode prog_12_method_98_code 4 = .ok (.iload_n 3, 1) := by decide +kernel
theorem d_M_casesIn_5 : decode prog_12_method_98_code 5 = .ok (.aload_n 0, 1) := by decide +kernel
theorem d_M_casesIn_6 : decode prog_12_method_98_code 6 = .ok (.getfield 9, 3) := by decide +kernel
theorem d_M_casesIn_9 : decode prog_12_method_98_code 9 = .ok (.iconst 2, 1) := by decide +kernel
theorem d_M_casesIn_10 : decode prog_12_method_98_code 10 = .ok (.iaload, 1) := by decide +kernel
theorem d_M_casesIn_11 : decode prog_12_method_98_code 11 = .ok (.if_icmp .ge 27, 3) := by decide +kernel
theorem d_M_casesIn_14 : decode prog_12_method_98_code 14 = .ok (.iload_n 2, 1) := by decide +kernel
theorem d_M_casesIn_15 : decode prog_12_method_98_code 15 = .ok (.aload_n 0, 1) := by decide +kernel
theorem d_M_casesIn_16 : decode prog_12_method_98_code 16 = .ok (.iload_n 3, 1) := by decide +kernel
theorem d_M_casesIn_17 : decode prog_12_method_98_code 17 = .ok (.iconst 3, 1) := by decide +kernel
theorem d_M_casesIn_18 : decode prog_12_method_98_code 18 = .ok (.invokevirtual 105, 3) := by decide +kernel
theorem d_M_casesIn_21 : decode prog_12_method_98_code 21 = .ok (.iload_n 1, 1) := by decide +kernel
theorem d_M_casesIn_22 : decode prog_12_method_98_code 22 = .ok (.if_icmp .ne 7, 3) := by decide +kernel
theorem d_M_casesIn_25 : decode prog_12_method_98_code 25 = .ok (.iconst 1, 1) := by decide +kernel
theorem d_M_casesIn_26 : decode prog_12_method_98_code 26 = .ok (.goto 4, 3) := by decide +kernel
theorem d_M_casesIn_29 : decode prog_12_method_98_code 29 = .ok (.iconst 0, 1) := by decide +kernel
theorem d_M_casesIn_30 : decode prog_12_method_98_code 30 = .ok (.iadd, 1) := by decide +kernel
theorem d_M_casesIn_31 : decode prog_12_method_98_code 31 = .ok (.istore_n 2, 1) := by decide +kernel
theorem d_M_casesIn_32 : decode prog_12_method_98_code 32 = .ok (.iinc 3 1, 3) := by decide +kernel
theorem d_M_casesIn_35 : decode prog_12_method_98_code 35 = .ok (.goto (-31), 3) := by decide +kernel
theorem d_M_casesIn_38 : decode prog_12_method_98_code 38 = .ok (.iload_n 2, 1) := by decide +kernel
theorem d_M_casesIn_39 : decode prog_12_method_98_code 39 = .ok (.ireturn, 1) := by decide +kernel
theorem d_M_count_0 : decode prog_12_method_103_code 0 = .ok (.iload_n 1, 1) := by decide +kernel
theorem d_M_count_1 : decode prog_12_method_103_code 1 = .ok (.tableswitch 239 0 17 #[87, 94, 94, 94, 102, 109, 116, 123, 131, 139, 147, 155, 163, 207, 215, 220, 225, 232], 87) := by decide +kernel
theorem d_M_count_88 : decode prog_12_method_103_code 88 = .ok (.aload_n 0, 1) := by decide +kernel
theorem d_M_count_89 : decode prog_12_method_103_code 89 = .ok (.getfield 9, 3) := by decide +kernel
theorem d_M_count_92 : decode prog_12_method_103_code 92 = .ok (.iconst 2, 1) := by decide +kernel
theorem d_M_count_93 : decode prog_12_method_103_code 93 = .ok (.iaload, 1) := by decide +kernel
theorem d_M_count_94 : decode prog_12_method_103_code 94 = .ok (.ireturn, 1) := by decide +kernel
theorem d_M_count_95 : decode prog_12_method_103_code 95 = .ok (.aload_n 0, 1) := by decide +kernel
theorem d_M_count_96 : decode prog_12_method_103_code 96 = .ok (.iload_n 1, 1) := by decide +kernel
theorem d_M_count_97 : decode prog_12_method_103_code 97 = .ok (.iconst 1, 1) := by decide +kernel
theorem d_M_count_98 : decode prog_12_method_103_code 98 = .ok (.isub, 1) := by decide +kernel
theorem d_M_count_99 : decode prog_12_method_103_code 99 = .ok (.invokevirtual 377, 3) := by decide +kernel
theorem d_M_count_102 : decode prog_12_method_103_code 102 = .ok (.ireturn, 1) := by decide +kernel
theorem d_M_count_103 : decode prog_12_method_103_code 103 = .ok (.aload_n 0, 1) := by decide +kernel
theorem d_M_count_104 : decode prog_12_method_103_code 104 = .ok (.getfield 9, 3) := by decide +kernel
theorem d_M_count_107 : decode prog_12_method_103_code 107 = .ok (.iconst 3, 1) := by decide +kernel
theorem d_M_count_108 : decode prog_12_method_103_code 108 = .ok (.iaload, 1) := by decide +kernel
theorem d_M_count_109 : decode prog_12_method_103_code 109 = .ok (.ireturn, 1) := by decide +kernel
theorem d_M_count_110 : decode prog_12_method_103_code 110 = .ok (.aload_n 0, 1) := by decide +kernel
theorem d_M_count_111 : decode prog_12_method_103_code 111 = .ok (.getfield 9, 3) := by decide +kernel
theorem d_M_count_114 : decode prog_12_method_103_code 114 = .ok (.iconst 4, 1) := by decide +kernel
theorem d_M_count_115 : decode prog_12_method_103_code 115 = .ok (.iaload, 1) := by decide +kernel
theorem d_M_count_116 : decode prog_12_method_103_code 116 = .ok (.ireturn, 1) := by decide +kernel
theorem d_M_count_117 : decode prog_12_method_103_code 117 = .ok (.aload_n 0, 1) := by decide +kernel
theorem d_M_count_118 : decode prog_12_method_103_code 118 = .ok (.getfield 9, 3) := by decide +kernel
theorem d_M_count_121 : decode prog_12_method_103_code 121 = .ok (.iconst 5, 1) := by decide +kernel
theorem d_M_count_122 : decode prog_12_method_103_code 122 = .ok (.iaload, 1) := by decide +kernel
theorem d_M_count_123 : decode prog_12_method_103_code 123 = .ok (.ireturn, 1) := by decide +kernel
theorem d_M_count_124 : decode prog_12_method_103_code 124 = .ok (.aload_n 0, 1) := by decide +kernel
theorem d_M_count_125 : decode prog_12_method_103_code 125 = .ok (.getfield 9, 3) := by decide +kernel
theorem d_M_count_128 : decode prog_12_method_103_code 128 = .ok (.bipush 6, 2) := by decide +kernel
theorem d_M_count_130 : decode prog_12_method_103_code 130 = .ok (.iaload, 1) := by decide +kernel
theorem d_M_count_131 : decode prog_12_method_103_code 131 = .ok (.ireturn, 1) := by decide +kernel
theorem d_M_count_132 : decode prog_12_method_103_code 132 = .ok (.aload_n 0, 1) := by decide +kernel
theorem d_M_count_133 : decode prog_12_method_103_code 133 = .ok (.getfield 9, 3) := by decide +kernel
theorem d_M_count_136 : decode prog_12_method_103_code 136 = .ok (.bipush 7, 2) := by decide +kernel
theorem d_M_count_138 : decode prog_12_method_103_code 138 = .ok (.iaload, 1) := by decide +kernel
theorem d_M_count_139 : decode prog_12_method_103_code 139 = .ok (.ireturn, 1) := by decide +kernel
theorem d_M_count_140 : decode prog_12_method_103_code 140 = .ok (.aload_n 0, 1) := by decide +kernel
theorem d_M_count_141 : decode prog_12_method_103_code 141 = .ok (.getfield 9, 3) := by decide +kernel
theorem d_M_count_144 : decode prog_12_method_103_code 144 = .ok (.bipush 8, 2) := by decide +kernel
theorem d_M_count_146 : decode prog_12_method_103_code 146 = .ok (.iaload, 1) := by decide +kernel
theorem d_M_count_147 : decode prog_12_method_103_code 147 = .ok (.ireturn, 1) := by decide +kernel
theorem d_M_count_148 : decode prog_12_method_103_code 148 = .ok (.aload_n 0, 1) := by decide +kernel
theorem d_M_count_149 : decode prog_12_method_103_code 149 = .ok (.getfield 9, 3) := by decide +kernel
theorem d_M_count_152 : decode prog_12_method_103_code 152 = .ok (.bipush 9, 2) := by decide +kernel
theorem d_M_count_154 : decode prog_12_method_103_code 154 = .ok (.iaload, 1) := by decide +kernel
theorem d_M_count_155 : decode prog_12_method_103_code 155 = .ok (.ireturn, 1) := by decide +kernel
theorem d_M_count_156 : decode prog_12_method_103_code 156 = .ok (.aload_n 0, 1) := by decide +kernel
theorem d_M_count_157 : decode prog_12_method_103_code 157 = .ok (.getfield 9, 3) := by decide +kernel
theorem d_M_count_160 : decode prog_12_method_103_code 160 = .ok (.bipush 10, 2) := by decide +kernel
theorem d_M_count_162 : decode prog_12_method_103_code 162 = .ok (.iaload, 1) := by decide +kernel
theorem d_M_count_163 : decode prog_12_method_103_code 163 = .ok (.ireturn, 1) := by decide +kernel
theorem d_M_count_164 : decode prog_12_method_103_code 164 = .ok (.iconst 0, 1) := by decide +kernel
theorem d_M_count_165 : decode prog_12_method_103_code 165 = .ok (.istore_n 2, 1) := by decide +kernel
theorem d_M_count_166 : decode prog_12_method_103_code 166 = .ok (.iconst 0, 1) := by decide +kernel
theorem d_M_count_167 : decode prog_12_method_103_code 167 = .ok (.istore_n 3, 1) := by decide +kernel
theorem d_M_count_168 : decode prog_12_method_103_code 168 = .ok (.iload_n 3, 1) := by decide +kernel
theorem d_M_count_169 : decode prog_12_method_103_code 169 = .ok (.aload_n 0, 1) := by decide +kernel
theorem d_M_count_170 : decode prog_12_method_103_code 170 = .ok (.getfield 9, 3) := by decide +kernel
theorem d_M_count_173 : decode prog_12_method_103_code 173 = .ok (.bipush 10, 2) := by decide +kernel
theorem d_M_count_175 : decode prog_12_method_103_code 175 = .ok (.iaload, 1) := by decide +kernel
theorem d_M_count_176 : decode prog_12_method_103_code 176 = .ok (.if_icmp .ge 30, 3) := by decide +kernel
theorem d_M_count_179 : decode prog_12_method_103_code 179 = .ok (.iload_n 2, 1) := by decide +kernel
theorem d_M_count_180 : decode prog_12_method_103_code 180 = .ok (.aload_n 0, 1) := by decide +kernel
theorem d_M_count_181 : decode prog_12_method_103_code 181 = .ok (.getfield 9, 3) := by decide +kernel
theorem d_M_count_184 : decode prog_12_method_103_code 184 = .ok (.iload_n 3, 1) := by decide +kernel
theorem d_M_count_185 : decode prog_12_method_103_code 185 = .ok (.iconst 2, 1) := by decide +kernel
theorem d_M_count_186 : decode prog_12_method_103_code 186 = .ok (.invokestatic 316, 3) := by decide +kernel
theorem d_M_count_189 : decode prog_12_method_103_code 189 = .ok (.iaload, 1) := by decide +kernel
theorem d_M_count_190 : decode prog_12_method_103_code 190 = .ok (.ifCond .ne 7, 3) := by decide +kernel
theorem d_M_count_193 : decode prog_12_method_103_code 193 = .ok (.iconst 1, 1) := by decide +kernel
theorem d_M_count_194 : decode prog_12_method_103_code 194 = .ok (.goto 4, 3) := by decide +kernel
theorem d_M_count_197 : decode prog_12_method_103_code 197 = .ok (.iconst 0, 1) := by decide +kernel
theorem d_M_count_198 : decode prog_12_method_103_code 198 = .ok (.iadd, 1) := by decide +kernel
theorem d_M_count_199 : decode prog_12_method_103_code 199 = .ok (.istore_n 2, 1) := by decide +kernel
theorem d_M_count_200 : decode prog_12_method_103_code 200 = .ok (.iinc 3 1, 3) := by decide +kernel
theorem d_M_count_203 : decode prog_12_method_103_code 203 = .ok (.goto (-35), 3) := by decide +kernel
theorem d_M_count_206 : decode prog_12_method_103_code 206 = .ok (.iload_n 2, 1) := by decide +kernel
theorem d_M_count_207 : decode prog_12_method_103_code 207 = .ok (.ireturn, 1) := by decide +kernel
theorem d_M_count_208 : decode prog_12_method_103_code 208 = .ok (.aload_n 0, 1) := by decide +kernel
theorem d_M_count_209 : decode prog_12_method_103_code 209 = .ok (.getfield 9, 3) := by decide +kernel
theorem d_M_count_212 : decode prog_12_method_103_code 212 = .ok (.bipush 11, 2) := by decide +kernel
theorem d_M_count_214 : decode prog_12_method_103_code 214 = .ok (.iaload, 1) := by decide +kernel
theorem d_M_count_215 : decode prog_12_method_103_code 215 = .ok (.ireturn, 1) := by decide +kernel
theorem d_M_count_216 : decode prog_12_method_103_code 216 = .ok (.aload_n 0, 1) := by decide +kernel
theorem d_M_count_217 : decode prog_12_method_103_code 217 = .ok (.getfield 366, 3) := by decide +kernel
theorem d_M_count_220 : decode prog_12_method_103_code 220 = .ok (.ireturn, 1) := by decide +kernel
theorem d_M_count_221 : decode prog_12_method_103_code 221 = .ok (.aload_n 0, 1) := by decide +kernel
theorem d_M_count_222 : decode prog_12_method_103_code 222 = .ok (.getfield 180, 3) := by decide +kernel
theorem d_M_count_225 : decode prog_12_method_103_code 225 = .ok (.ireturn, 1) := by decide +kernel
theorem d_M_count_226 : decode prog_12_method_103_code 226 = .ok (.aload_n 0, 1) := by decide +kernel
theorem d_M_count_227 : decode prog_12_method_103_code 227 = .ok (.getfield 9, 3) := by decide +kernel
theorem d_M_count_230 : decode prog_12_method_103_code 230 = .ok (.iconst 0, 1) := by decide +kernel
theorem d_M_count_231 : decode prog_12_method_103_code 231 = .ok (.iaload, 1) := by decide +kernel
theorem d_M_count_232 : decode prog_12_method_103_code 232 = .ok (.ireturn, 1) := by decide +kernel
theorem d_M_count_233 : decode prog_12_method_103_code 233 = .ok (.aload_n 0, 1) := by decide +kernel
theorem d_M_count_234 : decode prog_12_method_103_code 234 = .ok (.getfield 9, 3) := by decide +kernel
theorem d_M_count_237 : decode prog_12_method_103_code 237 = .ok (.iconst 1, 1) := by decide +kernel
theorem d_M_count_238 : decode prog_12_method_103_code 238 = .ok (.iaload, 1) := by decide +kernel
theorem d_M_count_239 : decode prog_12_method_103_code 239 = .ok (.ireturn, 1) := by decide +kernel
theorem d_M_count_240 : decode prog_12_method_103_code 240 = .ok (.ldc 95, 2) := by decide +kernel
theorem d_M_count_242 : decode prog_12_method_103_code 242 = .ok (.ireturn, 1) := by decide +kernel
