/-! which instruction stands where -/
theorem c_M_init_0 : cT 10 0 = o_al 1 0 := rfl
theorem c_M_init_1 : cT 10 1 = o_oin 4 := rfl
theorem c_M_init_4 : cT 10 4 = o_al 5 0 := rfl
theorem c_M_init_5 : cT 10 5 = o_ci 8 2578 := rfl
theorem c_M_init_8 : cT 10 8 = o_na 10 0 := rfl
theorem c_M_init_10 : cT 10 10 = o_pf 13 10 0 2 := rfl
theorem c_M_init_13 : cT 10 13 = o_al 14 0 := rfl
theorem c_M_init_14 : cT 10 14 = o_ci 17 2578 := rfl
theorem c_M_init_17 : cT 10 17 = o_na 19 0 := rfl
theorem c_M_init_19 : cT 10 19 = o_pf 22 10 1 2 := rfl
theorem c_M_init_22 : cT 10 22 = o_al 23 0 := rfl
theorem c_M_init_23 : cT 10 23 = o_ci 26 2578 := rfl
theorem c_M_init_26 : cT 10 26 = o_na 28 0 := rfl
theorem c_M_init_28 : cT 10 28 = o_pf 31 10 2 2 := rfl
theorem c_M_init_31 : cT 10 31 = o_al 32 0 := rfl
theorem c_M_init_32 : cT 10 32 = o_ci 34 96 := rfl
theorem c_M_init_34 : cT 10 34 = o_na 36 0 := rfl
theorem c_M_init_36 : cT 10 36 = o_pf 39 10 4 2 := rfl
theorem c_M_init_39 : cT 10 39 = o_al 40 0 := rfl
theorem c_M_init_40 : cT 10 40 = o_ci 42 60 := rfl
theorem c_M_init_42 : cT 10 42 = o_na 44 0 := rfl
theorem c_M_init_44 : cT 10 44 = o_pf 47 10 6 2 := rfl
theorem c_M_init_47 : cT 10 47 = o_al 48 0 := rfl
theorem c_M_init_48 : cT 10 48 = o_ci 49 4 := rfl
theorem c_M_init_49 : cT 10 49 = o_na 51 0 := rfl
theorem c_M_init_51 : cT 10 51 = o_pf 54 10 8 2 := rfl
theorem c_M_init_54 : cT 10 54 = o_al 55 0 := rfl
theorem c_M_init_55 : cT 10 55 = o_ci 56 4 := rfl
theorem c_M_init_56 : cT 10 56 = o_na 58 0 := rfl
theorem c_M_init_58 : cT 10 58 = o_pf 61 10 9 2 := rfl
theorem c_M_init_61 : cT 10 61 = o_al 62 0 := rfl
theorem c_M_init_62 : cT 10 62 = o_ci 64 96 := rfl
theorem c_M_init_64 : cT 10 64 = o_na 66 2 := rfl
theorem c_M_init_66 : cT 10 66 = o_pf 69 10 10 2 := rfl
theorem c_M_init_69 : cT 10 69 = o_al 70 0 := rfl
theorem c_M_init_70 : cT 10 70 = o_ci 72 102 := rfl
theorem c_M_init_72 : cT 10 72 = o_na 74 0 := rfl
theorem c_M_init_74 : cT 10 74 = o_pf 77 10 11 2 := rfl
theorem c_M_init_77 : cT 10 77 = o_al 78 0 := rfl
theorem c_M_init_78 : cT 10 78 = o_cv 80 (.ref 1000015) := rfl
theorem c_M_init_80 : cT 10 80 = o_pf 83 10 19 2 := rfl
theorem c_M_init_83 : cT 10 83 = o_al 84 0 := rfl
theorem c_M_init_84 : cT 10 84 = o_ci 86 100 := rfl
theorem c_M_init_86 : cT 10 86 = o_na 88 0 := rfl
theorem c_M_init_88 : cT 10 88 = o_pf 91 10 20 2 := rfl
theorem c_M_init_91 : cT 10 91 = o_al 92 0 := rfl
theorem c_M_init_92 : cT 10 92 = o_ci 93 5 := rfl
theorem c_M_init_93 : cT 10 93 = o_na 96 5 := rfl
theorem c_M_init_96 : cT 10 96 = o_dup 97 := rfl
theorem c_M_init_97 : cT 10 97 = o_ci 98 0 := rfl
theorem c_M_init_98 : cT 10 98 = o_cv 100 (.ref 1000016) := rfl
theorem c_M_init_100 : cT 10 100 = o_aas 101 5 100 := rfl
theorem c_M_init_101 : cT 10 101 = o_dup 102 := rfl
theorem c_M_init_102 : cT 10 102 = o_ci 103 1 := rfl
theorem c_M_init_103 : cT 10 103 = o_cv 105 (.ref 1000017) := rfl
theorem c_M_init_105 : cT 10 105 = o_aas 106 5 100 := rfl
theorem c_M_init_106 : cT 10 106 = o_dup 107 := rfl
theorem c_M_init_107 : cT 10 107 = o_ci 108 2 := rfl
theorem c_M_init_108 : cT 10 108 = o_cv 110 (.ref 1000018) := rfl
theorem c_M_init_110 : cT 10 110 = o_aas 111 5 100 := rfl
theorem c_M_init_111 : cT 10 111 = o_dup 112 := rfl
theorem c_M_init_112 : cT 10 112 = o_ci 113 3 := rfl
theorem c_M_init_113 : cT 10 113 = o_cv 115 (.ref 1000019) := rfl
theorem c_M_init_115 : cT 10 115 = o_aas 116 5 100 := rfl
theorem c_M_init_116 : cT 10 116 = o_dup 117 := rfl
theorem c_M_init_117 : cT 10 117 = o_ci 118 4 := rfl
theorem c_M_init_118 : cT 10 118 = o_cv 120 (.ref 1000020) := rfl
theorem c_M_init_120 : cT 10 120 = o_aas 121 5 100 := rfl
theorem c_M_init_121 : cT 10 121 = o_pf 124 10 23 2 := rfl
theorem c_M_init_124 : cT 10 124 = o_al 125 0 := rfl
theorem c_M_init_125 : cT 10 125 = o_ci 126 5 := rfl
theorem c_M_init_126 : cT 10 126 = o_na 129 5 := rfl
theorem c_M_init_129 : cT 10 129 = o_dup 130 := rfl
theorem c_M_init_130 : cT 10 130 = o_ci 131 0 := rfl
theorem c_M_init_131 : cT 10 131 = o_cv 133 (.ref 1000021) := rfl
theorem c_M_init_133 : cT 10 133 = o_aas 134 5 100 := rfl
theorem c_M_init_134 : cT 10 134 = o_dup 135 := rfl
theorem c_M_init_135 : cT 10 135 = o_ci 136 1 := rfl
theorem c_M_init_136 : cT 10 136 = o_cv 138 (.ref 1000022) := rfl
theorem c_M_init_138 : cT 10 138 = o_aas 139 5 100 := rfl
theorem c_M_init_139 : cT 10 139 = o_dup 140 := rfl
theorem c_M_init_140 : cT 10 140 = o_ci 141 2 := rfl
theorem c_M_init_141 : cT 10 141 = o_cv 143 (.ref 1000023) := rfl
theorem c_M_init_143 : cT 10 143 = o_aas 144 5 100 := rfl
theorem c_M_init_144 : cT 10 144 = o_dup 145 := rfl
theorem c_M_init_145 : cT 10 145 = o_ci 146 3 := rfl
theorem c_M_init_146 : cT 10 146 = o_cv 148 (.ref 1000024) := rfl
theorem c_M_init_148 : cT 10 148 = o_aas 149 5 100 := rfl
theorem c_M_init_149 : cT 10 149 = o_dup 150 := rfl
theorem c_M_init_150 : cT 10 150 = o_ci 151 4 := rfl
theorem c_M_init_151 : cT 10 151 = o_cv 153 (.ref 1000025) := rfl
theorem c_M_init_153 : cT 10 153 = o_aas 154 5 100 := rfl
theorem c_M_init_154 : cT 10 154 = o_pf 157 10 24 2 := rfl
theorem c_M_init_157 : cT 10 157 = o_al 158 0 := rfl
theorem c_M_init_158 : cT 10 158 = o_ci 160 100 := rfl
theorem c_M_init_160 : cT 10 160 = o_na 162 0 := rfl
theorem c_M_init_162 : cT 10 162 = o_pf 165 10 25 2 := rfl
theorem c_M_init_165 : cT 10 165 = o_al 166 0 := rfl
theorem c_M_init_166 : cT 10 166 = o_ci 167 4 := rfl
theorem c_M_init_167 : cT 10 167 = o_na 169 0 := rfl
theorem c_M_init_169 : cT 10 169 = o_pf 172 10 26 2 := rfl
theorem c_M_init_172 : cT 10 172 = o_al 173 0 := rfl
theorem c_M_init_173 : cT 10 173 = o_ci 175 24 := rfl
theorem c_M_init_175 : cT 10 175 = o_na 177 2 := rfl
theorem c_M_init_177 : cT 10 177 = o_pf 180 10 27 2 := rfl
theorem c_M_init_180 : cT 10 180 = o_ci 181 0 := rfl
theorem c_M_init_181 : cT 10 181 = o_is 182 1 := rfl
theorem c_M_init_182 : cT 10 182 = o_il 183 1 := rfl
theorem c_M_init_183 : cT 10 183 = o_ci 184 4 := rfl
theorem c_M_init_184 : cT 10 184 = o_icge 187 200 := rfl
theorem c_M_init_187 : cT 10 187 = o_al 188 0 := rfl
theorem c_M_init_188 : cT 10 188 = o_gf 191 10 8 := rfl
theorem c_M_init_191 : cT 10 191 = o_il 192 1 := rfl
theorem c_M_init_192 : cT 10 192 = o_ci 193 (-1) := rfl
theorem c_M_init_193 : cT 10 193 = o_ias 194 := rfl
theorem c_M_init_194 : cT 10 194 = o_inc 197 1 1 := rfl
theorem c_M_init_197 : cT 10 197 = o_goto 182 := rfl
theorem c_M_init_200 : cT 10 200 = o_vret := rfl
theorem c_M_within_0 : cT 17 0 = o_ll 1 0 := rfl
theorem c_M_within_1 : cT 17 1 = o_ll 2 2 := rfl
theorem c_M_within_2 : cT 17 2 = o_lcmp 3 := rfl
theorem c_M_within_3 : cT 17 3 = o_iflt 6 17 := rfl
theorem c_M_within_6 : cT 17 6 = o_ll 7 0 := rfl
theorem c_M_within_7 : cT 17 7 = o_ll 9 4 := rfl
theorem c_M_within_9 : cT 17 9 = o_lcmp 10 := rfl
theorem c_M_within_10 : cT 17 10 = o_ifgt 13 17 := rfl
theorem c_M_within_13 : cT 17 13 = o_ci 14 1 := rfl
theorem c_M_within_14 : cT 17 14 = o_goto 18 := rfl
theorem c_M_within_17 : cT 17 17 = o_ci 18 0 := rfl
theorem c_M_within_18 : cT 17 18 = o_iret .boolean := rfl
theorem c_M_becomes_0 : cT 18 0 = o_al 1 0 := rfl
theorem c_M_becomes_1 : cT 18 1 = o_gf 4 10 0 := rfl
theorem c_M_becomes_4 : cT 18 4 = o_ci 6 20 := rfl
theorem c_M_becomes_6 : cT 18 6 = o_ci 8 6 := rfl
theorem c_M_becomes_8 : cT 18 8 = o_il 9 1 := rfl
theorem c_M_becomes_9 : cT 18 9 = o_imul 10 := rfl
theorem c_M_becomes_10 : cT 18 10 = o_iadd 11 := rfl
theorem c_M_becomes_11 : cT 18 11 = o_il 12 2 := rfl
theorem c_M_becomes_12 : cT 18 12 = o_iadd 13 := rfl
theorem c_M_becomes_13 : cT 18 13 = o_il 14 3 := rfl
theorem c_M_becomes_14 : cT 18 14 = o_ias 15 := rfl
theorem c_M_becomes_15 : cT 18 15 = o_vret := rfl
theorem c_M_begins_0 : cT 19 0 = o_al 1 0 := rfl
theorem c_M_begins_1 : cT 19 1 = o_gf 4 10 0 := rfl
theorem c_M_begins_4 : cT 19 4 = o_ci 5 4 := rfl
theorem c_M_begins_5 : cT 19 5 = o_ial 6 := rfl
theorem c_M_begins_6 : cT 19 6 = o_is 7 2 := rfl
theorem c_M_begins_7 : cT 19 7 = o_al 8 0 := rfl
theorem c_M_begins_8 : cT 19 8 = o_gf 11 10 0 := rfl
theorem c_M_begins_11 : cT 19 11 = o_ci 14 164 := rfl
theorem c_M_begins_14 : cT 19 14 = o_ci 15 3 := rfl
theorem c_M_begins_15 : cT 19 15 = o_il 16 2 := rfl
theorem c_M_begins_16 : cT 19 16 = o_imul 17 := rfl
theorem c_M_begins_17 : cT 19 17 = o_iadd 18 := rfl
theorem c_M_begins_18 : cT 19 18 = o_il 19 1 := rfl
theorem c_M_begins_19 : cT 19 19 = o_ias 20 := rfl
theorem c_M_begins_20 : cT 19 20 = o_al 21 0 := rfl
theorem c_M_begins_21 : cT 19 21 = o_gf 24 10 0 := rfl
theorem c_M_begins_24 : cT 19 24 = o_ci 27 164 := rfl
theorem c_M_begins_27 : cT 19 27 = o_ci 28 3 := rfl
theorem c_M_begins_28 : cT 19 28 = o_il 29 2 := rfl
theorem c_M_begins_29 : cT 19 29 = o_imul 30 := rfl
theorem c_M_begins_30 : cT 19 30 = o_iadd 31 := rfl
theorem c_M_begins_31 : cT 19 31 = o_ci 32 1 := rfl
theorem c_M_begins_32 : cT 19 32 = o_iadd 33 := rfl
theorem c_M_begins_33 : cT 19 33 = o_al 34 0 := rfl
theorem c_M_begins_34 : cT 19 34 = o_gf 37 10 0 := rfl
theorem c_M_begins_37 : cT 19 37 = o_ci 38 0 := rfl
theorem c_M_begins_38 : cT 19 38 = o_ial 39 := rfl
theorem c_M_begins_39 : cT 19 39 = o_ias 40 := rfl
theorem c_M_begins_40 : cT 19 40 = o_al 41 0 := rfl
theorem c_M_begins_41 : cT 19 41 = o_gf 44 10 0 := rfl
theorem c_M_begins_44 : cT 19 44 = o_ci 47 164 := rfl
theorem c_M_begins_47 : cT 19 47 = o_ci 48 3 := rfl
theorem c_M_begins_48 : cT 19 48 = o_il 49 2 := rfl
theorem c_M_begins_49 : cT 19 49 = o_imul 50 := rfl
theorem c_M_begins_50 : cT 19 50 = o_iadd 51 := rfl
theorem c_M_begins_51 : cT 19 51 = o_ci 52 2 := rfl
theorem c_M_begins_52 : cT 19 52 = o_iadd 53 := rfl
theorem c_M_begins_53 : cT 19 53 = o_ci 54 (-1) := rfl
theorem c_M_begins_54 : cT 19 54 = o_ias 55 := rfl
theorem c_M_begins_55 : cT 19 55 = o_al 56 0 := rfl
theorem c_M_begins_56 : cT 19 56 = o_il 57 1 := rfl
theorem c_M_begins_57 : cT 19 57 = o_ci 58 5 := rfl
theorem c_M_begins_58 : cT 19 58 = o_il 59 2 := rfl
theorem c_M_begins_59 : cT 19 59 = o_ca 62 18 4 4 false (some 10) := rfl
theorem c_M_begins_62 : cT 19 62 = o_al 63 0 := rfl
theorem c_M_begins_63 : cT 19 63 = o_gf 66 10 0 := rfl
theorem c_M_begins_66 : cT 19 66 = o_ci 67 4 := rfl
theorem c_M_begins_67 : cT 19 67 = o_dup2 68 := rfl
theorem c_M_begins_68 : cT 19 68 = o_ial 69 := rfl
theorem c_M_begins_69 : cT 19 69 = o_ci 70 1 := rfl
theorem c_M_begins_70 : cT 19 70 = o_iadd 71 := rfl
theorem c_M_begins_71 : cT 19 71 = o_ias 72 := rfl
theorem c_M_begins_72 : cT 19 72 = o_vret := rfl
theorem c_M_person_0 : cT 20 0 = o_il 1 1 := rfl
theorem c_M_person_1 : cT 20 1 = o_i2l 2 := rfl
theorem c_M_person_2 : cT 20 2 = o_cl 3 0 := rfl
theorem c_M_person_3 : cT 20 3 = o_cl 6 7 := rfl
theorem c_M_person_6 : cT 20 6 = o_ca 9 17 3 6 false none := rfl
theorem c_M_person_9 : cT 20 9 = o_ifeq 12 47 := rfl
theorem c_M_person_12 : cT 20 12 = o_il 13 2 := rfl
theorem c_M_person_13 : cT 20 13 = o_i2l 14 := rfl
theorem c_M_person_14 : cT 20 14 = o_cl 15 0 := rfl
theorem c_M_person_15 : cT 20 15 = o_cl 18 5 := rfl
theorem c_M_person_18 : cT 20 18 = o_ca 21 17 3 6 false none := rfl
theorem c_M_person_21 : cT 20 21 = o_ifeq 24 47 := rfl
theorem c_M_person_24 : cT 20 24 = o_il 25 3 := rfl
theorem c_M_person_25 : cT 20 25 = o_i2l 26 := rfl
theorem c_M_person_26 : cT 20 26 = o_cl 27 0 := rfl
theorem c_M_person_27 : cT 20 27 = o_cl 30 255 := rfl
theorem c_M_person_30 : cT 20 30 = o_ca 33 17 3 6 false none := rfl
theorem c_M_person_33 : cT 20 33 = o_ifeq 36 47 := rfl
theorem c_M_person_36 : cT 20 36 = o_il 38 4 := rfl
theorem c_M_person_38 : cT 20 38 = o_i2l 39 := rfl
theorem c_M_person_39 : cT 20 39 = o_cl 40 0 := rfl
theorem c_M_person_40 : cT 20 40 = o_cl 41 1 := rfl
theorem c_M_person_41 : cT 20 41 = o_ca 44 17 3 6 false none := rfl
theorem c_M_person_44 : cT 20 44 = o_ifne 47 50 := rfl
theorem c_M_person_47 : cT 20 47 = o_ci 49 (-1000000001) := rfl
theorem c_M_person_49 : cT 20 49 = o_iret .int := rfl
theorem c_M_person_50 : cT 20 50 = o_al 51 0 := rfl
theorem c_M_person_51 : cT 20 51 = o_gf 54 10 0 := rfl
theorem c_M_person_54 : cT 20 54 = o_ci 55 2 := rfl
theorem c_M_person_55 : cT 20 55 = o_ial 56 := rfl
theorem c_M_person_56 : cT 20 56 = o_is 58 5 := rfl
theorem c_M_person_58 : cT 20 58 = o_il 60 5 := rfl
theorem c_M_person_60 : cT 20 60 = o_ci 62 12 := rfl
theorem c_M_person_62 : cT 20 62 = o_iceq 65 76 := rfl
theorem c_M_person_65 : cT 20 65 = o_al 66 0 := rfl
theorem c_M_person_66 : cT 20 66 = o_gf 69 10 0 := rfl
theorem c_M_person_69 : cT 20 69 = o_ci 70 4 := rfl
theorem c_M_person_70 : cT 20 70 = o_ial 71 := rfl
theorem c_M_person_71 : cT 20 71 = o_ci 73 30 := rfl
theorem c_M_person_73 : cT 20 73 = o_icne 76 79 := rfl
theorem c_M_person_76 : cT 20 76 = o_ci 78 (-1000000003) := rfl
theorem c_M_person_78 : cT 20 78 = o_iret .int := rfl
theorem c_M_person_79 : cT 20 79 = o_al 80 0 := rfl
theorem c_M_person_80 : cT 20 80 = o_il 82 5 := rfl
theorem c_M_person_82 : cT 20 82 = o_ci 83 0 := rfl
theorem c_M_person_83 : cT 20 83 = o_il 84 1 := rfl
theorem c_M_person_84 : cT 20 84 = o_ca 87 18 4 4 false (some 10) := rfl
theorem c_M_person_87 : cT 20 87 = o_al 88 0 := rfl
theorem c_M_person_88 : cT 20 88 = o_il 90 5 := rfl
theorem c_M_person_90 : cT 20 90 = o_ci 91 1 := rfl
theorem c_M_person_91 : cT 20 91 = o_il 92 2 := rfl
theorem c_M_person_92 : cT 20 92 = o_ca 95 18 4 4 false (some 10) := rfl
theorem c_M_person_95 : cT 20 95 = o_al 96 0 := rfl
theorem c_M_person_96 : cT 20 96 = o_il 98 5 := rfl
theorem c_M_person_98 : cT 20 98 = o_ci 99 2 := rfl
theorem c_M_person_99 : cT 20 99 = o_il 100 3 := rfl
theorem c_M_person_100 : cT 20 100 = o_ca 103 18 4 4 false (some 10) := rfl
theorem c_M_person_103 : cT 20 103 = o_al 104 0 := rfl
theorem c_M_person_104 : cT 20 104 = o_il 106 5 := rfl
theorem c_M_person_106 : cT 20 106 = o_ci 107 3 := rfl
theorem c_M_person_107 : cT 20 107 = o_ci 108 0 := rfl
theorem c_M_person_108 : cT 20 108 = o_ca 111 18 4 4 false (some 10) := rfl
theorem c_M_person_111 : cT 20 111 = o_al 112 0 := rfl
theorem c_M_person_112 : cT 20 112 = o_il 114 5 := rfl
theorem c_M_person_114 : cT 20 114 = o_ci 115 4 := rfl
theorem c_M_person_115 : cT 20 115 = o_il 117 4 := rfl
theorem c_M_person_117 : cT 20 117 = o_ca 120 18 4 4 false (some 10) := rfl
theorem c_M_person_120 : cT 20 120 = o_al 121 0 := rfl
theorem c_M_person_121 : cT 20 121 = o_gf 124 10 0 := rfl
theorem c_M_person_124 : cT 20 124 = o_ci 125 2 := rfl
theorem c_M_person_125 : cT 20 125 = o_dup2 126 := rfl
theorem c_M_person_126 : cT 20 126 = o_ial 127 := rfl
theorem c_M_person_127 : cT 20 127 = o_ci 128 1 := rfl
theorem c_M_person_128 : cT 20 128 = o_iadd 129 := rfl
theorem c_M_person_129 : cT 20 129 = o_ias 130 := rfl
theorem c_M_person_130 : cT 20 130 = o_al 131 0 := rfl
theorem c_M_person_131 : cT 20 131 = o_il 133 5 := rfl
theorem c_M_person_133 : cT 20 133 = o_ca 136 19 2 3 false (some 10) := rfl
theorem c_M_person_136 : cT 20 136 = o_il 138 5 := rfl
theorem c_M_person_138 : cT 20 138 = o_iret .int := rfl
theorem c_M_there_0 : cT 29 0 = o_il 1 1 := rfl
theorem c_M_there_1 : cT 29 1 = o_i2l 2 := rfl
theorem c_M_there_2 : cT 29 2 = o_cl 3 0 := rfl
theorem c_M_there_3 : cT 29 3 = o_al 4 0 := rfl
theorem c_M_there_4 : cT 29 4 = o_gf 7 10 0 := rfl
theorem c_M_there_7 : cT 29 7 = o_il 8 2 := rfl
theorem c_M_there_8 : cT 29 8 = o_ial 9 := rfl
theorem c_M_there_9 : cT 29 9 = o_ci 10 1 := rfl
theorem c_M_there_10 : cT 29 10 = o_isub 11 := rfl
theorem c_M_there_11 : cT 29 11 = o_i2l 12 := rfl
theorem c_M_there_12 : cT 29 12 = o_ca 15 17 3 6 false none := rfl
theorem c_M_there_15 : cT 29 15 = o_iret .boolean := rfl
theorem c_M_total_0 : cT 30 0 = o_ci 1 0 := rfl
theorem c_M_total_1 : cT 30 1 = o_is 2 2 := rfl
theorem c_M_total_2 : cT 30 2 = o_ci 3 0 := rfl
theorem c_M_total_3 : cT 30 3 = o_is 4 3 := rfl
theorem c_M_total_4 : cT 30 4 = o_ci 5 0 := rfl
theorem c_M_total_5 : cT 30 5 = o_is 7 4 := rfl
theorem c_M_total_7 : cT 30 7 = o_il 9 4 := rfl
theorem c_M_total_9 : cT 30 9 = o_al 10 0 := rfl
theorem c_M_total_10 : cT 30 10 = o_gf 13 10 0 := rfl
theorem c_M_total_13 : cT 30 13 = o_ci 14 3 := rfl
theorem c_M_total_14 : cT 30 14 = o_ial 15 := rfl
theorem c_M_total_15 : cT 30 15 = o_icge 18 103 := rfl
theorem c_M_total_18 : cT 30 18 = o_ci 20 92 := rfl
theorem c_M_total_20 : cT 30 20 = o_ci 21 3 := rfl
theorem c_M_total_21 : cT 30 21 = o_il 23 4 := rfl
theorem c_M_total_23 : cT 30 23 = o_imul 24 := rfl
theorem c_M_total_24 : cT 30 24 = o_iadd 25 := rfl
theorem c_M_total_25 : cT 30 25 = o_is 27 5 := rfl
theorem c_M_total_27 : cT 30 27 = o_al 28 0 := rfl
theorem c_M_total_28 : cT 30 28 = o_gf 31 10 0 := rfl
theorem c_M_total_31 : cT 30 31 = o_il 33 5 := rfl
theorem c_M_total_33 : cT 30 33 = o_ial 34 := rfl
theorem c_M_total_34 : cT 30 34 = o_il 35 1 := rfl
theorem c_M_total_35 : cT 30 35 = o_icne 38 97 := rfl
theorem c_M_total_38 : cT 30 38 = o_il 39 3 := rfl
theorem c_M_total_39 : cT 30 39 = o_al 40 0 := rfl
theorem c_M_total_40 : cT 30 40 = o_gf 43 10 0 := rfl
theorem c_M_total_43 : cT 30 43 = o_il 45 5 := rfl
theorem c_M_total_45 : cT 30 45 = o_ci 46 2 := rfl
theorem c_M_total_46 : cT 30 46 = o_iadd 47 := rfl
theorem c_M_total_47 : cT 30 47 = o_ial 48 := rfl
theorem c_M_total_48 : cT 30 48 = o_ci 49 1 := rfl
theorem c_M_total_49 : cT 30 49 = o_icne 52 64 := rfl
theorem c_M_total_52 : cT 30 52 = o_al 53 0 := rfl
theorem c_M_total_53 : cT 30 53 = o_gf 56 10 0 := rfl
theorem c_M_total_56 : cT 30 56 = o_il 58 5 := rfl
theorem c_M_total_58 : cT 30 58 = o_ci 59 1 := rfl
theorem c_M_total_59 : cT 30 59 = o_iadd 60 := rfl
theorem c_M_total_60 : cT 30 60 = o_ial 61 := rfl
theorem c_M_total_61 : cT 30 61 = o_goto 65 := rfl
theorem c_M_total_64 : cT 30 64 = o_ci 65 0 := rfl
theorem c_M_total_65 : cT 30 65 = o_iadd 66 := rfl
theorem c_M_total_66 : cT 30 66 = o_is 67 3 := rfl
theorem c_M_total_67 : cT 30 67 = o_il 68 2 := rfl
theorem c_M_total_68 : cT 30 68 = o_al 69 0 := rfl
theorem c_M_total_69 : cT 30 69 = o_gf 72 10 0 := rfl
theorem c_M_total_72 : cT 30 72 = o_il 74 5 := rfl
theorem c_M_total_74 : cT 30 74 = o_ci 75 2 := rfl
theorem c_M_total_75 : cT 30 75 = o_iadd 76 := rfl
theorem c_M_total_76 : cT 30 76 = o_ial 77 := rfl
theorem c_M_total_77 : cT 30 77 = o_ifne 80 92 := rfl
theorem c_M_total_80 : cT 30 80 = o_al 81 0 := rfl
theorem c_M_total_81 : cT 30 81 = o_gf 84 10 0 := rfl
theorem c_M_total_84 : cT 30 84 = o_il 86 5 := rfl
theorem c_M_total_86 : cT 30 86 = o_ci 87 1 := rfl
theorem c_M_total_87 : cT 30 87 = o_iadd 88 := rfl
theorem c_M_total_88 : cT 30 88 = o_ial 89 := rfl
theorem c_M_total_89 : cT 30 89 = o_goto 93 := rfl
theorem c_M_total_92 : cT 30 92 = o_ci 93 0 := rfl
theorem c_M_total_93 : cT 30 93 = o_ca 96 0 2 2 false none := rfl
theorem c_M_total_96 : cT 30 96 = o_is 97 2 := rfl
theorem c_M_total_97 : cT 30 97 = o_inc 100 4 1 := rfl
theorem c_M_total_100 : cT 30 100 = o_goto 7 := rfl
theorem c_M_total_103 : cT 30 103 = o_il 104 2 := rfl
theorem c_M_total_104 : cT 30 104 = o_il 105 3 := rfl
theorem c_M_total_105 : cT 30 105 = o_iadd 106 := rfl
theorem c_M_total_106 : cT 30 106 = o_iret .int := rfl
theorem c_M_heardOf_0 : cT 31 0 = o_ci 1 0 := rfl
theorem c_M_heardOf_1 : cT 31 1 = o_is 2 2 := rfl
theorem c_M_heardOf_2 : cT 31 2 = o_ci 3 0 := rfl
theorem c_M_heardOf_3 : cT 31 3 = o_is 4 3 := rfl
theorem c_M_heardOf_4 : cT 31 4 = o_il 5 3 := rfl
theorem c_M_heardOf_5 : cT 31 5 = o_al 6 0 := rfl
theorem c_M_heardOf_6 : cT 31 6 = o_gf 9 10 0 := rfl
theorem c_M_heardOf_9 : cT 31 9 = o_ci 11 10 := rfl
theorem c_M_heardOf_11 : cT 31 11 = o_ial 12 := rfl
theorem c_M_heardOf_12 : cT 31 12 = o_icge 15 60 := rfl
theorem c_M_heardOf_15 : cT 31 15 = o_il 16 2 := rfl
theorem c_M_heardOf_16 : cT 31 16 = o_al 17 0 := rfl
theorem c_M_heardOf_17 : cT 31 17 = o_gf 20 10 0 := rfl
theorem c_M_heardOf_20 : cT 31 20 = o_ci 23 670 := rfl
theorem c_M_heardOf_23 : cT 31 23 = o_ci 25 6 := rfl
theorem c_M_heardOf_25 : cT 31 25 = o_il 26 3 := rfl
theorem c_M_heardOf_26 : cT 31 26 = o_imul 27 := rfl
theorem c_M_heardOf_27 : cT 31 27 = o_iadd 28 := rfl
theorem c_M_heardOf_28 : cT 31 28 = o_ial 29 := rfl
theorem c_M_heardOf_29 : cT 31 29 = o_il 30 1 := rfl
theorem c_M_heardOf_30 : cT 31 30 = o_icne 33 51 := rfl
theorem c_M_heardOf_33 : cT 31 33 = o_al 34 0 := rfl
theorem c_M_heardOf_34 : cT 31 34 = o_gf 37 10 0 := rfl
theorem c_M_heardOf_37 : cT 31 37 = o_ci 40 670 := rfl
theorem c_M_heardOf_40 : cT 31 40 = o_ci 42 6 := rfl
theorem c_M_heardOf_42 : cT 31 42 = o_il 43 3 := rfl
theorem c_M_heardOf_43 : cT 31 43 = o_imul 44 := rfl
theorem c_M_heardOf_44 : cT 31 44 = o_iadd 45 := rfl
theorem c_M_heardOf_45 : cT 31 45 = o_ci 46 5 := rfl
theorem c_M_heardOf_46 : cT 31 46 = o_iadd 47 := rfl
theorem c_M_heardOf_47 : cT 31 47 = o_ial 48 := rfl
theorem c_M_heardOf_48 : cT 31 48 = o_goto 52 := rfl
theorem c_M_heardOf_51 : cT 31 51 = o_ci 52 0 := rfl
theorem c_M_heardOf_52 : cT 31 52 = o_iadd 53 := rfl
theorem c_M_heardOf_53 : cT 31 53 = o_is 54 2 := rfl
theorem c_M_heardOf_54 : cT 31 54 = o_inc 57 3 1 := rfl
theorem c_M_heardOf_57 : cT 31 57 = o_goto 4 := rfl
theorem c_M_heardOf_60 : cT 31 60 = o_il 61 2 := rfl
theorem c_M_heardOf_61 : cT 31 61 = o_iret .int := rfl
theorem c_M_ofCase_0 : cT 32 0 = o_al 1 0 := rfl
theorem c_M_ofCase_1 : cT 32 1 = o_gf 4 10 0 := rfl
theorem c_M_ofCase_4 : cT 32 4 = o_ci 6 20 := rfl
theorem c_M_ofCase_6 : cT 32 6 = o_ci 8 6 := rfl
theorem c_M_ofCase_8 : cT 32 8 = o_il 9 1 := rfl
theorem c_M_ofCase_9 : cT 32 9 = o_imul 10 := rfl
theorem c_M_ofCase_10 : cT 32 10 = o_iadd 11 := rfl
theorem c_M_ofCase_11 : cT 32 11 = o_il 12 2 := rfl
theorem c_M_ofCase_12 : cT 32 12 = o_iadd 13 := rfl
theorem c_M_ofCase_13 : cT 32 13 = o_ial 14 := rfl
theorem c_M_ofCase_14 : cT 32 14 = o_iret .int := rfl
theorem c_M_bits_0 : cT 33 0 = o_ci 1 0 := rfl
theorem c_M_bits_1 : cT 33 1 = o_is 2 1 := rfl
theorem c_M_bits_2 : cT 33 2 = o_ci 3 0 := rfl
theorem c_M_bits_3 : cT 33 3 = o_is 4 2 := rfl
theorem c_M_bits_4 : cT 33 4 = o_il 5 2 := rfl
theorem c_M_bits_5 : cT 33 5 = o_ci 7 16 := rfl
theorem c_M_bits_7 : cT 33 7 = o_icge 10 24 := rfl
theorem c_M_bits_10 : cT 33 10 = o_il 11 1 := rfl
theorem c_M_bits_11 : cT 33 11 = o_il 12 0 := rfl
theorem c_M_bits_12 : cT 33 12 = o_il 13 2 := rfl
theorem c_M_bits_13 : cT 33 13 = o_ishr 14 := rfl
theorem c_M_bits_14 : cT 33 14 = o_ci 15 1 := rfl
theorem c_M_bits_15 : cT 33 15 = o_iand 16 := rfl
theorem c_M_bits_16 : cT 33 16 = o_iadd 17 := rfl
theorem c_M_bits_17 : cT 33 17 = o_is 18 1 := rfl
theorem c_M_bits_18 : cT 33 18 = o_inc 21 2 1 := rfl
theorem c_M_bits_21 : cT 33 21 = o_goto 4 := rfl
theorem c_M_bits_24 : cT 33 24 = o_il 25 1 := rfl
theorem c_M_bits_25 : cT 33 25 = o_iret .int := rfl
theorem c_M_riskOf_0 : cT 34 0 = o_ci 3 890 := rfl
theorem c_M_riskOf_3 : cT 34 3 = o_ci 4 3 := rfl
theorem c_M_riskOf_4 : cT 34 4 = o_al 5 0 := rfl
theorem c_M_riskOf_5 : cT 34 5 = o_il 6 1 := rfl
theorem c_M_riskOf_6 : cT 34 6 = o_ci 7 2 := rfl
theorem c_M_riskOf_7 : cT 34 7 = o_ca 10 32 3 3 false (some 10) := rfl
theorem c_M_riskOf_10 : cT 34 10 = o_ca 13 33 1 3 false none := rfl
theorem c_M_riskOf_13 : cT 34 13 = o_ci 15 8 := rfl
theorem c_M_riskOf_15 : cT 34 15 = o_irem 16 := rfl
theorem c_M_riskOf_16 : cT 34 16 = o_imul 17 := rfl
theorem c_M_riskOf_17 : cT 34 17 = o_iadd 18 := rfl
theorem c_M_riskOf_18 : cT 34 18 = o_is 19 3 := rfl
theorem c_M_riskOf_19 : cT 34 19 = o_al 20 0 := rfl
theorem c_M_riskOf_20 : cT 34 20 = o_gf 23 10 0 := rfl
theorem c_M_riskOf_23 : cT 34 23 = o_il 24 3 := rfl
theorem c_M_riskOf_24 : cT 34 24 = o_ci 25 1 := rfl
theorem c_M_riskOf_25 : cT 34 25 = o_iadd 26 := rfl
theorem c_M_riskOf_26 : cT 34 26 = o_ial 27 := rfl
theorem c_M_riskOf_27 : cT 34 27 = o_ifne 30 34 := rfl
theorem c_M_riskOf_30 : cT 34 30 = o_ci 31 0 := rfl
theorem c_M_riskOf_31 : cT 34 31 = o_goto 54 := rfl
theorem c_M_riskOf_34 : cT 34 34 = o_ci 36 100 := rfl
theorem c_M_riskOf_36 : cT 34 36 = o_al 37 0 := rfl
theorem c_M_riskOf_37 : cT 34 37 = o_gf 40 10 0 := rfl
theorem c_M_riskOf_40 : cT 34 40 = o_il 41 3 := rfl
theorem c_M_riskOf_41 : cT 34 41 = o_il 42 2 := rfl
theorem c_M_riskOf_42 : cT 34 42 = o_iadd 43 := rfl
theorem c_M_riskOf_43 : cT 34 43 = o_ial 44 := rfl
theorem c_M_riskOf_44 : cT 34 44 = o_imul 45 := rfl
theorem c_M_riskOf_45 : cT 34 45 = o_al 46 0 := rfl
theorem c_M_riskOf_46 : cT 34 46 = o_gf 49 10 0 := rfl
theorem c_M_riskOf_49 : cT 34 49 = o_il 50 3 := rfl
theorem c_M_riskOf_50 : cT 34 50 = o_ci 51 1 := rfl
theorem c_M_riskOf_51 : cT 34 51 = o_iadd 52 := rfl
theorem c_M_riskOf_52 : cT 34 52 = o_ial 53 := rfl
theorem c_M_riskOf_53 : cT 34 53 = o_idiv 54 := rfl
theorem c_M_riskOf_54 : cT 34 54 = o_iret .int := rfl
theorem c_M_setOf_0 : cT 35 0 = o_ci 1 0 := rfl
theorem c_M_setOf_1 : cT 35 1 = o_is 2 2 := rfl
theorem c_M_setOf_2 : cT 35 2 = o_il 3 2 := rfl
theorem c_M_setOf_3 : cT 35 3 = o_al 4 0 := rfl
theorem c_M_setOf_4 : cT 35 4 = o_gf 7 10 0 := rfl
theorem c_M_setOf_7 : cT 35 7 = o_ci 9 10 := rfl
theorem c_M_setOf_9 : cT 35 9 = o_ial 10 := rfl
theorem c_M_setOf_10 : cT 35 10 = o_icge 13 56 := rfl
theorem c_M_setOf_13 : cT 35 13 = o_al 14 0 := rfl
theorem c_M_setOf_14 : cT 35 14 = o_gf 17 10 0 := rfl
theorem c_M_setOf_17 : cT 35 17 = o_ci 20 670 := rfl
theorem c_M_setOf_20 : cT 35 20 = o_ci 22 6 := rfl
theorem c_M_setOf_22 : cT 35 22 = o_il 23 2 := rfl
theorem c_M_setOf_23 : cT 35 23 = o_imul 24 := rfl
theorem c_M_setOf_24 : cT 35 24 = o_iadd 25 := rfl
theorem c_M_setOf_25 : cT 35 25 = o_ial 26 := rfl
theorem c_M_setOf_26 : cT 35 26 = o_il 27 1 := rfl
theorem c_M_setOf_27 : cT 35 27 = o_icne 30 50 := rfl
theorem c_M_setOf_30 : cT 35 30 = o_al 31 0 := rfl
theorem c_M_setOf_31 : cT 35 31 = o_gf 34 10 0 := rfl
theorem c_M_setOf_34 : cT 35 34 = o_ci 37 670 := rfl
theorem c_M_setOf_37 : cT 35 37 = o_ci 39 6 := rfl
theorem c_M_setOf_39 : cT 35 39 = o_il 40 2 := rfl
theorem c_M_setOf_40 : cT 35 40 = o_imul 41 := rfl
theorem c_M_setOf_41 : cT 35 41 = o_iadd 42 := rfl
theorem c_M_setOf_42 : cT 35 42 = o_ci 43 2 := rfl
theorem c_M_setOf_43 : cT 35 43 = o_iadd 44 := rfl
theorem c_M_setOf_44 : cT 35 44 = o_ial 45 := rfl
theorem c_M_setOf_45 : cT 35 45 = o_ifne 48 50 := rfl
theorem c_M_setOf_48 : cT 35 48 = o_il 49 2 := rfl
theorem c_M_setOf_49 : cT 35 49 = o_iret .int := rfl
theorem c_M_setOf_50 : cT 35 50 = o_inc 53 2 1 := rfl
theorem c_M_setOf_53 : cT 35 53 = o_goto 2 := rfl
theorem c_M_setOf_56 : cT 35 56 = o_ci 57 (-1) := rfl
theorem c_M_setOf_57 : cT 35 57 = o_iret .int := rfl
theorem c_M_told_0 : cT 36 0 = o_al 1 0 := rfl
theorem c_M_told_1 : cT 36 1 = o_il 2 1 := rfl
theorem c_M_told_2 : cT 36 2 = o_ci 3 2 := rfl
theorem c_M_told_3 : cT 36 3 = o_ca 6 29 3 3 false (some 10) := rfl
theorem c_M_told_6 : cT 36 6 = o_ifeq 9 21 := rfl
theorem c_M_told_9 : cT 36 9 = o_il 10 2 := rfl
theorem c_M_told_10 : cT 36 10 = o_i2l 11 := rfl
theorem c_M_told_11 : cT 36 11 = o_cl 12 0 := rfl
theorem c_M_told_12 : cT 36 12 = o_cl 15 9 := rfl
theorem c_M_told_15 : cT 36 15 = o_ca 18 17 3 6 false none := rfl
theorem c_M_told_18 : cT 36 18 = o_ifne 21 24 := rfl
theorem c_M_told_21 : cT 36 21 = o_ci 23 (-1000000001) := rfl
theorem c_M_told_23 : cT 36 23 = o_iret .int := rfl
theorem c_M_told_24 : cT 36 24 = o_il 25 2 := rfl
theorem c_M_told_25 : cT 36 25 = o_sw 105 [(5, 60), (6, 66), (7, 72), (8, 79), (9, 86)] := rfl
theorem c_M_told_60 : cT 36 60 = o_al 61 0 := rfl
theorem c_M_told_61 : cT 36 61 = o_il 62 1 := rfl
theorem c_M_told_62 : cT 36 62 = o_ca 65 30 2 6 false (some 10) := rfl
theorem c_M_told_65 : cT 36 65 = o_iret .int := rfl
theorem c_M_told_66 : cT 36 66 = o_al 67 0 := rfl
theorem c_M_told_67 : cT 36 67 = o_il 68 1 := rfl
theorem c_M_told_68 : cT 36 68 = o_ca 71 31 2 4 false (some 10) := rfl
theorem c_M_told_71 : cT 36 71 = o_iret .int := rfl
theorem c_M_told_72 : cT 36 72 = o_al 73 0 := rfl
theorem c_M_told_73 : cT 36 73 = o_il 74 1 := rfl
theorem c_M_told_74 : cT 36 74 = o_ci 75 0 := rfl
theorem c_M_told_75 : cT 36 75 = o_ca 78 34 3 4 false (some 10) := rfl
theorem c_M_told_78 : cT 36 78 = o_iret .int := rfl
theorem c_M_told_79 : cT 36 79 = o_al 80 0 := rfl
theorem c_M_told_80 : cT 36 80 = o_il 81 1 := rfl
theorem c_M_told_81 : cT 36 81 = o_ci 82 2 := rfl
theorem c_M_told_82 : cT 36 82 = o_ca 85 34 3 4 false (some 10) := rfl
theorem c_M_told_85 : cT 36 85 = o_iret .int := rfl
theorem c_M_told_86 : cT 36 86 = o_al 87 0 := rfl
theorem c_M_told_87 : cT 36 87 = o_il 88 1 := rfl
theorem c_M_told_88 : cT 36 88 = o_ca 91 35 2 3 false (some 10) := rfl
theorem c_M_told_91 : cT 36 91 = o_ifge 94 99 := rfl
theorem c_M_told_94 : cT 36 94 = o_ci 96 (-1000000005) := rfl
theorem c_M_told_96 : cT 36 96 = o_goto 104 := rfl
theorem c_M_told_99 : cT 36 99 = o_al 100 0 := rfl
theorem c_M_told_100 : cT 36 100 = o_il 101 1 := rfl
theorem c_M_told_101 : cT 36 101 = o_ca 104 35 2 3 false (some 10) := rfl
theorem c_M_told_104 : cT 36 104 = o_iret .int := rfl
theorem c_M_told_105 : cT 36 105 = o_al 106 0 := rfl
theorem c_M_told_106 : cT 36 106 = o_il 107 1 := rfl
theorem c_M_told_107 : cT 36 107 = o_il 108 2 := rfl
theorem c_M_told_108 : cT 36 108 = o_ca 111 32 3 3 false (some 10) := rfl
theorem c_M_told_111 : cT 36 111 = o_iret .int := rfl
theorem c_M_be_0 : cT 40 0 = o_il 1 2 := rfl
theorem c_M_be_1 : cT 40 1 = o_ci 2 1 := rfl
theorem c_M_be_2 : cT 40 2 = o_icne 5 9 := rfl
theorem c_M_be_5 : cT 40 5 = o_ci 6 5 := rfl
theorem c_M_be_6 : cT 40 6 = o_goto 30 := rfl
theorem c_M_be_9 : cT 40 9 = o_il 10 2 := rfl
theorem c_M_be_10 : cT 40 10 = o_ci 11 2 := rfl
theorem c_M_be_11 : cT 40 11 = o_icne 14 20 := rfl
theorem c_M_be_14 : cT 40 14 = o_ci 17 255 := rfl
theorem c_M_be_17 : cT 40 17 = o_goto 30 := rfl
theorem c_M_be_20 : cT 40 20 = o_il 21 2 := rfl
theorem c_M_be_21 : cT 40 21 = o_ci 22 4 := rfl
theorem c_M_be_22 : cT 40 22 = o_icne 25 29 := rfl
theorem c_M_be_25 : cT 40 25 = o_ci 26 1 := rfl
theorem c_M_be_26 : cT 40 26 = o_goto 30 := rfl
theorem c_M_be_29 : cT 40 29 = o_ci 30 (-1) := rfl
theorem c_M_be_30 : cT 40 30 = o_is 32 4 := rfl
theorem c_M_be_32 : cT 40 32 = o_al 33 0 := rfl
theorem c_M_be_33 : cT 40 33 = o_il 34 1 := rfl
theorem c_M_be_34 : cT 40 34 = o_ci 35 2 := rfl
theorem c_M_be_35 : cT 40 35 = o_ca 38 29 3 3 false (some 10) := rfl
theorem c_M_be_38 : cT 40 38 = o_ifeq 41 53 := rfl
theorem c_M_be_41 : cT 40 41 = o_il 42 3 := rfl
theorem c_M_be_42 : cT 40 42 = o_i2l 43 := rfl
theorem c_M_be_43 : cT 40 43 = o_cl 44 0 := rfl
theorem c_M_be_44 : cT 40 44 = o_il 46 4 := rfl
theorem c_M_be_46 : cT 40 46 = o_i2l 47 := rfl
theorem c_M_be_47 : cT 40 47 = o_ca 50 17 3 6 false none := rfl
theorem c_M_be_50 : cT 40 50 = o_ifne 53 56 := rfl
theorem c_M_be_53 : cT 40 53 = o_ci 55 (-1000000001) := rfl
theorem c_M_be_55 : cT 40 55 = o_iret .int := rfl
theorem c_M_be_56 : cT 40 56 = o_al 57 0 := rfl
theorem c_M_be_57 : cT 40 57 = o_il 58 1 := rfl
theorem c_M_be_58 : cT 40 58 = o_il 59 2 := rfl
theorem c_M_be_59 : cT 40 59 = o_ca 62 32 3 3 false (some 10) := rfl
theorem c_M_be_62 : cT 40 62 = o_is 64 5 := rfl
theorem c_M_be_64 : cT 40 64 = o_al 65 0 := rfl
theorem c_M_be_65 : cT 40 65 = o_il 66 1 := rfl
theorem c_M_be_66 : cT 40 66 = o_il 67 2 := rfl
theorem c_M_be_67 : cT 40 67 = o_il 68 3 := rfl
theorem c_M_be_68 : cT 40 68 = o_ca 71 18 4 4 false (some 10) := rfl
theorem c_M_be_71 : cT 40 71 = o_il 73 5 := rfl
theorem c_M_be_73 : cT 40 73 = o_iret .int := rfl
theorem c_M_sentence_0 : cT 43 0 = o_al 1 0 := rfl
theorem c_M_sentence_1 : cT 43 1 = o_il 2 1 := rfl
theorem c_M_sentence_2 : cT 43 2 = o_ci 3 2 := rfl
theorem c_M_sentence_3 : cT 43 3 = o_ca 6 29 3 3 false (some 10) := rfl
theorem c_M_sentence_6 : cT 43 6 = o_ifeq 9 31 := rfl
theorem c_M_sentence_9 : cT 43 9 = o_il 10 2 := rfl
theorem c_M_sentence_10 : cT 43 10 = o_i2l 11 := rfl
theorem c_M_sentence_11 : cT 43 11 = o_cl 12 1 := rfl
theorem c_M_sentence_12 : cT 43 12 = o_cl 15 9999 := rfl
theorem c_M_sentence_15 : cT 43 15 = o_ca 18 17 3 6 false none := rfl
theorem c_M_sentence_18 : cT 43 18 = o_ifeq 21 31 := rfl
theorem c_M_sentence_21 : cT 43 21 = o_il 22 3 := rfl
theorem c_M_sentence_22 : cT 43 22 = o_i2l 23 := rfl
theorem c_M_sentence_23 : cT 43 23 = o_cl 24 0 := rfl
theorem c_M_sentence_24 : cT 43 24 = o_cl 25 1 := rfl
theorem c_M_sentence_25 : cT 43 25 = o_ca 28 17 3 6 false none := rfl
theorem c_M_sentence_28 : cT 43 28 = o_ifne 31 34 := rfl
theorem c_M_sentence_31 : cT 43 31 = o_ci 33 (-1000000001) := rfl
theorem c_M_sentence_33 : cT 43 33 = o_iret .int := rfl
theorem c_M_sentence_34 : cT 43 34 = o_al 35 0 := rfl
theorem c_M_sentence_35 : cT 43 35 = o_il 36 1 := rfl
theorem c_M_sentence_36 : cT 43 36 = o_ci 37 3 := rfl
theorem c_M_sentence_37 : cT 43 37 = o_ca 40 32 3 3 false (some 10) := rfl
theorem c_M_sentence_40 : cT 43 40 = o_ci 41 2 := rfl
theorem c_M_sentence_41 : cT 43 41 = o_icne 44 47 := rfl
theorem c_M_sentence_44 : cT 43 44 = o_ci 46 (-1000000002) := rfl
theorem c_M_sentence_46 : cT 43 46 = o_iret .int := rfl
theorem c_M_sentence_47 : cT 43 47 = o_al 48 0 := rfl
theorem c_M_sentence_48 : cT 43 48 = o_gf 51 10 0 := rfl
theorem c_M_sentence_51 : cT 43 51 = o_ci 52 3 := rfl
theorem c_M_sentence_52 : cT 43 52 = o_ial 53 := rfl
theorem c_M_sentence_53 : cT 43 53 = o_is 55 4 := rfl
theorem c_M_sentence_55 : cT 43 55 = o_il 57 4 := rfl
theorem c_M_sentence_57 : cT 43 57 = o_ci 59 24 := rfl
theorem c_M_sentence_59 : cT 43 59 = o_icne 62 65 := rfl
theorem c_M_sentence_62 : cT 43 62 = o_ci 64 (-1000000003) := rfl
theorem c_M_sentence_64 : cT 43 64 = o_iret .int := rfl
theorem c_M_sentence_65 : cT 43 65 = o_al 66 0 := rfl
theorem c_M_sentence_66 : cT 43 66 = o_gf 69 10 0 := rfl
theorem c_M_sentence_69 : cT 43 69 = o_ci 71 92 := rfl
theorem c_M_sentence_71 : cT 43 71 = o_ci 72 3 := rfl
theorem c_M_sentence_72 : cT 43 72 = o_il 74 4 := rfl
theorem c_M_sentence_74 : cT 43 74 = o_imul 75 := rfl
theorem c_M_sentence_75 : cT 43 75 = o_iadd 76 := rfl
theorem c_M_sentence_76 : cT 43 76 = o_il 77 1 := rfl
theorem c_M_sentence_77 : cT 43 77 = o_ias 78 := rfl
theorem c_M_sentence_78 : cT 43 78 = o_al 79 0 := rfl
theorem c_M_sentence_79 : cT 43 79 = o_gf 82 10 0 := rfl
theorem c_M_sentence_82 : cT 43 82 = o_ci 84 92 := rfl
theorem c_M_sentence_84 : cT 43 84 = o_ci 85 3 := rfl
theorem c_M_sentence_85 : cT 43 85 = o_il 87 4 := rfl
theorem c_M_sentence_87 : cT 43 87 = o_imul 88 := rfl
theorem c_M_sentence_88 : cT 43 88 = o_iadd 89 := rfl
theorem c_M_sentence_89 : cT 43 89 = o_ci 90 1 := rfl
theorem c_M_sentence_90 : cT 43 90 = o_iadd 91 := rfl
theorem c_M_sentence_91 : cT 43 91 = o_il 92 2 := rfl
theorem c_M_sentence_92 : cT 43 92 = o_ias 93 := rfl
theorem c_M_sentence_93 : cT 43 93 = o_al 94 0 := rfl
theorem c_M_sentence_94 : cT 43 94 = o_gf 97 10 0 := rfl
theorem c_M_sentence_97 : cT 43 97 = o_ci 99 92 := rfl
theorem c_M_sentence_99 : cT 43 99 = o_ci 100 3 := rfl
theorem c_M_sentence_100 : cT 43 100 = o_il 102 4 := rfl
theorem c_M_sentence_102 : cT 43 102 = o_imul 103 := rfl
theorem c_M_sentence_103 : cT 43 103 = o_iadd 104 := rfl
theorem c_M_sentence_104 : cT 43 104 = o_ci 105 2 := rfl
theorem c_M_sentence_105 : cT 43 105 = o_iadd 106 := rfl
theorem c_M_sentence_106 : cT 43 106 = o_il 107 3 := rfl
theorem c_M_sentence_107 : cT 43 107 = o_ias 108 := rfl
theorem c_M_sentence_108 : cT 43 108 = o_al 109 0 := rfl
theorem c_M_sentence_109 : cT 43 109 = o_gf 112 10 0 := rfl
theorem c_M_sentence_112 : cT 43 112 = o_ci 113 3 := rfl
theorem c_M_sentence_113 : cT 43 113 = o_dup2 114 := rfl
theorem c_M_sentence_114 : cT 43 114 = o_ial 115 := rfl
theorem c_M_sentence_115 : cT 43 115 = o_ci 116 1 := rfl
theorem c_M_sentence_116 : cT 43 116 = o_iadd 117 := rfl
theorem c_M_sentence_117 : cT 43 117 = o_ias 118 := rfl
theorem c_M_sentence_118 : cT 43 118 = o_il 120 4 := rfl
theorem c_M_sentence_120 : cT 43 120 = o_iret .int := rfl
theorem c_M_gap_0 : cT 45 0 = o_al 1 0 := rfl
theorem c_M_gap_1 : cT 45 1 = o_il 2 1 := rfl
theorem c_M_gap_2 : cT 45 2 = o_ci 3 2 := rfl
theorem c_M_gap_3 : cT 45 3 = o_ca 6 29 3 3 false (some 10) := rfl
theorem c_M_gap_6 : cT 45 6 = o_ifeq 9 36 := rfl
theorem c_M_gap_9 : cT 45 9 = o_il 10 2 := rfl
theorem c_M_gap_10 : cT 45 10 = o_i2l 11 := rfl
theorem c_M_gap_11 : cT 45 11 = o_cl 12 0 := rfl
theorem c_M_gap_12 : cT 45 12 = o_cl 15 9999 := rfl
theorem c_M_gap_15 : cT 45 15 = o_ca 18 17 3 6 false none := rfl
theorem c_M_gap_18 : cT 45 18 = o_ifeq 21 36 := rfl
theorem c_M_gap_21 : cT 45 21 = o_il 22 3 := rfl
theorem c_M_gap_22 : cT 45 22 = o_i2l 23 := rfl
theorem c_M_gap_23 : cT 45 23 = o_il 24 2 := rfl
theorem c_M_gap_24 : cT 45 24 = o_i2l 25 := rfl
theorem c_M_gap_25 : cT 45 25 = o_cl 26 1 := rfl
theorem c_M_gap_26 : cT 45 26 = o_ladd 27 := rfl
theorem c_M_gap_27 : cT 45 27 = o_cl 30 9999 := rfl
theorem c_M_gap_30 : cT 45 30 = o_ca 33 17 3 6 false none := rfl
theorem c_M_gap_33 : cT 45 33 = o_ifne 36 39 := rfl
theorem c_M_gap_36 : cT 45 36 = o_ci 38 (-1000000001) := rfl
theorem c_M_gap_38 : cT 45 38 = o_iret .int := rfl
theorem c_M_gap_39 : cT 45 39 = o_al 40 0 := rfl
theorem c_M_gap_40 : cT 45 40 = o_gf 43 10 0 := rfl
theorem c_M_gap_43 : cT 45 43 = o_ci 44 5 := rfl
theorem c_M_gap_44 : cT 45 44 = o_ial 45 := rfl
theorem c_M_gap_45 : cT 45 45 = o_is 47 4 := rfl
theorem c_M_gap_47 : cT 45 47 = o_il 49 4 := rfl
theorem c_M_gap_49 : cT 45 49 = o_ci 51 20 := rfl
theorem c_M_gap_51 : cT 45 51 = o_icne 54 57 := rfl
theorem c_M_gap_54 : cT 45 54 = o_ci 56 (-1000000003) := rfl
theorem c_M_gap_56 : cT 45 56 = o_iret .int := rfl
theorem c_M_gap_57 : cT 45 57 = o_al 58 0 := rfl
theorem c_M_gap_58 : cT 45 58 = o_gf 61 10 0 := rfl
theorem c_M_gap_61 : cT 45 61 = o_ci 64 254 := rfl
theorem c_M_gap_64 : cT 45 64 = o_ci 65 3 := rfl
theorem c_M_gap_65 : cT 45 65 = o_il 67 4 := rfl
theorem c_M_gap_67 : cT 45 67 = o_imul 68 := rfl
theorem c_M_gap_68 : cT 45 68 = o_iadd 69 := rfl
theorem c_M_gap_69 : cT 45 69 = o_il 70 1 := rfl
theorem c_M_gap_70 : cT 45 70 = o_ias 71 := rfl
theorem c_M_gap_71 : cT 45 71 = o_al 72 0 := rfl
theorem c_M_gap_72 : cT 45 72 = o_gf 75 10 0 := rfl
theorem c_M_gap_75 : cT 45 75 = o_ci 78 254 := rfl
theorem c_M_gap_78 : cT 45 78 = o_ci 79 3 := rfl
theorem c_M_gap_79 : cT 45 79 = o_il 81 4 := rfl
theorem c_M_gap_81 : cT 45 81 = o_imul 82 := rfl
theorem c_M_gap_82 : cT 45 82 = o_iadd 83 := rfl
theorem c_M_gap_83 : cT 45 83 = o_ci 84 1 := rfl
theorem c_M_gap_84 : cT 45 84 = o_iadd 85 := rfl
theorem c_M_gap_85 : cT 45 85 = o_il 86 2 := rfl
theorem c_M_gap_86 : cT 45 86 = o_ias 87 := rfl
theorem c_M_gap_87 : cT 45 87 = o_al 88 0 := rfl
theorem c_M_gap_88 : cT 45 88 = o_gf 91 10 0 := rfl
theorem c_M_gap_91 : cT 45 91 = o_ci 94 254 := rfl
theorem c_M_gap_94 : cT 45 94 = o_ci 95 3 := rfl
theorem c_M_gap_95 : cT 45 95 = o_il 97 4 := rfl
theorem c_M_gap_97 : cT 45 97 = o_imul 98 := rfl
theorem c_M_gap_98 : cT 45 98 = o_iadd 99 := rfl
theorem c_M_gap_99 : cT 45 99 = o_ci 100 2 := rfl
theorem c_M_gap_100 : cT 45 100 = o_iadd 101 := rfl
theorem c_M_gap_101 : cT 45 101 = o_il 102 3 := rfl
theorem c_M_gap_102 : cT 45 102 = o_ias 103 := rfl
theorem c_M_gap_103 : cT 45 103 = o_al 104 0 := rfl
theorem c_M_gap_104 : cT 45 104 = o_gf 107 10 0 := rfl
theorem c_M_gap_107 : cT 45 107 = o_ci 108 5 := rfl
theorem c_M_gap_108 : cT 45 108 = o_dup2 109 := rfl
theorem c_M_gap_109 : cT 45 109 = o_ial 110 := rfl
theorem c_M_gap_110 : cT 45 110 = o_ci 111 1 := rfl
theorem c_M_gap_111 : cT 45 111 = o_iadd 112 := rfl
theorem c_M_gap_112 : cT 45 112 = o_ias 113 := rfl
theorem c_M_gap_113 : cT 45 113 = o_al 114 0 := rfl
theorem c_M_gap_114 : cT 45 114 = o_gf 117 10 0 := rfl
theorem c_M_gap_117 : cT 45 117 = o_ci 118 5 := rfl
theorem c_M_gap_118 : cT 45 118 = o_ial 119 := rfl
theorem c_M_gap_119 : cT 45 119 = o_iret .int := rfl
theorem c_M_ends_0 : cT 51 0 = o_al 1 0 := rfl
theorem c_M_ends_1 : cT 51 1 = o_il 2 1 := rfl
theorem c_M_ends_2 : cT 51 2 = o_ci 3 5 := rfl
theorem c_M_ends_3 : cT 51 3 = o_ca 6 32 3 3 false (some 10) := rfl
theorem c_M_ends_6 : cT 51 6 = o_is 7 2 := rfl
theorem c_M_ends_7 : cT 51 7 = o_il 8 2 := rfl
theorem c_M_ends_8 : cT 51 8 = o_iflt 11 31 := rfl
theorem c_M_ends_11 : cT 51 11 = o_al 12 0 := rfl
theorem c_M_ends_12 : cT 51 12 = o_gf 15 10 0 := rfl
theorem c_M_ends_15 : cT 51 15 = o_ci 18 164 := rfl
theorem c_M_ends_18 : cT 51 18 = o_ci 19 3 := rfl
theorem c_M_ends_19 : cT 51 19 = o_il 20 2 := rfl
theorem c_M_ends_20 : cT 51 20 = o_imul 21 := rfl
theorem c_M_ends_21 : cT 51 21 = o_iadd 22 := rfl
theorem c_M_ends_22 : cT 51 22 = o_ci 23 2 := rfl
theorem c_M_ends_23 : cT 51 23 = o_iadd 24 := rfl
theorem c_M_ends_24 : cT 51 24 = o_al 25 0 := rfl
theorem c_M_ends_25 : cT 51 25 = o_gf 28 10 0 := rfl
theorem c_M_ends_28 : cT 51 28 = o_ci 29 0 := rfl
theorem c_M_ends_29 : cT 51 29 = o_ial 30 := rfl
theorem c_M_ends_30 : cT 51 30 = o_ias 31 := rfl
theorem c_M_ends_31 : cT 51 31 = o_al 32 0 := rfl
theorem c_M_ends_32 : cT 51 32 = o_il 33 1 := rfl
theorem c_M_ends_33 : cT 51 33 = o_ci 34 5 := rfl
theorem c_M_ends_34 : cT 51 34 = o_ci 35 (-1) := rfl
theorem c_M_ends_35 : cT 51 35 = o_ca 38 18 4 4 false (some 10) := rfl
theorem c_M_ends_38 : cT 51 38 = o_vret := rfl
theorem c_M_flee_0 : cT 52 0 = o_al 1 0 := rfl
theorem c_M_flee_1 : cT 52 1 = o_il 2 1 := rfl
theorem c_M_flee_2 : cT 52 2 = o_ci 3 2 := rfl
theorem c_M_flee_3 : cT 52 3 = o_ca 6 29 3 3 false (some 10) := rfl
theorem c_M_flee_6 : cT 52 6 = o_ifne 9 12 := rfl
theorem c_M_flee_9 : cT 52 9 = o_ci 11 (-1000000001) := rfl
theorem c_M_flee_11 : cT 52 11 = o_iret .int := rfl
theorem c_M_flee_12 : cT 52 12 = o_al 13 0 := rfl
theorem c_M_flee_13 : cT 52 13 = o_il 14 1 := rfl
theorem c_M_flee_14 : cT 52 14 = o_ci 15 3 := rfl
theorem c_M_flee_15 : cT 52 15 = o_ca 18 32 3 3 false (some 10) := rfl
theorem c_M_flee_18 : cT 52 18 = o_ifne 21 30 := rfl
theorem c_M_flee_21 : cT 52 21 = o_al 22 0 := rfl
theorem c_M_flee_22 : cT 52 22 = o_il 23 1 := rfl
theorem c_M_flee_23 : cT 52 23 = o_ci 24 5 := rfl
theorem c_M_flee_24 : cT 52 24 = o_ca 27 32 3 3 false (some 10) := rfl
theorem c_M_flee_27 : cT 52 27 = o_ifge 30 33 := rfl
theorem c_M_flee_30 : cT 52 30 = o_ci 32 (-1000000002) := rfl
theorem c_M_flee_32 : cT 52 32 = o_iret .int := rfl
theorem c_M_flee_33 : cT 52 33 = o_al 34 0 := rfl
theorem c_M_flee_34 : cT 52 34 = o_il 35 1 := rfl
theorem c_M_flee_35 : cT 52 35 = o_ca 38 51 2 3 false (some 10) := rfl
theorem c_M_flee_38 : cT 52 38 = o_ci 39 1 := rfl
theorem c_M_flee_39 : cT 52 39 = o_iret .int := rfl
theorem c_M_caught_0 : cT 54 0 = o_al 1 0 := rfl
theorem c_M_caught_1 : cT 54 1 = o_il 2 1 := rfl
theorem c_M_caught_2 : cT 54 2 = o_ci 3 2 := rfl
theorem c_M_caught_3 : cT 54 3 = o_ca 6 29 3 3 false (some 10) := rfl
theorem c_M_caught_6 : cT 54 6 = o_ifne 9 12 := rfl
theorem c_M_caught_9 : cT 54 9 = o_ci 11 (-1000000001) := rfl
theorem c_M_caught_11 : cT 54 11 = o_iret .int := rfl
theorem c_M_caught_12 : cT 54 12 = o_al 13 0 := rfl
theorem c_M_caught_13 : cT 54 13 = o_il 14 1 := rfl
theorem c_M_caught_14 : cT 54 14 = o_ci 15 3 := rfl
theorem c_M_caught_15 : cT 54 15 = o_ca 18 32 3 3 false (some 10) := rfl
theorem c_M_caught_18 : cT 54 18 = o_ifne 21 30 := rfl
theorem c_M_caught_21 : cT 54 21 = o_al 22 0 := rfl
theorem c_M_caught_22 : cT 54 22 = o_il 23 1 := rfl
theorem c_M_caught_23 : cT 54 23 = o_ci 24 5 := rfl
theorem c_M_caught_24 : cT 54 24 = o_ca 27 32 3 3 false (some 10) := rfl
theorem c_M_caught_27 : cT 54 27 = o_iflt 30 33 := rfl
theorem c_M_caught_30 : cT 54 30 = o_ci 32 (-1000000002) := rfl
theorem c_M_caught_32 : cT 54 32 = o_iret .int := rfl
theorem c_M_caught_33 : cT 54 33 = o_al 34 0 := rfl
theorem c_M_caught_34 : cT 54 34 = o_gf 37 10 0 := rfl
theorem c_M_caught_37 : cT 54 37 = o_ci 38 4 := rfl
theorem c_M_caught_38 : cT 54 38 = o_ial 39 := rfl
theorem c_M_caught_39 : cT 54 39 = o_ci 41 30 := rfl
theorem c_M_caught_41 : cT 54 41 = o_icne 44 47 := rfl
theorem c_M_caught_44 : cT 54 44 = o_ci 46 (-1000000003) := rfl
theorem c_M_caught_46 : cT 54 46 = o_iret .int := rfl
theorem c_M_caught_47 : cT 54 47 = o_al 48 0 := rfl
theorem c_M_caught_48 : cT 54 48 = o_il 49 1 := rfl
theorem c_M_caught_49 : cT 54 49 = o_ca 52 19 2 3 false (some 10) := rfl
theorem c_M_caught_52 : cT 54 52 = o_ci 53 1 := rfl
theorem c_M_caught_53 : cT 54 53 = o_iret .int := rfl
theorem c_M_gone_0 : cT 57 0 = o_al 1 0 := rfl
theorem c_M_gone_1 : cT 57 1 = o_il 2 1 := rfl
theorem c_M_gone_2 : cT 57 2 = o_ci 3 2 := rfl
theorem c_M_gone_3 : cT 57 3 = o_ca 6 29 3 3 false (some 10) := rfl
theorem c_M_gone_6 : cT 57 6 = o_ifne 9 12 := rfl
theorem c_M_gone_9 : cT 57 9 = o_ci 11 (-1000000001) := rfl
theorem c_M_gone_11 : cT 57 11 = o_iret .int := rfl
theorem c_M_gone_12 : cT 57 12 = o_al 13 0 := rfl
theorem c_M_gone_13 : cT 57 13 = o_il 14 1 := rfl
theorem c_M_gone_14 : cT 57 14 = o_ci 15 3 := rfl
theorem c_M_gone_15 : cT 57 15 = o_ca 18 32 3 3 false (some 10) := rfl
theorem c_M_gone_18 : cT 57 18 = o_ci 19 2 := rfl
theorem c_M_gone_19 : cT 57 19 = o_icne 22 25 := rfl
theorem c_M_gone_22 : cT 57 22 = o_ci 24 (-1000000002) := rfl
theorem c_M_gone_24 : cT 57 24 = o_iret .int := rfl
theorem c_M_gone_25 : cT 57 25 = o_al 26 0 := rfl
theorem c_M_gone_26 : cT 57 26 = o_il 27 1 := rfl
theorem c_M_gone_27 : cT 57 27 = o_ca 30 51 2 3 false (some 10) := rfl
theorem c_M_gone_30 : cT 57 30 = o_al 31 0 := rfl
theorem c_M_gone_31 : cT 57 31 = o_il 32 1 := rfl
theorem c_M_gone_32 : cT 57 32 = o_ci 33 3 := rfl
theorem c_M_gone_33 : cT 57 33 = o_ci 34 2 := rfl
theorem c_M_gone_34 : cT 57 34 = o_ca 37 18 4 4 false (some 10) := rfl
theorem c_M_gone_37 : cT 57 37 = o_ci 38 1 := rfl
theorem c_M_gone_38 : cT 57 38 = o_iret .int := rfl
theorem c_M_point_0 : cT 62 0 = o_il 1 1 := rfl
theorem c_M_point_1 : cT 62 1 = o_il 2 2 := rfl
theorem c_M_point_2 : cT 62 2 = o_ca 5 58 2 2 false none := rfl
theorem c_M_point_5 : cT 62 5 = o_is 6 3 := rfl
theorem c_M_point_6 : cT 62 6 = o_al 7 0 := rfl
theorem c_M_point_7 : cT 62 7 = o_gf 10 10 12 := rfl
theorem c_M_point_10 : cT 62 10 = o_is 12 4 := rfl
theorem c_M_point_12 : cT 62 12 = o_il 14 4 := rfl
theorem c_M_point_14 : cT 62 14 = o_ifle 17 52 := rfl
theorem c_M_point_17 : cT 62 17 = o_al 18 0 := rfl
theorem c_M_point_18 : cT 62 18 = o_gf 21 10 11 := rfl
theorem c_M_point_21 : cT 62 21 = o_il 23 4 := rfl
theorem c_M_point_23 : cT 62 23 = o_ci 24 1 := rfl
theorem c_M_point_24 : cT 62 24 = o_isub 25 := rfl
theorem c_M_point_25 : cT 62 25 = o_ial 26 := rfl
theorem c_M_point_26 : cT 62 26 = o_il 27 3 := rfl
theorem c_M_point_27 : cT 62 27 = o_icle 30 52 := rfl
theorem c_M_point_30 : cT 62 30 = o_al 31 0 := rfl
theorem c_M_point_31 : cT 62 31 = o_gf 34 10 11 := rfl
theorem c_M_point_34 : cT 62 34 = o_il 36 4 := rfl
theorem c_M_point_36 : cT 62 36 = o_al 37 0 := rfl
theorem c_M_point_37 : cT 62 37 = o_gf 40 10 11 := rfl
theorem c_M_point_40 : cT 62 40 = o_il 42 4 := rfl
theorem c_M_point_42 : cT 62 42 = o_ci 43 1 := rfl
theorem c_M_point_43 : cT 62 43 = o_isub 44 := rfl
theorem c_M_point_44 : cT 62 44 = o_ial 45 := rfl
theorem c_M_point_45 : cT 62 45 = o_ias 46 := rfl
theorem c_M_point_46 : cT 62 46 = o_inc 49 4 (-1) := rfl
theorem c_M_point_49 : cT 62 49 = o_goto 12 := rfl
theorem c_M_point_52 : cT 62 52 = o_al 53 0 := rfl
theorem c_M_point_53 : cT 62 53 = o_gf 56 10 11 := rfl
theorem c_M_point_56 : cT 62 56 = o_il 58 4 := rfl
theorem c_M_point_58 : cT 62 58 = o_il 59 3 := rfl
theorem c_M_point_59 : cT 62 59 = o_ias 60 := rfl
theorem c_M_point_60 : cT 62 60 = o_al 61 0 := rfl
theorem c_M_point_61 : cT 62 61 = o_dup 62 := rfl
theorem c_M_point_62 : cT 62 62 = o_gf 65 10 12 := rfl
theorem c_M_point_65 : cT 62 65 = o_ci 66 1 := rfl
theorem c_M_point_66 : cT 62 66 = o_iadd 67 := rfl
theorem c_M_point_67 : cT 62 67 = o_pf 70 10 12 0 := rfl
theorem c_M_point_70 : cT 62 70 = o_vret := rfl
theorem c_M_counts_0 : cT 63 0 = o_ci 1 0 := rfl
theorem c_M_counts_1 : cT 63 1 = o_is 2 3 := rfl
theorem c_M_counts_2 : cT 63 2 = o_ci 3 0 := rfl
theorem c_M_counts_3 : cT 63 3 = o_is 5 4 := rfl
theorem c_M_counts_5 : cT 63 5 = o_il 7 4 := rfl
theorem c_M_counts_7 : cT 63 7 = o_al 8 0 := rfl
theorem c_M_counts_8 : cT 63 8 = o_gf 11 10 0 := rfl
theorem c_M_counts_11 : cT 63 11 = o_ci 12 4 := rfl
theorem c_M_counts_12 : cT 63 12 = o_ial 13 := rfl
theorem c_M_counts_13 : cT 63 13 = o_icge 16 96 := rfl
theorem c_M_counts_16 : cT 63 16 = o_al 17 0 := rfl
theorem c_M_counts_17 : cT 63 17 = o_gf 20 10 0 := rfl
theorem c_M_counts_20 : cT 63 20 = o_ci 23 164 := rfl
theorem c_M_counts_23 : cT 63 23 = o_ci 24 3 := rfl
theorem c_M_counts_24 : cT 63 24 = o_il 26 4 := rfl
theorem c_M_counts_26 : cT 63 26 = o_imul 27 := rfl
theorem c_M_counts_27 : cT 63 27 = o_iadd 28 := rfl
theorem c_M_counts_28 : cT 63 28 = o_ci 29 2 := rfl
theorem c_M_counts_29 : cT 63 29 = o_iadd 30 := rfl
theorem c_M_counts_30 : cT 63 30 = o_ial 31 := rfl
theorem c_M_counts_31 : cT 63 31 = o_is 33 5 := rfl
theorem c_M_counts_33 : cT 63 33 = o_il 34 3 := rfl
theorem c_M_counts_34 : cT 63 34 = o_ifne 37 84 := rfl
theorem c_M_counts_37 : cT 63 37 = o_al 38 0 := rfl
theorem c_M_counts_38 : cT 63 38 = o_gf 41 10 0 := rfl
theorem c_M_counts_41 : cT 63 41 = o_ci 44 164 := rfl
theorem c_M_counts_44 : cT 63 44 = o_ci 45 3 := rfl
theorem c_M_counts_45 : cT 63 45 = o_il 47 4 := rfl
theorem c_M_counts_47 : cT 63 47 = o_imul 48 := rfl
theorem c_M_counts_48 : cT 63 48 = o_iadd 49 := rfl
theorem c_M_counts_49 : cT 63 49 = o_ial 50 := rfl
theorem c_M_counts_50 : cT 63 50 = o_il 51 1 := rfl
theorem c_M_counts_51 : cT 63 51 = o_icne 54 88 := rfl
theorem c_M_counts_54 : cT 63 54 = o_al 55 0 := rfl
theorem c_M_counts_55 : cT 63 55 = o_gf 58 10 0 := rfl
theorem c_M_counts_58 : cT 63 58 = o_ci 61 164 := rfl
theorem c_M_counts_61 : cT 63 61 = o_ci 62 3 := rfl
theorem c_M_counts_62 : cT 63 62 = o_il 64 4 := rfl
theorem c_M_counts_64 : cT 63 64 = o_imul 65 := rfl
theorem c_M_counts_65 : cT 63 65 = o_iadd 66 := rfl
theorem c_M_counts_66 : cT 63 66 = o_ci 67 1 := rfl
theorem c_M_counts_67 : cT 63 67 = o_iadd 68 := rfl
theorem c_M_counts_68 : cT 63 68 = o_ial 69 := rfl
theorem c_M_counts_69 : cT 63 69 = o_il 70 2 := rfl
theorem c_M_counts_70 : cT 63 70 = o_icgt 73 88 := rfl
theorem c_M_counts_73 : cT 63 73 = o_il 75 5 := rfl
theorem c_M_counts_75 : cT 63 75 = o_iflt 78 84 := rfl
theorem c_M_counts_78 : cT 63 78 = o_il 79 2 := rfl
theorem c_M_counts_79 : cT 63 79 = o_il 81 5 := rfl
theorem c_M_counts_81 : cT 63 81 = o_icge 84 88 := rfl
theorem c_M_counts_84 : cT 63 84 = o_ci 85 1 := rfl
theorem c_M_counts_85 : cT 63 85 = o_goto 89 := rfl
theorem c_M_counts_88 : cT 63 88 = o_ci 89 0 := rfl
theorem c_M_counts_89 : cT 63 89 = o_is 90 3 := rfl
theorem c_M_counts_90 : cT 63 90 = o_inc 93 4 1 := rfl
theorem c_M_counts_93 : cT 63 93 = o_goto 5 := rfl
theorem c_M_counts_96 : cT 63 96 = o_ci 97 0 := rfl
theorem c_M_counts_97 : cT 63 97 = o_is 99 4 := rfl
theorem c_M_counts_99 : cT 63 99 = o_il 101 4 := rfl
theorem c_M_counts_101 : cT 63 101 = o_al 102 0 := rfl
theorem c_M_counts_102 : cT 63 102 = o_gf 105 10 0 := rfl
theorem c_M_counts_105 : cT 63 105 = o_ci 106 5 := rfl
theorem c_M_counts_106 : cT 63 106 = o_ial 107 := rfl
theorem c_M_counts_107 : cT 63 107 = o_icge 110 181 := rfl
theorem c_M_counts_110 : cT 63 110 = o_il 111 3 := rfl
theorem c_M_counts_111 : cT 63 111 = o_ifeq 114 173 := rfl
theorem c_M_counts_114 : cT 63 114 = o_al 115 0 := rfl
theorem c_M_counts_115 : cT 63 115 = o_gf 118 10 0 := rfl
theorem c_M_counts_118 : cT 63 118 = o_ci 121 254 := rfl
theorem c_M_counts_121 : cT 63 121 = o_ci 122 3 := rfl
theorem c_M_counts_122 : cT 63 122 = o_il 124 4 := rfl
theorem c_M_counts_124 : cT 63 124 = o_imul 125 := rfl
theorem c_M_counts_125 : cT 63 125 = o_iadd 126 := rfl
theorem c_M_counts_126 : cT 63 126 = o_ial 127 := rfl
theorem c_M_counts_127 : cT 63 127 = o_il 128 1 := rfl
theorem c_M_counts_128 : cT 63 128 = o_icne 131 169 := rfl
theorem c_M_counts_131 : cT 63 131 = o_il 132 2 := rfl
theorem c_M_counts_132 : cT 63 132 = o_al 133 0 := rfl
theorem c_M_counts_133 : cT 63 133 = o_gf 136 10 0 := rfl
theorem c_M_counts_136 : cT 63 136 = o_ci 139 254 := rfl
theorem c_M_counts_139 : cT 63 139 = o_ci 140 3 := rfl
theorem c_M_counts_140 : cT 63 140 = o_il 142 4 := rfl
theorem c_M_counts_142 : cT 63 142 = o_imul 143 := rfl
theorem c_M_counts_143 : cT 63 143 = o_iadd 144 := rfl
theorem c_M_counts_144 : cT 63 144 = o_ci 145 1 := rfl
theorem c_M_counts_145 : cT 63 145 = o_iadd 146 := rfl
theorem c_M_counts_146 : cT 63 146 = o_ial 147 := rfl
theorem c_M_counts_147 : cT 63 147 = o_iclt 150 169 := rfl
theorem c_M_counts_150 : cT 63 150 = o_il 151 2 := rfl
theorem c_M_counts_151 : cT 63 151 = o_al 152 0 := rfl
theorem c_M_counts_152 : cT 63 152 = o_gf 155 10 0 := rfl
theorem c_M_counts_155 : cT 63 155 = o_ci 158 254 := rfl
theorem c_M_counts_158 : cT 63 158 = o_ci 159 3 := rfl
theorem c_M_counts_159 : cT 63 159 = o_il 161 4 := rfl
theorem c_M_counts_161 : cT 63 161 = o_imul 162 := rfl
theorem c_M_counts_162 : cT 63 162 = o_iadd 163 := rfl
theorem c_M_counts_163 : cT 63 163 = o_ci 164 2 := rfl
theorem c_M_counts_164 : cT 63 164 = o_iadd 165 := rfl
theorem c_M_counts_165 : cT 63 165 = o_ial 166 := rfl
theorem c_M_counts_166 : cT 63 166 = o_iclt 169 173 := rfl
theorem c_M_counts_169 : cT 63 169 = o_ci 170 1 := rfl
theorem c_M_counts_170 : cT 63 170 = o_goto 174 := rfl
theorem c_M_counts_173 : cT 63 173 = o_ci 174 0 := rfl
theorem c_M_counts_174 : cT 63 174 = o_is 175 3 := rfl
theorem c_M_counts_175 : cT 63 175 = o_inc 178 4 1 := rfl
theorem c_M_counts_178 : cT 63 178 = o_goto 99 := rfl
theorem c_M_counts_181 : cT 63 181 = o_il 182 3 := rfl
theorem c_M_counts_182 : cT 63 182 = o_iret .boolean := rfl
theorem c_M_servedOn_0 : cT 64 0 = o_al 1 0 := rfl
theorem c_M_servedOn_1 : cT 64 1 = o_ci 2 0 := rfl
theorem c_M_servedOn_2 : cT 64 2 = o_pf 5 10 12 0 := rfl
theorem c_M_servedOn_5 : cT 64 5 = o_al 6 0 := rfl
theorem c_M_servedOn_6 : cT 64 6 = o_ci 7 0 := rfl
theorem c_M_servedOn_7 : cT 64 7 = o_il 8 2 := rfl
theorem c_M_servedOn_8 : cT 64 8 = o_ca 11 62 3 5 false (some 10) := rfl
theorem c_M_servedOn_11 : cT 64 11 = o_al 12 0 := rfl
theorem c_M_servedOn_12 : cT 64 12 = o_il 13 2 := rfl
theorem c_M_servedOn_13 : cT 64 13 = o_il 14 2 := rfl
theorem c_M_servedOn_14 : cT 64 14 = o_ca 17 62 3 5 false (some 10) := rfl
theorem c_M_servedOn_17 : cT 64 17 = o_ci 18 0 := rfl
theorem c_M_servedOn_18 : cT 64 18 = o_is 19 3 := rfl
theorem c_M_servedOn_19 : cT 64 19 = o_il 20 3 := rfl
theorem c_M_servedOn_20 : cT 64 20 = o_al 21 0 := rfl
theorem c_M_servedOn_21 : cT 64 21 = o_gf 24 10 0 := rfl
theorem c_M_servedOn_24 : cT 64 24 = o_ci 25 4 := rfl
theorem c_M_servedOn_25 : cT 64 25 = o_ial 26 := rfl
theorem c_M_servedOn_26 : cT 64 26 = o_icge 29 102 := rfl
theorem c_M_servedOn_29 : cT 64 29 = o_al 30 0 := rfl
theorem c_M_servedOn_30 : cT 64 30 = o_gf 33 10 0 := rfl
theorem c_M_servedOn_33 : cT 64 33 = o_ci 36 164 := rfl
theorem c_M_servedOn_36 : cT 64 36 = o_ci 37 3 := rfl
theorem c_M_servedOn_37 : cT 64 37 = o_il 38 3 := rfl
theorem c_M_servedOn_38 : cT 64 38 = o_imul 39 := rfl
theorem c_M_servedOn_39 : cT 64 39 = o_iadd 40 := rfl
theorem c_M_servedOn_40 : cT 64 40 = o_ial 41 := rfl
theorem c_M_servedOn_41 : cT 64 41 = o_il 42 1 := rfl
theorem c_M_servedOn_42 : cT 64 42 = o_icne 45 96 := rfl
theorem c_M_servedOn_45 : cT 64 45 = o_al 46 0 := rfl
theorem c_M_servedOn_46 : cT 64 46 = o_gf 49 10 0 := rfl
theorem c_M_servedOn_49 : cT 64 49 = o_ci 52 164 := rfl
theorem c_M_servedOn_52 : cT 64 52 = o_ci 53 3 := rfl
theorem c_M_servedOn_53 : cT 64 53 = o_il 54 3 := rfl
theorem c_M_servedOn_54 : cT 64 54 = o_imul 55 := rfl
theorem c_M_servedOn_55 : cT 64 55 = o_iadd 56 := rfl
theorem c_M_servedOn_56 : cT 64 56 = o_ci 57 2 := rfl
theorem c_M_servedOn_57 : cT 64 57 = o_iadd 58 := rfl
theorem c_M_servedOn_58 : cT 64 58 = o_ial 59 := rfl
theorem c_M_servedOn_59 : cT 64 59 = o_is 61 4 := rfl
theorem c_M_servedOn_61 : cT 64 61 = o_al 62 0 := rfl
theorem c_M_servedOn_62 : cT 64 62 = o_al 63 0 := rfl
theorem c_M_servedOn_63 : cT 64 63 = o_gf 66 10 0 := rfl
theorem c_M_servedOn_66 : cT 64 66 = o_ci 69 164 := rfl
theorem c_M_servedOn_69 : cT 64 69 = o_ci 70 3 := rfl
theorem c_M_servedOn_70 : cT 64 70 = o_il 71 3 := rfl
theorem c_M_servedOn_71 : cT 64 71 = o_imul 72 := rfl
theorem c_M_servedOn_72 : cT 64 72 = o_iadd 73 := rfl
theorem c_M_servedOn_73 : cT 64 73 = o_ci 74 1 := rfl
theorem c_M_servedOn_74 : cT 64 74 = o_iadd 75 := rfl
theorem c_M_servedOn_75 : cT 64 75 = o_ial 76 := rfl
theorem c_M_servedOn_76 : cT 64 76 = o_il 77 2 := rfl
theorem c_M_servedOn_77 : cT 64 77 = o_ca 80 62 3 5 false (some 10) := rfl
theorem c_M_servedOn_80 : cT 64 80 = o_al 81 0 := rfl
theorem c_M_servedOn_81 : cT 64 81 = o_il 83 4 := rfl
theorem c_M_servedOn_83 : cT 64 83 = o_ifge 86 90 := rfl
theorem c_M_servedOn_86 : cT 64 86 = o_il 87 2 := rfl
theorem c_M_servedOn_87 : cT 64 87 = o_goto 92 := rfl
theorem c_M_servedOn_90 : cT 64 90 = o_il 92 4 := rfl
theorem c_M_servedOn_92 : cT 64 92 = o_il 93 2 := rfl
theorem c_M_servedOn_93 : cT 64 93 = o_ca 96 62 3 5 false (some 10) := rfl
theorem c_M_servedOn_96 : cT 64 96 = o_inc 99 3 1 := rfl
theorem c_M_servedOn_99 : cT 64 99 = o_goto 19 := rfl
theorem c_M_servedOn_102 : cT 64 102 = o_ci 103 0 := rfl
theorem c_M_servedOn_103 : cT 64 103 = o_is 104 3 := rfl
theorem c_M_servedOn_104 : cT 64 104 = o_il 105 3 := rfl
theorem c_M_servedOn_105 : cT 64 105 = o_al 106 0 := rfl
theorem c_M_servedOn_106 : cT 64 106 = o_gf 109 10 0 := rfl
theorem c_M_servedOn_109 : cT 64 109 = o_ci 110 5 := rfl
theorem c_M_servedOn_110 : cT 64 110 = o_ial 111 := rfl
theorem c_M_servedOn_111 : cT 64 111 = o_icge 114 174 := rfl
theorem c_M_servedOn_114 : cT 64 114 = o_al 115 0 := rfl
theorem c_M_servedOn_115 : cT 64 115 = o_gf 118 10 0 := rfl
theorem c_M_servedOn_118 : cT 64 118 = o_ci 121 254 := rfl
theorem c_M_servedOn_121 : cT 64 121 = o_ci 122 3 := rfl
theorem c_M_servedOn_122 : cT 64 122 = o_il 123 3 := rfl
theorem c_M_servedOn_123 : cT 64 123 = o_imul 124 := rfl
theorem c_M_servedOn_124 : cT 64 124 = o_iadd 125 := rfl
theorem c_M_servedOn_125 : cT 64 125 = o_ial 126 := rfl
theorem c_M_servedOn_126 : cT 64 126 = o_il 127 1 := rfl
theorem c_M_servedOn_127 : cT 64 127 = o_icne 130 168 := rfl
theorem c_M_servedOn_130 : cT 64 130 = o_al 131 0 := rfl
theorem c_M_servedOn_131 : cT 64 131 = o_al 132 0 := rfl
theorem c_M_servedOn_132 : cT 64 132 = o_gf 135 10 0 := rfl
theorem c_M_servedOn_135 : cT 64 135 = o_ci 138 254 := rfl
theorem c_M_servedOn_138 : cT 64 138 = o_ci 139 3 := rfl
theorem c_M_servedOn_139 : cT 64 139 = o_il 140 3 := rfl
theorem c_M_servedOn_140 : cT 64 140 = o_imul 141 := rfl
theorem c_M_servedOn_141 : cT 64 141 = o_iadd 142 := rfl
theorem c_M_servedOn_142 : cT 64 142 = o_ci 143 1 := rfl
theorem c_M_servedOn_143 : cT 64 143 = o_iadd 144 := rfl
theorem c_M_servedOn_144 : cT 64 144 = o_ial 145 := rfl
theorem c_M_servedOn_145 : cT 64 145 = o_il 146 2 := rfl
theorem c_M_servedOn_146 : cT 64 146 = o_ca 149 62 3 5 false (some 10) := rfl
theorem c_M_servedOn_149 : cT 64 149 = o_al 150 0 := rfl
theorem c_M_servedOn_150 : cT 64 150 = o_al 151 0 := rfl
theorem c_M_servedOn_151 : cT 64 151 = o_gf 154 10 0 := rfl
theorem c_M_servedOn_154 : cT 64 154 = o_ci 157 254 := rfl
theorem c_M_servedOn_157 : cT 64 157 = o_ci 158 3 := rfl
theorem c_M_servedOn_158 : cT 64 158 = o_il 159 3 := rfl
theorem c_M_servedOn_159 : cT 64 159 = o_imul 160 := rfl
theorem c_M_servedOn_160 : cT 64 160 = o_iadd 161 := rfl
theorem c_M_servedOn_161 : cT 64 161 = o_ci 162 2 := rfl
theorem c_M_servedOn_162 : cT 64 162 = o_iadd 163 := rfl
theorem c_M_servedOn_163 : cT 64 163 = o_ial 164 := rfl
theorem c_M_servedOn_164 : cT 64 164 = o_il 165 2 := rfl
theorem c_M_servedOn_165 : cT 64 165 = o_ca 168 62 3 5 false (some 10) := rfl
theorem c_M_servedOn_168 : cT 64 168 = o_inc 171 3 1 := rfl
theorem c_M_servedOn_171 : cT 64 171 = o_goto 104 := rfl
theorem c_M_servedOn_174 : cT 64 174 = o_ci 175 0 := rfl
theorem c_M_servedOn_175 : cT 64 175 = o_is 176 3 := rfl
theorem c_M_servedOn_176 : cT 64 176 = o_ci 177 0 := rfl
theorem c_M_servedOn_177 : cT 64 177 = o_is 179 4 := rfl
theorem c_M_servedOn_179 : cT 64 179 = o_il 181 4 := rfl
theorem c_M_servedOn_181 : cT 64 181 = o_ci 182 1 := rfl
theorem c_M_servedOn_182 : cT 64 182 = o_iadd 183 := rfl
theorem c_M_servedOn_183 : cT 64 183 = o_al 184 0 := rfl
theorem c_M_servedOn_184 : cT 64 184 = o_gf 187 10 12 := rfl
theorem c_M_servedOn_187 : cT 64 187 = o_icge 190 254 := rfl
theorem c_M_servedOn_190 : cT 64 190 = o_il 191 3 := rfl
theorem c_M_servedOn_191 : cT 64 191 = o_al 192 0 := rfl
theorem c_M_servedOn_192 : cT 64 192 = o_gf 195 10 11 := rfl
theorem c_M_servedOn_195 : cT 64 195 = o_il 197 4 := rfl
theorem c_M_servedOn_197 : cT 64 197 = o_ial 198 := rfl
theorem c_M_servedOn_198 : cT 64 198 = o_al 199 0 := rfl
theorem c_M_servedOn_199 : cT 64 199 = o_gf 202 10 11 := rfl
theorem c_M_servedOn_202 : cT 64 202 = o_il 204 4 := rfl
theorem c_M_servedOn_204 : cT 64 204 = o_ci 205 1 := rfl
theorem c_M_servedOn_205 : cT 64 205 = o_iadd 206 := rfl
theorem c_M_servedOn_206 : cT 64 206 = o_ial 207 := rfl
theorem c_M_servedOn_207 : cT 64 207 = o_icge 210 245 := rfl
theorem c_M_servedOn_210 : cT 64 210 = o_al 211 0 := rfl
theorem c_M_servedOn_211 : cT 64 211 = o_il 212 1 := rfl
theorem c_M_servedOn_212 : cT 64 212 = o_al 213 0 := rfl
theorem c_M_servedOn_213 : cT 64 213 = o_gf 216 10 11 := rfl
theorem c_M_servedOn_216 : cT 64 216 = o_il 218 4 := rfl
theorem c_M_servedOn_218 : cT 64 218 = o_ial 219 := rfl
theorem c_M_servedOn_219 : cT 64 219 = o_ca 222 63 3 6 false (some 10) := rfl
theorem c_M_servedOn_222 : cT 64 222 = o_ifeq 225 245 := rfl
theorem c_M_servedOn_225 : cT 64 225 = o_al 226 0 := rfl
theorem c_M_servedOn_226 : cT 64 226 = o_gf 229 10 11 := rfl
theorem c_M_servedOn_229 : cT 64 229 = o_il 231 4 := rfl
theorem c_M_servedOn_231 : cT 64 231 = o_ci 232 1 := rfl
theorem c_M_servedOn_232 : cT 64 232 = o_iadd 233 := rfl
theorem c_M_servedOn_233 : cT 64 233 = o_ial 234 := rfl
theorem c_M_servedOn_234 : cT 64 234 = o_al 235 0 := rfl
theorem c_M_servedOn_235 : cT 64 235 = o_gf 238 10 11 := rfl
theorem c_M_servedOn_238 : cT 64 238 = o_il 240 4 := rfl
theorem c_M_servedOn_240 : cT 64 240 = o_ial 241 := rfl
theorem c_M_servedOn_241 : cT 64 241 = o_isub 242 := rfl
theorem c_M_servedOn_242 : cT 64 242 = o_goto 246 := rfl
theorem c_M_servedOn_245 : cT 64 245 = o_ci 246 0 := rfl
theorem c_M_servedOn_246 : cT 64 246 = o_iadd 247 := rfl
theorem c_M_servedOn_247 : cT 64 247 = o_is 248 3 := rfl
theorem c_M_servedOn_248 : cT 64 248 = o_inc 251 4 1 := rfl
theorem c_M_servedOn_251 : cT 64 251 = o_goto 179 := rfl
theorem c_M_servedOn_254 : cT 64 254 = o_il 255 3 := rfl
theorem c_M_servedOn_255 : cT 64 255 = o_iret .int := rfl
theorem c_M_served_0 : cT 65 0 = o_al 1 0 := rfl
theorem c_M_served_1 : cT 65 1 = o_il 2 1 := rfl
theorem c_M_served_2 : cT 65 2 = o_ci 3 2 := rfl
theorem c_M_served_3 : cT 65 3 = o_ca 6 29 3 3 false (some 10) := rfl
theorem c_M_served_6 : cT 65 6 = o_ifeq 9 21 := rfl
theorem c_M_served_9 : cT 65 9 = o_il 10 2 := rfl
theorem c_M_served_10 : cT 65 10 = o_i2l 11 := rfl
theorem c_M_served_11 : cT 65 11 = o_cl 12 0 := rfl
theorem c_M_served_12 : cT 65 12 = o_cl 15 9999 := rfl
theorem c_M_served_15 : cT 65 15 = o_ca 18 17 3 6 false none := rfl
theorem c_M_served_18 : cT 65 18 = o_ifne 21 26 := rfl
theorem c_M_served_21 : cT 65 21 = o_ci 23 (-1000000001) := rfl
theorem c_M_served_23 : cT 65 23 = o_goto 32 := rfl
theorem c_M_served_26 : cT 65 26 = o_al 27 0 := rfl
theorem c_M_served_27 : cT 65 27 = o_il 28 1 := rfl
theorem c_M_served_28 : cT 65 28 = o_il 29 2 := rfl
theorem c_M_served_29 : cT 65 29 = o_ca 32 64 3 5 false (some 10) := rfl
theorem c_M_served_32 : cT 65 32 = o_iret .int := rfl
theorem c_M_credit_0 : cT 67 0 = o_al 1 0 := rfl
theorem c_M_credit_1 : cT 67 1 = o_il 2 1 := rfl
theorem c_M_credit_2 : cT 67 2 = o_ci 3 2 := rfl
theorem c_M_credit_3 : cT 67 3 = o_ca 6 29 3 3 false (some 10) := rfl
theorem c_M_credit_6 : cT 67 6 = o_ifeq 9 27 := rfl
theorem c_M_credit_9 : cT 67 9 = o_il 10 2 := rfl
theorem c_M_credit_10 : cT 67 10 = o_i2l 11 := rfl
theorem c_M_credit_11 : cT 67 11 = o_cl 14 (-99) := rfl
theorem c_M_credit_14 : cT 67 14 = o_cl 17 99 := rfl
theorem c_M_credit_17 : cT 67 17 = o_ca 20 17 3 6 false none := rfl
theorem c_M_credit_20 : cT 67 20 = o_ifeq 23 27 := rfl
theorem c_M_credit_23 : cT 67 23 = o_il 24 2 := rfl
theorem c_M_credit_24 : cT 67 24 = o_ifne 27 30 := rfl
theorem c_M_credit_27 : cT 67 27 = o_ci 29 (-1000000001) := rfl
theorem c_M_credit_29 : cT 67 29 = o_iret .int := rfl
theorem c_M_credit_30 : cT 67 30 = o_al 31 0 := rfl
theorem c_M_credit_31 : cT 67 31 = o_il 32 1 := rfl
theorem c_M_credit_32 : cT 67 32 = o_ci 33 3 := rfl
theorem c_M_credit_33 : cT 67 33 = o_ca 36 32 3 3 false (some 10) := rfl
theorem c_M_credit_36 : cT 67 36 = o_ci 37 2 := rfl
theorem c_M_credit_37 : cT 67 37 = o_icne 40 43 := rfl
theorem c_M_credit_40 : cT 67 40 = o_ci 42 (-1000000002) := rfl
theorem c_M_credit_42 : cT 67 42 = o_iret .int := rfl
theorem c_M_credit_43 : cT 67 43 = o_al 44 0 := rfl
theorem c_M_credit_44 : cT 67 44 = o_gf 47 10 0 := rfl
theorem c_M_credit_47 : cT 67 47 = o_ci 49 6 := rfl
theorem c_M_credit_49 : cT 67 49 = o_ial 50 := rfl
theorem c_M_credit_50 : cT 67 50 = o_is 51 3 := rfl
theorem c_M_credit_51 : cT 67 51 = o_il 52 3 := rfl
theorem c_M_credit_52 : cT 67 52 = o_ci 54 40 := rfl
theorem c_M_credit_54 : cT 67 54 = o_icne 57 60 := rfl
theorem c_M_credit_57 : cT 67 57 = o_ci 59 (-1000000003) := rfl
theorem c_M_credit_59 : cT 67 59 = o_iret .int := rfl
theorem c_M_credit_60 : cT 67 60 = o_al 61 0 := rfl
theorem c_M_credit_61 : cT 67 61 = o_gf 64 10 0 := rfl
theorem c_M_credit_64 : cT 67 64 = o_ci 67 314 := rfl
theorem c_M_credit_67 : cT 67 67 = o_ci 68 4 := rfl
theorem c_M_credit_68 : cT 67 68 = o_il 69 3 := rfl
theorem c_M_credit_69 : cT 67 69 = o_imul 70 := rfl
theorem c_M_credit_70 : cT 67 70 = o_iadd 71 := rfl
theorem c_M_credit_71 : cT 67 71 = o_il 72 1 := rfl
theorem c_M_credit_72 : cT 67 72 = o_ias 73 := rfl
theorem c_M_credit_73 : cT 67 73 = o_al 74 0 := rfl
theorem c_M_credit_74 : cT 67 74 = o_gf 77 10 0 := rfl
theorem c_M_credit_77 : cT 67 77 = o_ci 80 314 := rfl
theorem c_M_credit_80 : cT 67 80 = o_ci 81 4 := rfl
theorem c_M_credit_81 : cT 67 81 = o_il 82 3 := rfl
theorem c_M_credit_82 : cT 67 82 = o_imul 83 := rfl
theorem c_M_credit_83 : cT 67 83 = o_iadd 84 := rfl
theorem c_M_credit_84 : cT 67 84 = o_ci 85 1 := rfl
theorem c_M_credit_85 : cT 67 85 = o_iadd 86 := rfl
theorem c_M_credit_86 : cT 67 86 = o_il 87 2 := rfl
theorem c_M_credit_87 : cT 67 87 = o_ias 88 := rfl
theorem c_M_credit_88 : cT 67 88 = o_al 89 0 := rfl
theorem c_M_credit_89 : cT 67 89 = o_gf 92 10 0 := rfl
theorem c_M_credit_92 : cT 67 92 = o_ci 95 314 := rfl
theorem c_M_credit_95 : cT 67 95 = o_ci 96 4 := rfl
theorem c_M_credit_96 : cT 67 96 = o_il 97 3 := rfl
theorem c_M_credit_97 : cT 67 97 = o_imul 98 := rfl
theorem c_M_credit_98 : cT 67 98 = o_iadd 99 := rfl
theorem c_M_credit_99 : cT 67 99 = o_ci 100 2 := rfl
theorem c_M_credit_100 : cT 67 100 = o_iadd 101 := rfl
theorem c_M_credit_101 : cT 67 101 = o_al 102 0 := rfl
theorem c_M_credit_102 : cT 67 102 = o_gf 105 10 0 := rfl
theorem c_M_credit_105 : cT 67 105 = o_ci 106 0 := rfl
theorem c_M_credit_106 : cT 67 106 = o_ial 107 := rfl
theorem c_M_credit_107 : cT 67 107 = o_ias 108 := rfl
theorem c_M_credit_108 : cT 67 108 = o_al 109 0 := rfl
theorem c_M_credit_109 : cT 67 109 = o_gf 112 10 0 := rfl
theorem c_M_credit_112 : cT 67 112 = o_ci 115 314 := rfl
theorem c_M_credit_115 : cT 67 115 = o_ci 116 4 := rfl
theorem c_M_credit_116 : cT 67 116 = o_il 117 3 := rfl
theorem c_M_credit_117 : cT 67 117 = o_imul 118 := rfl
theorem c_M_credit_118 : cT 67 118 = o_iadd 119 := rfl
theorem c_M_credit_119 : cT 67 119 = o_ci 120 3 := rfl
theorem c_M_credit_120 : cT 67 120 = o_iadd 121 := rfl
theorem c_M_credit_121 : cT 67 121 = o_ci 122 (-1) := rfl
theorem c_M_credit_122 : cT 67 122 = o_ias 123 := rfl
theorem c_M_credit_123 : cT 67 123 = o_al 124 0 := rfl
theorem c_M_credit_124 : cT 67 124 = o_gf 127 10 0 := rfl
theorem c_M_credit_127 : cT 67 127 = o_ci 129 6 := rfl
theorem c_M_credit_129 : cT 67 129 = o_dup2 130 := rfl
theorem c_M_credit_130 : cT 67 130 = o_ial 131 := rfl
theorem c_M_credit_131 : cT 67 131 = o_ci 132 1 := rfl
theorem c_M_credit_132 : cT 67 132 = o_iadd 133 := rfl
theorem c_M_credit_133 : cT 67 133 = o_ias 134 := rfl
theorem c_M_credit_134 : cT 67 134 = o_il 135 3 := rfl
theorem c_M_credit_135 : cT 67 135 = o_iret .int := rfl
theorem c_M_back_0 : cT 69 0 = o_al 1 0 := rfl
theorem c_M_back_1 : cT 69 1 = o_il 2 1 := rfl
theorem c_M_back_2 : cT 69 2 = o_ci 4 6 := rfl
theorem c_M_back_4 : cT 69 4 = o_ca 7 29 3 3 false (some 10) := rfl
theorem c_M_back_7 : cT 69 7 = o_ifne 10 13 := rfl
theorem c_M_back_10 : cT 69 10 = o_ci 12 (-1000000001) := rfl
theorem c_M_back_12 : cT 69 12 = o_iret .int := rfl
theorem c_M_back_13 : cT 69 13 = o_ci 16 314 := rfl
theorem c_M_back_16 : cT 69 16 = o_ci 17 4 := rfl
theorem c_M_back_17 : cT 69 17 = o_il 18 1 := rfl
theorem c_M_back_18 : cT 69 18 = o_imul 19 := rfl
theorem c_M_back_19 : cT 69 19 = o_iadd 20 := rfl
theorem c_M_back_20 : cT 69 20 = o_is 21 2 := rfl
theorem c_M_back_21 : cT 69 21 = o_al 22 0 := rfl
theorem c_M_back_22 : cT 69 22 = o_gf 25 10 0 := rfl
theorem c_M_back_25 : cT 69 25 = o_il 26 2 := rfl
theorem c_M_back_26 : cT 69 26 = o_ci 27 1 := rfl
theorem c_M_back_27 : cT 69 27 = o_iadd 28 := rfl
theorem c_M_back_28 : cT 69 28 = o_ial 29 := rfl
theorem c_M_back_29 : cT 69 29 = o_ifle 32 35 := rfl
theorem c_M_back_32 : cT 69 32 = o_ci 34 (-1000000012) := rfl
theorem c_M_back_34 : cT 69 34 = o_iret .int := rfl
theorem c_M_back_35 : cT 69 35 = o_al 36 0 := rfl
theorem c_M_back_36 : cT 69 36 = o_gf 39 10 0 := rfl
theorem c_M_back_39 : cT 69 39 = o_il 40 2 := rfl
theorem c_M_back_40 : cT 69 40 = o_ci 41 3 := rfl
theorem c_M_back_41 : cT 69 41 = o_iadd 42 := rfl
theorem c_M_back_42 : cT 69 42 = o_ial 43 := rfl
theorem c_M_back_43 : cT 69 43 = o_iflt 46 49 := rfl
theorem c_M_back_46 : cT 69 46 = o_ci 48 (-1000000002) := rfl
theorem c_M_back_48 : cT 69 48 = o_iret .int := rfl
theorem c_M_back_49 : cT 69 49 = o_al 50 0 := rfl
theorem c_M_back_50 : cT 69 50 = o_gf 53 10 0 := rfl
theorem c_M_back_53 : cT 69 53 = o_il 54 2 := rfl
theorem c_M_back_54 : cT 69 54 = o_ci 55 3 := rfl
theorem c_M_back_55 : cT 69 55 = o_iadd 56 := rfl
theorem c_M_back_56 : cT 69 56 = o_al 57 0 := rfl
theorem c_M_back_57 : cT 69 57 = o_gf 60 10 0 := rfl
theorem c_M_back_60 : cT 69 60 = o_ci 61 0 := rfl
theorem c_M_back_61 : cT 69 61 = o_ial 62 := rfl
theorem c_M_back_62 : cT 69 62 = o_ias 63 := rfl
theorem c_M_back_63 : cT 69 63 = o_ci 64 1 := rfl
theorem c_M_back_64 : cT 69 64 = o_iret .int := rfl
theorem c_M_creditOf_0 : cT 72 0 = o_ci 1 0 := rfl
theorem c_M_creditOf_1 : cT 72 1 = o_is 2 3 := rfl
theorem c_M_creditOf_2 : cT 72 2 = o_ci 3 0 := rfl
theorem c_M_creditOf_3 : cT 72 3 = o_is 5 4 := rfl
theorem c_M_creditOf_5 : cT 72 5 = o_il 7 4 := rfl
theorem c_M_creditOf_7 : cT 72 7 = o_al 8 0 := rfl
theorem c_M_creditOf_8 : cT 72 8 = o_gf 11 10 0 := rfl
theorem c_M_creditOf_11 : cT 72 11 = o_ci 13 6 := rfl
theorem c_M_creditOf_13 : cT 72 13 = o_ial 14 := rfl
theorem c_M_creditOf_14 : cT 72 14 = o_icge 17 110 := rfl
theorem c_M_creditOf_17 : cT 72 17 = o_ci 20 314 := rfl
theorem c_M_creditOf_20 : cT 72 20 = o_ci 21 4 := rfl
theorem c_M_creditOf_21 : cT 72 21 = o_il 23 4 := rfl
theorem c_M_creditOf_23 : cT 72 23 = o_imul 24 := rfl
theorem c_M_creditOf_24 : cT 72 24 = o_iadd 25 := rfl
theorem c_M_creditOf_25 : cT 72 25 = o_is 27 5 := rfl
theorem c_M_creditOf_27 : cT 72 27 = o_al 28 0 := rfl
theorem c_M_creditOf_28 : cT 72 28 = o_gf 31 10 0 := rfl
theorem c_M_creditOf_31 : cT 72 31 = o_il 33 5 := rfl
theorem c_M_creditOf_33 : cT 72 33 = o_ci 34 3 := rfl
theorem c_M_creditOf_34 : cT 72 34 = o_iadd 35 := rfl
theorem c_M_creditOf_35 : cT 72 35 = o_ial 36 := rfl
theorem c_M_creditOf_36 : cT 72 36 = o_iflt 39 56 := rfl
theorem c_M_creditOf_39 : cT 72 39 = o_al 40 0 := rfl
theorem c_M_creditOf_40 : cT 72 40 = o_gf 43 10 0 := rfl
theorem c_M_creditOf_43 : cT 72 43 = o_il 45 5 := rfl
theorem c_M_creditOf_45 : cT 72 45 = o_ci 46 3 := rfl
theorem c_M_creditOf_46 : cT 72 46 = o_iadd 47 := rfl
theorem c_M_creditOf_47 : cT 72 47 = o_ial 48 := rfl
theorem c_M_creditOf_48 : cT 72 48 = o_il 49 2 := rfl
theorem c_M_creditOf_49 : cT 72 49 = o_icgt 52 56 := rfl
theorem c_M_creditOf_52 : cT 72 52 = o_ci 53 1 := rfl
theorem c_M_creditOf_53 : cT 72 53 = o_goto 57 := rfl
theorem c_M_creditOf_56 : cT 72 56 = o_ci 57 0 := rfl
theorem c_M_creditOf_57 : cT 72 57 = o_is 59 6 := rfl
theorem c_M_creditOf_59 : cT 72 59 = o_il 60 3 := rfl
theorem c_M_creditOf_60 : cT 72 60 = o_al 61 0 := rfl
theorem c_M_creditOf_61 : cT 72 61 = o_gf 64 10 0 := rfl
theorem c_M_creditOf_64 : cT 72 64 = o_il 66 5 := rfl
theorem c_M_creditOf_66 : cT 72 66 = o_ial 67 := rfl
theorem c_M_creditOf_67 : cT 72 67 = o_il 68 1 := rfl
theorem c_M_creditOf_68 : cT 72 68 = o_icne 71 101 := rfl
theorem c_M_creditOf_71 : cT 72 71 = o_al 72 0 := rfl
theorem c_M_creditOf_72 : cT 72 72 = o_gf 75 10 0 := rfl
theorem c_M_creditOf_75 : cT 72 75 = o_il 77 5 := rfl
theorem c_M_creditOf_77 : cT 72 77 = o_ci 78 2 := rfl
theorem c_M_creditOf_78 : cT 72 78 = o_iadd 79 := rfl
theorem c_M_creditOf_79 : cT 72 79 = o_ial 80 := rfl
theorem c_M_creditOf_80 : cT 72 80 = o_il 81 2 := rfl
theorem c_M_creditOf_81 : cT 72 81 = o_icgt 84 101 := rfl
theorem c_M_creditOf_84 : cT 72 84 = o_il 86 6 := rfl
theorem c_M_creditOf_86 : cT 72 86 = o_ifne 89 101 := rfl
theorem c_M_creditOf_89 : cT 72 89 = o_al 90 0 := rfl
theorem c_M_creditOf_90 : cT 72 90 = o_gf 93 10 0 := rfl
theorem c_M_creditOf_93 : cT 72 93 = o_il 95 5 := rfl
theorem c_M_creditOf_95 : cT 72 95 = o_ci 96 1 := rfl
theorem c_M_creditOf_96 : cT 72 96 = o_iadd 97 := rfl
theorem c_M_creditOf_97 : cT 72 97 = o_ial 98 := rfl
theorem c_M_creditOf_98 : cT 72 98 = o_goto 102 := rfl
theorem c_M_creditOf_101 : cT 72 101 = o_ci 102 0 := rfl
theorem c_M_creditOf_102 : cT 72 102 = o_iadd 103 := rfl
theorem c_M_creditOf_103 : cT 72 103 = o_is 104 3 := rfl
theorem c_M_creditOf_104 : cT 72 104 = o_inc 107 4 1 := rfl
theorem c_M_creditOf_107 : cT 72 107 = o_goto 5 := rfl
theorem c_M_creditOf_110 : cT 72 110 = o_il 111 3 := rfl
theorem c_M_creditOf_111 : cT 72 111 = o_iret .int := rfl
theorem c_M_credits_0 : cT 73 0 = o_al 1 0 := rfl
theorem c_M_credits_1 : cT 73 1 = o_il 2 1 := rfl
theorem c_M_credits_2 : cT 73 2 = o_ci 3 2 := rfl
theorem c_M_credits_3 : cT 73 3 = o_ca 6 29 3 3 false (some 10) := rfl
theorem c_M_credits_6 : cT 73 6 = o_ifeq 9 21 := rfl
theorem c_M_credits_9 : cT 73 9 = o_il 10 2 := rfl
theorem c_M_credits_10 : cT 73 10 = o_i2l 11 := rfl
theorem c_M_credits_11 : cT 73 11 = o_cl 12 0 := rfl
theorem c_M_credits_12 : cT 73 12 = o_cl 15 2999 := rfl
theorem c_M_credits_15 : cT 73 15 = o_ca 18 17 3 6 false none := rfl
theorem c_M_credits_18 : cT 73 18 = o_ifne 21 26 := rfl
theorem c_M_credits_21 : cT 73 21 = o_ci 23 (-1000000001) := rfl
theorem c_M_credits_23 : cT 73 23 = o_goto 32 := rfl
theorem c_M_credits_26 : cT 73 26 = o_al 27 0 := rfl
theorem c_M_credits_27 : cT 73 27 = o_il 28 1 := rfl
theorem c_M_credits_28 : cT 73 28 = o_il 29 2 := rfl
theorem c_M_credits_29 : cT 73 29 = o_ca 32 72 3 7 false (some 10) := rfl
theorem c_M_credits_32 : cT 73 32 = o_iret .int := rfl
theorem c_M_counting_0 : cT 88 0 = o_ci 1 (-1) := rfl
theorem c_M_counting_1 : cT 88 1 = o_is 2 3 := rfl
theorem c_M_counting_2 : cT 88 2 = o_ci 3 0 := rfl
theorem c_M_counting_3 : cT 88 3 = o_is 5 4 := rfl
theorem c_M_counting_5 : cT 88 5 = o_il 7 4 := rfl
theorem c_M_counting_7 : cT 88 7 = o_al 8 0 := rfl
theorem c_M_counting_8 : cT 88 8 = o_gf 11 10 0 := rfl
theorem c_M_counting_11 : cT 88 11 = o_ci 13 7 := rfl
theorem c_M_counting_13 : cT 88 13 = o_ial 14 := rfl
theorem c_M_counting_14 : cT 88 14 = o_icge 17 140 := rfl
theorem c_M_counting_17 : cT 88 17 = o_ci 20 914 := rfl
theorem c_M_counting_20 : cT 88 20 = o_ci 22 104 := rfl
theorem c_M_counting_22 : cT 88 22 = o_il 24 4 := rfl
theorem c_M_counting_24 : cT 88 24 = o_imul 25 := rfl
theorem c_M_counting_25 : cT 88 25 = o_iadd 26 := rfl
theorem c_M_counting_26 : cT 88 26 = o_is 28 5 := rfl
theorem c_M_counting_28 : cT 88 28 = o_al 29 0 := rfl
theorem c_M_counting_29 : cT 88 29 = o_gf 32 10 0 := rfl
theorem c_M_counting_32 : cT 88 32 = o_il 34 5 := rfl
theorem c_M_counting_34 : cT 88 34 = o_ial 35 := rfl
theorem c_M_counting_35 : cT 88 35 = o_il 36 2 := rfl
theorem c_M_counting_36 : cT 88 36 = o_icne 39 88 := rfl
theorem c_M_counting_39 : cT 88 39 = o_al 40 0 := rfl
theorem c_M_counting_40 : cT 88 40 = o_gf 43 10 0 := rfl
theorem c_M_counting_43 : cT 88 43 = o_il 45 5 := rfl
theorem c_M_counting_45 : cT 88 45 = o_ci 46 1 := rfl
theorem c_M_counting_46 : cT 88 46 = o_iadd 47 := rfl
theorem c_M_counting_47 : cT 88 47 = o_ial 48 := rfl
theorem c_M_counting_48 : cT 88 48 = o_il 49 1 := rfl
theorem c_M_counting_49 : cT 88 49 = o_iceq 52 66 := rfl
theorem c_M_counting_52 : cT 88 52 = o_al 53 0 := rfl
theorem c_M_counting_53 : cT 88 53 = o_gf 56 10 0 := rfl
theorem c_M_counting_56 : cT 88 56 = o_il 58 5 := rfl
theorem c_M_counting_58 : cT 88 58 = o_ci 59 1 := rfl
theorem c_M_counting_59 : cT 88 59 = o_iadd 60 := rfl
theorem c_M_counting_60 : cT 88 60 = o_ial 61 := rfl
theorem c_M_counting_61 : cT 88 61 = o_ci 63 8 := rfl
theorem c_M_counting_63 : cT 88 63 = o_icne 66 88 := rfl
theorem c_M_counting_66 : cT 88 66 = o_al 67 0 := rfl
theorem c_M_counting_67 : cT 88 67 = o_gf 70 10 0 := rfl
theorem c_M_counting_70 : cT 88 70 = o_il 72 5 := rfl
theorem c_M_counting_72 : cT 88 72 = o_ci 73 2 := rfl
theorem c_M_counting_73 : cT 88 73 = o_iadd 74 := rfl
theorem c_M_counting_74 : cT 88 74 = o_ial 75 := rfl
theorem c_M_counting_75 : cT 88 75 = o_al 76 0 := rfl
theorem c_M_counting_76 : cT 88 76 = o_gf 79 10 0 := rfl
theorem c_M_counting_79 : cT 88 79 = o_ci 80 0 := rfl
theorem c_M_counting_80 : cT 88 80 = o_ial 81 := rfl
theorem c_M_counting_81 : cT 88 81 = o_icgt 84 88 := rfl
theorem c_M_counting_84 : cT 88 84 = o_ci 85 1 := rfl
theorem c_M_counting_85 : cT 88 85 = o_goto 89 := rfl
theorem c_M_counting_88 : cT 88 88 = o_ci 89 0 := rfl
theorem c_M_counting_89 : cT 88 89 = o_is 91 6 := rfl
theorem c_M_counting_91 : cT 88 91 = o_il 93 6 := rfl
theorem c_M_counting_93 : cT 88 93 = o_ifeq 96 132 := rfl
theorem c_M_counting_96 : cT 88 96 = o_il 97 3 := rfl
theorem c_M_counting_97 : cT 88 97 = o_iflt 100 127 := rfl
theorem c_M_counting_100 : cT 88 100 = o_al 101 0 := rfl
theorem c_M_counting_101 : cT 88 101 = o_gf 104 10 0 := rfl
theorem c_M_counting_104 : cT 88 104 = o_il 106 5 := rfl
theorem c_M_counting_106 : cT 88 106 = o_ci 107 2 := rfl
theorem c_M_counting_107 : cT 88 107 = o_iadd 108 := rfl
theorem c_M_counting_108 : cT 88 108 = o_ial 109 := rfl
theorem c_M_counting_109 : cT 88 109 = o_al 110 0 := rfl
theorem c_M_counting_110 : cT 88 110 = o_gf 113 10 0 := rfl
theorem c_M_counting_113 : cT 88 113 = o_ci 116 914 := rfl
theorem c_M_counting_116 : cT 88 116 = o_ci 118 104 := rfl
theorem c_M_counting_118 : cT 88 118 = o_il 119 3 := rfl
theorem c_M_counting_119 : cT 88 119 = o_imul 120 := rfl
theorem c_M_counting_120 : cT 88 120 = o_iadd 121 := rfl
theorem c_M_counting_121 : cT 88 121 = o_ci 122 2 := rfl
theorem c_M_counting_122 : cT 88 122 = o_iadd 123 := rfl
theorem c_M_counting_123 : cT 88 123 = o_ial 124 := rfl
theorem c_M_counting_124 : cT 88 124 = o_iclt 127 132 := rfl
theorem c_M_counting_127 : cT 88 127 = o_il 129 4 := rfl
theorem c_M_counting_129 : cT 88 129 = o_goto 133 := rfl
theorem c_M_counting_132 : cT 88 132 = o_il 133 3 := rfl
theorem c_M_counting_133 : cT 88 133 = o_is 134 3 := rfl
theorem c_M_counting_134 : cT 88 134 = o_inc 137 4 1 := rfl
theorem c_M_counting_137 : cT 88 137 = o_goto 5 := rfl
theorem c_M_counting_140 : cT 88 140 = o_il 141 3 := rfl
theorem c_M_counting_141 : cT 88 141 = o_iret .int := rfl
theorem c_M_done_0 : cT 89 0 = o_il 1 0 := rfl
theorem c_M_done_1 : cT 89 1 = o_sw 121 [(0, 48), (1, 62), (2, 76), (3, 87), (4, 98), (5, 109), (6, 113), (7, 117)] := rfl
theorem c_M_done_48 : cT 89 48 = o_il 49 1 := rfl
theorem c_M_done_49 : cT 89 49 = o_ifne 52 56 := rfl
theorem c_M_done_52 : cT 89 52 = o_il 53 2 := rfl
theorem c_M_done_53 : cT 89 53 = o_ifeq 56 60 := rfl
theorem c_M_done_56 : cT 89 56 = o_ci 57 1 := rfl
theorem c_M_done_57 : cT 89 57 = o_goto 61 := rfl
theorem c_M_done_60 : cT 89 60 = o_ci 61 0 := rfl
theorem c_M_done_61 : cT 89 61 = o_iret .int := rfl
theorem c_M_done_62 : cT 89 62 = o_il 63 1 := rfl
theorem c_M_done_63 : cT 89 63 = o_ifeq 66 74 := rfl
theorem c_M_done_66 : cT 89 66 = o_il 67 2 := rfl
theorem c_M_done_67 : cT 89 67 = o_ifeq 70 74 := rfl
theorem c_M_done_70 : cT 89 70 = o_ci 71 1 := rfl
theorem c_M_done_71 : cT 89 71 = o_goto 75 := rfl
theorem c_M_done_74 : cT 89 74 = o_ci 75 0 := rfl
theorem c_M_done_75 : cT 89 75 = o_iret .int := rfl
theorem c_M_done_76 : cT 89 76 = o_il 77 1 := rfl
theorem c_M_done_77 : cT 89 77 = o_il 78 2 := rfl
theorem c_M_done_78 : cT 89 78 = o_icge 81 85 := rfl
theorem c_M_done_81 : cT 89 81 = o_ci 82 1 := rfl
theorem c_M_done_82 : cT 89 82 = o_goto 86 := rfl
theorem c_M_done_85 : cT 89 85 = o_ci 86 0 := rfl
theorem c_M_done_86 : cT 89 86 = o_iret .int := rfl
theorem c_M_done_87 : cT 89 87 = o_il 88 1 := rfl
theorem c_M_done_88 : cT 89 88 = o_il 89 2 := rfl
theorem c_M_done_89 : cT 89 89 = o_icne 92 96 := rfl
theorem c_M_done_92 : cT 89 92 = o_ci 93 1 := rfl
theorem c_M_done_93 : cT 89 93 = o_goto 97 := rfl
theorem c_M_done_96 : cT 89 96 = o_ci 97 0 := rfl
theorem c_M_done_97 : cT 89 97 = o_iret .int := rfl
theorem c_M_done_98 : cT 89 98 = o_il 99 1 := rfl
theorem c_M_done_99 : cT 89 99 = o_il 100 2 := rfl
theorem c_M_done_100 : cT 89 100 = o_icle 103 107 := rfl
theorem c_M_done_103 : cT 89 103 = o_ci 104 1 := rfl
theorem c_M_done_104 : cT 89 104 = o_goto 108 := rfl
theorem c_M_done_107 : cT 89 107 = o_ci 108 0 := rfl
theorem c_M_done_108 : cT 89 108 = o_iret .int := rfl
theorem c_M_done_109 : cT 89 109 = o_il 110 1 := rfl
theorem c_M_done_110 : cT 89 110 = o_il 111 2 := rfl
theorem c_M_done_111 : cT 89 111 = o_iadd 112 := rfl
theorem c_M_done_112 : cT 89 112 = o_iret .int := rfl
theorem c_M_done_113 : cT 89 113 = o_il 114 1 := rfl
theorem c_M_done_114 : cT 89 114 = o_il 115 2 := rfl
theorem c_M_done_115 : cT 89 115 = o_isub 116 := rfl
theorem c_M_done_116 : cT 89 116 = o_iret .int := rfl
theorem c_M_done_117 : cT 89 117 = o_il 118 1 := rfl
theorem c_M_done_118 : cT 89 118 = o_il 119 2 := rfl
theorem c_M_done_119 : cT 89 119 = o_imul 120 := rfl
theorem c_M_done_120 : cT 89 120 = o_iret .int := rfl
theorem c_M_done_121 : cT 89 121 = o_il 122 2 := rfl
theorem c_M_done_122 : cT 89 122 = o_ifne 125 129 := rfl
theorem c_M_done_125 : cT 89 125 = o_ci 126 0 := rfl
theorem c_M_done_126 : cT 89 126 = o_goto 132 := rfl
theorem c_M_done_129 : cT 89 129 = o_il 130 1 := rfl
theorem c_M_done_130 : cT 89 130 = o_il 131 2 := rfl
theorem c_M_done_131 : cT 89 131 = o_idiv 132 := rfl
theorem c_M_done_132 : cT 89 132 = o_iret .int := rfl
theorem c_M_worked_0 : cT 90 0 = o_ci 1 0 := rfl
theorem c_M_worked_1 : cT 90 1 = o_is 2 2 := rfl
theorem c_M_worked_2 : cT 90 2 = o_ci 5 914 := rfl
theorem c_M_worked_5 : cT 90 5 = o_ci 7 104 := rfl
theorem c_M_worked_7 : cT 90 7 = o_il 8 1 := rfl
theorem c_M_worked_8 : cT 90 8 = o_imul 9 := rfl
theorem c_M_worked_9 : cT 90 9 = o_iadd 10 := rfl
theorem c_M_worked_10 : cT 90 10 = o_ci 11 4 := rfl
theorem c_M_worked_11 : cT 90 11 = o_iadd 12 := rfl
theorem c_M_worked_12 : cT 90 12 = o_is 13 3 := rfl
theorem c_M_worked_13 : cT 90 13 = o_al 14 0 := rfl
theorem c_M_worked_14 : cT 90 14 = o_gf 17 10 0 := rfl
theorem c_M_worked_17 : cT 90 17 = o_il 18 3 := rfl
theorem c_M_worked_18 : cT 90 18 = o_ial 19 := rfl
theorem c_M_worked_19 : cT 90 19 = o_ci 22 300000 := rfl
theorem c_M_worked_22 : cT 90 22 = o_iceq 25 149 := rfl
theorem c_M_worked_25 : cT 90 25 = o_al 26 0 := rfl
theorem c_M_worked_26 : cT 90 26 = o_gf 29 10 0 := rfl
theorem c_M_worked_29 : cT 90 29 = o_il 30 3 := rfl
theorem c_M_worked_30 : cT 90 30 = o_ial 31 := rfl
theorem c_M_worked_31 : cT 90 31 = o_is 33 4 := rfl
theorem c_M_worked_33 : cT 90 33 = o_il 35 4 := rfl
theorem c_M_worked_35 : cT 90 35 = o_ci 38 200000 := rfl
theorem c_M_worked_38 : cT 90 38 = o_icge 41 75 := rfl
theorem c_M_worked_41 : cT 90 41 = o_al 42 0 := rfl
theorem c_M_worked_42 : cT 90 42 = o_gf 45 10 25 := rfl
theorem c_M_worked_45 : cT 90 45 = o_il 46 2 := rfl
theorem c_M_worked_46 : cT 90 46 = o_il 48 4 := rfl
theorem c_M_worked_48 : cT 90 48 = o_ci 50 100000 := rfl
theorem c_M_worked_50 : cT 90 50 = o_icge 53 58 := rfl
theorem c_M_worked_53 : cT 90 53 = o_il 55 4 := rfl
theorem c_M_worked_55 : cT 90 55 = o_goto 68 := rfl
theorem c_M_worked_58 : cT 90 58 = o_al 59 0 := rfl
theorem c_M_worked_59 : cT 90 59 = o_gf 62 10 26 := rfl
theorem c_M_worked_62 : cT 90 62 = o_il 64 4 := rfl
theorem c_M_worked_64 : cT 90 64 = o_ci 66 100000 := rfl
theorem c_M_worked_66 : cT 90 66 = o_isub 67 := rfl
theorem c_M_worked_67 : cT 90 67 = o_ial 68 := rfl
theorem c_M_worked_68 : cT 90 68 = o_ias 69 := rfl
theorem c_M_worked_69 : cT 90 69 = o_inc 72 2 1 := rfl
theorem c_M_worked_72 : cT 90 72 = o_goto 143 := rfl
theorem c_M_worked_75 : cT 90 75 = o_il 77 4 := rfl
theorem c_M_worked_77 : cT 90 77 = o_ci 79 200009 := rfl
theorem c_M_worked_79 : cT 90 79 = o_icne 82 109 := rfl
theorem c_M_worked_82 : cT 90 82 = o_al 83 0 := rfl
theorem c_M_worked_83 : cT 90 83 = o_gf 86 10 25 := rfl
theorem c_M_worked_86 : cT 90 86 = o_il 87 2 := rfl
theorem c_M_worked_87 : cT 90 87 = o_ci 88 1 := rfl
theorem c_M_worked_88 : cT 90 88 = o_isub 89 := rfl
theorem c_M_worked_89 : cT 90 89 = o_al 90 0 := rfl
theorem c_M_worked_90 : cT 90 90 = o_gf 93 10 25 := rfl
theorem c_M_worked_93 : cT 90 93 = o_il 94 2 := rfl
theorem c_M_worked_94 : cT 90 94 = o_ci 95 1 := rfl
theorem c_M_worked_95 : cT 90 95 = o_isub 96 := rfl
theorem c_M_worked_96 : cT 90 96 = o_ial 97 := rfl
theorem c_M_worked_97 : cT 90 97 = o_ifne 100 104 := rfl
theorem c_M_worked_100 : cT 90 100 = o_ci 101 1 := rfl
theorem c_M_worked_101 : cT 90 101 = o_goto 105 := rfl
theorem c_M_worked_104 : cT 90 104 = o_ci 105 0 := rfl
theorem c_M_worked_105 : cT 90 105 = o_ias 106 := rfl
theorem c_M_worked_106 : cT 90 106 = o_goto 143 := rfl
theorem c_M_worked_109 : cT 90 109 = o_inc 112 2 (-1) := rfl
theorem c_M_worked_112 : cT 90 112 = o_al 113 0 := rfl
theorem c_M_worked_113 : cT 90 113 = o_gf 116 10 25 := rfl
theorem c_M_worked_116 : cT 90 116 = o_il 117 2 := rfl
theorem c_M_worked_117 : cT 90 117 = o_ci 118 1 := rfl
theorem c_M_worked_118 : cT 90 118 = o_isub 119 := rfl
theorem c_M_worked_119 : cT 90 119 = o_il 121 4 := rfl
theorem c_M_worked_121 : cT 90 121 = o_ci 124 200000 := rfl
theorem c_M_worked_124 : cT 90 124 = o_isub 125 := rfl
theorem c_M_worked_125 : cT 90 125 = o_al 126 0 := rfl
theorem c_M_worked_126 : cT 90 126 = o_gf 129 10 25 := rfl
theorem c_M_worked_129 : cT 90 129 = o_il 130 2 := rfl
theorem c_M_worked_130 : cT 90 130 = o_ci 131 1 := rfl
theorem c_M_worked_131 : cT 90 131 = o_isub 132 := rfl
theorem c_M_worked_132 : cT 90 132 = o_ial 133 := rfl
theorem c_M_worked_133 : cT 90 133 = o_al 134 0 := rfl
theorem c_M_worked_134 : cT 90 134 = o_gf 137 10 25 := rfl
theorem c_M_worked_137 : cT 90 137 = o_il 138 2 := rfl
theorem c_M_worked_138 : cT 90 138 = o_ial 139 := rfl
theorem c_M_worked_139 : cT 90 139 = o_ca 142 89 3 3 false none := rfl
theorem c_M_worked_142 : cT 90 142 = o_ias 143 := rfl
theorem c_M_worked_143 : cT 90 143 = o_inc 146 3 1 := rfl
theorem c_M_worked_146 : cT 90 146 = o_goto 13 := rfl
theorem c_M_worked_149 : cT 90 149 = o_al 150 0 := rfl
theorem c_M_worked_150 : cT 90 150 = o_gf 153 10 25 := rfl
theorem c_M_worked_153 : cT 90 153 = o_ci 154 0 := rfl
theorem c_M_worked_154 : cT 90 154 = o_ial 155 := rfl
theorem c_M_worked_155 : cT 90 155 = o_iret .int := rfl
theorem c_M_ruled_0 : cT 91 0 = o_al 1 0 := rfl
theorem c_M_ruled_1 : cT 91 1 = o_gf 4 10 26 := rfl
theorem c_M_ruled_4 : cT 91 4 = o_ci 5 0 := rfl
theorem c_M_ruled_5 : cT 91 5 = o_il 6 3 := rfl
theorem c_M_ruled_6 : cT 91 6 = o_ias 7 := rfl
theorem c_M_ruled_7 : cT 91 7 = o_al 8 0 := rfl
theorem c_M_ruled_8 : cT 91 8 = o_gf 11 10 26 := rfl
theorem c_M_ruled_11 : cT 91 11 = o_ci 12 1 := rfl
theorem c_M_ruled_12 : cT 91 12 = o_il 14 4 := rfl
theorem c_M_ruled_14 : cT 91 14 = o_ias 15 := rfl
theorem c_M_ruled_15 : cT 91 15 = o_al 16 0 := rfl
theorem c_M_ruled_16 : cT 91 16 = o_gf 19 10 26 := rfl
theorem c_M_ruled_19 : cT 91 19 = o_ci 20 2 := rfl
theorem c_M_ruled_20 : cT 91 20 = o_il 22 5 := rfl
theorem c_M_ruled_22 : cT 91 22 = o_ias 23 := rfl
theorem c_M_ruled_23 : cT 91 23 = o_al 24 0 := rfl
theorem c_M_ruled_24 : cT 91 24 = o_gf 27 10 26 := rfl
theorem c_M_ruled_27 : cT 91 27 = o_ci 28 3 := rfl
theorem c_M_ruled_28 : cT 91 28 = o_il 30 6 := rfl
theorem c_M_ruled_30 : cT 91 30 = o_ias 31 := rfl
theorem c_M_ruled_31 : cT 91 31 = o_al 32 0 := rfl
theorem c_M_ruled_32 : cT 91 32 = o_il 33 1 := rfl
theorem c_M_ruled_33 : cT 91 33 = o_il 34 2 := rfl
theorem c_M_ruled_34 : cT 91 34 = o_ca 37 88 3 7 false (some 10) := rfl
theorem c_M_ruled_37 : cT 91 37 = o_is 39 7 := rfl
theorem c_M_ruled_39 : cT 91 39 = o_il 40 2 := rfl
theorem c_M_ruled_40 : cT 91 40 = o_ifne 43 49 := rfl
theorem c_M_ruled_43 : cT 91 43 = o_il 44 3 := rfl
theorem c_M_ruled_44 : cT 91 44 = o_ci 45 2 := rfl
theorem c_M_ruled_45 : cT 91 45 = o_idiv 46 := rfl
theorem c_M_ruled_46 : cT 91 46 = o_goto 72 := rfl
theorem c_M_ruled_49 : cT 91 49 = o_il 50 2 := rfl
theorem c_M_ruled_50 : cT 91 50 = o_ci 51 1 := rfl
theorem c_M_ruled_51 : cT 91 51 = o_icne 54 61 := rfl
theorem c_M_ruled_54 : cT 91 54 = o_ci 56 7 := rfl
theorem c_M_ruled_56 : cT 91 56 = o_il 57 3 := rfl
theorem c_M_ruled_57 : cT 91 57 = o_imul 58 := rfl
theorem c_M_ruled_58 : cT 91 58 = o_goto 72 := rfl
theorem c_M_ruled_61 : cT 91 61 = o_il 62 2 := rfl
theorem c_M_ruled_62 : cT 91 62 = o_ci 63 3 := rfl
theorem c_M_ruled_63 : cT 91 63 = o_icne 66 71 := rfl
theorem c_M_ruled_66 : cT 91 66 = o_ci 68 28 := rfl
theorem c_M_ruled_68 : cT 91 68 = o_goto 72 := rfl
theorem c_M_ruled_71 : cT 91 71 = o_ci 72 0 := rfl
theorem c_M_ruled_72 : cT 91 72 = o_is 74 8 := rfl
theorem c_M_ruled_74 : cT 91 74 = o_il 76 7 := rfl
theorem c_M_ruled_76 : cT 91 76 = o_ifge 79 84 := rfl
theorem c_M_ruled_79 : cT 91 79 = o_il 81 8 := rfl
theorem c_M_ruled_81 : cT 91 81 = o_goto 90 := rfl
theorem c_M_ruled_84 : cT 91 84 = o_al 85 0 := rfl
theorem c_M_ruled_85 : cT 91 85 = o_il 87 7 := rfl
theorem c_M_ruled_87 : cT 91 87 = o_ca 90 90 2 5 false (some 10) := rfl
theorem c_M_ruled_90 : cT 91 90 = o_is 92 9 := rfl
theorem c_M_ruled_92 : cT 91 92 = o_il 93 2 := rfl
theorem c_M_ruled_93 : cT 91 93 = o_ci 94 3 := rfl
theorem c_M_ruled_94 : cT 91 94 = o_icne 97 101 := rfl
theorem c_M_ruled_97 : cT 91 97 = o_ci 98 1 := rfl
theorem c_M_ruled_98 : cT 91 98 = o_goto 102 := rfl
theorem c_M_ruled_101 : cT 91 101 = o_ci 102 0 := rfl
theorem c_M_ruled_102 : cT 91 102 = o_is 104 10 := rfl
theorem c_M_ruled_104 : cT 91 104 = o_il 105 2 := rfl
theorem c_M_ruled_105 : cT 91 105 = o_ifne 108 114 := rfl
theorem c_M_ruled_108 : cT 91 108 = o_ci 111 99999 := rfl
theorem c_M_ruled_111 : cT 91 111 = o_goto 116 := rfl
theorem c_M_ruled_114 : cT 91 114 = o_ci 116 99 := rfl
theorem c_M_ruled_116 : cT 91 116 = o_is 118 11 := rfl
theorem c_M_ruled_118 : cT 91 118 = o_il 119 2 := rfl
theorem c_M_ruled_119 : cT 91 119 = o_ci 120 2 := rfl
theorem c_M_ruled_120 : cT 91 120 = o_iceq 123 128 := rfl
theorem c_M_ruled_123 : cT 91 123 = o_il 124 2 := rfl
theorem c_M_ruled_124 : cT 91 124 = o_ci 125 4 := rfl
theorem c_M_ruled_125 : cT 91 125 = o_icne 128 133 := rfl
theorem c_M_ruled_128 : cT 91 128 = o_il 130 9 := rfl
theorem c_M_ruled_130 : cT 91 130 = o_goto 145 := rfl
theorem c_M_ruled_133 : cT 91 133 = o_il 135 10 := rfl
theorem c_M_ruled_135 : cT 91 135 = o_il 137 11 := rfl
theorem c_M_ruled_137 : cT 91 137 = o_il 139 9 := rfl
theorem c_M_ruled_139 : cT 91 139 = o_ca 142 58 2 2 false none := rfl
theorem c_M_ruled_142 : cT 91 142 = o_ca 145 0 2 2 false none := rfl
theorem c_M_ruled_145 : cT 91 145 = o_iret .int := rfl
theorem c_M_firstOf_0 : cT 92 0 = o_al 1 0 := rfl
theorem c_M_firstOf_1 : cT 92 1 = o_al 2 0 := rfl
theorem c_M_firstOf_2 : cT 92 2 = o_il 3 1 := rfl
theorem c_M_firstOf_3 : cT 92 3 = o_ci 4 0 := rfl
theorem c_M_firstOf_4 : cT 92 4 = o_ca 7 32 3 3 false (some 10) := rfl
theorem c_M_firstOf_7 : cT 92 7 = o_ci 8 0 := rfl
theorem c_M_firstOf_8 : cT 92 8 = o_al 9 0 := rfl
theorem c_M_firstOf_9 : cT 92 9 = o_il 10 1 := rfl
theorem c_M_firstOf_10 : cT 92 10 = o_ca 13 30 2 6 false (some 10) := rfl
theorem c_M_firstOf_13 : cT 92 13 = o_al 14 0 := rfl
theorem c_M_firstOf_14 : cT 92 14 = o_il 15 1 := rfl
theorem c_M_firstOf_15 : cT 92 15 = o_al 16 0 := rfl
theorem c_M_firstOf_16 : cT 92 16 = o_gf 19 10 0 := rfl
theorem c_M_firstOf_19 : cT 92 19 = o_ci 20 0 := rfl
theorem c_M_firstOf_20 : cT 92 20 = o_ial 21 := rfl
theorem c_M_firstOf_21 : cT 92 21 = o_ca 24 72 3 7 false (some 10) := rfl
theorem c_M_firstOf_24 : cT 92 24 = o_al 25 0 := rfl
theorem c_M_firstOf_25 : cT 92 25 = o_il 26 1 := rfl
theorem c_M_firstOf_26 : cT 92 26 = o_ca 29 31 2 4 false (some 10) := rfl
theorem c_M_firstOf_29 : cT 92 29 = o_ci 30 0 := rfl
theorem c_M_firstOf_30 : cT 92 30 = o_ca 33 91 7 12 false (some 10) := rfl
theorem c_M_firstOf_33 : cT 92 33 = o_iret .int := rfl
theorem c_M_isDue_0 : cT 93 0 = o_al 1 0 := rfl
theorem c_M_isDue_1 : cT 93 1 = o_il 2 1 := rfl
theorem c_M_isDue_2 : cT 93 2 = o_il 3 2 := rfl
theorem c_M_isDue_3 : cT 93 3 = o_ca 6 64 3 5 false (some 10) := rfl
theorem c_M_isDue_6 : cT 93 6 = o_al 7 0 := rfl
theorem c_M_isDue_7 : cT 93 7 = o_il 8 1 := rfl
theorem c_M_isDue_8 : cT 93 8 = o_il 9 2 := rfl
theorem c_M_isDue_9 : cT 93 9 = o_ca 12 72 3 7 false (some 10) := rfl
theorem c_M_isDue_12 : cT 93 12 = o_iadd 13 := rfl
theorem c_M_isDue_13 : cT 93 13 = o_al 14 0 := rfl
theorem c_M_isDue_14 : cT 93 14 = o_il 15 1 := rfl
theorem c_M_isDue_15 : cT 93 15 = o_ca 18 92 2 2 false (some 10) := rfl
theorem c_M_isDue_18 : cT 93 18 = o_iclt 21 25 := rfl
theorem c_M_isDue_21 : cT 93 21 = o_ci 22 1 := rfl
theorem c_M_isDue_22 : cT 93 22 = o_goto 26 := rfl
theorem c_M_isDue_25 : cT 93 25 = o_ci 26 0 := rfl
theorem c_M_isDue_26 : cT 93 26 = o_iret .boolean := rfl
theorem c_M_due_0 : cT 94 0 = o_al 1 0 := rfl
theorem c_M_due_1 : cT 94 1 = o_il 2 1 := rfl
theorem c_M_due_2 : cT 94 2 = o_ci 3 2 := rfl
theorem c_M_due_3 : cT 94 3 = o_ca 6 29 3 3 false (some 10) := rfl
theorem c_M_due_6 : cT 94 6 = o_ifeq 9 21 := rfl
theorem c_M_due_9 : cT 94 9 = o_il 10 2 := rfl
theorem c_M_due_10 : cT 94 10 = o_i2l 11 := rfl
theorem c_M_due_11 : cT 94 11 = o_cl 12 0 := rfl
theorem c_M_due_12 : cT 94 12 = o_cl 15 9999 := rfl
theorem c_M_due_15 : cT 94 15 = o_ca 18 17 3 6 false none := rfl
theorem c_M_due_18 : cT 94 18 = o_ifne 21 26 := rfl
theorem c_M_due_21 : cT 94 21 = o_ci 23 (-1000000001) := rfl
theorem c_M_due_23 : cT 94 23 = o_goto 40 := rfl
theorem c_M_due_26 : cT 94 26 = o_al 27 0 := rfl
theorem c_M_due_27 : cT 94 27 = o_il 28 1 := rfl
theorem c_M_due_28 : cT 94 28 = o_il 29 2 := rfl
theorem c_M_due_29 : cT 94 29 = o_ca 32 93 3 3 false (some 10) := rfl
theorem c_M_due_32 : cT 94 32 = o_ifeq 35 39 := rfl
theorem c_M_due_35 : cT 94 35 = o_ci 36 1 := rfl
theorem c_M_due_36 : cT 94 36 = o_goto 40 := rfl
theorem c_M_due_39 : cT 94 39 = o_ci 40 0 := rfl
theorem c_M_due_40 : cT 94 40 = o_iret .int := rfl
theorem c_M_date_0 : cT 97 0 = o_al 1 0 := rfl
theorem c_M_date_1 : cT 97 1 = o_il 2 1 := rfl
theorem c_M_date_2 : cT 97 2 = o_ci 3 2 := rfl
theorem c_M_date_3 : cT 97 3 = o_ca 6 29 3 3 false (some 10) := rfl
theorem c_M_date_6 : cT 97 6 = o_ifne 9 12 := rfl
theorem c_M_date_9 : cT 97 9 = o_ci 11 (-1000000001) := rfl
theorem c_M_date_11 : cT 97 11 = o_iret .int := rfl
theorem c_M_date_12 : cT 97 12 = o_al 13 0 := rfl
theorem c_M_date_13 : cT 97 13 = o_il 14 1 := rfl
theorem c_M_date_14 : cT 97 14 = o_ci 15 3 := rfl
theorem c_M_date_15 : cT 97 15 = o_ca 18 32 3 3 false (some 10) := rfl
theorem c_M_date_18 : cT 97 18 = o_ifeq 21 24 := rfl
theorem c_M_date_21 : cT 97 21 = o_ci 23 (-1000000005) := rfl
theorem c_M_date_23 : cT 97 23 = o_iret .int := rfl
theorem c_M_date_24 : cT 97 24 = o_al 25 0 := rfl
theorem c_M_date_25 : cT 97 25 = o_il 26 1 := rfl
theorem c_M_date_26 : cT 97 26 = o_ca 29 92 2 2 false (some 10) := rfl
theorem c_M_date_29 : cT 97 29 = o_is 30 2 := rfl
theorem c_M_date_30 : cT 97 30 = o_al 31 0 := rfl
theorem c_M_date_31 : cT 97 31 = o_il 32 1 := rfl
theorem c_M_date_32 : cT 97 32 = o_al 33 0 := rfl
theorem c_M_date_33 : cT 97 33 = o_gf 36 10 0 := rfl
theorem c_M_date_36 : cT 97 36 = o_ci 37 0 := rfl
theorem c_M_date_37 : cT 97 37 = o_ial 38 := rfl
theorem c_M_date_38 : cT 97 38 = o_ca 41 64 3 5 false (some 10) := rfl
theorem c_M_date_41 : cT 97 41 = o_is 42 3 := rfl
theorem c_M_date_42 : cT 97 42 = o_al 43 0 := rfl
theorem c_M_date_43 : cT 97 43 = o_il 44 1 := rfl
theorem c_M_date_44 : cT 97 44 = o_al 45 0 := rfl
theorem c_M_date_45 : cT 97 45 = o_gf 48 10 0 := rfl
theorem c_M_date_48 : cT 97 48 = o_ci 49 0 := rfl
theorem c_M_date_49 : cT 97 49 = o_ial 50 := rfl
theorem c_M_date_50 : cT 97 50 = o_ca 53 72 3 7 false (some 10) := rfl
theorem c_M_date_53 : cT 97 53 = o_is 55 4 := rfl
theorem c_M_date_55 : cT 97 55 = o_ci 56 0 := rfl
theorem c_M_date_56 : cT 97 56 = o_is 58 5 := rfl
theorem c_M_date_58 : cT 97 58 = o_il 60 5 := rfl
theorem c_M_date_60 : cT 97 60 = o_ci 63 3000 := rfl
theorem c_M_date_63 : cT 97 63 = o_icge 66 115 := rfl
theorem c_M_date_66 : cT 97 66 = o_il 67 3 := rfl
theorem c_M_date_67 : cT 97 67 = o_il 69 4 := rfl
theorem c_M_date_69 : cT 97 69 = o_iadd 70 := rfl
theorem c_M_date_70 : cT 97 70 = o_il 71 2 := rfl
theorem c_M_date_71 : cT 97 71 = o_iclt 74 84 := rfl
theorem c_M_date_74 : cT 97 74 = o_al 75 0 := rfl
theorem c_M_date_75 : cT 97 75 = o_gf 78 10 0 := rfl
theorem c_M_date_78 : cT 97 78 = o_ci 79 0 := rfl
theorem c_M_date_79 : cT 97 79 = o_ial 80 := rfl
theorem c_M_date_80 : cT 97 80 = o_il 82 5 := rfl
theorem c_M_date_82 : cT 97 82 = o_iadd 83 := rfl
theorem c_M_date_83 : cT 97 83 = o_iret .int := rfl
theorem c_M_date_84 : cT 97 84 = o_il 85 3 := rfl
theorem c_M_date_85 : cT 97 85 = o_al 86 0 := rfl
theorem c_M_date_86 : cT 97 86 = o_il 87 1 := rfl
theorem c_M_date_87 : cT 97 87 = o_al 88 0 := rfl
theorem c_M_date_88 : cT 97 88 = o_gf 91 10 0 := rfl
theorem c_M_date_91 : cT 97 91 = o_ci 92 0 := rfl
theorem c_M_date_92 : cT 97 92 = o_ial 93 := rfl
theorem c_M_date_93 : cT 97 93 = o_il 95 5 := rfl
theorem c_M_date_95 : cT 97 95 = o_iadd 96 := rfl
theorem c_M_date_96 : cT 97 96 = o_ca 99 63 3 6 false (some 10) := rfl
theorem c_M_date_99 : cT 97 99 = o_ifeq 102 106 := rfl
theorem c_M_date_102 : cT 97 102 = o_ci 103 1 := rfl
theorem c_M_date_103 : cT 97 103 = o_goto 107 := rfl
theorem c_M_date_106 : cT 97 106 = o_ci 107 0 := rfl
theorem c_M_date_107 : cT 97 107 = o_iadd 108 := rfl
theorem c_M_date_108 : cT 97 108 = o_is 109 3 := rfl
theorem c_M_date_109 : cT 97 109 = o_inc 112 5 1 := rfl
theorem c_M_date_112 : cT 97 112 = o_goto 58 := rfl
theorem c_M_date_115 : cT 97 115 = o_ci 117 (-1000000005) := rfl
theorem c_M_date_117 : cT 97 117 = o_iret .int := rfl
theorem c_M_feed_0 : cT 101 0 = o_al 1 0 := rfl
theorem c_M_feed_1 : cT 101 1 = o_gf 4 10 5 := rfl
theorem c_M_feed_4 : cT 101 4 = o_ci 6 12 := rfl
theorem c_M_feed_6 : cT 101 6 = o_iadd 7 := rfl
theorem c_M_feed_7 : cT 101 7 = o_ci 9 96 := rfl
theorem c_M_feed_9 : cT 101 9 = o_icle 12 15 := rfl
theorem c_M_feed_12 : cT 101 12 = o_ci 14 (-1000000003) := rfl
theorem c_M_feed_14 : cT 101 14 = o_iret .int := rfl
theorem c_M_feed_15 : cT 101 15 = o_ci 16 0 := rfl
theorem c_M_feed_16 : cT 101 16 = o_is 18 4 := rfl
theorem c_M_feed_18 : cT 101 18 = o_il 20 4 := rfl
theorem c_M_feed_20 : cT 101 20 = o_ci 22 12 := rfl
theorem c_M_feed_22 : cT 101 22 = o_icge 25 91 := rfl
theorem c_M_feed_25 : cT 101 25 = o_il 27 4 := rfl
theorem c_M_feed_27 : cT 101 27 = o_ci 28 4 := rfl
theorem c_M_feed_28 : cT 101 28 = o_icge 31 35 := rfl
theorem c_M_feed_31 : cT 101 31 = o_il 32 1 := rfl
theorem c_M_feed_32 : cT 101 32 = o_goto 47 := rfl
theorem c_M_feed_35 : cT 101 35 = o_il 37 4 := rfl
theorem c_M_feed_37 : cT 101 37 = o_ci 39 8 := rfl
theorem c_M_feed_39 : cT 101 39 = o_icge 42 46 := rfl
theorem c_M_feed_42 : cT 101 42 = o_il 43 2 := rfl
theorem c_M_feed_43 : cT 101 43 = o_goto 47 := rfl
theorem c_M_feed_46 : cT 101 46 = o_il 47 3 := rfl
theorem c_M_feed_47 : cT 101 47 = o_is 49 5 := rfl
theorem c_M_feed_49 : cT 101 49 = o_al 50 0 := rfl
theorem c_M_feed_50 : cT 101 50 = o_gf 53 10 4 := rfl
theorem c_M_feed_53 : cT 101 53 = o_al 54 0 := rfl
theorem c_M_feed_54 : cT 101 54 = o_gf 57 10 5 := rfl
theorem c_M_feed_57 : cT 101 57 = o_il 59 5 := rfl
theorem c_M_feed_59 : cT 101 59 = o_ci 61 24 := rfl
theorem c_M_feed_61 : cT 101 61 = o_ci 63 8 := rfl
theorem c_M_feed_63 : cT 101 63 = o_il 65 4 := rfl
theorem c_M_feed_65 : cT 101 65 = o_ci 66 4 := rfl
theorem c_M_feed_66 : cT 101 66 = o_irem 67 := rfl
theorem c_M_feed_67 : cT 101 67 = o_imul 68 := rfl
theorem c_M_feed_68 : cT 101 68 = o_isub 69 := rfl
theorem c_M_feed_69 : cT 101 69 = o_ishr 70 := rfl
theorem c_M_feed_70 : cT 101 70 = o_ci 73 255 := rfl
theorem c_M_feed_73 : cT 101 73 = o_iand 74 := rfl
theorem c_M_feed_74 : cT 101 74 = o_ias 75 := rfl
theorem c_M_feed_75 : cT 101 75 = o_al 76 0 := rfl
theorem c_M_feed_76 : cT 101 76 = o_dup 77 := rfl
theorem c_M_feed_77 : cT 101 77 = o_gf 80 10 5 := rfl
theorem c_M_feed_80 : cT 101 80 = o_ci 81 1 := rfl
theorem c_M_feed_81 : cT 101 81 = o_iadd 82 := rfl
theorem c_M_feed_82 : cT 101 82 = o_pf 85 10 5 0 := rfl
theorem c_M_feed_85 : cT 101 85 = o_inc 88 4 1 := rfl
theorem c_M_feed_88 : cT 101 88 = o_goto 18 := rfl
theorem c_M_feed_91 : cT 101 91 = o_al 92 0 := rfl
theorem c_M_feed_92 : cT 101 92 = o_gf 95 10 5 := rfl
theorem c_M_feed_95 : cT 101 95 = o_iret .int := rfl
theorem c_M_trim_0 : cT 103 0 = o_il 1 1 := rfl
theorem c_M_trim_1 : cT 103 1 = o_i2l 2 := rfl
theorem c_M_trim_2 : cT 103 2 = o_cl 3 0 := rfl
theorem c_M_trim_3 : cT 103 3 = o_al 4 0 := rfl
theorem c_M_trim_4 : cT 103 4 = o_gf 7 10 5 := rfl
theorem c_M_trim_7 : cT 103 7 = o_i2l 8 := rfl
theorem c_M_trim_8 : cT 103 8 = o_ca 11 17 3 6 false none := rfl
theorem c_M_trim_11 : cT 103 11 = o_ifne 14 17 := rfl
theorem c_M_trim_14 : cT 103 14 = o_ci 16 (-1000000001) := rfl
theorem c_M_trim_16 : cT 103 16 = o_iret .int := rfl
theorem c_M_trim_17 : cT 103 17 = o_al 18 0 := rfl
theorem c_M_trim_18 : cT 103 18 = o_il 19 1 := rfl
theorem c_M_trim_19 : cT 103 19 = o_pf 22 10 5 0 := rfl
theorem c_M_trim_22 : cT 103 22 = o_il 23 1 := rfl
theorem c_M_trim_23 : cT 103 23 = o_iret .int := rfl
theorem c_M_isLetter_0 : cT 140 0 = o_il 1 1 := rfl
theorem c_M_isLetter_1 : cT 140 1 = o_al 2 0 := rfl
theorem c_M_isLetter_2 : cT 140 2 = o_gf 5 10 5 := rfl
theorem c_M_isLetter_5 : cT 140 5 = o_icge 8 31 := rfl
theorem c_M_isLetter_8 : cT 140 8 = o_al 9 0 := rfl
theorem c_M_isLetter_9 : cT 140 9 = o_gf 12 10 4 := rfl
theorem c_M_isLetter_12 : cT 140 12 = o_il 13 1 := rfl
theorem c_M_isLetter_13 : cT 140 13 = o_ial 14 := rfl
theorem c_M_isLetter_14 : cT 140 14 = o_i2l 15 := rfl
theorem c_M_isLetter_15 : cT 140 15 = o_cl 18 97 := rfl
theorem c_M_isLetter_18 : cT 140 18 = o_cl 21 122 := rfl
theorem c_M_isLetter_21 : cT 140 21 = o_ca 24 17 3 6 false none := rfl
theorem c_M_isLetter_24 : cT 140 24 = o_ifeq 27 31 := rfl
theorem c_M_isLetter_27 : cT 140 27 = o_ci 28 1 := rfl
theorem c_M_isLetter_28 : cT 140 28 = o_goto 32 := rfl
theorem c_M_isLetter_31 : cT 140 31 = o_ci 32 0 := rfl
theorem c_M_isLetter_32 : cT 140 32 = o_iret .boolean := rfl
theorem c_M_isDigit_0 : cT 141 0 = o_il 1 1 := rfl
theorem c_M_isDigit_1 : cT 141 1 = o_al 2 0 := rfl
theorem c_M_isDigit_2 : cT 141 2 = o_gf 5 10 5 := rfl
theorem c_M_isDigit_5 : cT 141 5 = o_icge 8 31 := rfl
theorem c_M_isDigit_8 : cT 141 8 = o_al 9 0 := rfl
theorem c_M_isDigit_9 : cT 141 9 = o_gf 12 10 4 := rfl
theorem c_M_isDigit_12 : cT 141 12 = o_il 13 1 := rfl
theorem c_M_isDigit_13 : cT 141 13 = o_ial 14 := rfl
theorem c_M_isDigit_14 : cT 141 14 = o_i2l 15 := rfl
theorem c_M_isDigit_15 : cT 141 15 = o_cl 18 48 := rfl
theorem c_M_isDigit_18 : cT 141 18 = o_cl 21 57 := rfl
theorem c_M_isDigit_21 : cT 141 21 = o_ca 24 17 3 6 false none := rfl
theorem c_M_isDigit_24 : cT 141 24 = o_ifeq 27 31 := rfl
theorem c_M_isDigit_27 : cT 141 27 = o_ci 28 1 := rfl
theorem c_M_isDigit_28 : cT 141 28 = o_goto 32 := rfl
theorem c_M_isDigit_31 : cT 141 31 = o_ci 32 0 := rfl
theorem c_M_isDigit_32 : cT 141 32 = o_iret .boolean := rfl
theorem c_M_next_0 : cT 142 0 = o_al 1 0 := rfl
theorem c_M_next_1 : cT 142 1 = o_gf 4 10 15 := rfl
theorem c_M_next_4 : cT 142 4 = o_ci 5 1 := rfl
theorem c_M_next_5 : cT 142 5 = o_iceq 8 16 := rfl
theorem c_M_next_8 : cT 142 8 = o_al 9 0 := rfl
theorem c_M_next_9 : cT 142 9 = o_gf 12 10 15 := rfl
theorem c_M_next_12 : cT 142 12 = o_ci 13 2 := rfl
theorem c_M_next_13 : cT 142 13 = o_icne 16 20 := rfl
theorem c_M_next_16 : cT 142 16 = o_ci 17 1 := rfl
theorem c_M_next_17 : cT 142 17 = o_goto 21 := rfl
theorem c_M_next_20 : cT 142 20 = o_ci 21 0 := rfl
theorem c_M_next_21 : cT 142 21 = o_is 22 1 := rfl
theorem c_M_next_22 : cT 142 22 = o_al 23 0 := rfl
theorem c_M_next_23 : cT 142 23 = o_gf 26 10 14 := rfl
theorem c_M_next_26 : cT 142 26 = o_is 27 2 := rfl
theorem c_M_next_27 : cT 142 27 = o_al 28 0 := rfl
theorem c_M_next_28 : cT 142 28 = o_al 29 0 := rfl
theorem c_M_next_29 : cT 142 29 = o_gf 32 10 14 := rfl
theorem c_M_next_32 : cT 142 32 = o_pf 35 10 13 0 := rfl
theorem c_M_next_35 : cT 142 35 = o_al 36 0 := rfl
theorem c_M_next_36 : cT 142 36 = o_gf 39 10 13 := rfl
theorem c_M_next_39 : cT 142 39 = o_al 40 0 := rfl
theorem c_M_next_40 : cT 142 40 = o_gf 43 10 5 := rfl
theorem c_M_next_43 : cT 142 43 = o_icge 46 73 := rfl
theorem c_M_next_46 : cT 142 46 = o_al 47 0 := rfl
theorem c_M_next_47 : cT 142 47 = o_gf 50 10 4 := rfl
theorem c_M_next_50 : cT 142 50 = o_al 51 0 := rfl
theorem c_M_next_51 : cT 142 51 = o_gf 54 10 13 := rfl
theorem c_M_next_54 : cT 142 54 = o_ial 55 := rfl
theorem c_M_next_55 : cT 142 55 = o_ci 57 32 := rfl
theorem c_M_next_57 : cT 142 57 = o_icne 60 73 := rfl
theorem c_M_next_60 : cT 142 60 = o_al 61 0 := rfl
theorem c_M_next_61 : cT 142 61 = o_dup 62 := rfl
theorem c_M_next_62 : cT 142 62 = o_gf 65 10 13 := rfl
theorem c_M_next_65 : cT 142 65 = o_ci 66 1 := rfl
theorem c_M_next_66 : cT 142 66 = o_iadd 67 := rfl
theorem c_M_next_67 : cT 142 67 = o_pf 70 10 13 0 := rfl
theorem c_M_next_70 : cT 142 70 = o_goto 35 := rfl
theorem c_M_next_73 : cT 142 73 = o_al 74 0 := rfl
theorem c_M_next_74 : cT 142 74 = o_al 75 0 := rfl
theorem c_M_next_75 : cT 142 75 = o_gf 78 10 13 := rfl
theorem c_M_next_78 : cT 142 78 = o_pf 81 10 14 0 := rfl
theorem c_M_next_81 : cT 142 81 = o_al 82 0 := rfl
theorem c_M_next_82 : cT 142 82 = o_gf 85 10 13 := rfl
theorem c_M_next_85 : cT 142 85 = o_al 86 0 := rfl
theorem c_M_next_86 : cT 142 86 = o_gf 89 10 5 := rfl
theorem c_M_next_89 : cT 142 89 = o_icne 92 98 := rfl
theorem c_M_next_92 : cT 142 92 = o_al 93 0 := rfl
theorem c_M_next_93 : cT 142 93 = o_ci 94 0 := rfl
theorem c_M_next_94 : cT 142 94 = o_pf 97 10 15 0 := rfl
theorem c_M_next_97 : cT 142 97 = o_vret := rfl
theorem c_M_next_98 : cT 142 98 = o_al 99 0 := rfl
theorem c_M_next_99 : cT 142 99 = o_al 100 0 := rfl
theorem c_M_next_100 : cT 142 100 = o_al 101 0 := rfl
theorem c_M_next_101 : cT 142 101 = o_gf 104 10 13 := rfl
theorem c_M_next_104 : cT 142 104 = o_ca 107 140 2 2 false (some 10) := rfl
theorem c_M_next_107 : cT 142 107 = o_ifeq 110 114 := rfl
theorem c_M_next_110 : cT 142 110 = o_ci 111 1 := rfl
theorem c_M_next_111 : cT 142 111 = o_goto 130 := rfl
theorem c_M_next_114 : cT 142 114 = o_al 115 0 := rfl
theorem c_M_next_115 : cT 142 115 = o_al 116 0 := rfl
theorem c_M_next_116 : cT 142 116 = o_gf 119 10 13 := rfl
theorem c_M_next_119 : cT 142 119 = o_ca 122 141 2 2 false (some 10) := rfl
theorem c_M_next_122 : cT 142 122 = o_ifeq 125 129 := rfl
theorem c_M_next_125 : cT 142 125 = o_ci 126 2 := rfl
theorem c_M_next_126 : cT 142 126 = o_goto 130 := rfl
theorem c_M_next_129 : cT 142 129 = o_ci 130 3 := rfl
theorem c_M_next_130 : cT 142 130 = o_pf 133 10 15 0 := rfl
theorem c_M_next_133 : cT 142 133 = o_al 134 0 := rfl
theorem c_M_next_134 : cT 142 134 = o_dup 135 := rfl
theorem c_M_next_135 : cT 142 135 = o_gf 138 10 14 := rfl
theorem c_M_next_138 : cT 142 138 = o_ci 139 1 := rfl
theorem c_M_next_139 : cT 142 139 = o_iadd 140 := rfl
theorem c_M_next_140 : cT 142 140 = o_pf 143 10 14 0 := rfl
theorem c_M_next_143 : cT 142 143 = o_al 144 0 := rfl
theorem c_M_next_144 : cT 142 144 = o_gf 147 10 15 := rfl
theorem c_M_next_147 : cT 142 147 = o_ci 148 1 := rfl
theorem c_M_next_148 : cT 142 148 = o_icne 151 162 := rfl
theorem c_M_next_151 : cT 142 151 = o_al 152 0 := rfl
theorem c_M_next_152 : cT 142 152 = o_al 153 0 := rfl
theorem c_M_next_153 : cT 142 153 = o_gf 156 10 14 := rfl
theorem c_M_next_156 : cT 142 156 = o_ca 159 140 2 2 false (some 10) := rfl
theorem c_M_next_159 : cT 142 159 = o_ifne 162 181 := rfl
theorem c_M_next_162 : cT 142 162 = o_al 163 0 := rfl
theorem c_M_next_163 : cT 142 163 = o_gf 166 10 15 := rfl
theorem c_M_next_166 : cT 142 166 = o_ci 167 2 := rfl
theorem c_M_next_167 : cT 142 167 = o_icne 170 194 := rfl
theorem c_M_next_170 : cT 142 170 = o_al 171 0 := rfl
theorem c_M_next_171 : cT 142 171 = o_al 172 0 := rfl
theorem c_M_next_172 : cT 142 172 = o_gf 175 10 14 := rfl
theorem c_M_next_175 : cT 142 175 = o_ca 178 141 2 2 false (some 10) := rfl
theorem c_M_next_178 : cT 142 178 = o_ifeq 181 194 := rfl
theorem c_M_next_181 : cT 142 181 = o_al 182 0 := rfl
theorem c_M_next_182 : cT 142 182 = o_dup 183 := rfl
theorem c_M_next_183 : cT 142 183 = o_gf 186 10 14 := rfl
theorem c_M_next_186 : cT 142 186 = o_ci 187 1 := rfl
theorem c_M_next_187 : cT 142 187 = o_iadd 188 := rfl
theorem c_M_next_188 : cT 142 188 = o_pf 191 10 14 0 := rfl
theorem c_M_next_191 : cT 142 191 = o_goto 143 := rfl
theorem c_M_next_194 : cT 142 194 = o_al 195 0 := rfl
theorem c_M_next_195 : cT 142 195 = o_gf 198 10 15 := rfl
theorem c_M_next_198 : cT 142 198 = o_ci 199 3 := rfl
theorem c_M_next_199 : cT 142 199 = o_iceq 202 214 := rfl
theorem c_M_next_202 : cT 142 202 = o_il 203 1 := rfl
theorem c_M_next_203 : cT 142 203 = o_ifeq 206 214 := rfl
theorem c_M_next_206 : cT 142 206 = o_al 207 0 := rfl
theorem c_M_next_207 : cT 142 207 = o_gf 210 10 13 := rfl
theorem c_M_next_210 : cT 142 210 = o_il 211 2 := rfl
theorem c_M_next_211 : cT 142 211 = o_iceq 214 235 := rfl
theorem c_M_next_214 : cT 142 214 = o_al 215 0 := rfl
theorem c_M_next_215 : cT 142 215 = o_gf 218 10 15 := rfl
theorem c_M_next_218 : cT 142 218 = o_ci 219 2 := rfl
theorem c_M_next_219 : cT 142 219 = o_icne 222 240 := rfl
theorem c_M_next_222 : cT 142 222 = o_al 223 0 := rfl
theorem c_M_next_223 : cT 142 223 = o_gf 226 10 14 := rfl
theorem c_M_next_226 : cT 142 226 = o_al 227 0 := rfl
theorem c_M_next_227 : cT 142 227 = o_gf 230 10 13 := rfl
theorem c_M_next_230 : cT 142 230 = o_isub 231 := rfl
theorem c_M_next_231 : cT 142 231 = o_ci 232 4 := rfl
theorem c_M_next_232 : cT 142 232 = o_icle 235 240 := rfl
theorem c_M_next_235 : cT 142 235 = o_al 236 0 := rfl
theorem c_M_next_236 : cT 142 236 = o_ci 237 4 := rfl
theorem c_M_next_237 : cT 142 237 = o_pf 240 10 15 0 := rfl
theorem c_M_next_240 : cT 142 240 = o_vret := rfl
theorem c_M_isWord_0 : cT 143 0 = o_al 1 0 := rfl
theorem c_M_isWord_1 : cT 143 1 = o_gf 4 10 15 := rfl
theorem c_M_isWord_4 : cT 143 4 = o_ci 5 1 := rfl
theorem c_M_isWord_5 : cT 143 5 = o_icne 8 28 := rfl
theorem c_M_isWord_8 : cT 143 8 = o_al 9 0 := rfl
theorem c_M_isWord_9 : cT 143 9 = o_gf 12 10 14 := rfl
theorem c_M_isWord_12 : cT 143 12 = o_al 13 0 := rfl
theorem c_M_isWord_13 : cT 143 13 = o_gf 16 10 13 := rfl
theorem c_M_isWord_16 : cT 143 16 = o_isub 17 := rfl
theorem c_M_isWord_17 : cT 143 17 = o_al 18 1 := rfl
theorem c_M_isWord_18 : cT 143 18 = o_ca 21 110 1 1 false (some 100) := rfl
theorem c_M_isWord_21 : cT 143 21 = o_icne 24 28 := rfl
theorem c_M_isWord_24 : cT 143 24 = o_ci 25 1 := rfl
theorem c_M_isWord_25 : cT 143 25 = o_goto 29 := rfl
theorem c_M_isWord_28 : cT 143 28 = o_ci 29 0 := rfl
theorem c_M_isWord_29 : cT 143 29 = o_is 30 2 := rfl
theorem c_M_isWord_30 : cT 143 30 = o_ci 31 0 := rfl
theorem c_M_isWord_31 : cT 143 31 = o_is 32 3 := rfl
theorem c_M_isWord_32 : cT 143 32 = o_il 33 2 := rfl
theorem c_M_isWord_33 : cT 143 33 = o_ifeq 36 75 := rfl
theorem c_M_isWord_36 : cT 143 36 = o_il 37 3 := rfl
theorem c_M_isWord_37 : cT 143 37 = o_al 38 1 := rfl
theorem c_M_isWord_38 : cT 143 38 = o_ca 41 110 1 1 false (some 100) := rfl
theorem c_M_isWord_41 : cT 143 41 = o_icge 44 75 := rfl
theorem c_M_isWord_44 : cT 143 44 = o_al 45 0 := rfl
theorem c_M_isWord_45 : cT 143 45 = o_gf 48 10 4 := rfl
theorem c_M_isWord_48 : cT 143 48 = o_al 49 0 := rfl
theorem c_M_isWord_49 : cT 143 49 = o_gf 52 10 13 := rfl
theorem c_M_isWord_52 : cT 143 52 = o_il 53 3 := rfl
theorem c_M_isWord_53 : cT 143 53 = o_iadd 54 := rfl
theorem c_M_isWord_54 : cT 143 54 = o_ial 55 := rfl
theorem c_M_isWord_55 : cT 143 55 = o_al 56 1 := rfl
theorem c_M_isWord_56 : cT 143 56 = o_il 57 3 := rfl
theorem c_M_isWord_57 : cT 143 57 = o_ca 60 115 2 2 false (some 100) := rfl
theorem c_M_isWord_60 : cT 143 60 = o_icne 63 67 := rfl
theorem c_M_isWord_63 : cT 143 63 = o_ci 64 1 := rfl
theorem c_M_isWord_64 : cT 143 64 = o_goto 68 := rfl
theorem c_M_isWord_67 : cT 143 67 = o_ci 68 0 := rfl
theorem c_M_isWord_68 : cT 143 68 = o_is 69 2 := rfl
theorem c_M_isWord_69 : cT 143 69 = o_inc 72 3 1 := rfl
theorem c_M_isWord_72 : cT 143 72 = o_goto 32 := rfl
theorem c_M_isWord_75 : cT 143 75 = o_il 76 2 := rfl
theorem c_M_isWord_76 : cT 143 76 = o_iret .boolean := rfl
theorem c_M_need_0 : cT 144 0 = o_al 1 0 := rfl
theorem c_M_need_1 : cT 144 1 = o_al 2 0 := rfl
theorem c_M_need_2 : cT 144 2 = o_gf 5 10 16 := rfl
theorem c_M_need_5 : cT 144 5 = o_ifne 8 12 := rfl
theorem c_M_need_8 : cT 144 8 = o_il 9 1 := rfl
theorem c_M_need_9 : cT 144 9 = o_ifne 12 16 := rfl
theorem c_M_need_12 : cT 144 12 = o_ci 13 1 := rfl
theorem c_M_need_13 : cT 144 13 = o_goto 17 := rfl
theorem c_M_need_16 : cT 144 16 = o_ci 17 0 := rfl
theorem c_M_need_17 : cT 144 17 = o_pf 20 10 16 1 := rfl
theorem c_M_need_20 : cT 144 20 = o_al 21 0 := rfl
theorem c_M_need_21 : cT 144 21 = o_gf 24 10 16 := rfl
theorem c_M_need_24 : cT 144 24 = o_ifne 27 31 := rfl
theorem c_M_need_27 : cT 144 27 = o_al 28 0 := rfl
theorem c_M_need_28 : cT 144 28 = o_ca 31 142 1 3 false (some 10) := rfl
theorem c_M_need_31 : cT 144 31 = o_vret := rfl
theorem c_M_put_0 : cT 145 0 = o_al 1 0 := rfl
theorem c_M_put_1 : cT 145 1 = o_gf 4 10 16 := rfl
theorem c_M_put_4 : cT 145 4 = o_ifne 7 27 := rfl
theorem c_M_put_7 : cT 145 7 = o_al 8 0 := rfl
theorem c_M_put_8 : cT 145 8 = o_gf 11 10 20 := rfl
theorem c_M_put_11 : cT 145 11 = o_al 12 0 := rfl
theorem c_M_put_12 : cT 145 12 = o_gf 15 10 21 := rfl
theorem c_M_put_15 : cT 145 15 = o_il 16 1 := rfl
theorem c_M_put_16 : cT 145 16 = o_ias 17 := rfl
theorem c_M_put_17 : cT 145 17 = o_al 18 0 := rfl
theorem c_M_put_18 : cT 145 18 = o_dup 19 := rfl
theorem c_M_put_19 : cT 145 19 = o_gf 22 10 21 := rfl
theorem c_M_put_22 : cT 145 22 = o_ci 23 1 := rfl
theorem c_M_put_23 : cT 145 23 = o_iadd 24 := rfl
theorem c_M_put_24 : cT 145 24 = o_pf 27 10 21 0 := rfl
theorem c_M_put_27 : cT 145 27 = o_vret := rfl
theorem c_M_isSign_0 : cT 146 0 = o_al 1 0 := rfl
theorem c_M_isSign_1 : cT 146 1 = o_gf 4 10 16 := rfl
theorem c_M_isSign_4 : cT 146 4 = o_ifne 7 32 := rfl
theorem c_M_isSign_7 : cT 146 7 = o_al 8 0 := rfl
theorem c_M_isSign_8 : cT 146 8 = o_gf 11 10 15 := rfl
theorem c_M_isSign_11 : cT 146 11 = o_ci 12 3 := rfl
theorem c_M_isSign_12 : cT 146 12 = o_icne 15 32 := rfl
theorem c_M_isSign_15 : cT 146 15 = o_al 16 0 := rfl
theorem c_M_isSign_16 : cT 146 16 = o_gf 19 10 4 := rfl
theorem c_M_isSign_19 : cT 146 19 = o_al 20 0 := rfl
theorem c_M_isSign_20 : cT 146 20 = o_gf 23 10 13 := rfl
theorem c_M_isSign_23 : cT 146 23 = o_ial 24 := rfl
theorem c_M_isSign_24 : cT 146 24 = o_il 25 1 := rfl
theorem c_M_isSign_25 : cT 146 25 = o_icne 28 32 := rfl
theorem c_M_isSign_28 : cT 146 28 = o_ci 29 1 := rfl
theorem c_M_isSign_29 : cT 146 29 = o_goto 33 := rfl
theorem c_M_isSign_32 : cT 146 32 = o_ci 33 0 := rfl
theorem c_M_isSign_33 : cT 146 33 = o_iret .boolean := rfl
theorem c_M_part_0 : cT 147 0 = o_al 1 0 := rfl
theorem c_M_part_1 : cT 147 1 = o_gf 4 10 16 := rfl
theorem c_M_part_4 : cT 147 4 = o_ifeq 7 8 := rfl
theorem c_M_part_7 : cT 147 7 = o_vret := rfl
theorem c_M_part_8 : cT 147 8 = o_al 9 0 := rfl
theorem c_M_part_9 : cT 147 9 = o_gf 12 10 15 := rfl
theorem c_M_part_12 : cT 147 12 = o_ci 13 2 := rfl
theorem c_M_part_13 : cT 147 13 = o_icne 16 74 := rfl
theorem c_M_part_16 : cT 147 16 = o_ci 17 0 := rfl
theorem c_M_part_17 : cT 147 17 = o_is 18 1 := rfl
theorem c_M_part_18 : cT 147 18 = o_al 19 0 := rfl
theorem c_M_part_19 : cT 147 19 = o_gf 22 10 13 := rfl
theorem c_M_part_22 : cT 147 22 = o_is 23 2 := rfl
theorem c_M_part_23 : cT 147 23 = o_il 24 2 := rfl
theorem c_M_part_24 : cT 147 24 = o_al 25 0 := rfl
theorem c_M_part_25 : cT 147 25 = o_gf 28 10 14 := rfl
theorem c_M_part_28 : cT 147 28 = o_icge 31 52 := rfl
theorem c_M_part_31 : cT 147 31 = o_ci 33 10 := rfl
theorem c_M_part_33 : cT 147 33 = o_il 34 1 := rfl
theorem c_M_part_34 : cT 147 34 = o_imul 35 := rfl
theorem c_M_part_35 : cT 147 35 = o_al 36 0 := rfl
theorem c_M_part_36 : cT 147 36 = o_gf 39 10 4 := rfl
theorem c_M_part_39 : cT 147 39 = o_il 40 2 := rfl
theorem c_M_part_40 : cT 147 40 = o_ial 41 := rfl
theorem c_M_part_41 : cT 147 41 = o_iadd 42 := rfl
theorem c_M_part_42 : cT 147 42 = o_ci 44 48 := rfl
theorem c_M_part_44 : cT 147 44 = o_isub 45 := rfl
theorem c_M_part_45 : cT 147 45 = o_is 46 1 := rfl
theorem c_M_part_46 : cT 147 46 = o_inc 49 2 1 := rfl
theorem c_M_part_49 : cT 147 49 = o_goto 23 := rfl
theorem c_M_part_52 : cT 147 52 = o_al 53 0 := rfl
theorem c_M_part_53 : cT 147 53 = o_il 54 1 := rfl
theorem c_M_part_54 : cT 147 54 = o_ca 57 145 2 2 false (some 10) := rfl
theorem c_M_part_57 : cT 147 57 = o_al 58 0 := rfl
theorem c_M_part_58 : cT 147 58 = o_dup 59 := rfl
theorem c_M_part_59 : cT 147 59 = o_gf 62 10 22 := rfl
theorem c_M_part_62 : cT 147 62 = o_ci 63 1 := rfl
theorem c_M_part_63 : cT 147 63 = o_iadd 64 := rfl
theorem c_M_part_64 : cT 147 64 = o_pf 67 10 22 0 := rfl
theorem c_M_part_67 : cT 147 67 = o_al 68 0 := rfl
theorem c_M_part_68 : cT 147 68 = o_ca 71 142 1 3 false (some 10) := rfl
theorem c_M_part_71 : cT 147 71 = o_goto 273 := rfl
theorem c_M_part_74 : cT 147 74 = o_al 75 0 := rfl
theorem c_M_part_75 : cT 147 75 = o_gf 78 10 15 := rfl
theorem c_M_part_78 : cT 147 78 = o_ci 79 1 := rfl
theorem c_M_part_79 : cT 147 79 = o_icne 82 154 := rfl
theorem c_M_part_82 : cT 147 82 = o_al 83 0 := rfl
theorem c_M_part_83 : cT 147 83 = o_gf 86 10 14 := rfl
theorem c_M_part_86 : cT 147 86 = o_al 87 0 := rfl
theorem c_M_part_87 : cT 147 87 = o_gf 90 10 13 := rfl
theorem c_M_part_90 : cT 147 90 = o_isub 91 := rfl
theorem c_M_part_91 : cT 147 91 = o_ci 92 1 := rfl
theorem c_M_part_92 : cT 147 92 = o_icne 95 154 := rfl
theorem c_M_part_95 : cT 147 95 = o_al 96 0 := rfl
theorem c_M_part_96 : cT 147 96 = o_gf 99 10 19 := rfl
theorem c_M_part_99 : cT 147 99 = o_al 100 0 := rfl
theorem c_M_part_100 : cT 147 100 = o_gf 103 10 4 := rfl
theorem c_M_part_103 : cT 147 103 = o_al 104 0 := rfl
theorem c_M_part_104 : cT 147 104 = o_gf 107 10 13 := rfl
theorem c_M_part_107 : cT 147 107 = o_ial 108 := rfl
theorem c_M_part_108 : cT 147 108 = o_ca 111 126 2 2 false (some 100) := rfl
theorem c_M_part_111 : cT 147 111 = o_iflt 114 154 := rfl
theorem c_M_part_114 : cT 147 114 = o_al 115 0 := rfl
theorem c_M_part_115 : cT 147 115 = o_ci 117 100000 := rfl
theorem c_M_part_117 : cT 147 117 = o_al 118 0 := rfl
theorem c_M_part_118 : cT 147 118 = o_gf 121 10 19 := rfl
theorem c_M_part_121 : cT 147 121 = o_al 122 0 := rfl
theorem c_M_part_122 : cT 147 122 = o_gf 125 10 4 := rfl
theorem c_M_part_125 : cT 147 125 = o_al 126 0 := rfl
theorem c_M_part_126 : cT 147 126 = o_gf 129 10 13 := rfl
theorem c_M_part_129 : cT 147 129 = o_ial 130 := rfl
theorem c_M_part_130 : cT 147 130 = o_ca 133 126 2 2 false (some 100) := rfl
theorem c_M_part_133 : cT 147 133 = o_iadd 134 := rfl
theorem c_M_part_134 : cT 147 134 = o_ca 137 145 2 2 false (some 10) := rfl
theorem c_M_part_137 : cT 147 137 = o_al 138 0 := rfl
theorem c_M_part_138 : cT 147 138 = o_dup 139 := rfl
theorem c_M_part_139 : cT 147 139 = o_gf 142 10 22 := rfl
theorem c_M_part_142 : cT 147 142 = o_ci 143 1 := rfl
theorem c_M_part_143 : cT 147 143 = o_iadd 144 := rfl
theorem c_M_part_144 : cT 147 144 = o_pf 147 10 22 0 := rfl
theorem c_M_part_147 : cT 147 147 = o_al 148 0 := rfl
theorem c_M_part_148 : cT 147 148 = o_ca 151 142 1 3 false (some 10) := rfl
theorem c_M_part_151 : cT 147 151 = o_goto 273 := rfl
theorem c_M_part_154 : cT 147 154 = o_al 155 0 := rfl
theorem c_M_part_155 : cT 147 155 = o_ci 157 33 := rfl
theorem c_M_part_157 : cT 147 157 = o_ca 160 146 2 2 false (some 10) := rfl
theorem c_M_part_160 : cT 147 160 = o_ifeq 163 209 := rfl
theorem c_M_part_163 : cT 147 163 = o_al 164 0 := rfl
theorem c_M_part_164 : cT 147 164 = o_gf 167 10 18 := rfl
theorem c_M_part_167 : cT 147 167 = o_ci 169 8 := rfl
theorem c_M_part_169 : cT 147 169 = o_icge 172 209 := rfl
theorem c_M_part_172 : cT 147 172 = o_al 173 0 := rfl
theorem c_M_part_173 : cT 147 173 = o_dup 174 := rfl
theorem c_M_part_174 : cT 147 174 = o_gf 177 10 18 := rfl
theorem c_M_part_177 : cT 147 177 = o_ci 178 1 := rfl
theorem c_M_part_178 : cT 147 178 = o_iadd 179 := rfl
theorem c_M_part_179 : cT 147 179 = o_pf 182 10 18 0 := rfl
theorem c_M_part_182 : cT 147 182 = o_al 183 0 := rfl
theorem c_M_part_183 : cT 147 183 = o_ca 186 142 1 3 false (some 10) := rfl
theorem c_M_part_186 : cT 147 186 = o_al 187 0 := rfl
theorem c_M_part_187 : cT 147 187 = o_ca 190 147 1 3 true (some 10) := rfl
theorem c_M_part_190 : cT 147 190 = o_al 191 0 := rfl
theorem c_M_part_191 : cT 147 191 = o_dup 192 := rfl
theorem c_M_part_192 : cT 147 192 = o_gf 195 10 18 := rfl
theorem c_M_part_195 : cT 147 195 = o_ci 196 1 := rfl
theorem c_M_part_196 : cT 147 196 = o_isub 197 := rfl
theorem c_M_part_197 : cT 147 197 = o_pf 200 10 18 0 := rfl
theorem c_M_part_200 : cT 147 200 = o_al 201 0 := rfl
theorem c_M_part_201 : cT 147 201 = o_ci 203 200009 := rfl
theorem c_M_part_203 : cT 147 203 = o_ca 206 145 2 2 false (some 10) := rfl
theorem c_M_part_206 : cT 147 206 = o_goto 273 := rfl
theorem c_M_part_209 : cT 147 209 = o_al 210 0 := rfl
theorem c_M_part_210 : cT 147 210 = o_ci 212 40 := rfl
theorem c_M_part_212 : cT 147 212 = o_ca 215 146 2 2 false (some 10) := rfl
theorem c_M_part_215 : cT 147 215 = o_ifeq 218 268 := rfl
theorem c_M_part_218 : cT 147 218 = o_al 219 0 := rfl
theorem c_M_part_219 : cT 147 219 = o_gf 222 10 17 := rfl
theorem c_M_part_222 : cT 147 222 = o_ci 224 8 := rfl
theorem c_M_part_224 : cT 147 224 = o_icge 227 268 := rfl
theorem c_M_part_227 : cT 147 227 = o_al 228 0 := rfl
theorem c_M_part_228 : cT 147 228 = o_dup 229 := rfl
theorem c_M_part_229 : cT 147 229 = o_gf 232 10 17 := rfl
theorem c_M_part_232 : cT 147 232 = o_ci 233 1 := rfl
theorem c_M_part_233 : cT 147 233 = o_iadd 234 := rfl
theorem c_M_part_234 : cT 147 234 = o_pf 237 10 17 0 := rfl
theorem c_M_part_237 : cT 147 237 = o_al 238 0 := rfl
theorem c_M_part_238 : cT 147 238 = o_ca 241 142 1 3 false (some 10) := rfl
theorem c_M_part_241 : cT 147 241 = o_al 242 0 := rfl
theorem c_M_part_242 : cT 147 242 = o_ca 245 153 1 1 true (some 10) := rfl
theorem c_M_part_245 : cT 147 245 = o_al 246 0 := rfl
theorem c_M_part_246 : cT 147 246 = o_al 247 0 := rfl
theorem c_M_part_247 : cT 147 247 = o_ci 249 41 := rfl
theorem c_M_part_249 : cT 147 249 = o_ca 252 146 2 2 false (some 10) := rfl
theorem c_M_part_252 : cT 147 252 = o_ca 255 144 2 2 false (some 10) := rfl
theorem c_M_part_255 : cT 147 255 = o_al 256 0 := rfl
theorem c_M_part_256 : cT 147 256 = o_dup 257 := rfl
theorem c_M_part_257 : cT 147 257 = o_gf 260 10 17 := rfl
theorem c_M_part_260 : cT 147 260 = o_ci 261 1 := rfl
theorem c_M_part_261 : cT 147 261 = o_isub 262 := rfl
theorem c_M_part_262 : cT 147 262 = o_pf 265 10 17 0 := rfl
theorem c_M_part_265 : cT 147 265 = o_goto 273 := rfl
theorem c_M_part_268 : cT 147 268 = o_al 269 0 := rfl
theorem c_M_part_269 : cT 147 269 = o_ci 270 1 := rfl
theorem c_M_part_270 : cT 147 270 = o_pf 273 10 16 1 := rfl
theorem c_M_part_273 : cT 147 273 = o_vret := rfl
theorem c_M_signHere_0 : cT 148 0 = o_ci 1 (-1) := rfl
theorem c_M_signHere_1 : cT 148 1 = o_is 2 3 := rfl
theorem c_M_signHere_2 : cT 148 2 = o_il 3 1 := rfl
theorem c_M_signHere_3 : cT 148 3 = o_is 5 4 := rfl
theorem c_M_signHere_5 : cT 148 5 = o_il 7 4 := rfl
theorem c_M_signHere_7 : cT 148 7 = o_il 8 2 := rfl
theorem c_M_signHere_8 : cT 148 8 = o_icgt 11 38 := rfl
theorem c_M_signHere_11 : cT 148 11 = o_al 12 0 := rfl
theorem c_M_signHere_12 : cT 148 12 = o_cv 14 (.ref 1000026) := rfl
theorem c_M_signHere_14 : cT 148 14 = o_il 16 4 := rfl
theorem c_M_signHere_16 : cT 148 16 = o_ca 19 115 2 2 false (some 100) := rfl
theorem c_M_signHere_19 : cT 148 19 = o_ca 22 146 2 2 false (some 10) := rfl
theorem c_M_signHere_22 : cT 148 22 = o_ifeq 25 30 := rfl
theorem c_M_signHere_25 : cT 148 25 = o_il 27 4 := rfl
theorem c_M_signHere_27 : cT 148 27 = o_goto 31 := rfl
theorem c_M_signHere_30 : cT 148 30 = o_il 31 3 := rfl
theorem c_M_signHere_31 : cT 148 31 = o_is 32 3 := rfl
theorem c_M_signHere_32 : cT 148 32 = o_inc 35 4 1 := rfl
theorem c_M_signHere_35 : cT 148 35 = o_goto 5 := rfl
theorem c_M_signHere_38 : cT 148 38 = o_il 39 3 := rfl
theorem c_M_signHere_39 : cT 148 39 = o_iret .int := rfl
theorem c_M_term_0 : cT 149 0 = o_al 1 0 := rfl
theorem c_M_term_1 : cT 149 1 = o_ca 4 147 1 3 false (some 10) := rfl
theorem c_M_term_4 : cT 149 4 = o_al 5 0 := rfl
theorem c_M_term_5 : cT 149 5 = o_ci 7 7 := rfl
theorem c_M_term_7 : cT 149 7 = o_ci 9 8 := rfl
theorem c_M_term_9 : cT 149 9 = o_ca 12 148 3 5 false (some 10) := rfl
theorem c_M_term_12 : cT 149 12 = o_is 13 1 := rfl
theorem c_M_term_13 : cT 149 13 = o_il 14 1 := rfl
theorem c_M_term_14 : cT 149 14 = o_iflt 17 46 := rfl
theorem c_M_term_17 : cT 149 17 = o_al 18 0 := rfl
theorem c_M_term_18 : cT 149 18 = o_ca 21 142 1 3 false (some 10) := rfl
theorem c_M_term_21 : cT 149 21 = o_al 22 0 := rfl
theorem c_M_term_22 : cT 149 22 = o_ca 25 147 1 3 false (some 10) := rfl
theorem c_M_term_25 : cT 149 25 = o_al 26 0 := rfl
theorem c_M_term_26 : cT 149 26 = o_ci 29 200000 := rfl
theorem c_M_term_29 : cT 149 29 = o_il 30 1 := rfl
theorem c_M_term_30 : cT 149 30 = o_iadd 31 := rfl
theorem c_M_term_31 : cT 149 31 = o_ca 34 145 2 2 false (some 10) := rfl
theorem c_M_term_34 : cT 149 34 = o_al 35 0 := rfl
theorem c_M_term_35 : cT 149 35 = o_ci 37 7 := rfl
theorem c_M_term_37 : cT 149 37 = o_ci 39 8 := rfl
theorem c_M_term_39 : cT 149 39 = o_ca 42 148 3 5 false (some 10) := rfl
theorem c_M_term_42 : cT 149 42 = o_is 43 1 := rfl
theorem c_M_term_43 : cT 149 43 = o_goto 13 := rfl
theorem c_M_term_46 : cT 149 46 = o_vret := rfl
theorem c_M_sum_0 : cT 150 0 = o_al 1 0 := rfl
theorem c_M_sum_1 : cT 150 1 = o_ca 4 149 1 2 false (some 10) := rfl
theorem c_M_sum_4 : cT 150 4 = o_al 5 0 := rfl
theorem c_M_sum_5 : cT 150 5 = o_ci 6 5 := rfl
theorem c_M_sum_6 : cT 150 6 = o_ci 8 6 := rfl
theorem c_M_sum_8 : cT 150 8 = o_ca 11 148 3 5 false (some 10) := rfl
theorem c_M_sum_11 : cT 150 11 = o_is 12 1 := rfl
theorem c_M_sum_12 : cT 150 12 = o_il 13 1 := rfl
theorem c_M_sum_13 : cT 150 13 = o_iflt 16 44 := rfl
theorem c_M_sum_16 : cT 150 16 = o_al 17 0 := rfl
theorem c_M_sum_17 : cT 150 17 = o_ca 20 142 1 3 false (some 10) := rfl
theorem c_M_sum_20 : cT 150 20 = o_al 21 0 := rfl
theorem c_M_sum_21 : cT 150 21 = o_ca 24 149 1 2 false (some 10) := rfl
theorem c_M_sum_24 : cT 150 24 = o_al 25 0 := rfl
theorem c_M_sum_25 : cT 150 25 = o_ci 28 200000 := rfl
theorem c_M_sum_28 : cT 150 28 = o_il 29 1 := rfl
theorem c_M_sum_29 : cT 150 29 = o_iadd 30 := rfl
theorem c_M_sum_30 : cT 150 30 = o_ca 33 145 2 2 false (some 10) := rfl
theorem c_M_sum_33 : cT 150 33 = o_al 34 0 := rfl
theorem c_M_sum_34 : cT 150 34 = o_ci 35 5 := rfl
theorem c_M_sum_35 : cT 150 35 = o_ci 37 6 := rfl
theorem c_M_sum_37 : cT 150 37 = o_ca 40 148 3 5 false (some 10) := rfl
theorem c_M_sum_40 : cT 150 40 = o_is 41 1 := rfl
theorem c_M_sum_41 : cT 150 41 = o_goto 12 := rfl
theorem c_M_sum_44 : cT 150 44 = o_vret := rfl
theorem c_M_test_0 : cT 151 0 = o_al 1 0 := rfl
theorem c_M_test_1 : cT 151 1 = o_ca 4 150 1 2 false (some 10) := rfl
theorem c_M_test_4 : cT 151 4 = o_al 5 0 := rfl
theorem c_M_test_5 : cT 151 5 = o_ci 6 2 := rfl
theorem c_M_test_6 : cT 151 6 = o_ci 7 4 := rfl
theorem c_M_test_7 : cT 151 7 = o_ca 10 148 3 5 false (some 10) := rfl
theorem c_M_test_10 : cT 151 10 = o_is 11 1 := rfl
theorem c_M_test_11 : cT 151 11 = o_il 12 1 := rfl
theorem c_M_test_12 : cT 151 12 = o_iflt 15 32 := rfl
theorem c_M_test_15 : cT 151 15 = o_al 16 0 := rfl
theorem c_M_test_16 : cT 151 16 = o_ca 19 142 1 3 false (some 10) := rfl
theorem c_M_test_19 : cT 151 19 = o_al 20 0 := rfl
theorem c_M_test_20 : cT 151 20 = o_ca 23 150 1 2 false (some 10) := rfl
theorem c_M_test_23 : cT 151 23 = o_al 24 0 := rfl
theorem c_M_test_24 : cT 151 24 = o_ci 27 200000 := rfl
theorem c_M_test_27 : cT 151 27 = o_il 28 1 := rfl
theorem c_M_test_28 : cT 151 28 = o_iadd 29 := rfl
theorem c_M_test_29 : cT 151 29 = o_ca 32 145 2 2 false (some 10) := rfl
theorem c_M_test_32 : cT 151 32 = o_vret := rfl
theorem c_M_both_0 : cT 152 0 = o_al 1 0 := rfl
theorem c_M_both_1 : cT 152 1 = o_ca 4 151 1 2 false (some 10) := rfl
theorem c_M_both_4 : cT 152 4 = o_al 5 0 := rfl
theorem c_M_both_5 : cT 152 5 = o_ci 6 1 := rfl
theorem c_M_both_6 : cT 152 6 = o_ci 7 1 := rfl
theorem c_M_both_7 : cT 152 7 = o_ca 10 148 3 5 false (some 10) := rfl
theorem c_M_both_10 : cT 152 10 = o_iflt 13 31 := rfl
theorem c_M_both_13 : cT 152 13 = o_al 14 0 := rfl
theorem c_M_both_14 : cT 152 14 = o_ca 17 142 1 3 false (some 10) := rfl
theorem c_M_both_17 : cT 152 17 = o_al 18 0 := rfl
theorem c_M_both_18 : cT 152 18 = o_ca 21 151 1 2 false (some 10) := rfl
theorem c_M_both_21 : cT 152 21 = o_al 22 0 := rfl
theorem c_M_both_22 : cT 152 22 = o_ci 25 200001 := rfl
theorem c_M_both_25 : cT 152 25 = o_ca 28 145 2 2 false (some 10) := rfl
theorem c_M_both_28 : cT 152 28 = o_goto 4 := rfl
theorem c_M_both_31 : cT 152 31 = o_vret := rfl
theorem c_M_either_0 : cT 153 0 = o_al 1 0 := rfl
theorem c_M_either_1 : cT 153 1 = o_ca 4 152 1 1 false (some 10) := rfl
theorem c_M_either_4 : cT 153 4 = o_al 5 0 := rfl
theorem c_M_either_5 : cT 153 5 = o_ci 6 0 := rfl
theorem c_M_either_6 : cT 153 6 = o_ci 7 0 := rfl
theorem c_M_either_7 : cT 153 7 = o_ca 10 148 3 5 false (some 10) := rfl
theorem c_M_either_10 : cT 153 10 = o_iflt 13 31 := rfl
theorem c_M_either_13 : cT 153 13 = o_al 14 0 := rfl
theorem c_M_either_14 : cT 153 14 = o_ca 17 142 1 3 false (some 10) := rfl
theorem c_M_either_17 : cT 153 17 = o_al 18 0 := rfl
theorem c_M_either_18 : cT 153 18 = o_ca 21 152 1 1 false (some 10) := rfl
theorem c_M_either_21 : cT 153 21 = o_al 22 0 := rfl
theorem c_M_either_22 : cT 153 22 = o_ci 25 200000 := rfl
theorem c_M_either_25 : cT 153 25 = o_ca 28 145 2 2 false (some 10) := rfl
theorem c_M_either_28 : cT 153 28 = o_goto 4 := rfl
theorem c_M_either_31 : cT 153 31 = o_vret := rfl
theorem c_M_text_0 : cT 154 0 = o_al 1 0 := rfl
theorem c_M_text_1 : cT 154 1 = o_ci 2 0 := rfl
theorem c_M_text_2 : cT 154 2 = o_pf 5 10 14 0 := rfl
theorem c_M_text_5 : cT 154 5 = o_al 6 0 := rfl
theorem c_M_text_6 : cT 154 6 = o_ci 7 0 := rfl
theorem c_M_text_7 : cT 154 7 = o_pf 10 10 15 0 := rfl
theorem c_M_text_10 : cT 154 10 = o_al 11 0 := rfl
theorem c_M_text_11 : cT 154 11 = o_ci 12 0 := rfl
theorem c_M_text_12 : cT 154 12 = o_pf 15 10 16 1 := rfl
theorem c_M_text_15 : cT 154 15 = o_al 16 0 := rfl
theorem c_M_text_16 : cT 154 16 = o_ci 17 0 := rfl
theorem c_M_text_17 : cT 154 17 = o_pf 20 10 17 0 := rfl
theorem c_M_text_20 : cT 154 20 = o_al 21 0 := rfl
theorem c_M_text_21 : cT 154 21 = o_ci 22 0 := rfl
theorem c_M_text_22 : cT 154 22 = o_pf 25 10 18 0 := rfl
theorem c_M_text_25 : cT 154 25 = o_al 26 0 := rfl
theorem c_M_text_26 : cT 154 26 = o_ci 27 0 := rfl
theorem c_M_text_27 : cT 154 27 = o_pf 30 10 21 0 := rfl
theorem c_M_text_30 : cT 154 30 = o_al 31 0 := rfl
theorem c_M_text_31 : cT 154 31 = o_ci 32 0 := rfl
theorem c_M_text_32 : cT 154 32 = o_pf 35 10 22 0 := rfl
theorem c_M_text_35 : cT 154 35 = o_al 36 0 := rfl
theorem c_M_text_36 : cT 154 36 = o_ca 39 142 1 3 false (some 10) := rfl
theorem c_M_text_39 : cT 154 39 = o_ci 40 (-1) := rfl
theorem c_M_text_40 : cT 154 40 = o_is 41 3 := rfl
theorem c_M_text_41 : cT 154 41 = o_ci 42 0 := rfl
theorem c_M_text_42 : cT 154 42 = o_is 44 4 := rfl
theorem c_M_text_44 : cT 154 44 = o_il 46 4 := rfl
theorem c_M_text_46 : cT 154 46 = o_ci 47 5 := rfl
theorem c_M_text_47 : cT 154 47 = o_icge 50 77 := rfl
theorem c_M_text_50 : cT 154 50 = o_al 51 0 := rfl
theorem c_M_text_51 : cT 154 51 = o_al 52 0 := rfl
theorem c_M_text_52 : cT 154 52 = o_gf 55 10 23 := rfl
theorem c_M_text_55 : cT 154 55 = o_il 57 4 := rfl
theorem c_M_text_57 : cT 154 57 = o_aal 58 5 := rfl
theorem c_M_text_58 : cT 154 58 = o_ca 61 143 2 4 false (some 10) := rfl
theorem c_M_text_61 : cT 154 61 = o_ifeq 64 69 := rfl
theorem c_M_text_64 : cT 154 64 = o_il 66 4 := rfl
theorem c_M_text_66 : cT 154 66 = o_goto 70 := rfl
theorem c_M_text_69 : cT 154 69 = o_il 70 3 := rfl
theorem c_M_text_70 : cT 154 70 = o_is 71 3 := rfl
theorem c_M_text_71 : cT 154 71 = o_inc 74 4 1 := rfl
theorem c_M_text_74 : cT 154 74 = o_goto 44 := rfl
theorem c_M_text_77 : cT 154 77 = o_al 78 0 := rfl
theorem c_M_text_78 : cT 154 78 = o_il 79 3 := rfl
theorem c_M_text_79 : cT 154 79 = o_iflt 82 86 := rfl
theorem c_M_text_82 : cT 154 82 = o_ci 83 1 := rfl
theorem c_M_text_83 : cT 154 83 = o_goto 87 := rfl
theorem c_M_text_86 : cT 154 86 = o_ci 87 0 := rfl
theorem c_M_text_87 : cT 154 87 = o_ca 90 144 2 2 false (some 10) := rfl
theorem c_M_text_90 : cT 154 90 = o_al 91 0 := rfl
theorem c_M_text_91 : cT 154 91 = o_il 92 3 := rfl
theorem c_M_text_92 : cT 154 92 = o_ifge 95 100 := rfl
theorem c_M_text_95 : cT 154 95 = o_cv 97 (.ref 1000015) := rfl
theorem c_M_text_97 : cT 154 97 = o_goto 106 := rfl
theorem c_M_text_100 : cT 154 100 = o_al 101 0 := rfl
theorem c_M_text_101 : cT 154 101 = o_gf 104 10 24 := rfl
theorem c_M_text_104 : cT 154 104 = o_il 105 3 := rfl
theorem c_M_text_105 : cT 154 105 = o_aal 106 5 := rfl
theorem c_M_text_106 : cT 154 106 = o_pf 109 10 19 2 := rfl
theorem c_M_text_109 : cT 154 109 = o_al 110 0 := rfl
theorem c_M_text_110 : cT 154 110 = o_ca 113 153 1 1 false (some 10) := rfl
theorem c_M_text_113 : cT 154 113 = o_al 114 0 := rfl
theorem c_M_text_114 : cT 154 114 = o_ci 117 300000 := rfl
theorem c_M_text_117 : cT 154 117 = o_ca 120 145 2 2 false (some 10) := rfl
theorem c_M_text_120 : cT 154 120 = o_al 121 0 := rfl
theorem c_M_text_121 : cT 154 121 = o_al 122 0 := rfl
theorem c_M_text_122 : cT 154 122 = o_gf 125 10 16 := rfl
theorem c_M_text_125 : cT 154 125 = o_ifne 128 135 := rfl
theorem c_M_text_128 : cT 154 128 = o_al 129 0 := rfl
theorem c_M_text_129 : cT 154 129 = o_gf 132 10 15 := rfl
theorem c_M_text_132 : cT 154 132 = o_ifeq 135 139 := rfl
theorem c_M_text_135 : cT 154 135 = o_ci 136 1 := rfl
theorem c_M_text_136 : cT 154 136 = o_goto 140 := rfl
theorem c_M_text_139 : cT 154 139 = o_ci 140 0 := rfl
theorem c_M_text_140 : cT 154 140 = o_pf 143 10 16 1 := rfl
theorem c_M_text_143 : cT 154 143 = o_al 144 0 := rfl
theorem c_M_text_144 : cT 154 144 = o_gf 147 10 13 := rfl
theorem c_M_text_147 : cT 154 147 = o_is 149 4 := rfl
theorem c_M_text_149 : cT 154 149 = o_al 150 0 := rfl
theorem c_M_text_150 : cT 154 150 = o_ci 151 0 := rfl
theorem c_M_text_151 : cT 154 151 = o_pf 154 10 5 0 := rfl
theorem c_M_text_154 : cT 154 154 = o_il 155 1 := rfl
theorem c_M_text_155 : cT 154 155 = o_i2l 156 := rfl
theorem c_M_text_156 : cT 154 156 = o_cl 157 0 := rfl
theorem c_M_text_157 : cT 154 157 = o_cl 160 8 := rfl
theorem c_M_text_160 : cT 154 160 = o_ca 163 17 3 6 false none := rfl
theorem c_M_text_163 : cT 154 163 = o_ifeq 166 178 := rfl
theorem c_M_text_166 : cT 154 166 = o_il 167 2 := rfl
theorem c_M_text_167 : cT 154 167 = o_i2l 168 := rfl
theorem c_M_text_168 : cT 154 168 = o_cl 169 0 := rfl
theorem c_M_text_169 : cT 154 169 = o_cl 172 2999 := rfl
theorem c_M_text_172 : cT 154 172 = o_ca 175 17 3 6 false none := rfl
theorem c_M_text_175 : cT 154 175 = o_ifne 178 181 := rfl
theorem c_M_text_178 : cT 154 178 = o_ci 180 (-1000000001) := rfl
theorem c_M_text_180 : cT 154 180 = o_iret .int := rfl
theorem c_M_text_181 : cT 154 181 = o_al 182 0 := rfl
theorem c_M_text_182 : cT 154 182 = o_gf 185 10 16 := rfl
theorem c_M_text_185 : cT 154 185 = o_ifeq 188 194 := rfl
theorem c_M_text_188 : cT 154 188 = o_ci 190 (-100) := rfl
theorem c_M_text_190 : cT 154 190 = o_il 192 4 := rfl
theorem c_M_text_192 : cT 154 192 = o_isub 193 := rfl
theorem c_M_text_193 : cT 154 193 = o_iret .int := rfl
theorem c_M_text_194 : cT 154 194 = o_al 195 0 := rfl
theorem c_M_text_195 : cT 154 195 = o_gf 198 10 0 := rfl
theorem c_M_text_198 : cT 154 198 = o_ci 200 7 := rfl
theorem c_M_text_200 : cT 154 200 = o_ial 201 := rfl
theorem c_M_text_201 : cT 154 201 = o_is 203 5 := rfl
theorem c_M_text_203 : cT 154 203 = o_il 205 5 := rfl
theorem c_M_text_205 : cT 154 205 = o_ci 207 16 := rfl
theorem c_M_text_207 : cT 154 207 = o_icne 210 213 := rfl
theorem c_M_text_210 : cT 154 210 = o_ci 212 (-1000000003) := rfl
theorem c_M_text_212 : cT 154 212 = o_iret .int := rfl
theorem c_M_text_213 : cT 154 213 = o_ci 216 914 := rfl
theorem c_M_text_216 : cT 154 216 = o_ci 218 104 := rfl
theorem c_M_text_218 : cT 154 218 = o_il 220 5 := rfl
theorem c_M_text_220 : cT 154 220 = o_imul 221 := rfl
theorem c_M_text_221 : cT 154 221 = o_iadd 222 := rfl
theorem c_M_text_222 : cT 154 222 = o_is 224 6 := rfl
theorem c_M_text_224 : cT 154 224 = o_al 225 0 := rfl
theorem c_M_text_225 : cT 154 225 = o_gf 228 10 0 := rfl
theorem c_M_text_228 : cT 154 228 = o_il 230 6 := rfl
theorem c_M_text_230 : cT 154 230 = o_il 231 3 := rfl
theorem c_M_text_231 : cT 154 231 = o_ias 232 := rfl
theorem c_M_text_232 : cT 154 232 = o_al 233 0 := rfl
theorem c_M_text_233 : cT 154 233 = o_gf 236 10 0 := rfl
theorem c_M_text_236 : cT 154 236 = o_il 238 6 := rfl
theorem c_M_text_238 : cT 154 238 = o_ci 239 1 := rfl
theorem c_M_text_239 : cT 154 239 = o_iadd 240 := rfl
theorem c_M_text_240 : cT 154 240 = o_il 241 1 := rfl
theorem c_M_text_241 : cT 154 241 = o_ias 242 := rfl
theorem c_M_text_242 : cT 154 242 = o_al 243 0 := rfl
theorem c_M_text_243 : cT 154 243 = o_gf 246 10 0 := rfl
theorem c_M_text_246 : cT 154 246 = o_il 248 6 := rfl
theorem c_M_text_248 : cT 154 248 = o_ci 249 2 := rfl
theorem c_M_text_249 : cT 154 249 = o_iadd 250 := rfl
theorem c_M_text_250 : cT 154 250 = o_il 251 2 := rfl
theorem c_M_text_251 : cT 154 251 = o_ias 252 := rfl
theorem c_M_text_252 : cT 154 252 = o_al 253 0 := rfl
theorem c_M_text_253 : cT 154 253 = o_gf 256 10 0 := rfl
theorem c_M_text_256 : cT 154 256 = o_il 258 6 := rfl
theorem c_M_text_258 : cT 154 258 = o_ci 259 3 := rfl
theorem c_M_text_259 : cT 154 259 = o_iadd 260 := rfl
theorem c_M_text_260 : cT 154 260 = o_al 261 0 := rfl
theorem c_M_text_261 : cT 154 261 = o_gf 264 10 22 := rfl
theorem c_M_text_264 : cT 154 264 = o_ias 265 := rfl
theorem c_M_text_265 : cT 154 265 = o_ci 266 0 := rfl
theorem c_M_text_266 : cT 154 266 = o_is 268 7 := rfl
theorem c_M_text_268 : cT 154 268 = o_il 270 7 := rfl
theorem c_M_text_270 : cT 154 270 = o_al 271 0 := rfl
theorem c_M_text_271 : cT 154 271 = o_gf 274 10 21 := rfl
theorem c_M_text_274 : cT 154 274 = o_icge 277 302 := rfl
theorem c_M_text_277 : cT 154 277 = o_al 278 0 := rfl
theorem c_M_text_278 : cT 154 278 = o_gf 281 10 0 := rfl
theorem c_M_text_281 : cT 154 281 = o_il 283 6 := rfl
theorem c_M_text_283 : cT 154 283 = o_ci 284 4 := rfl
theorem c_M_text_284 : cT 154 284 = o_iadd 285 := rfl
theorem c_M_text_285 : cT 154 285 = o_il 287 7 := rfl
theorem c_M_text_287 : cT 154 287 = o_iadd 288 := rfl
theorem c_M_text_288 : cT 154 288 = o_al 289 0 := rfl
theorem c_M_text_289 : cT 154 289 = o_gf 292 10 20 := rfl
theorem c_M_text_292 : cT 154 292 = o_il 294 7 := rfl
theorem c_M_text_294 : cT 154 294 = o_ial 295 := rfl
theorem c_M_text_295 : cT 154 295 = o_ias 296 := rfl
theorem c_M_text_296 : cT 154 296 = o_inc 299 7 1 := rfl
theorem c_M_text_299 : cT 154 299 = o_goto 268 := rfl
theorem c_M_text_302 : cT 154 302 = o_al 303 0 := rfl
theorem c_M_text_303 : cT 154 303 = o_gf 306 10 0 := rfl
theorem c_M_text_306 : cT 154 306 = o_ci 308 7 := rfl
theorem c_M_text_308 : cT 154 308 = o_dup2 309 := rfl
theorem c_M_text_309 : cT 154 309 = o_ial 310 := rfl
theorem c_M_text_310 : cT 154 310 = o_ci 311 1 := rfl
theorem c_M_text_311 : cT 154 311 = o_iadd 312 := rfl
theorem c_M_text_312 : cT 154 312 = o_ias 313 := rfl
theorem c_M_text_313 : cT 154 313 = o_il 315 5 := rfl
theorem c_M_text_315 : cT 154 315 = o_iret .int := rfl
theorem c_M_of_0 : cT 156 0 = o_al 1 0 := rfl
theorem c_M_of_1 : cT 156 1 = o_il 2 1 := rfl
theorem c_M_of_2 : cT 156 2 = o_ci 4 7 := rfl
theorem c_M_of_4 : cT 156 4 = o_ca 7 29 3 3 false (some 10) := rfl
theorem c_M_of_7 : cT 156 7 = o_ifeq 10 22 := rfl
theorem c_M_of_10 : cT 156 10 = o_il 11 2 := rfl
theorem c_M_of_11 : cT 156 11 = o_i2l 12 := rfl
theorem c_M_of_12 : cT 156 12 = o_cl 13 0 := rfl
theorem c_M_of_13 : cT 156 13 = o_cl 16 3 := rfl
theorem c_M_of_16 : cT 156 16 = o_ca 19 17 3 6 false none := rfl
theorem c_M_of_19 : cT 156 19 = o_ifne 22 27 := rfl
theorem c_M_of_22 : cT 156 22 = o_ci 24 (-1000000001) := rfl
theorem c_M_of_24 : cT 156 24 = o_goto 42 := rfl
theorem c_M_of_27 : cT 156 27 = o_al 28 0 := rfl
theorem c_M_of_28 : cT 156 28 = o_gf 31 10 0 := rfl
theorem c_M_of_31 : cT 156 31 = o_ci 34 914 := rfl
theorem c_M_of_34 : cT 156 34 = o_ci 36 104 := rfl
theorem c_M_of_36 : cT 156 36 = o_il 37 1 := rfl
theorem c_M_of_37 : cT 156 37 = o_imul 38 := rfl
theorem c_M_of_38 : cT 156 38 = o_iadd 39 := rfl
theorem c_M_of_39 : cT 156 39 = o_il 40 2 := rfl
theorem c_M_of_40 : cT 156 40 = o_iadd 41 := rfl
theorem c_M_of_41 : cT 156 41 = o_ial 42 := rfl
theorem c_M_of_42 : cT 156 42 = o_iret .int := rfl
theorem c_M_why_0 : cT 158 0 = o_il 1 1 := rfl
theorem c_M_why_1 : cT 158 1 = o_i2l 2 := rfl
theorem c_M_why_2 : cT 158 2 = o_cl 3 0 := rfl
theorem c_M_why_3 : cT 158 3 = o_cl 6 7 := rfl
theorem c_M_why_6 : cT 158 6 = o_ca 9 17 3 6 false none := rfl
theorem c_M_why_9 : cT 158 9 = o_ifeq 12 24 := rfl
theorem c_M_why_12 : cT 158 12 = o_il 13 2 := rfl
theorem c_M_why_13 : cT 158 13 = o_i2l 14 := rfl
theorem c_M_why_14 : cT 158 14 = o_cl 15 0 := rfl
theorem c_M_why_15 : cT 158 15 = o_cl 18 4 := rfl
theorem c_M_why_18 : cT 158 18 = o_ca 21 17 3 6 false none := rfl
theorem c_M_why_21 : cT 158 21 = o_ifne 24 27 := rfl
theorem c_M_why_24 : cT 158 24 = o_ci 26 (-1000000001) := rfl
theorem c_M_why_26 : cT 158 26 = o_iret .int := rfl
theorem c_M_why_27 : cT 158 27 = o_al 28 0 := rfl
theorem c_M_why_28 : cT 158 28 = o_il 29 1 := rfl
theorem c_M_why_29 : cT 158 29 = o_il 30 2 := rfl
theorem c_M_why_30 : cT 158 30 = o_ca 33 88 3 7 false (some 10) := rfl
theorem c_M_why_33 : cT 158 33 = o_is 34 3 := rfl
theorem c_M_why_34 : cT 158 34 = o_il 35 3 := rfl
theorem c_M_why_35 : cT 158 35 = o_ifge 38 43 := rfl
theorem c_M_why_38 : cT 158 38 = o_ci 40 (-1000000005) := rfl
theorem c_M_why_40 : cT 158 40 = o_goto 44 := rfl
theorem c_M_why_43 : cT 158 43 = o_il 44 3 := rfl
theorem c_M_why_44 : cT 158 44 = o_iret .int := rfl
theorem c_M_rules_0 : cT 160 0 = o_il 1 1 := rfl
theorem c_M_rules_1 : cT 160 1 = o_i2l 2 := rfl
theorem c_M_rules_2 : cT 160 2 = o_cl 3 0 := rfl
theorem c_M_rules_3 : cT 160 3 = o_cl 6 7 := rfl
theorem c_M_rules_6 : cT 160 6 = o_ca 9 17 3 6 false none := rfl
theorem c_M_rules_9 : cT 160 9 = o_ifeq 12 24 := rfl
theorem c_M_rules_12 : cT 160 12 = o_il 13 2 := rfl
theorem c_M_rules_13 : cT 160 13 = o_i2l 14 := rfl
theorem c_M_rules_14 : cT 160 14 = o_cl 15 0 := rfl
theorem c_M_rules_15 : cT 160 15 = o_cl 18 4 := rfl
theorem c_M_rules_18 : cT 160 18 = o_ca 21 17 3 6 false none := rfl
theorem c_M_rules_21 : cT 160 21 = o_ifne 24 29 := rfl
theorem c_M_rules_24 : cT 160 24 = o_ci 26 (-1000000001) := rfl
theorem c_M_rules_26 : cT 160 26 = o_goto 42 := rfl
theorem c_M_rules_29 : cT 160 29 = o_al 30 0 := rfl
theorem c_M_rules_30 : cT 160 30 = o_il 31 1 := rfl
theorem c_M_rules_31 : cT 160 31 = o_il 32 2 := rfl
theorem c_M_rules_32 : cT 160 32 = o_il 33 3 := rfl
theorem c_M_rules_33 : cT 160 33 = o_il 35 4 := rfl
theorem c_M_rules_35 : cT 160 35 = o_il 37 5 := rfl
theorem c_M_rules_37 : cT 160 37 = o_il 39 6 := rfl
theorem c_M_rules_39 : cT 160 39 = o_ca 42 91 7 12 false (some 10) := rfl
theorem c_M_rules_42 : cT 160 42 = o_iret .int := rfl
theorem c_M_paper_0 : cT 163 0 = o_il 1 1 := rfl
theorem c_M_paper_1 : cT 163 1 = o_ci 2 3 := rfl
theorem c_M_paper_2 : cT 163 2 = o_icne 5 14 := rfl
theorem c_M_paper_5 : cT 163 5 = o_al 6 0 := rfl
theorem c_M_paper_6 : cT 163 6 = o_gf 9 10 0 := rfl
theorem c_M_paper_9 : cT 163 9 = o_ci 10 0 := rfl
theorem c_M_paper_10 : cT 163 10 = o_ial 11 := rfl
theorem c_M_paper_11 : cT 163 11 = o_goto 29 := rfl
theorem c_M_paper_14 : cT 163 14 = o_il 15 1 := rfl
theorem c_M_paper_15 : cT 163 15 = o_ci 16 1 := rfl
theorem c_M_paper_16 : cT 163 16 = o_iceq 19 24 := rfl
theorem c_M_paper_19 : cT 163 19 = o_il 20 1 := rfl
theorem c_M_paper_20 : cT 163 20 = o_ci 21 2 := rfl
theorem c_M_paper_21 : cT 163 21 = o_icne 24 28 := rfl
theorem c_M_paper_24 : cT 163 24 = o_ci 25 1 := rfl
theorem c_M_paper_25 : cT 163 25 = o_goto 29 := rfl
theorem c_M_paper_28 : cT 163 28 = o_ci 29 0 := rfl
theorem c_M_paper_29 : cT 163 29 = o_is 31 4 := rfl
theorem c_M_paper_31 : cT 163 31 = o_il 32 1 := rfl
theorem c_M_paper_32 : cT 163 32 = o_ci 33 3 := rfl
theorem c_M_paper_33 : cT 163 33 = o_icne 36 42 := rfl
theorem c_M_paper_36 : cT 163 36 = o_ci 39 9999 := rfl
theorem c_M_paper_39 : cT 163 39 = o_goto 69 := rfl
theorem c_M_paper_42 : cT 163 42 = o_il 43 1 := rfl
theorem c_M_paper_43 : cT 163 43 = o_ci 44 1 := rfl
theorem c_M_paper_44 : cT 163 44 = o_iceq 47 52 := rfl
theorem c_M_paper_47 : cT 163 47 = o_il 48 1 := rfl
theorem c_M_paper_48 : cT 163 48 = o_ci 49 2 := rfl
theorem c_M_paper_49 : cT 163 49 = o_icne 52 58 := rfl
theorem c_M_paper_52 : cT 163 52 = o_ci 55 999 := rfl
theorem c_M_paper_55 : cT 163 55 = o_goto 69 := rfl
theorem c_M_paper_58 : cT 163 58 = o_il 59 1 := rfl
theorem c_M_paper_59 : cT 163 59 = o_ci 60 4 := rfl
theorem c_M_paper_60 : cT 163 60 = o_icne 63 68 := rfl
theorem c_M_paper_63 : cT 163 63 = o_ci 65 9 := rfl
theorem c_M_paper_65 : cT 163 65 = o_goto 69 := rfl
theorem c_M_paper_68 : cT 163 68 = o_ci 69 0 := rfl
theorem c_M_paper_69 : cT 163 69 = o_is 71 5 := rfl
theorem c_M_paper_71 : cT 163 71 = o_il 72 1 := rfl
theorem c_M_paper_72 : cT 163 72 = o_i2l 73 := rfl
theorem c_M_paper_73 : cT 163 73 = o_cl 74 0 := rfl
theorem c_M_paper_74 : cT 163 74 = o_cl 77 4 := rfl
theorem c_M_paper_77 : cT 163 77 = o_ca 80 17 3 6 false none := rfl
theorem c_M_paper_80 : cT 163 80 = o_ifeq 83 106 := rfl
theorem c_M_paper_83 : cT 163 83 = o_al 84 0 := rfl
theorem c_M_paper_84 : cT 163 84 = o_il 85 2 := rfl
theorem c_M_paper_85 : cT 163 85 = o_ci 86 2 := rfl
theorem c_M_paper_86 : cT 163 86 = o_ca 89 29 3 3 false (some 10) := rfl
theorem c_M_paper_89 : cT 163 89 = o_ifeq 92 106 := rfl
theorem c_M_paper_92 : cT 163 92 = o_il 93 3 := rfl
theorem c_M_paper_93 : cT 163 93 = o_i2l 94 := rfl
theorem c_M_paper_94 : cT 163 94 = o_il 96 4 := rfl
theorem c_M_paper_96 : cT 163 96 = o_i2l 97 := rfl
theorem c_M_paper_97 : cT 163 97 = o_il 99 5 := rfl
theorem c_M_paper_99 : cT 163 99 = o_i2l 100 := rfl
theorem c_M_paper_100 : cT 163 100 = o_ca 103 17 3 6 false none := rfl
theorem c_M_paper_103 : cT 163 103 = o_ifne 106 109 := rfl
theorem c_M_paper_106 : cT 163 106 = o_ci 108 (-1000000001) := rfl
theorem c_M_paper_108 : cT 163 108 = o_iret .int := rfl
theorem c_M_paper_109 : cT 163 109 = o_al 110 0 := rfl
theorem c_M_paper_110 : cT 163 110 = o_gf 113 10 0 := rfl
theorem c_M_paper_113 : cT 163 113 = o_ci 115 8 := rfl
theorem c_M_paper_115 : cT 163 115 = o_ial 116 := rfl
theorem c_M_paper_116 : cT 163 116 = o_is 118 6 := rfl
theorem c_M_paper_118 : cT 163 118 = o_il 120 6 := rfl
theorem c_M_paper_120 : cT 163 120 = o_ci 122 40 := rfl
theorem c_M_paper_122 : cT 163 122 = o_icne 125 128 := rfl
theorem c_M_paper_125 : cT 163 125 = o_ci 127 (-1000000003) := rfl
theorem c_M_paper_127 : cT 163 127 = o_iret .int := rfl
theorem c_M_paper_128 : cT 163 128 = o_al 129 0 := rfl
theorem c_M_paper_129 : cT 163 129 = o_gf 132 10 0 := rfl
theorem c_M_paper_132 : cT 163 132 = o_ci 135 474 := rfl
theorem c_M_paper_135 : cT 163 135 = o_ci 136 4 := rfl
theorem c_M_paper_136 : cT 163 136 = o_il 138 6 := rfl
theorem c_M_paper_138 : cT 163 138 = o_imul 139 := rfl
theorem c_M_paper_139 : cT 163 139 = o_iadd 140 := rfl
theorem c_M_paper_140 : cT 163 140 = o_il 141 1 := rfl
theorem c_M_paper_141 : cT 163 141 = o_ias 142 := rfl
theorem c_M_paper_142 : cT 163 142 = o_al 143 0 := rfl
theorem c_M_paper_143 : cT 163 143 = o_gf 146 10 0 := rfl
theorem c_M_paper_146 : cT 163 146 = o_ci 149 474 := rfl
theorem c_M_paper_149 : cT 163 149 = o_ci 150 4 := rfl
theorem c_M_paper_150 : cT 163 150 = o_il 152 6 := rfl
theorem c_M_paper_152 : cT 163 152 = o_imul 153 := rfl
theorem c_M_paper_153 : cT 163 153 = o_iadd 154 := rfl
theorem c_M_paper_154 : cT 163 154 = o_ci 155 1 := rfl
theorem c_M_paper_155 : cT 163 155 = o_iadd 156 := rfl
theorem c_M_paper_156 : cT 163 156 = o_il 157 2 := rfl
theorem c_M_paper_157 : cT 163 157 = o_ias 158 := rfl
theorem c_M_paper_158 : cT 163 158 = o_al 159 0 := rfl
theorem c_M_paper_159 : cT 163 159 = o_gf 162 10 0 := rfl
theorem c_M_paper_162 : cT 163 162 = o_ci 165 474 := rfl
theorem c_M_paper_165 : cT 163 165 = o_ci 166 4 := rfl
theorem c_M_paper_166 : cT 163 166 = o_il 168 6 := rfl
theorem c_M_paper_168 : cT 163 168 = o_imul 169 := rfl
theorem c_M_paper_169 : cT 163 169 = o_iadd 170 := rfl
theorem c_M_paper_170 : cT 163 170 = o_ci 171 2 := rfl
theorem c_M_paper_171 : cT 163 171 = o_iadd 172 := rfl
theorem c_M_paper_172 : cT 163 172 = o_il 173 3 := rfl
theorem c_M_paper_173 : cT 163 173 = o_ias 174 := rfl
theorem c_M_paper_174 : cT 163 174 = o_al 175 0 := rfl
theorem c_M_paper_175 : cT 163 175 = o_gf 178 10 0 := rfl
theorem c_M_paper_178 : cT 163 178 = o_ci 181 474 := rfl
theorem c_M_paper_181 : cT 163 181 = o_ci 182 4 := rfl
theorem c_M_paper_182 : cT 163 182 = o_il 184 6 := rfl
theorem c_M_paper_184 : cT 163 184 = o_imul 185 := rfl
theorem c_M_paper_185 : cT 163 185 = o_iadd 186 := rfl
theorem c_M_paper_186 : cT 163 186 = o_ci 187 3 := rfl
theorem c_M_paper_187 : cT 163 187 = o_iadd 188 := rfl
theorem c_M_paper_188 : cT 163 188 = o_al 189 0 := rfl
theorem c_M_paper_189 : cT 163 189 = o_gf 192 10 0 := rfl
theorem c_M_paper_192 : cT 163 192 = o_ci 193 0 := rfl
theorem c_M_paper_193 : cT 163 193 = o_ial 194 := rfl
theorem c_M_paper_194 : cT 163 194 = o_ias 195 := rfl
theorem c_M_paper_195 : cT 163 195 = o_al 196 0 := rfl
theorem c_M_paper_196 : cT 163 196 = o_gf 199 10 0 := rfl
theorem c_M_paper_199 : cT 163 199 = o_ci 201 8 := rfl
theorem c_M_paper_201 : cT 163 201 = o_dup2 202 := rfl
theorem c_M_paper_202 : cT 163 202 = o_ial 203 := rfl
theorem c_M_paper_203 : cT 163 203 = o_ci 204 1 := rfl
theorem c_M_paper_204 : cT 163 204 = o_iadd 205 := rfl
theorem c_M_paper_205 : cT 163 205 = o_ias 206 := rfl
theorem c_M_paper_206 : cT 163 206 = o_il 208 6 := rfl
theorem c_M_paper_208 : cT 163 208 = o_iret .int := rfl
theorem c_M_paperTold_0 : cT 167 0 = o_al 1 0 := rfl
theorem c_M_paperTold_1 : cT 167 1 = o_il 2 1 := rfl
theorem c_M_paperTold_2 : cT 167 2 = o_ci 4 8 := rfl
theorem c_M_paperTold_4 : cT 167 4 = o_ca 7 29 3 3 false (some 10) := rfl
theorem c_M_paperTold_7 : cT 167 7 = o_ifeq 10 22 := rfl
theorem c_M_paperTold_10 : cT 167 10 = o_il 11 2 := rfl
theorem c_M_paperTold_11 : cT 167 11 = o_i2l 12 := rfl
theorem c_M_paperTold_12 : cT 167 12 = o_cl 13 0 := rfl
theorem c_M_paperTold_13 : cT 167 13 = o_cl 16 4 := rfl
theorem c_M_paperTold_16 : cT 167 16 = o_ca 19 17 3 6 false none := rfl
theorem c_M_paperTold_19 : cT 167 19 = o_ifne 22 25 := rfl
theorem c_M_paperTold_22 : cT 167 22 = o_ci 24 (-1000000001) := rfl
theorem c_M_paperTold_24 : cT 167 24 = o_iret .int := rfl
theorem c_M_paperTold_25 : cT 167 25 = o_ci 28 474 := rfl
theorem c_M_paperTold_28 : cT 167 28 = o_ci 29 4 := rfl
theorem c_M_paperTold_29 : cT 167 29 = o_il 30 1 := rfl
theorem c_M_paperTold_30 : cT 167 30 = o_imul 31 := rfl
theorem c_M_paperTold_31 : cT 167 31 = o_iadd 32 := rfl
theorem c_M_paperTold_32 : cT 167 32 = o_is 33 3 := rfl
theorem c_M_paperTold_33 : cT 167 33 = o_al 34 0 := rfl
theorem c_M_paperTold_34 : cT 167 34 = o_gf 37 10 0 := rfl
theorem c_M_paperTold_37 : cT 167 37 = o_il 38 3 := rfl
theorem c_M_paperTold_38 : cT 167 38 = o_ial 39 := rfl
theorem c_M_paperTold_39 : cT 167 39 = o_ci 40 1 := rfl
theorem c_M_paperTold_40 : cT 167 40 = o_iceq 43 53 := rfl
theorem c_M_paperTold_43 : cT 167 43 = o_al 44 0 := rfl
theorem c_M_paperTold_44 : cT 167 44 = o_gf 47 10 0 := rfl
theorem c_M_paperTold_47 : cT 167 47 = o_il 48 3 := rfl
theorem c_M_paperTold_48 : cT 167 48 = o_ial 49 := rfl
theorem c_M_paperTold_49 : cT 167 49 = o_ci 50 2 := rfl
theorem c_M_paperTold_50 : cT 167 50 = o_icne 53 57 := rfl
theorem c_M_paperTold_53 : cT 167 53 = o_ci 54 1 := rfl
theorem c_M_paperTold_54 : cT 167 54 = o_goto 58 := rfl
theorem c_M_paperTold_57 : cT 167 57 = o_ci 58 0 := rfl
theorem c_M_paperTold_58 : cT 167 58 = o_is 60 4 := rfl
theorem c_M_paperTold_60 : cT 167 60 = o_il 61 2 := rfl
theorem c_M_paperTold_61 : cT 167 61 = o_ci 62 4 := rfl
theorem c_M_paperTold_62 : cT 167 62 = o_icge 65 76 := rfl
theorem c_M_paperTold_65 : cT 167 65 = o_al 66 0 := rfl
theorem c_M_paperTold_66 : cT 167 66 = o_gf 69 10 0 := rfl
theorem c_M_paperTold_69 : cT 167 69 = o_il 70 3 := rfl
theorem c_M_paperTold_70 : cT 167 70 = o_il 71 2 := rfl
theorem c_M_paperTold_71 : cT 167 71 = o_iadd 72 := rfl
theorem c_M_paperTold_72 : cT 167 72 = o_ial 73 := rfl
theorem c_M_paperTold_73 : cT 167 73 = o_goto 105 := rfl
theorem c_M_paperTold_76 : cT 167 76 = o_il 78 4 := rfl
theorem c_M_paperTold_78 : cT 167 78 = o_ifeq 81 103 := rfl
theorem c_M_paperTold_81 : cT 167 81 = o_al 82 0 := rfl
theorem c_M_paperTold_82 : cT 167 82 = o_gf 85 10 0 := rfl
theorem c_M_paperTold_85 : cT 167 85 = o_il 86 3 := rfl
theorem c_M_paperTold_86 : cT 167 86 = o_ci 87 3 := rfl
theorem c_M_paperTold_87 : cT 167 87 = o_iadd 88 := rfl
theorem c_M_paperTold_88 : cT 167 88 = o_ial 89 := rfl
theorem c_M_paperTold_89 : cT 167 89 = o_al 90 0 := rfl
theorem c_M_paperTold_90 : cT 167 90 = o_gf 93 10 0 := rfl
theorem c_M_paperTold_93 : cT 167 93 = o_il 94 3 := rfl
theorem c_M_paperTold_94 : cT 167 94 = o_ci 95 2 := rfl
theorem c_M_paperTold_95 : cT 167 95 = o_iadd 96 := rfl
theorem c_M_paperTold_96 : cT 167 96 = o_ial 97 := rfl
theorem c_M_paperTold_97 : cT 167 97 = o_iadd 98 := rfl
theorem c_M_paperTold_98 : cT 167 98 = o_ci 99 1 := rfl
theorem c_M_paperTold_99 : cT 167 99 = o_isub 100 := rfl
theorem c_M_paperTold_100 : cT 167 100 = o_goto 105 := rfl
theorem c_M_paperTold_103 : cT 167 103 = o_ci 105 (-1000000005) := rfl
theorem c_M_paperTold_105 : cT 167 105 = o_iret .int := rfl
theorem c_M_above_0 : cT 169 0 = o_il 1 0 := rfl
theorem c_M_above_1 : cT 169 1 = o_ci 2 2 := rfl
theorem c_M_above_2 : cT 169 2 = o_icne 5 9 := rfl
theorem c_M_above_5 : cT 169 5 = o_ci 6 1 := rfl
theorem c_M_above_6 : cT 169 6 = o_goto 18 := rfl
theorem c_M_above_9 : cT 169 9 = o_il 10 0 := rfl
theorem c_M_above_10 : cT 169 10 = o_ifne 13 17 := rfl
theorem c_M_above_13 : cT 169 13 = o_ci 14 (-1) := rfl
theorem c_M_above_14 : cT 169 14 = o_goto 18 := rfl
theorem c_M_above_17 : cT 169 17 = o_ci 18 0 := rfl
theorem c_M_above_18 : cT 169 18 = o_iret .int := rfl
theorem c_M_as_0 : cT 170 0 = o_al 1 0 := rfl
theorem c_M_as_1 : cT 170 1 = o_il 2 1 := rfl
theorem c_M_as_2 : cT 170 2 = o_ci 4 8 := rfl
theorem c_M_as_4 : cT 170 4 = o_ca 7 29 3 3 false (some 10) := rfl
theorem c_M_as_7 : cT 170 7 = o_ifeq 10 22 := rfl
theorem c_M_as_10 : cT 170 10 = o_il 11 2 := rfl
theorem c_M_as_11 : cT 170 11 = o_i2l 12 := rfl
theorem c_M_as_12 : cT 170 12 = o_cl 13 0 := rfl
theorem c_M_as_13 : cT 170 13 = o_cl 16 4 := rfl
theorem c_M_as_16 : cT 170 16 = o_ca 19 17 3 6 false none := rfl
theorem c_M_as_19 : cT 170 19 = o_ifne 22 25 := rfl
theorem c_M_as_22 : cT 170 22 = o_ci 24 (-1000000001) := rfl
theorem c_M_as_24 : cT 170 24 = o_iret .int := rfl
theorem c_M_as_25 : cT 170 25 = o_al 26 0 := rfl
theorem c_M_as_26 : cT 170 26 = o_gf 29 10 0 := rfl
theorem c_M_as_29 : cT 170 29 = o_ci 32 474 := rfl
theorem c_M_as_32 : cT 170 32 = o_ci 33 4 := rfl
theorem c_M_as_33 : cT 170 33 = o_il 34 1 := rfl
theorem c_M_as_34 : cT 170 34 = o_imul 35 := rfl
theorem c_M_as_35 : cT 170 35 = o_iadd 36 := rfl
theorem c_M_as_36 : cT 170 36 = o_ial 37 := rfl
theorem c_M_as_37 : cT 170 37 = o_is 38 3 := rfl
theorem c_M_as_38 : cT 170 38 = o_il 39 3 := rfl
theorem c_M_as_39 : cT 170 39 = o_iflt 42 55 := rfl
theorem c_M_as_42 : cT 170 42 = o_il 43 3 := rfl
theorem c_M_as_43 : cT 170 43 = o_il 44 2 := rfl
theorem c_M_as_44 : cT 170 44 = o_iceq 47 55 := rfl
theorem c_M_as_47 : cT 170 47 = o_il 48 3 := rfl
theorem c_M_as_48 : cT 170 48 = o_ca 51 169 1 1 false none := rfl
theorem c_M_as_51 : cT 170 51 = o_is 52 3 := rfl
theorem c_M_as_52 : cT 170 52 = o_goto 38 := rfl
theorem c_M_as_55 : cT 170 55 = o_il 56 3 := rfl
theorem c_M_as_56 : cT 170 56 = o_ifge 59 64 := rfl
theorem c_M_as_59 : cT 170 59 = o_ci 61 (-1000000012) := rfl
theorem c_M_as_61 : cT 170 61 = o_goto 78 := rfl
theorem c_M_as_64 : cT 170 64 = o_al 65 0 := rfl
theorem c_M_as_65 : cT 170 65 = o_gf 68 10 0 := rfl
theorem c_M_as_68 : cT 170 68 = o_ci 71 474 := rfl
theorem c_M_as_71 : cT 170 71 = o_ci 72 4 := rfl
theorem c_M_as_72 : cT 170 72 = o_il 73 1 := rfl
theorem c_M_as_73 : cT 170 73 = o_imul 74 := rfl
theorem c_M_as_74 : cT 170 74 = o_iadd 75 := rfl
theorem c_M_as_75 : cT 170 75 = o_ci 76 2 := rfl
theorem c_M_as_76 : cT 170 76 = o_iadd 77 := rfl
theorem c_M_as_77 : cT 170 77 = o_ial 78 := rfl
theorem c_M_as_78 : cT 170 78 = o_iret .int := rfl
