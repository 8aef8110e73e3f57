/-! which instruction stands where -/
theorem c_JM_max_0 : cT 0 0 = o_il 1 0 := rfl
theorem c_JM_max_1 : cT 0 1 = o_il 2 1 := rfl
theorem c_JM_max_2 : cT 0 2 = o_iclt 5 9 := rfl
theorem c_JM_max_5 : cT 0 5 = o_il 6 0 := rfl
theorem c_JM_max_6 : cT 0 6 = o_goto 10 := rfl
theorem c_JM_max_9 : cT 0 9 = o_il 10 1 := rfl
theorem c_JM_max_10 : cT 0 10 = o_iret .int := rfl
theorem c_X_init_0 : cT 9 0 = o_al 1 0 := rfl
theorem c_X_init_1 : cT 9 1 = o_oin 4 := rfl
theorem c_X_init_4 : cT 9 4 = o_al 5 0 := rfl
theorem c_X_init_5 : cT 9 5 = o_new 8 0 12 [.null, .null, .null, .null, .null, .null, .null, .null, .int 0, .int 0, .int 0, .int 0] := rfl
theorem c_X_init_8 : cT 9 8 = o_dup 9 := rfl
theorem c_X_init_9 : cT 9 9 = o_ca 12 5 1 1 false (some 0) := rfl
theorem c_X_init_12 : cT 9 12 = o_pf 15 9 0 2 := rfl
theorem c_X_init_15 : cT 9 15 = o_al 16 0 := rfl
theorem c_X_init_16 : cT 9 16 = o_new 19 0 12 [.null, .null, .null, .null, .null, .null, .null, .null, .int 0, .int 0, .int 0, .int 0] := rfl
theorem c_X_init_19 : cT 9 19 = o_dup 20 := rfl
theorem c_X_init_20 : cT 9 20 = o_ca 23 5 1 1 false (some 0) := rfl
theorem c_X_init_23 : cT 9 23 = o_pf 26 9 1 2 := rfl
theorem c_X_init_26 : cT 9 26 = o_al 27 0 := rfl
theorem c_X_init_27 : cT 9 27 = o_new 30 0 12 [.null, .null, .null, .null, .null, .null, .null, .null, .int 0, .int 0, .int 0, .int 0] := rfl
theorem c_X_init_30 : cT 9 30 = o_dup 31 := rfl
theorem c_X_init_31 : cT 9 31 = o_ca 34 5 1 1 false (some 0) := rfl
theorem c_X_init_34 : cT 9 34 = o_pf 37 9 2 2 := rfl
theorem c_X_init_37 : cT 9 37 = o_al 38 0 := rfl
theorem c_X_init_38 : cT 9 38 = o_new 41 5 2 [.null, .int 0] := rfl
theorem c_X_init_41 : cT 9 41 = o_dup 42 := rfl
theorem c_X_init_42 : cT 9 42 = o_ca 45 6 1 1 false (some 5) := rfl
theorem c_X_init_45 : cT 9 45 = o_pf 48 9 4 2 := rfl
theorem c_X_init_48 : cT 9 48 = o_al 49 0 := rfl
theorem c_X_init_49 : cT 9 49 = o_new 52 7 9 [.null, .null, .int 0, .int 0, .int 0, .int 0, .int 0, .int 0, .int 0] := rfl
theorem c_X_init_52 : cT 9 52 = o_dup 53 := rfl
theorem c_X_init_53 : cT 9 53 = o_al 54 0 := rfl
theorem c_X_init_54 : cT 9 54 = o_gf 57 9 4 := rfl
theorem c_X_init_57 : cT 9 57 = o_ca 60 7 2 2 false (some 7) := rfl
theorem c_X_init_60 : cT 9 60 = o_pf 63 9 5 2 := rfl
theorem c_X_init_63 : cT 9 63 = o_al 64 0 := rfl
theorem c_X_init_64 : cT 9 64 = o_ci 65 4 := rfl
theorem c_X_init_65 : cT 9 65 = o_na 68 3 := rfl
theorem c_X_init_68 : cT 9 68 = o_dup 69 := rfl
theorem c_X_init_69 : cT 9 69 = o_ci 70 0 := rfl
theorem c_X_init_70 : cT 9 70 = o_new 73 3 3 [.null, .int 0, .int 0] := rfl
theorem c_X_init_73 : cT 9 73 = o_dup 74 := rfl
theorem c_X_init_74 : cT 9 74 = o_ca 77 8 1 1 false (some 3) := rfl
theorem c_X_init_77 : cT 9 77 = o_aas 78 3 3 := rfl
theorem c_X_init_78 : cT 9 78 = o_dup 79 := rfl
theorem c_X_init_79 : cT 9 79 = o_ci 80 1 := rfl
theorem c_X_init_80 : cT 9 80 = o_new 83 3 3 [.null, .int 0, .int 0] := rfl
theorem c_X_init_83 : cT 9 83 = o_dup 84 := rfl
theorem c_X_init_84 : cT 9 84 = o_ca 87 8 1 1 false (some 3) := rfl
theorem c_X_init_87 : cT 9 87 = o_aas 88 3 3 := rfl
theorem c_X_init_88 : cT 9 88 = o_dup 89 := rfl
theorem c_X_init_89 : cT 9 89 = o_ci 90 2 := rfl
theorem c_X_init_90 : cT 9 90 = o_new 93 3 3 [.null, .int 0, .int 0] := rfl
theorem c_X_init_93 : cT 9 93 = o_dup 94 := rfl
theorem c_X_init_94 : cT 9 94 = o_ca 97 8 1 1 false (some 3) := rfl
theorem c_X_init_97 : cT 9 97 = o_aas 98 3 3 := rfl
theorem c_X_init_98 : cT 9 98 = o_dup 99 := rfl
theorem c_X_init_99 : cT 9 99 = o_ci 100 3 := rfl
theorem c_X_init_100 : cT 9 100 = o_new 103 3 3 [.null, .int 0, .int 0] := rfl
theorem c_X_init_103 : cT 9 103 = o_dup 104 := rfl
theorem c_X_init_104 : cT 9 104 = o_ca 107 8 1 1 false (some 3) := rfl
theorem c_X_init_107 : cT 9 107 = o_aas 108 3 3 := rfl
theorem c_X_init_108 : cT 9 108 = o_pf 111 9 6 2 := rfl
theorem c_X_init_111 : cT 9 111 = o_al 112 0 := rfl
theorem c_X_init_112 : cT 9 112 = o_ci 114 60 := rfl
theorem c_X_init_114 : cT 9 114 = o_na 116 0 := rfl
theorem c_X_init_116 : cT 9 116 = o_pf 119 9 7 2 := rfl
theorem c_X_init_119 : cT 9 119 = o_vret := rfl
theorem c_X_within_0 : cT 11 0 = o_il 1 0 := rfl
theorem c_X_within_1 : cT 11 1 = o_il 2 1 := rfl
theorem c_X_within_2 : cT 11 2 = o_iclt 5 14 := rfl
theorem c_X_within_5 : cT 11 5 = o_il 6 0 := rfl
theorem c_X_within_6 : cT 11 6 = o_il 7 2 := rfl
theorem c_X_within_7 : cT 11 7 = o_icgt 10 14 := rfl
theorem c_X_within_10 : cT 11 10 = o_ci 11 1 := rfl
theorem c_X_within_11 : cT 11 11 = o_goto 15 := rfl
theorem c_X_within_14 : cT 11 14 = o_ci 15 0 := rfl
theorem c_X_within_15 : cT 11 15 = o_iret .boolean := rfl
theorem c_X_person_0 : cT 16 0 = o_il 1 1 := rfl
theorem c_X_person_1 : cT 16 1 = o_ci 2 0 := rfl
theorem c_X_person_2 : cT 16 2 = o_ci 4 7 := rfl
theorem c_X_person_4 : cT 16 4 = o_ca 7 11 3 3 false none := rfl
theorem c_X_person_7 : cT 16 7 = o_ifeq 10 19 := rfl
theorem c_X_person_10 : cT 16 10 = o_il 11 2 := rfl
theorem c_X_person_11 : cT 16 11 = o_ci 12 0 := rfl
theorem c_X_person_12 : cT 16 12 = o_ci 13 5 := rfl
theorem c_X_person_13 : cT 16 13 = o_ca 16 11 3 3 false none := rfl
theorem c_X_person_16 : cT 16 16 = o_ifne 19 22 := rfl
theorem c_X_person_19 : cT 16 19 = o_ci 21 (-1000000001) := rfl
theorem c_X_person_21 : cT 16 21 = o_iret .int := rfl
theorem c_X_person_22 : cT 16 22 = o_il 23 3 := rfl
theorem c_X_person_23 : cT 16 23 = o_ci 24 0 := rfl
theorem c_X_person_24 : cT 16 24 = o_ci 27 255 := rfl
theorem c_X_person_27 : cT 16 27 = o_ca 30 11 3 3 false none := rfl
theorem c_X_person_30 : cT 16 30 = o_ifeq 33 43 := rfl
theorem c_X_person_33 : cT 16 33 = o_il 35 4 := rfl
theorem c_X_person_35 : cT 16 35 = o_ci 36 0 := rfl
theorem c_X_person_36 : cT 16 36 = o_ci 37 1 := rfl
theorem c_X_person_37 : cT 16 37 = o_ca 40 11 3 3 false none := rfl
theorem c_X_person_40 : cT 16 40 = o_ifne 43 46 := rfl
theorem c_X_person_43 : cT 16 43 = o_ci 45 (-1000000001) := rfl
theorem c_X_person_45 : cT 16 45 = o_iret .int := rfl
theorem c_X_person_46 : cT 16 46 = o_al 47 0 := rfl
theorem c_X_person_47 : cT 16 47 = o_gf 50 9 0 := rfl
theorem c_X_person_50 : cT 16 50 = o_gf 53 0 0 := rfl
theorem c_X_person_53 : cT 16 53 = o_ca 56 12 1 1 false (some 2) := rfl
theorem c_X_person_56 : cT 16 56 = o_ifne 59 75 := rfl
theorem c_X_person_59 : cT 16 59 = o_al 60 0 := rfl
theorem c_X_person_60 : cT 16 60 = o_gf 63 9 0 := rfl
theorem c_X_person_63 : cT 16 63 = o_gf 66 0 6 := rfl
theorem c_X_person_66 : cT 16 66 = o_gf 69 8 1 := rfl
theorem c_X_person_69 : cT 16 69 = o_ca 72 12 1 1 false (some 2) := rfl
theorem c_X_person_72 : cT 16 72 = o_ifeq 75 78 := rfl
theorem c_X_person_75 : cT 16 75 = o_ci 77 (-1000000003) := rfl
theorem c_X_person_77 : cT 16 77 = o_iret .int := rfl
theorem c_X_person_78 : cT 16 78 = o_al 79 0 := rfl
theorem c_X_person_79 : cT 16 79 = o_gf 82 9 0 := rfl
theorem c_X_person_82 : cT 16 82 = o_gf 85 0 0 := rfl
theorem c_X_person_85 : cT 16 85 = o_il 86 1 := rfl
theorem c_X_person_86 : cT 16 86 = o_il 87 2 := rfl
theorem c_X_person_87 : cT 16 87 = o_il 88 3 := rfl
theorem c_X_person_88 : cT 16 88 = o_ci 89 0 := rfl
theorem c_X_person_89 : cT 16 89 = o_ca 92 14 5 7 false (some 2) := rfl
theorem c_X_person_92 : cT 16 92 = o_is 94 5 := rfl
theorem c_X_person_94 : cT 16 94 = o_al 95 0 := rfl
theorem c_X_person_95 : cT 16 95 = o_gf 98 9 0 := rfl
theorem c_X_person_98 : cT 16 98 = o_gf 101 0 0 := rfl
theorem c_X_person_101 : cT 16 101 = o_il 103 5 := rfl
theorem c_X_person_103 : cT 16 103 = o_ci 104 4 := rfl
theorem c_X_person_104 : cT 16 104 = o_il 106 4 := rfl
theorem c_X_person_106 : cT 16 106 = o_ca 109 13 4 5 false (some 2) := rfl
theorem c_X_person_109 : cT 16 109 = o_al 110 0 := rfl
theorem c_X_person_110 : cT 16 110 = o_gf 113 9 0 := rfl
theorem c_X_person_113 : cT 16 113 = o_gf 116 0 6 := rfl
theorem c_X_person_116 : cT 16 116 = o_il 118 5 := rfl
theorem c_X_person_118 : cT 16 118 = o_al 119 0 := rfl
theorem c_X_person_119 : cT 16 119 = o_gf 122 9 0 := rfl
theorem c_X_person_122 : cT 16 122 = o_gf 125 0 8 := rfl
theorem c_X_person_125 : cT 16 125 = o_ca 128 15 3 3 false (some 8) := rfl
theorem c_X_person_128 : cT 16 128 = o_il 130 5 := rfl
theorem c_X_person_130 : cT 16 130 = o_iret .int := rfl
theorem c_JI_bitCount_0 : cT 24 0 = o_il 1 0 := rfl
theorem c_JI_bitCount_1 : cT 24 1 = o_il 2 0 := rfl
theorem c_JI_bitCount_2 : cT 24 2 = o_ci 3 1 := rfl
theorem c_JI_bitCount_3 : cT 24 3 = o_iushr 4 := rfl
theorem c_JI_bitCount_4 : cT 24 4 = o_ci 7 1431655765 := rfl
theorem c_JI_bitCount_7 : cT 24 7 = o_iand 8 := rfl
theorem c_JI_bitCount_8 : cT 24 8 = o_isub 9 := rfl
theorem c_JI_bitCount_9 : cT 24 9 = o_is 10 0 := rfl
theorem c_JI_bitCount_10 : cT 24 10 = o_il 11 0 := rfl
theorem c_JI_bitCount_11 : cT 24 11 = o_ci 14 858993459 := rfl
theorem c_JI_bitCount_14 : cT 24 14 = o_iand 15 := rfl
theorem c_JI_bitCount_15 : cT 24 15 = o_il 16 0 := rfl
theorem c_JI_bitCount_16 : cT 24 16 = o_ci 17 2 := rfl
theorem c_JI_bitCount_17 : cT 24 17 = o_iushr 18 := rfl
theorem c_JI_bitCount_18 : cT 24 18 = o_ci 21 858993459 := rfl
theorem c_JI_bitCount_21 : cT 24 21 = o_iand 22 := rfl
theorem c_JI_bitCount_22 : cT 24 22 = o_iadd 23 := rfl
theorem c_JI_bitCount_23 : cT 24 23 = o_is 24 0 := rfl
theorem c_JI_bitCount_24 : cT 24 24 = o_il 25 0 := rfl
theorem c_JI_bitCount_25 : cT 24 25 = o_il 26 0 := rfl
theorem c_JI_bitCount_26 : cT 24 26 = o_ci 27 4 := rfl
theorem c_JI_bitCount_27 : cT 24 27 = o_iushr 28 := rfl
theorem c_JI_bitCount_28 : cT 24 28 = o_iadd 29 := rfl
theorem c_JI_bitCount_29 : cT 24 29 = o_ci 32 252645135 := rfl
theorem c_JI_bitCount_32 : cT 24 32 = o_iand 33 := rfl
theorem c_JI_bitCount_33 : cT 24 33 = o_is 34 0 := rfl
theorem c_JI_bitCount_34 : cT 24 34 = o_il 35 0 := rfl
theorem c_JI_bitCount_35 : cT 24 35 = o_il 36 0 := rfl
theorem c_JI_bitCount_36 : cT 24 36 = o_ci 38 8 := rfl
theorem c_JI_bitCount_38 : cT 24 38 = o_iushr 39 := rfl
theorem c_JI_bitCount_39 : cT 24 39 = o_iadd 40 := rfl
theorem c_JI_bitCount_40 : cT 24 40 = o_is 41 0 := rfl
theorem c_JI_bitCount_41 : cT 24 41 = o_il 42 0 := rfl
theorem c_JI_bitCount_42 : cT 24 42 = o_il 43 0 := rfl
theorem c_JI_bitCount_43 : cT 24 43 = o_ci 45 16 := rfl
theorem c_JI_bitCount_45 : cT 24 45 = o_iushr 46 := rfl
theorem c_JI_bitCount_46 : cT 24 46 = o_iadd 47 := rfl
theorem c_JI_bitCount_47 : cT 24 47 = o_is 48 0 := rfl
theorem c_JI_bitCount_48 : cT 24 48 = o_il 49 0 := rfl
theorem c_JI_bitCount_49 : cT 24 49 = o_ci 51 63 := rfl
theorem c_JI_bitCount_51 : cT 24 51 = o_iand 52 := rfl
theorem c_JI_bitCount_52 : cT 24 52 = o_iret .int := rfl
theorem c_X_hundredths_0 : cT 25 0 = o_il 1 1 := rfl
theorem c_X_hundredths_1 : cT 25 1 = o_ifne 4 8 := rfl
theorem c_X_hundredths_4 : cT 25 4 = o_ci 5 0 := rfl
theorem c_X_hundredths_5 : cT 25 5 = o_goto 14 := rfl
theorem c_X_hundredths_8 : cT 25 8 = o_il 9 0 := rfl
theorem c_X_hundredths_9 : cT 25 9 = o_ci 11 100 := rfl
theorem c_X_hundredths_11 : cT 25 11 = o_imul 12 := rfl
theorem c_X_hundredths_12 : cT 25 12 = o_il 13 1 := rfl
theorem c_X_hundredths_13 : cT 25 13 = o_idiv 14 := rfl
theorem c_X_hundredths_14 : cT 25 14 = o_iret .int := rfl
theorem c_X_told_0 : cT 28 0 = o_al 1 0 := rfl
theorem c_X_told_1 : cT 28 1 = o_gf 4 9 0 := rfl
theorem c_X_told_4 : cT 28 4 = o_gf 7 0 0 := rfl
theorem c_X_told_7 : cT 28 7 = o_il 8 1 := rfl
theorem c_X_told_8 : cT 28 8 = o_ca 11 21 2 2 false (some 2) := rfl
theorem c_X_told_11 : cT 28 11 = o_ifne 14 17 := rfl
theorem c_X_told_14 : cT 28 14 = o_ci 16 (-1000000001) := rfl
theorem c_X_told_16 : cT 28 16 = o_iret .int := rfl
theorem c_X_told_17 : cT 28 17 = o_il 18 2 := rfl
theorem c_X_told_18 : cT 28 18 = o_sw 139 [(0, 72), (1, 72), (2, 72), (3, 72), (4, 72), (5, 85), (6, 97), (7, 110), (8, 120), (9, 130)] := rfl
theorem c_X_told_72 : cT 28 72 = o_al 73 0 := rfl
theorem c_X_told_73 : cT 28 73 = o_gf 76 9 0 := rfl
theorem c_X_told_76 : cT 28 76 = o_gf 79 0 0 := rfl
theorem c_X_told_79 : cT 28 79 = o_il 80 1 := rfl
theorem c_X_told_80 : cT 28 80 = o_il 81 2 := rfl
theorem c_X_told_81 : cT 28 81 = o_ca 84 22 3 4 false (some 2) := rfl
theorem c_X_told_84 : cT 28 84 = o_iret .int := rfl
theorem c_X_told_85 : cT 28 85 = o_al 86 0 := rfl
theorem c_X_told_86 : cT 28 86 = o_gf 89 9 0 := rfl
theorem c_X_told_89 : cT 28 89 = o_gf 92 0 6 := rfl
theorem c_X_told_92 : cT 28 92 = o_il 93 1 := rfl
theorem c_X_told_93 : cT 28 93 = o_ca 96 23 2 6 false (some 8) := rfl
theorem c_X_told_96 : cT 28 96 = o_iret .int := rfl
theorem c_X_told_97 : cT 28 97 = o_al 98 0 := rfl
theorem c_X_told_98 : cT 28 98 = o_gf 101 9 0 := rfl
theorem c_X_told_101 : cT 28 101 = o_gf 104 0 0 := rfl
theorem c_X_told_104 : cT 28 104 = o_il 105 1 := rfl
theorem c_X_told_105 : cT 28 105 = o_ci 106 5 := rfl
theorem c_X_told_106 : cT 28 106 = o_ca 109 22 3 4 false (some 2) := rfl
theorem c_X_told_109 : cT 28 109 = o_iret .int := rfl
theorem c_X_told_110 : cT 28 110 = o_al 111 0 := rfl
theorem c_X_told_111 : cT 28 111 = o_gf 114 9 0 := rfl
theorem c_X_told_114 : cT 28 114 = o_il 115 1 := rfl
theorem c_X_told_115 : cT 28 115 = o_ci 116 0 := rfl
theorem c_X_told_116 : cT 28 116 = o_ca 119 26 3 4 false (some 0) := rfl
theorem c_X_told_119 : cT 28 119 = o_iret .int := rfl
theorem c_X_told_120 : cT 28 120 = o_al 121 0 := rfl
theorem c_X_told_121 : cT 28 121 = o_gf 124 9 0 := rfl
theorem c_X_told_124 : cT 28 124 = o_il 125 1 := rfl
theorem c_X_told_125 : cT 28 125 = o_ci 126 2 := rfl
theorem c_X_told_126 : cT 28 126 = o_ca 129 26 3 4 false (some 0) := rfl
theorem c_X_told_129 : cT 28 129 = o_iret .int := rfl
theorem c_X_told_130 : cT 28 130 = o_al 131 0 := rfl
theorem c_X_told_131 : cT 28 131 = o_gf 134 9 0 := rfl
theorem c_X_told_134 : cT 28 134 = o_il 135 1 := rfl
theorem c_X_told_135 : cT 28 135 = o_ca 138 27 2 3 false (some 0) := rfl
theorem c_X_told_138 : cT 28 138 = o_iret .int := rfl
theorem c_X_told_139 : cT 28 139 = o_ci 141 (-1000000001) := rfl
theorem c_X_told_141 : cT 28 141 = o_iret .int := rfl
theorem c_X_mostOfCase_0 : cT 37 0 = o_il 1 0 := rfl
theorem c_X_mostOfCase_1 : cT 37 1 = o_sw 40 [(1, 32), (2, 34), (4, 38)] := rfl
theorem c_X_mostOfCase_32 : cT 37 32 = o_ci 33 5 := rfl
theorem c_X_mostOfCase_33 : cT 37 33 = o_iret .int := rfl
theorem c_X_mostOfCase_34 : cT 37 34 = o_ci 37 255 := rfl
theorem c_X_mostOfCase_37 : cT 37 37 = o_iret .int := rfl
theorem c_X_mostOfCase_38 : cT 37 38 = o_ci 39 1 := rfl
theorem c_X_mostOfCase_39 : cT 37 39 = o_iret .int := rfl
theorem c_X_mostOfCase_40 : cT 37 40 = o_ci 41 (-1) := rfl
theorem c_X_mostOfCase_41 : cT 37 41 = o_iret .int := rfl
theorem c_X_be_0 : cT 39 0 = o_al 1 0 := rfl
theorem c_X_be_1 : cT 39 1 = o_gf 4 9 0 := rfl
theorem c_X_be_4 : cT 39 4 = o_gf 7 0 0 := rfl
theorem c_X_be_7 : cT 39 7 = o_il 8 1 := rfl
theorem c_X_be_8 : cT 39 8 = o_ca 11 21 2 2 false (some 2) := rfl
theorem c_X_be_11 : cT 39 11 = o_ifeq 14 26 := rfl
theorem c_X_be_14 : cT 39 14 = o_il 15 3 := rfl
theorem c_X_be_15 : cT 39 15 = o_ci 16 0 := rfl
theorem c_X_be_16 : cT 39 16 = o_il 17 2 := rfl
theorem c_X_be_17 : cT 39 17 = o_ca 20 37 1 1 false none := rfl
theorem c_X_be_20 : cT 39 20 = o_ca 23 11 3 3 false none := rfl
theorem c_X_be_23 : cT 39 23 = o_ifne 26 29 := rfl
theorem c_X_be_26 : cT 39 26 = o_ci 28 (-1000000001) := rfl
theorem c_X_be_28 : cT 39 28 = o_iret .int := rfl
theorem c_X_be_29 : cT 39 29 = o_al 30 0 := rfl
theorem c_X_be_30 : cT 39 30 = o_gf 33 9 0 := rfl
theorem c_X_be_33 : cT 39 33 = o_gf 36 0 0 := rfl
theorem c_X_be_36 : cT 39 36 = o_il 37 1 := rfl
theorem c_X_be_37 : cT 39 37 = o_il 38 2 := rfl
theorem c_X_be_38 : cT 39 38 = o_il 39 3 := rfl
theorem c_X_be_39 : cT 39 39 = o_ca 42 38 4 5 false (some 2) := rfl
theorem c_X_be_42 : cT 39 42 = o_iret .int := rfl
theorem c_X_sentence_0 : cT 42 0 = o_al 1 0 := rfl
theorem c_X_sentence_1 : cT 42 1 = o_gf 4 9 0 := rfl
theorem c_X_sentence_4 : cT 42 4 = o_gf 7 0 0 := rfl
theorem c_X_sentence_7 : cT 42 7 = o_il 8 1 := rfl
theorem c_X_sentence_8 : cT 42 8 = o_ca 11 21 2 2 false (some 2) := rfl
theorem c_X_sentence_11 : cT 42 11 = o_ifeq 14 34 := rfl
theorem c_X_sentence_14 : cT 42 14 = o_il 15 2 := rfl
theorem c_X_sentence_15 : cT 42 15 = o_ci 16 1 := rfl
theorem c_X_sentence_16 : cT 42 16 = o_ci 19 9999 := rfl
theorem c_X_sentence_19 : cT 42 19 = o_ca 22 11 3 3 false none := rfl
theorem c_X_sentence_22 : cT 42 22 = o_ifeq 25 34 := rfl
theorem c_X_sentence_25 : cT 42 25 = o_il 26 3 := rfl
theorem c_X_sentence_26 : cT 42 26 = o_ci 27 0 := rfl
theorem c_X_sentence_27 : cT 42 27 = o_ci 28 1 := rfl
theorem c_X_sentence_28 : cT 42 28 = o_ca 31 11 3 3 false none := rfl
theorem c_X_sentence_31 : cT 42 31 = o_ifne 34 37 := rfl
theorem c_X_sentence_34 : cT 42 34 = o_ci 36 (-1000000001) := rfl
theorem c_X_sentence_36 : cT 42 36 = o_iret .int := rfl
theorem c_X_sentence_37 : cT 42 37 = o_al 38 0 := rfl
theorem c_X_sentence_38 : cT 42 38 = o_gf 41 9 0 := rfl
theorem c_X_sentence_41 : cT 42 41 = o_il 42 1 := rfl
theorem c_X_sentence_42 : cT 42 42 = o_ca 45 41 2 2 false (some 0) := rfl
theorem c_X_sentence_45 : cT 42 45 = o_ci 46 2 := rfl
theorem c_X_sentence_46 : cT 42 46 = o_icne 49 52 := rfl
theorem c_X_sentence_49 : cT 42 49 = o_ci 51 (-1000000002) := rfl
theorem c_X_sentence_51 : cT 42 51 = o_iret .int := rfl
theorem c_X_sentence_52 : cT 42 52 = o_al 53 0 := rfl
theorem c_X_sentence_53 : cT 42 53 = o_gf 56 9 0 := rfl
theorem c_X_sentence_56 : cT 42 56 = o_gf 59 0 6 := rfl
theorem c_X_sentence_59 : cT 42 59 = o_gf 62 8 0 := rfl
theorem c_X_sentence_62 : cT 42 62 = o_ca 65 12 1 1 false (some 2) := rfl
theorem c_X_sentence_65 : cT 42 65 = o_ifeq 68 71 := rfl
theorem c_X_sentence_68 : cT 42 68 = o_ci 70 (-1000000003) := rfl
theorem c_X_sentence_70 : cT 42 70 = o_iret .int := rfl
theorem c_X_sentence_71 : cT 42 71 = o_al 72 0 := rfl
theorem c_X_sentence_72 : cT 42 72 = o_gf 75 9 0 := rfl
theorem c_X_sentence_75 : cT 42 75 = o_gf 78 0 6 := rfl
theorem c_X_sentence_78 : cT 42 78 = o_gf 81 8 0 := rfl
theorem c_X_sentence_81 : cT 42 81 = o_il 82 1 := rfl
theorem c_X_sentence_82 : cT 42 82 = o_il 83 2 := rfl
theorem c_X_sentence_83 : cT 42 83 = o_il 84 3 := rfl
theorem c_X_sentence_84 : cT 42 84 = o_ci 85 0 := rfl
theorem c_X_sentence_85 : cT 42 85 = o_ca 88 14 5 7 false (some 2) := rfl
theorem c_X_sentence_88 : cT 42 88 = o_iret .int := rfl
theorem c_X_gap_0 : cT 44 0 = o_al 1 0 := rfl
theorem c_X_gap_1 : cT 44 1 = o_gf 4 9 0 := rfl
theorem c_X_gap_4 : cT 44 4 = o_gf 7 0 0 := rfl
theorem c_X_gap_7 : cT 44 7 = o_il 8 1 := rfl
theorem c_X_gap_8 : cT 44 8 = o_ca 11 21 2 2 false (some 2) := rfl
theorem c_X_gap_11 : cT 44 11 = o_ifne 14 17 := rfl
theorem c_X_gap_14 : cT 44 14 = o_ci 16 (-1000000001) := rfl
theorem c_X_gap_16 : cT 44 16 = o_iret .int := rfl
theorem c_X_gap_17 : cT 44 17 = o_il 18 2 := rfl
theorem c_X_gap_18 : cT 44 18 = o_ci 19 0 := rfl
theorem c_X_gap_19 : cT 44 19 = o_ci 22 9999 := rfl
theorem c_X_gap_22 : cT 44 22 = o_ca 25 11 3 3 false none := rfl
theorem c_X_gap_25 : cT 44 25 = o_ifeq 28 44 := rfl
theorem c_X_gap_28 : cT 44 28 = o_il 29 3 := rfl
theorem c_X_gap_29 : cT 44 29 = o_ci 30 0 := rfl
theorem c_X_gap_30 : cT 44 30 = o_ci 33 9999 := rfl
theorem c_X_gap_33 : cT 44 33 = o_ca 36 11 3 3 false none := rfl
theorem c_X_gap_36 : cT 44 36 = o_ifeq 39 44 := rfl
theorem c_X_gap_39 : cT 44 39 = o_il 40 3 := rfl
theorem c_X_gap_40 : cT 44 40 = o_il 41 2 := rfl
theorem c_X_gap_41 : cT 44 41 = o_icgt 44 47 := rfl
theorem c_X_gap_44 : cT 44 44 = o_ci 46 (-1000000001) := rfl
theorem c_X_gap_46 : cT 44 46 = o_iret .int := rfl
theorem c_X_gap_47 : cT 44 47 = o_al 48 0 := rfl
theorem c_X_gap_48 : cT 44 48 = o_gf 51 9 0 := rfl
theorem c_X_gap_51 : cT 44 51 = o_gf 54 0 6 := rfl
theorem c_X_gap_54 : cT 44 54 = o_gf 57 8 2 := rfl
theorem c_X_gap_57 : cT 44 57 = o_ca 60 12 1 1 false (some 2) := rfl
theorem c_X_gap_60 : cT 44 60 = o_ifeq 63 66 := rfl
theorem c_X_gap_63 : cT 44 63 = o_ci 65 (-1000000003) := rfl
theorem c_X_gap_65 : cT 44 65 = o_iret .int := rfl
theorem c_X_gap_66 : cT 44 66 = o_al 67 0 := rfl
theorem c_X_gap_67 : cT 44 67 = o_gf 70 9 0 := rfl
theorem c_X_gap_70 : cT 44 70 = o_gf 73 0 6 := rfl
theorem c_X_gap_73 : cT 44 73 = o_gf 76 8 2 := rfl
theorem c_X_gap_76 : cT 44 76 = o_il 77 1 := rfl
theorem c_X_gap_77 : cT 44 77 = o_il 78 2 := rfl
theorem c_X_gap_78 : cT 44 78 = o_il 79 3 := rfl
theorem c_X_gap_79 : cT 44 79 = o_ci 80 0 := rfl
theorem c_X_gap_80 : cT 44 80 = o_ca 83 14 5 7 false (some 2) := rfl
theorem c_X_gap_83 : cT 44 83 = o_ci 84 1 := rfl
theorem c_X_gap_84 : cT 44 84 = o_iadd 85 := rfl
theorem c_X_gap_85 : cT 44 85 = o_iret .int := rfl
theorem c_X_flee_0 : cT 50 0 = o_al 1 0 := rfl
theorem c_X_flee_1 : cT 50 1 = o_gf 4 9 0 := rfl
theorem c_X_flee_4 : cT 50 4 = o_gf 7 0 0 := rfl
theorem c_X_flee_7 : cT 50 7 = o_il 8 1 := rfl
theorem c_X_flee_8 : cT 50 8 = o_ca 11 21 2 2 false (some 2) := rfl
theorem c_X_flee_11 : cT 50 11 = o_ifne 14 17 := rfl
theorem c_X_flee_14 : cT 50 14 = o_ci 16 (-1000000001) := rfl
theorem c_X_flee_16 : cT 50 16 = o_iret .int := rfl
theorem c_X_flee_17 : cT 50 17 = o_al 18 0 := rfl
theorem c_X_flee_18 : cT 50 18 = o_gf 21 9 0 := rfl
theorem c_X_flee_21 : cT 50 21 = o_il 22 1 := rfl
theorem c_X_flee_22 : cT 50 22 = o_ca 25 41 2 2 false (some 0) := rfl
theorem c_X_flee_25 : cT 50 25 = o_ifne 28 39 := rfl
theorem c_X_flee_28 : cT 50 28 = o_al 29 0 := rfl
theorem c_X_flee_29 : cT 50 29 = o_gf 32 9 0 := rfl
theorem c_X_flee_32 : cT 50 32 = o_il 33 1 := rfl
theorem c_X_flee_33 : cT 50 33 = o_ca 36 48 2 2 false (some 0) := rfl
theorem c_X_flee_36 : cT 50 36 = o_ifeq 39 42 := rfl
theorem c_X_flee_39 : cT 50 39 = o_ci 41 (-1000000002) := rfl
theorem c_X_flee_41 : cT 50 41 = o_iret .int := rfl
theorem c_X_flee_42 : cT 50 42 = o_al 43 0 := rfl
theorem c_X_flee_43 : cT 50 43 = o_gf 46 9 0 := rfl
theorem c_X_flee_46 : cT 50 46 = o_gf 49 0 6 := rfl
theorem c_X_flee_49 : cT 50 49 = o_il 50 1 := rfl
theorem c_X_flee_50 : cT 50 50 = o_al 51 0 := rfl
theorem c_X_flee_51 : cT 50 51 = o_gf 54 9 0 := rfl
theorem c_X_flee_54 : cT 50 54 = o_gf 57 0 8 := rfl
theorem c_X_flee_57 : cT 50 57 = o_ca 60 49 3 4 false (some 8) := rfl
theorem c_X_flee_60 : cT 50 60 = o_ci 61 1 := rfl
theorem c_X_flee_61 : cT 50 61 = o_iret .int := rfl
theorem c_X_caught_0 : cT 53 0 = o_al 1 0 := rfl
theorem c_X_caught_1 : cT 53 1 = o_gf 4 9 0 := rfl
theorem c_X_caught_4 : cT 53 4 = o_gf 7 0 0 := rfl
theorem c_X_caught_7 : cT 53 7 = o_il 8 1 := rfl
theorem c_X_caught_8 : cT 53 8 = o_ca 11 21 2 2 false (some 2) := rfl
theorem c_X_caught_11 : cT 53 11 = o_ifne 14 17 := rfl
theorem c_X_caught_14 : cT 53 14 = o_ci 16 (-1000000001) := rfl
theorem c_X_caught_16 : cT 53 16 = o_iret .int := rfl
theorem c_X_caught_17 : cT 53 17 = o_al 18 0 := rfl
theorem c_X_caught_18 : cT 53 18 = o_gf 21 9 0 := rfl
theorem c_X_caught_21 : cT 53 21 = o_il 22 1 := rfl
theorem c_X_caught_22 : cT 53 22 = o_ca 25 48 2 2 false (some 0) := rfl
theorem c_X_caught_25 : cT 53 25 = o_ifne 28 31 := rfl
theorem c_X_caught_28 : cT 53 28 = o_ci 30 (-1000000002) := rfl
theorem c_X_caught_30 : cT 53 30 = o_iret .int := rfl
theorem c_X_caught_31 : cT 53 31 = o_al 32 0 := rfl
theorem c_X_caught_32 : cT 53 32 = o_gf 35 9 0 := rfl
theorem c_X_caught_35 : cT 53 35 = o_gf 38 0 6 := rfl
theorem c_X_caught_38 : cT 53 38 = o_gf 41 8 1 := rfl
theorem c_X_caught_41 : cT 53 41 = o_ca 44 12 1 1 false (some 2) := rfl
theorem c_X_caught_44 : cT 53 44 = o_ifeq 47 50 := rfl
theorem c_X_caught_47 : cT 53 47 = o_ci 49 (-1000000003) := rfl
theorem c_X_caught_49 : cT 53 49 = o_iret .int := rfl
theorem c_X_caught_50 : cT 53 50 = o_al 51 0 := rfl
theorem c_X_caught_51 : cT 53 51 = o_gf 54 9 0 := rfl
theorem c_X_caught_54 : cT 53 54 = o_gf 57 0 6 := rfl
theorem c_X_caught_57 : cT 53 57 = o_il 58 1 := rfl
theorem c_X_caught_58 : cT 53 58 = o_al 59 0 := rfl
theorem c_X_caught_59 : cT 53 59 = o_gf 62 9 0 := rfl
theorem c_X_caught_62 : cT 53 62 = o_gf 65 0 8 := rfl
theorem c_X_caught_65 : cT 53 65 = o_ca 68 15 3 3 false (some 8) := rfl
theorem c_X_caught_68 : cT 53 68 = o_ci 69 1 := rfl
theorem c_X_caught_69 : cT 53 69 = o_iret .int := rfl
theorem c_X_gone_0 : cT 56 0 = o_al 1 0 := rfl
theorem c_X_gone_1 : cT 56 1 = o_gf 4 9 0 := rfl
theorem c_X_gone_4 : cT 56 4 = o_gf 7 0 0 := rfl
theorem c_X_gone_7 : cT 56 7 = o_il 8 1 := rfl
theorem c_X_gone_8 : cT 56 8 = o_ca 11 21 2 2 false (some 2) := rfl
theorem c_X_gone_11 : cT 56 11 = o_ifne 14 17 := rfl
theorem c_X_gone_14 : cT 56 14 = o_ci 16 (-1000000001) := rfl
theorem c_X_gone_16 : cT 56 16 = o_iret .int := rfl
theorem c_X_gone_17 : cT 56 17 = o_al 18 0 := rfl
theorem c_X_gone_18 : cT 56 18 = o_gf 21 9 0 := rfl
theorem c_X_gone_21 : cT 56 21 = o_il 22 1 := rfl
theorem c_X_gone_22 : cT 56 22 = o_ca 25 41 2 2 false (some 0) := rfl
theorem c_X_gone_25 : cT 56 25 = o_ci 26 2 := rfl
theorem c_X_gone_26 : cT 56 26 = o_icne 29 32 := rfl
theorem c_X_gone_29 : cT 56 29 = o_ci 31 (-1000000002) := rfl
theorem c_X_gone_31 : cT 56 31 = o_iret .int := rfl
theorem c_X_gone_32 : cT 56 32 = o_al 33 0 := rfl
theorem c_X_gone_33 : cT 56 33 = o_gf 36 9 0 := rfl
theorem c_X_gone_36 : cT 56 36 = o_il 37 1 := rfl
theorem c_X_gone_37 : cT 56 37 = o_ci 38 2 := rfl
theorem c_X_gone_38 : cT 56 38 = o_ca 41 55 3 3 false (some 0) := rfl
theorem c_X_gone_41 : cT 56 41 = o_ci 42 1 := rfl
theorem c_X_gone_42 : cT 56 42 = o_iret .int := rfl
theorem c_JM_min_0 : cT 58 0 = o_il 1 0 := rfl
theorem c_JM_min_1 : cT 58 1 = o_il 2 1 := rfl
theorem c_JM_min_2 : cT 58 2 = o_icgt 5 9 := rfl
theorem c_JM_min_5 : cT 58 5 = o_il 6 0 := rfl
theorem c_JM_min_6 : cT 58 6 = o_goto 10 := rfl
theorem c_JM_min_9 : cT 58 9 = o_il 10 1 := rfl
theorem c_JM_min_10 : cT 58 10 = o_iret .int := rfl
theorem c_X_served_0 : cT 61 0 = o_al 1 0 := rfl
theorem c_X_served_1 : cT 61 1 = o_gf 4 9 0 := rfl
theorem c_X_served_4 : cT 61 4 = o_gf 7 0 0 := rfl
theorem c_X_served_7 : cT 61 7 = o_il 8 1 := rfl
theorem c_X_served_8 : cT 61 8 = o_ca 11 21 2 2 false (some 2) := rfl
theorem c_X_served_11 : cT 61 11 = o_ifeq 14 25 := rfl
theorem c_X_served_14 : cT 61 14 = o_il 15 2 := rfl
theorem c_X_served_15 : cT 61 15 = o_ci 16 0 := rfl
theorem c_X_served_16 : cT 61 16 = o_ci 19 9999 := rfl
theorem c_X_served_19 : cT 61 19 = o_ca 22 11 3 3 false none := rfl
theorem c_X_served_22 : cT 61 22 = o_ifne 25 28 := rfl
theorem c_X_served_25 : cT 61 25 = o_ci 27 (-1000000001) := rfl
theorem c_X_served_27 : cT 61 27 = o_iret .int := rfl
theorem c_X_served_28 : cT 61 28 = o_al 29 0 := rfl
theorem c_X_served_29 : cT 61 29 = o_gf 32 9 0 := rfl
theorem c_X_served_32 : cT 61 32 = o_gf 35 0 6 := rfl
theorem c_X_served_35 : cT 61 35 = o_il 36 1 := rfl
theorem c_X_served_36 : cT 61 36 = o_il 37 2 := rfl
theorem c_X_served_37 : cT 61 37 = o_ca 40 60 3 5 false (some 8) := rfl
theorem c_X_served_40 : cT 61 40 = o_iret .int := rfl
theorem c_X_credit_0 : cT 66 0 = o_al 1 0 := rfl
theorem c_X_credit_1 : cT 66 1 = o_gf 4 9 0 := rfl
theorem c_X_credit_4 : cT 66 4 = o_gf 7 0 0 := rfl
theorem c_X_credit_7 : cT 66 7 = o_il 8 1 := rfl
theorem c_X_credit_8 : cT 66 8 = o_ca 11 21 2 2 false (some 2) := rfl
theorem c_X_credit_11 : cT 66 11 = o_ifeq 14 29 := rfl
theorem c_X_credit_14 : cT 66 14 = o_il 15 2 := rfl
theorem c_X_credit_15 : cT 66 15 = o_ci 17 (-99) := rfl
theorem c_X_credit_17 : cT 66 17 = o_ci 19 99 := rfl
theorem c_X_credit_19 : cT 66 19 = o_ca 22 11 3 3 false none := rfl
theorem c_X_credit_22 : cT 66 22 = o_ifeq 25 29 := rfl
theorem c_X_credit_25 : cT 66 25 = o_il 26 2 := rfl
theorem c_X_credit_26 : cT 66 26 = o_ifne 29 32 := rfl
theorem c_X_credit_29 : cT 66 29 = o_ci 31 (-1000000001) := rfl
theorem c_X_credit_31 : cT 66 31 = o_iret .int := rfl
theorem c_X_credit_32 : cT 66 32 = o_al 33 0 := rfl
theorem c_X_credit_33 : cT 66 33 = o_gf 36 9 0 := rfl
theorem c_X_credit_36 : cT 66 36 = o_il 37 1 := rfl
theorem c_X_credit_37 : cT 66 37 = o_ca 40 41 2 2 false (some 0) := rfl
theorem c_X_credit_40 : cT 66 40 = o_ci 41 2 := rfl
theorem c_X_credit_41 : cT 66 41 = o_icne 44 47 := rfl
theorem c_X_credit_44 : cT 66 44 = o_ci 46 (-1000000002) := rfl
theorem c_X_credit_46 : cT 66 46 = o_iret .int := rfl
theorem c_X_credit_47 : cT 66 47 = o_al 48 0 := rfl
theorem c_X_credit_48 : cT 66 48 = o_gf 51 9 0 := rfl
theorem c_X_credit_51 : cT 66 51 = o_gf 54 0 6 := rfl
theorem c_X_credit_54 : cT 66 54 = o_gf 57 8 3 := rfl
theorem c_X_credit_57 : cT 66 57 = o_ca 60 12 1 1 false (some 2) := rfl
theorem c_X_credit_60 : cT 66 60 = o_ifeq 63 66 := rfl
theorem c_X_credit_63 : cT 66 63 = o_ci 65 (-1000000003) := rfl
theorem c_X_credit_65 : cT 66 65 = o_iret .int := rfl
theorem c_X_credit_66 : cT 66 66 = o_al 67 0 := rfl
theorem c_X_credit_67 : cT 66 67 = o_gf 70 9 0 := rfl
theorem c_X_credit_70 : cT 66 70 = o_gf 73 0 6 := rfl
theorem c_X_credit_73 : cT 66 73 = o_gf 76 8 3 := rfl
theorem c_X_credit_76 : cT 66 76 = o_il 77 1 := rfl
theorem c_X_credit_77 : cT 66 77 = o_il 78 2 := rfl
theorem c_X_credit_78 : cT 66 78 = o_al 79 0 := rfl
theorem c_X_credit_79 : cT 66 79 = o_gf 82 9 0 := rfl
theorem c_X_credit_82 : cT 66 82 = o_gf 85 0 8 := rfl
theorem c_X_credit_85 : cT 66 85 = o_ci 87 2147483647 := rfl
theorem c_X_credit_87 : cT 66 87 = o_ca 90 14 5 7 false (some 2) := rfl
theorem c_X_credit_90 : cT 66 90 = o_iret .int := rfl
theorem c_X_back_0 : cT 68 0 = o_al 1 0 := rfl
theorem c_X_back_1 : cT 68 1 = o_gf 4 9 0 := rfl
theorem c_X_back_4 : cT 68 4 = o_gf 7 0 6 := rfl
theorem c_X_back_7 : cT 68 7 = o_gf 10 8 3 := rfl
theorem c_X_back_10 : cT 68 10 = o_as 11 2 := rfl
theorem c_X_back_11 : cT 68 11 = o_al 12 2 := rfl
theorem c_X_back_12 : cT 68 12 = o_il 13 1 := rfl
theorem c_X_back_13 : cT 68 13 = o_ca 16 21 2 2 false (some 2) := rfl
theorem c_X_back_16 : cT 68 16 = o_ifne 19 22 := rfl
theorem c_X_back_19 : cT 68 19 = o_ci 21 (-1000000001) := rfl
theorem c_X_back_21 : cT 68 21 = o_iret .int := rfl
theorem c_X_back_22 : cT 68 22 = o_al 23 2 := rfl
theorem c_X_back_23 : cT 68 23 = o_il 24 1 := rfl
theorem c_X_back_24 : cT 68 24 = o_ci 25 1 := rfl
theorem c_X_back_25 : cT 68 25 = o_ca 28 22 3 4 false (some 2) := rfl
theorem c_X_back_28 : cT 68 28 = o_ifle 31 34 := rfl
theorem c_X_back_31 : cT 68 31 = o_ci 33 (-1000000012) := rfl
theorem c_X_back_33 : cT 68 33 = o_iret .int := rfl
theorem c_X_back_34 : cT 68 34 = o_al 35 2 := rfl
theorem c_X_back_35 : cT 68 35 = o_il 36 1 := rfl
theorem c_X_back_36 : cT 68 36 = o_ci 37 3 := rfl
theorem c_X_back_37 : cT 68 37 = o_ca 40 22 3 4 false (some 2) := rfl
theorem c_X_back_40 : cT 68 40 = o_ci 42 2147483647 := rfl
theorem c_X_back_42 : cT 68 42 = o_iceq 45 48 := rfl
theorem c_X_back_45 : cT 68 45 = o_ci 47 (-1000000002) := rfl
theorem c_X_back_47 : cT 68 47 = o_iret .int := rfl
theorem c_X_back_48 : cT 68 48 = o_al 49 2 := rfl
theorem c_X_back_49 : cT 68 49 = o_il 50 1 := rfl
theorem c_X_back_50 : cT 68 50 = o_ci 51 3 := rfl
theorem c_X_back_51 : cT 68 51 = o_al 52 0 := rfl
theorem c_X_back_52 : cT 68 52 = o_gf 55 9 0 := rfl
theorem c_X_back_55 : cT 68 55 = o_gf 58 0 8 := rfl
theorem c_X_back_58 : cT 68 58 = o_ca 61 13 4 5 false (some 2) := rfl
theorem c_X_back_61 : cT 68 61 = o_ci 62 1 := rfl
theorem c_X_back_62 : cT 68 62 = o_iret .int := rfl
theorem c_X_credits_0 : cT 71 0 = o_al 1 0 := rfl
theorem c_X_credits_1 : cT 71 1 = o_gf 4 9 0 := rfl
theorem c_X_credits_4 : cT 71 4 = o_gf 7 0 0 := rfl
theorem c_X_credits_7 : cT 71 7 = o_il 8 1 := rfl
theorem c_X_credits_8 : cT 71 8 = o_ca 11 21 2 2 false (some 2) := rfl
theorem c_X_credits_11 : cT 71 11 = o_ifeq 14 25 := rfl
theorem c_X_credits_14 : cT 71 14 = o_il 15 2 := rfl
theorem c_X_credits_15 : cT 71 15 = o_ci 16 0 := rfl
theorem c_X_credits_16 : cT 71 16 = o_ci 19 2999 := rfl
theorem c_X_credits_19 : cT 71 19 = o_ca 22 11 3 3 false none := rfl
theorem c_X_credits_22 : cT 71 22 = o_ifne 25 28 := rfl
theorem c_X_credits_25 : cT 71 25 = o_ci 27 (-1000000001) := rfl
theorem c_X_credits_27 : cT 71 27 = o_iret .int := rfl
theorem c_X_credits_28 : cT 71 28 = o_al 29 0 := rfl
theorem c_X_credits_29 : cT 71 29 = o_gf 32 9 0 := rfl
theorem c_X_credits_32 : cT 71 32 = o_gf 35 0 6 := rfl
theorem c_X_credits_35 : cT 71 35 = o_il 36 1 := rfl
theorem c_X_credits_36 : cT 71 36 = o_il 37 2 := rfl
theorem c_X_credits_37 : cT 71 37 = o_ca 40 70 3 5 false (some 8) := rfl
theorem c_X_credits_40 : cT 71 40 = o_iret .int := rfl
theorem c_X_due_0 : cT 87 0 = o_al 1 0 := rfl
theorem c_X_due_1 : cT 87 1 = o_gf 4 9 0 := rfl
theorem c_X_due_4 : cT 87 4 = o_gf 7 0 0 := rfl
theorem c_X_due_7 : cT 87 7 = o_il 8 1 := rfl
theorem c_X_due_8 : cT 87 8 = o_ca 11 21 2 2 false (some 2) := rfl
theorem c_X_due_11 : cT 87 11 = o_ifeq 14 25 := rfl
theorem c_X_due_14 : cT 87 14 = o_il 15 2 := rfl
theorem c_X_due_15 : cT 87 15 = o_ci 16 0 := rfl
theorem c_X_due_16 : cT 87 16 = o_ci 19 9999 := rfl
theorem c_X_due_19 : cT 87 19 = o_ca 22 11 3 3 false none := rfl
theorem c_X_due_22 : cT 87 22 = o_ifne 25 28 := rfl
theorem c_X_due_25 : cT 87 25 = o_ci 27 (-1000000001) := rfl
theorem c_X_due_27 : cT 87 27 = o_iret .int := rfl
theorem c_X_due_28 : cT 87 28 = o_al 29 0 := rfl
theorem c_X_due_29 : cT 87 29 = o_gf 32 9 0 := rfl
theorem c_X_due_32 : cT 87 32 = o_il 33 1 := rfl
theorem c_X_due_33 : cT 87 33 = o_il 34 2 := rfl
theorem c_X_due_34 : cT 87 34 = o_ca 37 86 3 4 false (some 0) := rfl
theorem c_X_due_37 : cT 87 37 = o_ifeq 40 44 := rfl
theorem c_X_due_40 : cT 87 40 = o_ci 41 1 := rfl
theorem c_X_due_41 : cT 87 41 = o_goto 45 := rfl
theorem c_X_due_44 : cT 87 44 = o_ci 45 0 := rfl
theorem c_X_due_45 : cT 87 45 = o_iret .int := rfl
theorem c_X_date_0 : cT 96 0 = o_al 1 0 := rfl
theorem c_X_date_1 : cT 96 1 = o_gf 4 9 0 := rfl
theorem c_X_date_4 : cT 96 4 = o_gf 7 0 0 := rfl
theorem c_X_date_7 : cT 96 7 = o_il 8 1 := rfl
theorem c_X_date_8 : cT 96 8 = o_ca 11 21 2 2 false (some 2) := rfl
theorem c_X_date_11 : cT 96 11 = o_ifne 14 17 := rfl
theorem c_X_date_14 : cT 96 14 = o_ci 16 (-1000000001) := rfl
theorem c_X_date_16 : cT 96 16 = o_iret .int := rfl
theorem c_X_date_17 : cT 96 17 = o_al 18 0 := rfl
theorem c_X_date_18 : cT 96 18 = o_gf 21 9 0 := rfl
theorem c_X_date_21 : cT 96 21 = o_il 22 1 := rfl
theorem c_X_date_22 : cT 96 22 = o_ca 25 95 2 6 false (some 0) := rfl
theorem c_X_date_25 : cT 96 25 = o_iret .int := rfl
theorem c_X_feed_0 : cT 100 0 = o_al 1 0 := rfl
theorem c_X_feed_1 : cT 100 1 = o_gf 4 9 4 := rfl
theorem c_X_feed_4 : cT 100 4 = o_ca 7 98 1 1 false (some 5) := rfl
theorem c_X_feed_7 : cT 100 7 = o_ifne 10 13 := rfl
theorem c_X_feed_10 : cT 100 10 = o_ci 12 (-1000000003) := rfl
theorem c_X_feed_12 : cT 100 12 = o_iret .int := rfl
theorem c_X_feed_13 : cT 100 13 = o_al 14 0 := rfl
theorem c_X_feed_14 : cT 100 14 = o_gf 17 9 4 := rfl
theorem c_X_feed_17 : cT 100 17 = o_il 18 1 := rfl
theorem c_X_feed_18 : cT 100 18 = o_ca 21 99 2 3 false (some 5) := rfl
theorem c_X_feed_21 : cT 100 21 = o_al 22 0 := rfl
theorem c_X_feed_22 : cT 100 22 = o_gf 25 9 4 := rfl
theorem c_X_feed_25 : cT 100 25 = o_il 26 2 := rfl
theorem c_X_feed_26 : cT 100 26 = o_ca 29 99 2 3 false (some 5) := rfl
theorem c_X_feed_29 : cT 100 29 = o_al 30 0 := rfl
theorem c_X_feed_30 : cT 100 30 = o_gf 33 9 4 := rfl
theorem c_X_feed_33 : cT 100 33 = o_il 34 3 := rfl
theorem c_X_feed_34 : cT 100 34 = o_ca 37 99 2 3 false (some 5) := rfl
theorem c_X_feed_37 : cT 100 37 = o_al 38 0 := rfl
theorem c_X_feed_38 : cT 100 38 = o_gf 41 9 4 := rfl
theorem c_X_feed_41 : cT 100 41 = o_gf 44 5 1 := rfl
theorem c_X_feed_44 : cT 100 44 = o_iret .int := rfl
theorem c_X_trim_0 : cT 102 0 = o_il 1 1 := rfl
theorem c_X_trim_1 : cT 102 1 = o_ci 2 0 := rfl
theorem c_X_trim_2 : cT 102 2 = o_al 3 0 := rfl
theorem c_X_trim_3 : cT 102 3 = o_gf 6 9 4 := rfl
theorem c_X_trim_6 : cT 102 6 = o_gf 9 5 1 := rfl
theorem c_X_trim_9 : cT 102 9 = o_ca 12 11 3 3 false none := rfl
theorem c_X_trim_12 : cT 102 12 = o_ifne 15 18 := rfl
theorem c_X_trim_15 : cT 102 15 = o_ci 17 (-1000000001) := rfl
theorem c_X_trim_17 : cT 102 17 = o_iret .int := rfl
theorem c_X_trim_18 : cT 102 18 = o_al 19 0 := rfl
theorem c_X_trim_19 : cT 102 19 = o_gf 22 9 4 := rfl
theorem c_X_trim_22 : cT 102 22 = o_il 23 1 := rfl
theorem c_X_trim_23 : cT 102 23 = o_pf 26 5 1 0 := rfl
theorem c_X_trim_26 : cT 102 26 = o_il 27 1 := rfl
theorem c_X_trim_27 : cT 102 27 = o_iret .int := rfl
theorem c_JS_coder_0 : cT 109 0 = o_cv 3 (.int 1) := rfl
theorem c_JS_coder_3 : cT 109 3 = o_ifeq 6 13 := rfl
theorem c_JS_coder_6 : cT 109 6 = o_al 7 0 := rfl
theorem c_JS_coder_7 : cT 109 7 = o_gf 10 100 1 := rfl
theorem c_JS_coder_10 : cT 109 10 = o_goto 14 := rfl
theorem c_JS_coder_13 : cT 109 13 = o_ci 14 1 := rfl
theorem c_JS_coder_14 : cT 109 14 = o_iret .byte := rfl
theorem c_JS_length_0 : cT 110 0 = o_al 1 0 := rfl
theorem c_JS_length_1 : cT 110 1 = o_gf 4 100 0 := rfl
theorem c_JS_length_4 : cT 110 4 = o_len 5 := rfl
theorem c_JS_length_5 : cT 110 5 = o_al 6 0 := rfl
theorem c_JS_length_6 : cT 110 6 = o_ca 9 109 1 1 false (some 100) := rfl
theorem c_JS_length_9 : cT 110 9 = o_ishr 10 := rfl
theorem c_JS_length_10 : cT 110 10 = o_iret .int := rfl
theorem c_JS_isLatin1_0 : cT 111 0 = o_cv 3 (.int 1) := rfl
theorem c_JS_isLatin1_3 : cT 111 3 = o_ifeq 6 17 := rfl
theorem c_JS_isLatin1_6 : cT 111 6 = o_al 7 0 := rfl
theorem c_JS_isLatin1_7 : cT 111 7 = o_gf 10 100 1 := rfl
theorem c_JS_isLatin1_10 : cT 111 10 = o_ifne 13 17 := rfl
theorem c_JS_isLatin1_13 : cT 111 13 = o_ci 14 1 := rfl
theorem c_JS_isLatin1_14 : cT 111 14 = o_goto 18 := rfl
theorem c_JS_isLatin1_17 : cT 111 17 = o_ci 18 0 := rfl
theorem c_JS_isLatin1_18 : cT 111 18 = o_iret .boolean := rfl
theorem c_JP_checkIndex_0 : cT 112 0 = o_il 1 0 := rfl
theorem c_JP_checkIndex_1 : cT 112 1 = o_iflt 4 9 := rfl
theorem c_JP_checkIndex_4 : cT 112 4 = o_il 5 0 := rfl
theorem c_JP_checkIndex_5 : cT 112 5 = o_il 6 1 := rfl
theorem c_JP_checkIndex_6 : cT 112 6 = o_iclt 9 16 := rfl
theorem c_JP_checkIndex_9 : cT 112 9 = o_al 10 2 := rfl
theorem c_JP_checkIndex_10 : cT 112 10 = o_il 11 0 := rfl
theorem c_JP_checkIndex_11 : cT 112 11 = o_il 12 1 := rfl
theorem c_JP_checkIndex_12 : cT 112 12 = o_bad := rfl
theorem c_JP_checkIndex_15 : cT 112 15 = o_bad := rfl
theorem c_JP_checkIndex_16 : cT 112 16 = o_il 17 0 := rfl
theorem c_JP_checkIndex_17 : cT 112 17 = o_iret .int := rfl
theorem c_JS_checkIndex_0 : cT 113 0 = o_il 1 0 := rfl
theorem c_JS_checkIndex_1 : cT 113 1 = o_il 2 1 := rfl
theorem c_JS_checkIndex_2 : cT 113 2 = o_cv 5 (.retAddr 1) := rfl
theorem c_JS_checkIndex_5 : cT 113 5 = o_ca 8 112 3 3 false none := rfl
theorem c_JS_checkIndex_8 : cT 113 8 = o_pop 9 := rfl
theorem c_JS_checkIndex_9 : cT 113 9 = o_vret := rfl
theorem c_JL_charAt_0 : cT 114 0 = o_il 1 1 := rfl
theorem c_JL_charAt_1 : cT 114 1 = o_al 2 0 := rfl
theorem c_JL_charAt_2 : cT 114 2 = o_len 3 := rfl
theorem c_JL_charAt_3 : cT 114 3 = o_ca 6 113 2 2 false none := rfl
theorem c_JL_charAt_6 : cT 114 6 = o_al 7 0 := rfl
theorem c_JL_charAt_7 : cT 114 7 = o_il 8 1 := rfl
theorem c_JL_charAt_8 : cT 114 8 = o_bal 9 := rfl
theorem c_JL_charAt_9 : cT 114 9 = o_ci 12 255 := rfl
theorem c_JL_charAt_12 : cT 114 12 = o_iand 13 := rfl
theorem c_JL_charAt_13 : cT 114 13 = o_i2c 14 := rfl
theorem c_JL_charAt_14 : cT 114 14 = o_iret .char := rfl
theorem c_JS_charAt_0 : cT 115 0 = o_al 1 0 := rfl
theorem c_JS_charAt_1 : cT 115 1 = o_ca 4 111 1 1 false (some 100) := rfl
theorem c_JS_charAt_4 : cT 115 4 = o_ifeq 7 16 := rfl
theorem c_JS_charAt_7 : cT 115 7 = o_al 8 0 := rfl
theorem c_JS_charAt_8 : cT 115 8 = o_gf 11 100 0 := rfl
theorem c_JS_charAt_11 : cT 115 11 = o_il 12 1 := rfl
theorem c_JS_charAt_12 : cT 115 12 = o_ca 15 114 2 2 false none := rfl
theorem c_JS_charAt_15 : cT 115 15 = o_iret .char := rfl
theorem c_JS_charAt_16 : cT 115 16 = o_al 17 0 := rfl
theorem c_JS_charAt_17 : cT 115 17 = o_gf 20 100 0 := rfl
theorem c_JS_charAt_20 : cT 115 20 = o_il 21 1 := rfl
theorem c_JS_charAt_21 : cT 115 21 = o_bad := rfl
theorem c_JS_charAt_24 : cT 115 24 = o_iret .char := rfl
theorem c_JL_canEncode_0 : cT 122 0 = o_il 1 0 := rfl
theorem c_JL_canEncode_1 : cT 122 1 = o_iflt 4 15 := rfl
theorem c_JL_canEncode_4 : cT 122 4 = o_il 5 0 := rfl
theorem c_JL_canEncode_5 : cT 122 5 = o_ci 8 255 := rfl
theorem c_JL_canEncode_8 : cT 122 8 = o_icgt 11 15 := rfl
theorem c_JL_canEncode_11 : cT 122 11 = o_ci 12 1 := rfl
theorem c_JL_canEncode_12 : cT 122 12 = o_goto 16 := rfl
theorem c_JL_canEncode_15 : cT 122 15 = o_ci 16 0 := rfl
theorem c_JL_canEncode_16 : cT 122 16 = o_iret .boolean := rfl
theorem c_JL_indexOfChar_0 : cT 123 0 = o_il 1 1 := rfl
theorem c_JL_indexOfChar_1 : cT 123 1 = o_i2b 2 := rfl
theorem c_JL_indexOfChar_2 : cT 123 2 = o_is 4 4 := rfl
theorem c_JL_indexOfChar_4 : cT 123 4 = o_il 5 2 := rfl
theorem c_JL_indexOfChar_5 : cT 123 5 = o_is 7 5 := rfl
theorem c_JL_indexOfChar_7 : cT 123 7 = o_il 9 5 := rfl
theorem c_JL_indexOfChar_9 : cT 123 9 = o_il 10 3 := rfl
theorem c_JL_indexOfChar_10 : cT 123 10 = o_icge 13 31 := rfl
theorem c_JL_indexOfChar_13 : cT 123 13 = o_al 14 0 := rfl
theorem c_JL_indexOfChar_14 : cT 123 14 = o_il 16 5 := rfl
theorem c_JL_indexOfChar_16 : cT 123 16 = o_bal 17 := rfl
theorem c_JL_indexOfChar_17 : cT 123 17 = o_il 19 4 := rfl
theorem c_JL_indexOfChar_19 : cT 123 19 = o_icne 22 25 := rfl
theorem c_JL_indexOfChar_22 : cT 123 22 = o_il 24 5 := rfl
theorem c_JL_indexOfChar_24 : cT 123 24 = o_iret .int := rfl
theorem c_JL_indexOfChar_25 : cT 123 25 = o_inc 28 5 1 := rfl
theorem c_JL_indexOfChar_28 : cT 123 28 = o_goto 7 := rfl
theorem c_JL_indexOfChar_31 : cT 123 31 = o_ci 32 (-1) := rfl
theorem c_JL_indexOfChar_32 : cT 123 32 = o_iret .int := rfl
theorem c_JL_indexOf_0 : cT 124 0 = o_il 1 1 := rfl
theorem c_JL_indexOf_1 : cT 124 1 = o_ca 4 122 1 1 false none := rfl
theorem c_JL_indexOf_4 : cT 124 4 = o_ifne 7 9 := rfl
theorem c_JL_indexOf_7 : cT 124 7 = o_ci 8 (-1) := rfl
theorem c_JL_indexOf_8 : cT 124 8 = o_iret .int := rfl
theorem c_JL_indexOf_9 : cT 124 9 = o_il 10 2 := rfl
theorem c_JL_indexOf_10 : cT 124 10 = o_ci 11 0 := rfl
theorem c_JL_indexOf_11 : cT 124 11 = o_ca 14 0 2 2 false none := rfl
theorem c_JL_indexOf_14 : cT 124 14 = o_is 15 2 := rfl
theorem c_JL_indexOf_15 : cT 124 15 = o_il 16 3 := rfl
theorem c_JL_indexOf_16 : cT 124 16 = o_al 17 0 := rfl
theorem c_JL_indexOf_17 : cT 124 17 = o_len 18 := rfl
theorem c_JL_indexOf_18 : cT 124 18 = o_ca 21 58 2 2 false none := rfl
theorem c_JL_indexOf_21 : cT 124 21 = o_is 22 3 := rfl
theorem c_JL_indexOf_22 : cT 124 22 = o_il 23 2 := rfl
theorem c_JL_indexOf_23 : cT 124 23 = o_il 24 3 := rfl
theorem c_JL_indexOf_24 : cT 124 24 = o_iclt 27 29 := rfl
theorem c_JL_indexOf_27 : cT 124 27 = o_ci 28 (-1) := rfl
theorem c_JL_indexOf_28 : cT 124 28 = o_iret .int := rfl
theorem c_JL_indexOf_29 : cT 124 29 = o_al 30 0 := rfl
theorem c_JL_indexOf_30 : cT 124 30 = o_il 31 1 := rfl
theorem c_JL_indexOf_31 : cT 124 31 = o_il 32 2 := rfl
theorem c_JL_indexOf_32 : cT 124 32 = o_il 33 3 := rfl
theorem c_JL_indexOf_33 : cT 124 33 = o_ca 36 123 4 6 false none := rfl
theorem c_JL_indexOf_36 : cT 124 36 = o_iret .int := rfl
theorem c_JS_indexOf_0 : cT 125 0 = o_al 1 0 := rfl
theorem c_JS_indexOf_1 : cT 125 1 = o_ca 4 111 1 1 false (some 100) := rfl
theorem c_JS_indexOf_4 : cT 125 4 = o_ifeq 7 23 := rfl
theorem c_JS_indexOf_7 : cT 125 7 = o_al 8 0 := rfl
theorem c_JS_indexOf_8 : cT 125 8 = o_gf 11 100 0 := rfl
theorem c_JS_indexOf_11 : cT 125 11 = o_il 12 1 := rfl
theorem c_JS_indexOf_12 : cT 125 12 = o_il 13 2 := rfl
theorem c_JS_indexOf_13 : cT 125 13 = o_al 14 0 := rfl
theorem c_JS_indexOf_14 : cT 125 14 = o_ca 17 110 1 1 false (some 100) := rfl
theorem c_JS_indexOf_17 : cT 125 17 = o_ca 20 124 4 4 false none := rfl
theorem c_JS_indexOf_20 : cT 125 20 = o_goto 36 := rfl
theorem c_JS_indexOf_23 : cT 125 23 = o_al 24 0 := rfl
theorem c_JS_indexOf_24 : cT 125 24 = o_gf 27 100 0 := rfl
theorem c_JS_indexOf_27 : cT 125 27 = o_il 28 1 := rfl
theorem c_JS_indexOf_28 : cT 125 28 = o_il 29 2 := rfl
theorem c_JS_indexOf_29 : cT 125 29 = o_al 30 0 := rfl
theorem c_JS_indexOf_30 : cT 125 30 = o_ca 33 110 1 1 false (some 100) := rfl
theorem c_JS_indexOf_33 : cT 125 33 = o_bad := rfl
theorem c_JS_indexOf_36 : cT 125 36 = o_iret .int := rfl
theorem c_JS_indexOf1_0 : cT 126 0 = o_al 1 0 := rfl
theorem c_JS_indexOf1_1 : cT 126 1 = o_il 2 1 := rfl
theorem c_JS_indexOf1_2 : cT 126 2 = o_ci 3 0 := rfl
theorem c_JS_indexOf1_3 : cT 126 3 = o_ca 6 125 3 3 false (some 100) := rfl
theorem c_JS_indexOf1_6 : cT 126 6 = o_iret .int := rfl
theorem c_JA_copyOf_0 : cT 135 0 = o_il 1 1 := rfl
theorem c_JA_copyOf_1 : cT 135 1 = o_al 2 0 := rfl
theorem c_JA_copyOf_2 : cT 135 2 = o_len 3 := rfl
theorem c_JA_copyOf_3 : cT 135 3 = o_icne 6 14 := rfl
theorem c_JA_copyOf_6 : cT 135 6 = o_al 7 0 := rfl
theorem c_JA_copyOf_7 : cT 135 7 = o_bad := rfl
theorem c_JA_copyOf_10 : cT 135 10 = o_bad := rfl
theorem c_JA_copyOf_13 : cT 135 13 = o_aret := rfl
theorem c_JA_copyOf_14 : cT 135 14 = o_il 15 1 := rfl
theorem c_JA_copyOf_15 : cT 135 15 = o_na 17 0 := rfl
theorem c_JA_copyOf_17 : cT 135 17 = o_as 18 2 := rfl
theorem c_JA_copyOf_18 : cT 135 18 = o_al 19 0 := rfl
theorem c_JA_copyOf_19 : cT 135 19 = o_ci 20 0 := rfl
theorem c_JA_copyOf_20 : cT 135 20 = o_al 21 2 := rfl
theorem c_JA_copyOf_21 : cT 135 21 = o_ci 22 0 := rfl
theorem c_JA_copyOf_22 : cT 135 22 = o_al 23 0 := rfl
theorem c_JA_copyOf_23 : cT 135 23 = o_len 24 := rfl
theorem c_JA_copyOf_24 : cT 135 24 = o_il 25 1 := rfl
theorem c_JA_copyOf_25 : cT 135 25 = o_ca 28 58 2 2 false none := rfl
theorem c_JA_copyOf_28 : cT 135 28 = o_cpy 31 := rfl
theorem c_JA_copyOf_31 : cT 135 31 = o_al 32 2 := rfl
theorem c_JA_copyOf_32 : cT 135 32 = o_aret := rfl
theorem c_X_text_0 : cT 139 0 = o_il 1 1 := rfl
theorem c_X_text_1 : cT 139 1 = o_ci 2 0 := rfl
theorem c_X_text_2 : cT 139 2 = o_ci 4 8 := rfl
theorem c_X_text_4 : cT 139 4 = o_ca 7 11 3 3 false none := rfl
theorem c_X_text_7 : cT 139 7 = o_ifeq 10 21 := rfl
theorem c_X_text_10 : cT 139 10 = o_il 11 2 := rfl
theorem c_X_text_11 : cT 139 11 = o_ci 12 0 := rfl
theorem c_X_text_12 : cT 139 12 = o_ci 15 2999 := rfl
theorem c_X_text_15 : cT 139 15 = o_ca 18 11 3 3 false none := rfl
theorem c_X_text_18 : cT 139 18 = o_ifne 21 25 := rfl
theorem c_X_text_21 : cT 139 21 = o_ci 22 1 := rfl
theorem c_X_text_22 : cT 139 22 = o_goto 26 := rfl
theorem c_X_text_25 : cT 139 25 = o_ci 26 0 := rfl
theorem c_X_text_26 : cT 139 26 = o_is 27 3 := rfl
theorem c_X_text_27 : cT 139 27 = o_il 28 3 := rfl
theorem c_X_text_28 : cT 139 28 = o_ifeq 31 35 := rfl
theorem c_X_text_31 : cT 139 31 = o_ci 32 0 := rfl
theorem c_X_text_32 : cT 139 32 = o_goto 42 := rfl
theorem c_X_text_35 : cT 139 35 = o_al 36 0 := rfl
theorem c_X_text_36 : cT 139 36 = o_gf 39 9 5 := rfl
theorem c_X_text_39 : cT 139 39 = o_ca 42 134 1 1 false (some 7) := rfl
theorem c_X_text_42 : cT 139 42 = o_is 44 4 := rfl
theorem c_X_text_44 : cT 139 44 = o_al 45 0 := rfl
theorem c_X_text_45 : cT 139 45 = o_gf 48 9 4 := rfl
theorem c_X_text_48 : cT 139 48 = o_ci 49 0 := rfl
theorem c_X_text_49 : cT 139 49 = o_pf 52 5 1 0 := rfl
theorem c_X_text_52 : cT 139 52 = o_il 53 3 := rfl
theorem c_X_text_53 : cT 139 53 = o_ifeq 56 59 := rfl
theorem c_X_text_56 : cT 139 56 = o_ci 58 (-1000000001) := rfl
theorem c_X_text_58 : cT 139 58 = o_iret .int := rfl
theorem c_X_text_59 : cT 139 59 = o_il 61 4 := rfl
theorem c_X_text_61 : cT 139 61 = o_ci 62 (-1) := rfl
theorem c_X_text_62 : cT 139 62 = o_iceq 65 71 := rfl
theorem c_X_text_65 : cT 139 65 = o_ci 67 (-100) := rfl
theorem c_X_text_67 : cT 139 67 = o_il 69 4 := rfl
theorem c_X_text_69 : cT 139 69 = o_isub 70 := rfl
theorem c_X_text_70 : cT 139 70 = o_iret .int := rfl
theorem c_X_text_71 : cT 139 71 = o_al 72 0 := rfl
theorem c_X_text_72 : cT 139 72 = o_gf 75 9 0 := rfl
theorem c_X_text_75 : cT 139 75 = o_gf 78 0 7 := rfl
theorem c_X_text_78 : cT 139 78 = o_al 79 0 := rfl
theorem c_X_text_79 : cT 139 79 = o_gf 82 9 5 := rfl
theorem c_X_text_82 : cT 139 82 = o_il 83 1 := rfl
theorem c_X_text_83 : cT 139 83 = o_il 84 2 := rfl
theorem c_X_text_84 : cT 139 84 = o_ca 87 137 3 3 false (some 7) := rfl
theorem c_X_text_87 : cT 139 87 = o_ca 90 138 2 2 false (some 1) := rfl
theorem c_X_text_90 : cT 139 90 = o_iret .int := rfl
theorem c_X_of_0 : cT 155 0 = o_al 1 0 := rfl
theorem c_X_of_1 : cT 155 1 = o_gf 4 9 0 := rfl
theorem c_X_of_4 : cT 155 4 = o_gf 7 0 7 := rfl
theorem c_X_of_7 : cT 155 7 = o_il 8 1 := rfl
theorem c_X_of_8 : cT 155 8 = o_ca 11 74 2 2 false (some 1) := rfl
theorem c_X_of_11 : cT 155 11 = o_as 12 3 := rfl
theorem c_X_of_12 : cT 155 12 = o_al 13 3 := rfl
theorem c_X_of_13 : cT 155 13 = o_ifnonnull 16 19 := rfl
theorem c_X_of_16 : cT 155 16 = o_ci 18 (-1000000001) := rfl
theorem c_X_of_18 : cT 155 18 = o_iret .int := rfl
theorem c_X_of_19 : cT 155 19 = o_il 20 2 := rfl
theorem c_X_of_20 : cT 155 20 = o_sw 72 [(0, 52), (1, 57), (2, 62), (3, 67)] := rfl
theorem c_X_of_52 : cT 155 52 = o_al 53 3 := rfl
theorem c_X_of_53 : cT 155 53 = o_gf 56 6 0 := rfl
theorem c_X_of_56 : cT 155 56 = o_iret .int := rfl
theorem c_X_of_57 : cT 155 57 = o_al 58 3 := rfl
theorem c_X_of_58 : cT 155 58 = o_gf 61 6 1 := rfl
theorem c_X_of_61 : cT 155 61 = o_iret .int := rfl
theorem c_X_of_62 : cT 155 62 = o_al 63 3 := rfl
theorem c_X_of_63 : cT 155 63 = o_gf 66 6 2 := rfl
theorem c_X_of_66 : cT 155 66 = o_iret .int := rfl
theorem c_X_of_67 : cT 155 67 = o_al 68 3 := rfl
theorem c_X_of_68 : cT 155 68 = o_gf 71 6 3 := rfl
theorem c_X_of_71 : cT 155 71 = o_iret .int := rfl
theorem c_X_of_72 : cT 155 72 = o_ci 74 (-1000000001) := rfl
theorem c_X_of_74 : cT 155 74 = o_iret .int := rfl
theorem c_X_why_0 : cT 157 0 = o_il 1 1 := rfl
theorem c_X_why_1 : cT 157 1 = o_ci 2 0 := rfl
theorem c_X_why_2 : cT 157 2 = o_ci 4 7 := rfl
theorem c_X_why_4 : cT 157 4 = o_ca 7 11 3 3 false none := rfl
theorem c_X_why_7 : cT 157 7 = o_ifeq 10 19 := rfl
theorem c_X_why_10 : cT 157 10 = o_il 11 2 := rfl
theorem c_X_why_11 : cT 157 11 = o_ci 12 0 := rfl
theorem c_X_why_12 : cT 157 12 = o_ci 13 4 := rfl
theorem c_X_why_13 : cT 157 13 = o_ca 16 11 3 3 false none := rfl
theorem c_X_why_16 : cT 157 16 = o_ifne 19 22 := rfl
theorem c_X_why_19 : cT 157 19 = o_ci 21 (-1000000001) := rfl
theorem c_X_why_21 : cT 157 21 = o_iret .int := rfl
theorem c_X_why_22 : cT 157 22 = o_al 23 0 := rfl
theorem c_X_why_23 : cT 157 23 = o_gf 26 9 0 := rfl
theorem c_X_why_26 : cT 157 26 = o_gf 29 0 7 := rfl
theorem c_X_why_29 : cT 157 29 = o_il 30 1 := rfl
theorem c_X_why_30 : cT 157 30 = o_il 31 2 := rfl
theorem c_X_why_31 : cT 157 31 = o_al 32 0 := rfl
theorem c_X_why_32 : cT 157 32 = o_gf 35 9 0 := rfl
theorem c_X_why_35 : cT 157 35 = o_gf 38 0 8 := rfl
theorem c_X_why_38 : cT 157 38 = o_ca 41 76 4 8 false (some 1) := rfl
theorem c_X_why_41 : cT 157 41 = o_iret .int := rfl
theorem c_X_rules_0 : cT 159 0 = o_il 1 1 := rfl
theorem c_X_rules_1 : cT 159 1 = o_ci 2 0 := rfl
theorem c_X_rules_2 : cT 159 2 = o_ci 4 7 := rfl
theorem c_X_rules_4 : cT 159 4 = o_ca 7 11 3 3 false none := rfl
theorem c_X_rules_7 : cT 159 7 = o_ifeq 10 19 := rfl
theorem c_X_rules_10 : cT 159 10 = o_il 11 2 := rfl
theorem c_X_rules_11 : cT 159 11 = o_ci 12 0 := rfl
theorem c_X_rules_12 : cT 159 12 = o_ci 13 4 := rfl
theorem c_X_rules_13 : cT 159 13 = o_ca 16 11 3 3 false none := rfl
theorem c_X_rules_16 : cT 159 16 = o_ifne 19 22 := rfl
theorem c_X_rules_19 : cT 159 19 = o_ci 21 (-1000000001) := rfl
theorem c_X_rules_21 : cT 159 21 = o_iret .int := rfl
theorem c_X_rules_22 : cT 159 22 = o_al 23 0 := rfl
theorem c_X_rules_23 : cT 159 23 = o_gf 26 9 0 := rfl
theorem c_X_rules_26 : cT 159 26 = o_gf 29 0 7 := rfl
theorem c_X_rules_29 : cT 159 29 = o_il 30 1 := rfl
theorem c_X_rules_30 : cT 159 30 = o_il 31 2 := rfl
theorem c_X_rules_31 : cT 159 31 = o_al 32 0 := rfl
theorem c_X_rules_32 : cT 159 32 = o_gf 35 9 0 := rfl
theorem c_X_rules_35 : cT 159 35 = o_gf 38 0 8 := rfl
theorem c_X_rules_38 : cT 159 38 = o_il 39 3 := rfl
theorem c_X_rules_39 : cT 159 39 = o_il 41 4 := rfl
theorem c_X_rules_41 : cT 159 41 = o_il 43 5 := rfl
theorem c_X_rules_43 : cT 159 43 = o_il 45 6 := rfl
theorem c_X_rules_45 : cT 159 45 = o_ca 48 85 8 9 false (some 1) := rfl
theorem c_X_rules_48 : cT 159 48 = o_iret .int := rfl
theorem c_X_fitsKind_0 : cT 161 0 = o_il 1 1 := rfl
theorem c_X_fitsKind_1 : cT 161 1 = o_sw 78 [(0, 36), (1, 46), (2, 46), (3, 55), (4, 70)] := rfl
theorem c_X_fitsKind_36 : cT 161 36 = o_il 37 2 := rfl
theorem c_X_fitsKind_37 : cT 161 37 = o_ifne 40 44 := rfl
theorem c_X_fitsKind_40 : cT 161 40 = o_ci 41 1 := rfl
theorem c_X_fitsKind_41 : cT 161 41 = o_goto 45 := rfl
theorem c_X_fitsKind_44 : cT 161 44 = o_ci 45 0 := rfl
theorem c_X_fitsKind_45 : cT 161 45 = o_iret .boolean := rfl
theorem c_X_fitsKind_46 : cT 161 46 = o_il 47 2 := rfl
theorem c_X_fitsKind_47 : cT 161 47 = o_ci 48 1 := rfl
theorem c_X_fitsKind_48 : cT 161 48 = o_ci 51 999 := rfl
theorem c_X_fitsKind_51 : cT 161 51 = o_ca 54 11 3 3 false none := rfl
theorem c_X_fitsKind_54 : cT 161 54 = o_iret .boolean := rfl
theorem c_X_fitsKind_55 : cT 161 55 = o_il 56 2 := rfl
theorem c_X_fitsKind_56 : cT 161 56 = o_al 57 0 := rfl
theorem c_X_fitsKind_57 : cT 161 57 = o_gf 60 9 0 := rfl
theorem c_X_fitsKind_60 : cT 161 60 = o_gf 63 0 8 := rfl
theorem c_X_fitsKind_63 : cT 161 63 = o_ci 66 9999 := rfl
theorem c_X_fitsKind_66 : cT 161 66 = o_ca 69 11 3 3 false none := rfl
theorem c_X_fitsKind_69 : cT 161 69 = o_iret .boolean := rfl
theorem c_X_fitsKind_70 : cT 161 70 = o_il 71 2 := rfl
theorem c_X_fitsKind_71 : cT 161 71 = o_ci 72 0 := rfl
theorem c_X_fitsKind_72 : cT 161 72 = o_ci 74 9 := rfl
theorem c_X_fitsKind_74 : cT 161 74 = o_ca 77 11 3 3 false none := rfl
theorem c_X_fitsKind_77 : cT 161 77 = o_iret .boolean := rfl
theorem c_X_fitsKind_78 : cT 161 78 = o_ci 79 0 := rfl
theorem c_X_fitsKind_79 : cT 161 79 = o_iret .boolean := rfl
theorem c_X_paper_0 : cT 162 0 = o_il 1 1 := rfl
theorem c_X_paper_1 : cT 162 1 = o_ci 2 0 := rfl
theorem c_X_paper_2 : cT 162 2 = o_ci 3 4 := rfl
theorem c_X_paper_3 : cT 162 3 = o_ca 6 11 3 3 false none := rfl
theorem c_X_paper_6 : cT 162 6 = o_ifeq 9 32 := rfl
theorem c_X_paper_9 : cT 162 9 = o_al 10 0 := rfl
theorem c_X_paper_10 : cT 162 10 = o_gf 13 9 0 := rfl
theorem c_X_paper_13 : cT 162 13 = o_gf 16 0 0 := rfl
theorem c_X_paper_16 : cT 162 16 = o_il 17 2 := rfl
theorem c_X_paper_17 : cT 162 17 = o_ca 20 21 2 2 false (some 2) := rfl
theorem c_X_paper_20 : cT 162 20 = o_ifeq 23 32 := rfl
theorem c_X_paper_23 : cT 162 23 = o_al 24 0 := rfl
theorem c_X_paper_24 : cT 162 24 = o_il 25 1 := rfl
theorem c_X_paper_25 : cT 162 25 = o_il 26 3 := rfl
theorem c_X_paper_26 : cT 162 26 = o_ca 29 161 3 3 false (some 9) := rfl
theorem c_X_paper_29 : cT 162 29 = o_ifne 32 35 := rfl
theorem c_X_paper_32 : cT 162 32 = o_ci 34 (-1000000001) := rfl
theorem c_X_paper_34 : cT 162 34 = o_iret .int := rfl
theorem c_X_paper_35 : cT 162 35 = o_al 36 0 := rfl
theorem c_X_paper_36 : cT 162 36 = o_gf 39 9 0 := rfl
theorem c_X_paper_39 : cT 162 39 = o_gf 42 0 1 := rfl
theorem c_X_paper_42 : cT 162 42 = o_ca 45 12 1 1 false (some 2) := rfl
theorem c_X_paper_45 : cT 162 45 = o_ifeq 48 51 := rfl
theorem c_X_paper_48 : cT 162 48 = o_ci 50 (-1000000003) := rfl
theorem c_X_paper_50 : cT 162 50 = o_iret .int := rfl
theorem c_X_paper_51 : cT 162 51 = o_al 52 0 := rfl
theorem c_X_paper_52 : cT 162 52 = o_gf 55 9 0 := rfl
theorem c_X_paper_55 : cT 162 55 = o_gf 58 0 1 := rfl
theorem c_X_paper_58 : cT 162 58 = o_il 59 1 := rfl
theorem c_X_paper_59 : cT 162 59 = o_il 60 2 := rfl
theorem c_X_paper_60 : cT 162 60 = o_il 61 3 := rfl
theorem c_X_paper_61 : cT 162 61 = o_al 62 0 := rfl
theorem c_X_paper_62 : cT 162 62 = o_gf 65 9 0 := rfl
theorem c_X_paper_65 : cT 162 65 = o_gf 68 0 8 := rfl
theorem c_X_paper_68 : cT 162 68 = o_ca 71 14 5 7 false (some 2) := rfl
theorem c_X_paper_71 : cT 162 71 = o_iret .int := rfl
theorem c_X_isUnder_0 : cT 164 0 = o_il 1 0 := rfl
theorem c_X_isUnder_1 : cT 164 1 = o_is 2 2 := rfl
theorem c_X_isUnder_2 : cT 164 2 = o_ci 3 0 := rfl
theorem c_X_isUnder_3 : cT 164 3 = o_is 4 3 := rfl
theorem c_X_isUnder_4 : cT 164 4 = o_il 5 3 := rfl
theorem c_X_isUnder_5 : cT 164 5 = o_ci 6 5 := rfl
theorem c_X_isUnder_6 : cT 164 6 = o_icge 9 42 := rfl
theorem c_X_isUnder_9 : cT 164 9 = o_il 10 2 := rfl
theorem c_X_isUnder_10 : cT 164 10 = o_ci 11 0 := rfl
theorem c_X_isUnder_11 : cT 164 11 = o_cv 14 (.ref 3000001) := rfl
theorem c_X_isUnder_14 : cT 164 14 = o_len 15 := rfl
theorem c_X_isUnder_15 : cT 164 15 = o_ci 16 1 := rfl
theorem c_X_isUnder_16 : cT 164 16 = o_isub 17 := rfl
theorem c_X_isUnder_17 : cT 164 17 = o_ca 20 11 3 3 false none := rfl
theorem c_X_isUnder_20 : cT 164 20 = o_ifeq 23 42 := rfl
theorem c_X_isUnder_23 : cT 164 23 = o_il 24 2 := rfl
theorem c_X_isUnder_24 : cT 164 24 = o_il 25 1 := rfl
theorem c_X_isUnder_25 : cT 164 25 = o_icne 28 30 := rfl
theorem c_X_isUnder_28 : cT 164 28 = o_ci 29 1 := rfl
theorem c_X_isUnder_29 : cT 164 29 = o_iret .boolean := rfl
theorem c_X_isUnder_30 : cT 164 30 = o_cv 33 (.ref 3000001) := rfl
theorem c_X_isUnder_33 : cT 164 33 = o_il 34 2 := rfl
theorem c_X_isUnder_34 : cT 164 34 = o_ial 35 := rfl
theorem c_X_isUnder_35 : cT 164 35 = o_is 36 2 := rfl
theorem c_X_isUnder_36 : cT 164 36 = o_inc 39 3 1 := rfl
theorem c_X_isUnder_39 : cT 164 39 = o_goto 4 := rfl
theorem c_X_isUnder_42 : cT 164 42 = o_ci 43 0 := rfl
theorem c_X_isUnder_43 : cT 164 43 = o_iret .boolean := rfl
theorem c_X_paperTold_0 : cT 166 0 = o_al 1 0 := rfl
theorem c_X_paperTold_1 : cT 166 1 = o_gf 4 9 0 := rfl
theorem c_X_paperTold_4 : cT 166 4 = o_gf 7 0 1 := rfl
theorem c_X_paperTold_7 : cT 166 7 = o_il 8 1 := rfl
theorem c_X_paperTold_8 : cT 166 8 = o_ca 11 21 2 2 false (some 2) := rfl
theorem c_X_paperTold_11 : cT 166 11 = o_ifeq 14 23 := rfl
theorem c_X_paperTold_14 : cT 166 14 = o_il 15 2 := rfl
theorem c_X_paperTold_15 : cT 166 15 = o_ci 16 0 := rfl
theorem c_X_paperTold_16 : cT 166 16 = o_ci 17 4 := rfl
theorem c_X_paperTold_17 : cT 166 17 = o_ca 20 11 3 3 false none := rfl
theorem c_X_paperTold_20 : cT 166 20 = o_ifne 23 26 := rfl
theorem c_X_paperTold_23 : cT 166 23 = o_ci 25 (-1000000001) := rfl
theorem c_X_paperTold_25 : cT 166 25 = o_iret .int := rfl
theorem c_X_paperTold_26 : cT 166 26 = o_il 27 2 := rfl
theorem c_X_paperTold_27 : cT 166 27 = o_ci 28 3 := rfl
theorem c_X_paperTold_28 : cT 166 28 = o_icgt 31 44 := rfl
theorem c_X_paperTold_31 : cT 166 31 = o_al 32 0 := rfl
theorem c_X_paperTold_32 : cT 166 32 = o_gf 35 9 0 := rfl
theorem c_X_paperTold_35 : cT 166 35 = o_gf 38 0 1 := rfl
theorem c_X_paperTold_38 : cT 166 38 = o_il 39 1 := rfl
theorem c_X_paperTold_39 : cT 166 39 = o_il 40 2 := rfl
theorem c_X_paperTold_40 : cT 166 40 = o_ca 43 22 3 4 false (some 2) := rfl
theorem c_X_paperTold_43 : cT 166 43 = o_iret .int := rfl
theorem c_X_paperTold_44 : cT 166 44 = o_al 45 0 := rfl
theorem c_X_paperTold_45 : cT 166 45 = o_gf 48 9 0 := rfl
theorem c_X_paperTold_48 : cT 166 48 = o_gf 51 0 1 := rfl
theorem c_X_paperTold_51 : cT 166 51 = o_il 52 1 := rfl
theorem c_X_paperTold_52 : cT 166 52 = o_ci 53 0 := rfl
theorem c_X_paperTold_53 : cT 166 53 = o_ca 56 22 3 4 false (some 2) := rfl
theorem c_X_paperTold_56 : cT 166 56 = o_ci 57 1 := rfl
theorem c_X_paperTold_57 : cT 166 57 = o_ca 60 164 2 4 false none := rfl
theorem c_X_paperTold_60 : cT 166 60 = o_ifeq 63 74 := rfl
theorem c_X_paperTold_63 : cT 166 63 = o_al 64 0 := rfl
theorem c_X_paperTold_64 : cT 166 64 = o_gf 67 9 0 := rfl
theorem c_X_paperTold_67 : cT 166 67 = o_il 68 1 := rfl
theorem c_X_paperTold_68 : cT 166 68 = o_ca 71 165 2 2 false (some 0) := rfl
theorem c_X_paperTold_71 : cT 166 71 = o_goto 76 := rfl
theorem c_X_paperTold_74 : cT 166 74 = o_ci 76 (-1000000005) := rfl
theorem c_X_paperTold_76 : cT 166 76 = o_iret .int := rfl
theorem c_X_as_0 : cT 168 0 = o_al 1 0 := rfl
theorem c_X_as_1 : cT 168 1 = o_gf 4 9 0 := rfl
theorem c_X_as_4 : cT 168 4 = o_gf 7 0 1 := rfl
theorem c_X_as_7 : cT 168 7 = o_il 8 1 := rfl
theorem c_X_as_8 : cT 168 8 = o_ca 11 21 2 2 false (some 2) := rfl
theorem c_X_as_11 : cT 168 11 = o_ifeq 14 23 := rfl
theorem c_X_as_14 : cT 168 14 = o_il 15 2 := rfl
theorem c_X_as_15 : cT 168 15 = o_ci 16 0 := rfl
theorem c_X_as_16 : cT 168 16 = o_ci 17 4 := rfl
theorem c_X_as_17 : cT 168 17 = o_ca 20 11 3 3 false none := rfl
theorem c_X_as_20 : cT 168 20 = o_ifne 23 26 := rfl
theorem c_X_as_23 : cT 168 23 = o_ci 25 (-1000000001) := rfl
theorem c_X_as_25 : cT 168 25 = o_iret .int := rfl
theorem c_X_as_26 : cT 168 26 = o_al 27 0 := rfl
theorem c_X_as_27 : cT 168 27 = o_gf 30 9 0 := rfl
theorem c_X_as_30 : cT 168 30 = o_gf 33 0 1 := rfl
theorem c_X_as_33 : cT 168 33 = o_il 34 1 := rfl
theorem c_X_as_34 : cT 168 34 = o_ci 35 0 := rfl
theorem c_X_as_35 : cT 168 35 = o_ca 38 22 3 4 false (some 2) := rfl
theorem c_X_as_38 : cT 168 38 = o_il 39 2 := rfl
theorem c_X_as_39 : cT 168 39 = o_ca 42 164 2 4 false none := rfl
theorem c_X_as_42 : cT 168 42 = o_ifne 45 48 := rfl
theorem c_X_as_45 : cT 168 45 = o_ci 47 (-1000000012) := rfl
theorem c_X_as_47 : cT 168 47 = o_iret .int := rfl
theorem c_X_as_48 : cT 168 48 = o_al 49 0 := rfl
theorem c_X_as_49 : cT 168 49 = o_gf 52 9 0 := rfl
theorem c_X_as_52 : cT 168 52 = o_gf 55 0 1 := rfl
theorem c_X_as_55 : cT 168 55 = o_il 56 1 := rfl
theorem c_X_as_56 : cT 168 56 = o_ci 57 2 := rfl
theorem c_X_as_57 : cT 168 57 = o_ca 60 22 3 4 false (some 2) := rfl
theorem c_X_as_60 : cT 168 60 = o_iret .int := rfl
theorem c_X_member_0 : cT 171 0 = o_il 1 1 := rfl
theorem c_X_member_1 : cT 171 1 = o_ci 2 0 := rfl
theorem c_X_member_2 : cT 171 2 = o_ci 4 127 := rfl
theorem c_X_member_4 : cT 171 4 = o_ca 7 11 3 3 false none := rfl
theorem c_X_member_7 : cT 171 7 = o_ifeq 10 20 := rfl
theorem c_X_member_10 : cT 171 10 = o_il 11 2 := rfl
theorem c_X_member_11 : cT 171 11 = o_ci 12 0 := rfl
theorem c_X_member_12 : cT 171 12 = o_ci 14 63 := rfl
theorem c_X_member_14 : cT 171 14 = o_ca 17 11 3 3 false none := rfl
theorem c_X_member_17 : cT 171 17 = o_ifne 20 23 := rfl
theorem c_X_member_20 : cT 171 20 = o_ci 22 (-1000000001) := rfl
theorem c_X_member_22 : cT 171 22 = o_iret .int := rfl
theorem c_X_member_23 : cT 171 23 = o_al 24 0 := rfl
theorem c_X_member_24 : cT 171 24 = o_gf 27 9 0 := rfl
theorem c_X_member_27 : cT 171 27 = o_gf 30 0 2 := rfl
theorem c_X_member_30 : cT 171 30 = o_ca 33 12 1 1 false (some 2) := rfl
theorem c_X_member_33 : cT 171 33 = o_ifeq 36 39 := rfl
theorem c_X_member_36 : cT 171 36 = o_ci 38 (-1000000003) := rfl
theorem c_X_member_38 : cT 171 38 = o_iret .int := rfl
theorem c_X_member_39 : cT 171 39 = o_al 40 0 := rfl
theorem c_X_member_40 : cT 171 40 = o_gf 43 9 0 := rfl
theorem c_X_member_43 : cT 171 43 = o_gf 46 0 2 := rfl
theorem c_X_member_46 : cT 171 46 = o_il 47 1 := rfl
theorem c_X_member_47 : cT 171 47 = o_il 48 2 := rfl
theorem c_X_member_48 : cT 171 48 = o_ci 49 0 := rfl
theorem c_X_member_49 : cT 171 49 = o_ci 50 0 := rfl
theorem c_X_member_50 : cT 171 50 = o_ca 53 14 5 7 false (some 2) := rfl
theorem c_X_member_53 : cT 171 53 = o_iret .int := rfl
theorem c_X_conflict_0 : cT 173 0 = o_al 1 0 := rfl
theorem c_X_conflict_1 : cT 173 1 = o_gf 4 9 0 := rfl
theorem c_X_conflict_4 : cT 173 4 = o_gf 7 0 2 := rfl
theorem c_X_conflict_7 : cT 173 7 = o_il 8 1 := rfl
theorem c_X_conflict_8 : cT 173 8 = o_ca 11 21 2 2 false (some 2) := rfl
theorem c_X_conflict_11 : cT 173 11 = o_ifeq 14 37 := rfl
theorem c_X_conflict_14 : cT 173 14 = o_al 15 0 := rfl
theorem c_X_conflict_15 : cT 173 15 = o_gf 18 9 0 := rfl
theorem c_X_conflict_18 : cT 173 18 = o_gf 21 0 0 := rfl
theorem c_X_conflict_21 : cT 173 21 = o_il 22 2 := rfl
theorem c_X_conflict_22 : cT 173 22 = o_ca 25 21 2 2 false (some 2) := rfl
theorem c_X_conflict_25 : cT 173 25 = o_ifeq 28 37 := rfl
theorem c_X_conflict_28 : cT 173 28 = o_il 29 3 := rfl
theorem c_X_conflict_29 : cT 173 29 = o_ci 30 0 := rfl
theorem c_X_conflict_30 : cT 173 30 = o_ci 31 1 := rfl
theorem c_X_conflict_31 : cT 173 31 = o_ca 34 11 3 3 false none := rfl
theorem c_X_conflict_34 : cT 173 34 = o_ifne 37 40 := rfl
theorem c_X_conflict_37 : cT 173 37 = o_ci 39 (-1000000001) := rfl
theorem c_X_conflict_39 : cT 173 39 = o_iret .int := rfl
theorem c_X_conflict_40 : cT 173 40 = o_ci 41 1 := rfl
theorem c_X_conflict_41 : cT 173 41 = o_il 42 2 := rfl
theorem c_X_conflict_42 : cT 173 42 = o_ishl 43 := rfl
theorem c_X_conflict_43 : cT 173 43 = o_is 45 4 := rfl
theorem c_X_conflict_45 : cT 173 45 = o_al 46 0 := rfl
theorem c_X_conflict_46 : cT 173 46 = o_gf 49 9 0 := rfl
theorem c_X_conflict_49 : cT 173 49 = o_gf 52 0 2 := rfl
theorem c_X_conflict_52 : cT 173 52 = o_il 53 1 := rfl
theorem c_X_conflict_53 : cT 173 53 = o_ci 54 2 := rfl
theorem c_X_conflict_54 : cT 173 54 = o_ca 57 22 3 4 false (some 2) := rfl
theorem c_X_conflict_57 : cT 173 57 = o_is 59 5 := rfl
theorem c_X_conflict_59 : cT 173 59 = o_al 60 0 := rfl
theorem c_X_conflict_60 : cT 173 60 = o_gf 63 9 0 := rfl
theorem c_X_conflict_63 : cT 173 63 = o_gf 66 0 2 := rfl
theorem c_X_conflict_66 : cT 173 66 = o_il 67 1 := rfl
theorem c_X_conflict_67 : cT 173 67 = o_ci 68 2 := rfl
theorem c_X_conflict_68 : cT 173 68 = o_il 69 3 := rfl
theorem c_X_conflict_69 : cT 173 69 = o_ci 70 1 := rfl
theorem c_X_conflict_70 : cT 173 70 = o_icne 73 81 := rfl
theorem c_X_conflict_73 : cT 173 73 = o_il 75 5 := rfl
theorem c_X_conflict_75 : cT 173 75 = o_il 77 4 := rfl
theorem c_X_conflict_77 : cT 173 77 = o_ior 78 := rfl
theorem c_X_conflict_78 : cT 173 78 = o_goto 88 := rfl
theorem c_X_conflict_81 : cT 173 81 = o_il 83 5 := rfl
theorem c_X_conflict_83 : cT 173 83 = o_il 85 4 := rfl
theorem c_X_conflict_85 : cT 173 85 = o_ci 86 (-1) := rfl
theorem c_X_conflict_86 : cT 173 86 = o_ixor 87 := rfl
theorem c_X_conflict_87 : cT 173 87 = o_iand 88 := rfl
theorem c_X_conflict_88 : cT 173 88 = o_ca 91 13 4 5 false (some 2) := rfl
theorem c_X_conflict_91 : cT 173 91 = o_il 93 5 := rfl
theorem c_X_conflict_93 : cT 173 93 = o_il 95 4 := rfl
theorem c_X_conflict_95 : cT 173 95 = o_iand 96 := rfl
theorem c_X_conflict_96 : cT 173 96 = o_ifne 99 103 := rfl
theorem c_X_conflict_99 : cT 173 99 = o_ci 100 0 := rfl
theorem c_X_conflict_100 : cT 173 100 = o_goto 104 := rfl
theorem c_X_conflict_103 : cT 173 103 = o_ci 104 1 := rfl
theorem c_X_conflict_104 : cT 173 104 = o_iret .int := rfl
theorem c_X_is_0 : cT 175 0 = o_al 1 0 := rfl
theorem c_X_is_1 : cT 175 1 = o_gf 4 9 0 := rfl
theorem c_X_is_4 : cT 175 4 = o_gf 7 0 2 := rfl
theorem c_X_is_7 : cT 175 7 = o_il 8 1 := rfl
theorem c_X_is_8 : cT 175 8 = o_ca 11 21 2 2 false (some 2) := rfl
theorem c_X_is_11 : cT 175 11 = o_ifeq 14 23 := rfl
theorem c_X_is_14 : cT 175 14 = o_il 15 2 := rfl
theorem c_X_is_15 : cT 175 15 = o_ci 16 0 := rfl
theorem c_X_is_16 : cT 175 16 = o_ci 17 3 := rfl
theorem c_X_is_17 : cT 175 17 = o_ca 20 11 3 3 false none := rfl
theorem c_X_is_20 : cT 175 20 = o_ifne 23 26 := rfl
theorem c_X_is_23 : cT 175 23 = o_ci 25 (-1000000001) := rfl
theorem c_X_is_25 : cT 175 25 = o_iret .int := rfl
theorem c_X_is_26 : cT 175 26 = o_al 27 0 := rfl
theorem c_X_is_27 : cT 175 27 = o_gf 30 9 0 := rfl
theorem c_X_is_30 : cT 175 30 = o_gf 33 0 2 := rfl
theorem c_X_is_33 : cT 175 33 = o_il 34 1 := rfl
theorem c_X_is_34 : cT 175 34 = o_il 35 2 := rfl
theorem c_X_is_35 : cT 175 35 = o_ca 38 22 3 4 false (some 2) := rfl
theorem c_X_is_38 : cT 175 38 = o_iret .int := rfl
theorem c_X_board_0 : cT 179 0 = o_ci 1 1 := rfl
theorem c_X_board_1 : cT 179 1 = o_al 2 0 := rfl
theorem c_X_board_2 : cT 179 2 = o_gf 5 9 0 := rfl
theorem c_X_board_5 : cT 179 5 = o_gf 8 0 0 := rfl
theorem c_X_board_8 : cT 179 8 = o_gf 11 2 3 := rfl
theorem c_X_board_11 : cT 179 11 = o_ishl 12 := rfl
theorem c_X_board_12 : cT 179 12 = o_ci 13 1 := rfl
theorem c_X_board_13 : cT 179 13 = o_isub 14 := rfl
theorem c_X_board_14 : cT 179 14 = o_is 16 4 := rfl
theorem c_X_board_16 : cT 179 16 = o_il 17 1 := rfl
theorem c_X_board_17 : cT 179 17 = o_il 19 4 := rfl
theorem c_X_board_19 : cT 179 19 = o_ci 20 (-1) := rfl
theorem c_X_board_20 : cT 179 20 = o_ixor 21 := rfl
theorem c_X_board_21 : cT 179 21 = o_iand 22 := rfl
theorem c_X_board_22 : cT 179 22 = o_ifne 25 45 := rfl
theorem c_X_board_25 : cT 179 25 = o_il 26 2 := rfl
theorem c_X_board_26 : cT 179 26 = o_ci 27 0 := rfl
theorem c_X_board_27 : cT 179 27 = o_ci 28 5 := rfl
theorem c_X_board_28 : cT 179 28 = o_ca 31 11 3 3 false none := rfl
theorem c_X_board_31 : cT 179 31 = o_ifeq 34 45 := rfl
theorem c_X_board_34 : cT 179 34 = o_il 35 3 := rfl
theorem c_X_board_35 : cT 179 35 = o_ci 36 0 := rfl
theorem c_X_board_36 : cT 179 36 = o_ci 39 9999 := rfl
theorem c_X_board_39 : cT 179 39 = o_ca 42 11 3 3 false none := rfl
theorem c_X_board_42 : cT 179 42 = o_ifne 45 48 := rfl
theorem c_X_board_45 : cT 179 45 = o_ci 47 (-1000000001) := rfl
theorem c_X_board_47 : cT 179 47 = o_iret .int := rfl
theorem c_X_board_48 : cT 179 48 = o_al 49 0 := rfl
theorem c_X_board_49 : cT 179 49 = o_gf 52 9 0 := rfl
theorem c_X_board_52 : cT 179 52 = o_il 53 1 := rfl
theorem c_X_board_53 : cT 179 53 = o_il 54 2 := rfl
theorem c_X_board_54 : cT 179 54 = o_il 55 3 := rfl
theorem c_X_board_55 : cT 179 55 = o_ca 58 178 4 12 false (some 0) := rfl
theorem c_X_board_58 : cT 179 58 = o_iret .int := rfl
theorem c_X_hearing_0 : cT 185 0 = o_al 1 0 := rfl
theorem c_X_hearing_1 : cT 185 1 = o_gf 4 9 0 := rfl
theorem c_X_hearing_4 : cT 185 4 = o_gf 7 0 0 := rfl
theorem c_X_hearing_7 : cT 185 7 = o_il 8 1 := rfl
theorem c_X_hearing_8 : cT 185 8 = o_ca 11 21 2 2 false (some 2) := rfl
theorem c_X_hearing_11 : cT 185 11 = o_ifeq 14 31 := rfl
theorem c_X_hearing_14 : cT 185 14 = o_il 15 2 := rfl
theorem c_X_hearing_15 : cT 185 15 = o_al 16 0 := rfl
theorem c_X_hearing_16 : cT 185 16 = o_gf 19 9 0 := rfl
theorem c_X_hearing_19 : cT 185 19 = o_gf 22 0 8 := rfl
theorem c_X_hearing_22 : cT 185 22 = o_ci 25 2999 := rfl
theorem c_X_hearing_25 : cT 185 25 = o_ca 28 11 3 3 false none := rfl
theorem c_X_hearing_28 : cT 185 28 = o_ifne 31 34 := rfl
theorem c_X_hearing_31 : cT 185 31 = o_ci 33 (-1000000001) := rfl
theorem c_X_hearing_33 : cT 185 33 = o_iret .int := rfl
theorem c_X_hearing_34 : cT 185 34 = o_al 35 0 := rfl
theorem c_X_hearing_35 : cT 185 35 = o_gf 38 9 0 := rfl
theorem c_X_hearing_38 : cT 185 38 = o_il 39 1 := rfl
theorem c_X_hearing_39 : cT 185 39 = o_ca 42 41 2 2 false (some 0) := rfl
theorem c_X_hearing_42 : cT 185 42 = o_ifne 45 58 := rfl
theorem c_X_hearing_45 : cT 185 45 = o_al 46 0 := rfl
theorem c_X_hearing_46 : cT 185 46 = o_gf 49 9 0 := rfl
theorem c_X_hearing_49 : cT 185 49 = o_il 50 1 := rfl
theorem c_X_hearing_50 : cT 185 50 = o_ca 53 27 2 3 false (some 0) := rfl
theorem c_X_hearing_53 : cT 185 53 = o_ci 55 (-1000000005) := rfl
theorem c_X_hearing_55 : cT 185 55 = o_iceq 58 61 := rfl
theorem c_X_hearing_58 : cT 185 58 = o_ci 60 (-1000000002) := rfl
theorem c_X_hearing_60 : cT 185 60 = o_iret .int := rfl
theorem c_X_hearing_61 : cT 185 61 = o_al 62 0 := rfl
theorem c_X_hearing_62 : cT 185 62 = o_gf 65 9 0 := rfl
theorem c_X_hearing_65 : cT 185 65 = o_gf 68 0 3 := rfl
theorem c_X_hearing_68 : cT 185 68 = o_ca 71 12 1 1 false (some 2) := rfl
theorem c_X_hearing_71 : cT 185 71 = o_ifeq 74 77 := rfl
theorem c_X_hearing_74 : cT 185 74 = o_ci 76 (-1000000003) := rfl
theorem c_X_hearing_76 : cT 185 76 = o_iret .int := rfl
theorem c_X_hearing_77 : cT 185 77 = o_al 78 0 := rfl
theorem c_X_hearing_78 : cT 185 78 = o_gf 81 9 0 := rfl
theorem c_X_hearing_81 : cT 185 81 = o_gf 84 0 3 := rfl
theorem c_X_hearing_84 : cT 185 84 = o_il 85 1 := rfl
theorem c_X_hearing_85 : cT 185 85 = o_il 86 2 := rfl
theorem c_X_hearing_86 : cT 185 86 = o_ci 87 0 := rfl
theorem c_X_hearing_87 : cT 185 87 = o_ci 88 0 := rfl
theorem c_X_hearing_88 : cT 185 88 = o_ca 91 14 5 7 false (some 2) := rfl
theorem c_X_hearing_91 : cT 185 91 = o_iret .int := rfl
theorem c_X_heard_0 : cT 188 0 = o_al 1 0 := rfl
theorem c_X_heard_1 : cT 188 1 = o_gf 4 9 0 := rfl
theorem c_X_heard_4 : cT 188 4 = o_gf 7 0 3 := rfl
theorem c_X_heard_7 : cT 188 7 = o_il 8 1 := rfl
theorem c_X_heard_8 : cT 188 8 = o_ca 11 21 2 2 false (some 2) := rfl
theorem c_X_heard_11 : cT 188 11 = o_ifeq 14 23 := rfl
theorem c_X_heard_14 : cT 188 14 = o_il 15 2 := rfl
theorem c_X_heard_15 : cT 188 15 = o_ci 16 0 := rfl
theorem c_X_heard_16 : cT 188 16 = o_ci 17 4 := rfl
theorem c_X_heard_17 : cT 188 17 = o_ca 20 11 3 3 false none := rfl
theorem c_X_heard_20 : cT 188 20 = o_ifne 23 26 := rfl
theorem c_X_heard_23 : cT 188 23 = o_ci 25 (-1000000001) := rfl
theorem c_X_heard_25 : cT 188 25 = o_iret .int := rfl
theorem c_X_heard_26 : cT 188 26 = o_al 27 0 := rfl
theorem c_X_heard_27 : cT 188 27 = o_gf 30 9 0 := rfl
theorem c_X_heard_30 : cT 188 30 = o_gf 33 0 3 := rfl
theorem c_X_heard_33 : cT 188 33 = o_il 34 1 := rfl
theorem c_X_heard_34 : cT 188 34 = o_il 35 2 := rfl
theorem c_X_heard_35 : cT 188 35 = o_ca 38 22 3 4 false (some 2) := rfl
theorem c_X_heard_38 : cT 188 38 = o_iret .int := rfl
theorem c_X_cause_0 : cT 193 0 = o_al 1 0 := rfl
theorem c_X_cause_1 : cT 193 1 = o_gf 4 9 0 := rfl
theorem c_X_cause_4 : cT 193 4 = o_gf 7 0 0 := rfl
theorem c_X_cause_7 : cT 193 7 = o_il 8 1 := rfl
theorem c_X_cause_8 : cT 193 8 = o_ca 11 21 2 2 false (some 2) := rfl
theorem c_X_cause_11 : cT 193 11 = o_ifne 14 17 := rfl
theorem c_X_cause_14 : cT 193 14 = o_ci 16 (-1000000001) := rfl
theorem c_X_cause_16 : cT 193 16 = o_iret .int := rfl
theorem c_X_cause_17 : cT 193 17 = o_al 18 0 := rfl
theorem c_X_cause_18 : cT 193 18 = o_gf 21 9 0 := rfl
theorem c_X_cause_21 : cT 193 21 = o_il 22 1 := rfl
theorem c_X_cause_22 : cT 193 22 = o_ca 25 41 2 2 false (some 0) := rfl
theorem c_X_cause_25 : cT 193 25 = o_ifeq 28 31 := rfl
theorem c_X_cause_28 : cT 193 28 = o_ci 30 (-1000000002) := rfl
theorem c_X_cause_30 : cT 193 30 = o_iret .int := rfl
theorem c_X_cause_31 : cT 193 31 = o_al 32 0 := rfl
theorem c_X_cause_32 : cT 193 32 = o_gf 35 9 0 := rfl
theorem c_X_cause_35 : cT 193 35 = o_il 36 1 := rfl
theorem c_X_cause_36 : cT 193 36 = o_ca 39 192 2 2 false (some 0) := rfl
theorem c_X_cause_39 : cT 193 39 = o_iret .int := rfl
theorem c_X_puts_0 : cT 199 0 = o_il 1 1 := rfl
theorem c_X_puts_1 : cT 199 1 = o_ci 2 1 := rfl
theorem c_X_puts_2 : cT 199 2 = o_ci 3 4 := rfl
theorem c_X_puts_3 : cT 199 3 = o_ca 6 11 3 3 false none := rfl
theorem c_X_puts_6 : cT 199 6 = o_ifne 9 12 := rfl
theorem c_X_puts_9 : cT 199 9 = o_ci 11 (-1000000001) := rfl
theorem c_X_puts_11 : cT 199 11 = o_iret .int := rfl
theorem c_X_puts_12 : cT 199 12 = o_al 13 0 := rfl
theorem c_X_puts_13 : cT 199 13 = o_gf 16 9 0 := rfl
theorem c_X_puts_16 : cT 199 16 = o_il 17 1 := rfl
theorem c_X_puts_17 : cT 199 17 = o_ca 20 198 2 2 false (some 0) := rfl
theorem c_X_puts_20 : cT 199 20 = o_iret .int := rfl
theorem c_X_recall_0 : cT 201 0 = o_al 1 0 := rfl
theorem c_X_recall_1 : cT 201 1 = o_gf 4 9 0 := rfl
theorem c_X_recall_4 : cT 201 4 = o_gf 7 0 0 := rfl
theorem c_X_recall_7 : cT 201 7 = o_il 8 1 := rfl
theorem c_X_recall_8 : cT 201 8 = o_ca 11 21 2 2 false (some 2) := rfl
theorem c_X_recall_11 : cT 201 11 = o_ifne 14 17 := rfl
theorem c_X_recall_14 : cT 201 14 = o_ci 16 (-1000000001) := rfl
theorem c_X_recall_16 : cT 201 16 = o_iret .int := rfl
theorem c_X_recall_17 : cT 201 17 = o_al 18 0 := rfl
theorem c_X_recall_18 : cT 201 18 = o_gf 21 9 0 := rfl
theorem c_X_recall_21 : cT 201 21 = o_il 22 1 := rfl
theorem c_X_recall_22 : cT 201 22 = o_ca 25 41 2 2 false (some 0) := rfl
theorem c_X_recall_25 : cT 201 25 = o_ci 26 1 := rfl
theorem c_X_recall_26 : cT 201 26 = o_iceq 29 32 := rfl
theorem c_X_recall_29 : cT 201 29 = o_ci 31 (-1000000002) := rfl
theorem c_X_recall_31 : cT 201 31 = o_iret .int := rfl
theorem c_X_recall_32 : cT 201 32 = o_al 33 0 := rfl
theorem c_X_recall_33 : cT 201 33 = o_gf 36 9 0 := rfl
theorem c_X_recall_36 : cT 201 36 = o_gf 39 0 6 := rfl
theorem c_X_recall_39 : cT 201 39 = o_gf 42 8 1 := rfl
theorem c_X_recall_42 : cT 201 42 = o_ca 45 12 1 1 false (some 2) := rfl
theorem c_X_recall_45 : cT 201 45 = o_ifeq 48 51 := rfl
theorem c_X_recall_48 : cT 201 48 = o_ci 50 (-1000000003) := rfl
theorem c_X_recall_50 : cT 201 50 = o_iret .int := rfl
theorem c_X_recall_51 : cT 201 51 = o_al 52 0 := rfl
theorem c_X_recall_52 : cT 201 52 = o_gf 55 9 0 := rfl
theorem c_X_recall_55 : cT 201 55 = o_gf 58 0 0 := rfl
theorem c_X_recall_58 : cT 201 58 = o_il 59 1 := rfl
theorem c_X_recall_59 : cT 201 59 = o_ci 60 3 := rfl
theorem c_X_recall_60 : cT 201 60 = o_ci 61 0 := rfl
theorem c_X_recall_61 : cT 201 61 = o_ca 64 13 4 5 false (some 2) := rfl
theorem c_X_recall_64 : cT 201 64 = o_al 65 0 := rfl
theorem c_X_recall_65 : cT 201 65 = o_gf 68 9 0 := rfl
theorem c_X_recall_68 : cT 201 68 = o_gf 71 0 6 := rfl
theorem c_X_recall_71 : cT 201 71 = o_il 72 1 := rfl
theorem c_X_recall_72 : cT 201 72 = o_al 73 0 := rfl
theorem c_X_recall_73 : cT 201 73 = o_gf 76 9 0 := rfl
theorem c_X_recall_76 : cT 201 76 = o_gf 79 0 8 := rfl
theorem c_X_recall_79 : cT 201 79 = o_ca 82 15 3 3 false (some 8) := rfl
theorem c_X_recall_82 : cT 201 82 = o_ci 83 1 := rfl
theorem c_X_recall_83 : cT 201 83 = o_iret .int := rfl
theorem c_X_unwind_0 : cT 207 0 = o_al 1 0 := rfl
theorem c_X_unwind_1 : cT 207 1 = o_gf 4 9 0 := rfl
theorem c_X_unwind_4 : cT 207 4 = o_gf 7 0 3 := rfl
theorem c_X_unwind_7 : cT 207 7 = o_il 8 1 := rfl
theorem c_X_unwind_8 : cT 207 8 = o_ca 11 21 2 2 false (some 2) := rfl
theorem c_X_unwind_11 : cT 207 11 = o_ifne 14 17 := rfl
theorem c_X_unwind_14 : cT 207 14 = o_ci 16 (-1000000001) := rfl
theorem c_X_unwind_16 : cT 207 16 = o_iret .int := rfl
theorem c_X_unwind_17 : cT 207 17 = o_al 18 0 := rfl
theorem c_X_unwind_18 : cT 207 18 = o_gf 21 9 0 := rfl
theorem c_X_unwind_21 : cT 207 21 = o_il 22 1 := rfl
theorem c_X_unwind_22 : cT 207 22 = o_ca 25 203 2 4 false (some 0) := rfl
theorem c_X_unwind_25 : cT 207 25 = o_ifne 28 31 := rfl
theorem c_X_unwind_28 : cT 207 28 = o_ci 30 (-1000000002) := rfl
theorem c_X_unwind_30 : cT 207 30 = o_iret .int := rfl
theorem c_X_unwind_31 : cT 207 31 = o_al 32 0 := rfl
theorem c_X_unwind_32 : cT 207 32 = o_gf 35 9 0 := rfl
theorem c_X_unwind_35 : cT 207 35 = o_il 36 1 := rfl
theorem c_X_unwind_36 : cT 207 36 = o_ca 39 204 2 3 false (some 0) := rfl
theorem c_X_unwind_39 : cT 207 39 = o_ifeq 42 46 := rfl
theorem c_X_unwind_42 : cT 207 42 = o_ci 43 1 := rfl
theorem c_X_unwind_43 : cT 207 43 = o_goto 47 := rfl
theorem c_X_unwind_46 : cT 207 46 = o_ci 47 0 := rfl
theorem c_X_unwind_47 : cT 207 47 = o_is 48 2 := rfl
theorem c_X_unwind_48 : cT 207 48 = o_il 49 2 := rfl
theorem c_X_unwind_49 : cT 207 49 = o_ifne 52 71 := rfl
theorem c_X_unwind_52 : cT 207 52 = o_al 53 0 := rfl
theorem c_X_unwind_53 : cT 207 53 = o_gf 56 9 0 := rfl
theorem c_X_unwind_56 : cT 207 56 = o_gf 59 0 6 := rfl
theorem c_X_unwind_59 : cT 207 59 = o_gf 62 8 1 := rfl
theorem c_X_unwind_62 : cT 207 62 = o_ca 65 12 1 1 false (some 2) := rfl
theorem c_X_unwind_65 : cT 207 65 = o_ifeq 68 71 := rfl
theorem c_X_unwind_68 : cT 207 68 = o_ci 70 (-1000000003) := rfl
theorem c_X_unwind_70 : cT 207 70 = o_iret .int := rfl
theorem c_X_unwind_71 : cT 207 71 = o_al 72 0 := rfl
theorem c_X_unwind_72 : cT 207 72 = o_gf 75 9 0 := rfl
theorem c_X_unwind_75 : cT 207 75 = o_il 76 1 := rfl
theorem c_X_unwind_76 : cT 207 76 = o_il 77 2 := rfl
theorem c_X_unwind_77 : cT 207 77 = o_ca 80 206 3 4 false (some 0) := rfl
theorem c_X_unwind_80 : cT 207 80 = o_il 81 2 := rfl
theorem c_X_unwind_81 : cT 207 81 = o_ifeq 84 88 := rfl
theorem c_X_unwind_84 : cT 207 84 = o_ci 85 1 := rfl
theorem c_X_unwind_85 : cT 207 85 = o_goto 89 := rfl
theorem c_X_unwind_88 : cT 207 88 = o_ci 89 0 := rfl
theorem c_X_unwind_89 : cT 207 89 = o_iret .int := rfl
theorem c_X_run_0 : cT 220 0 = o_il 1 1 := rfl
theorem c_X_run_1 : cT 220 1 = o_ci 2 1 := rfl
theorem c_X_run_2 : cT 220 2 = o_ci 4 60 := rfl
theorem c_X_run_4 : cT 220 4 = o_ca 7 11 3 3 false none := rfl
theorem c_X_run_7 : cT 220 7 = o_ifne 10 13 := rfl
theorem c_X_run_10 : cT 220 10 = o_ci 12 (-1000000001) := rfl
theorem c_X_run_12 : cT 220 12 = o_iret .int := rfl
theorem c_X_run_13 : cT 220 13 = o_al 14 0 := rfl
theorem c_X_run_14 : cT 220 14 = o_gf 17 9 0 := rfl
theorem c_X_run_17 : cT 220 17 = o_gf 20 0 8 := rfl
theorem c_X_run_20 : cT 220 20 = o_il 21 1 := rfl
theorem c_X_run_21 : cT 220 21 = o_iadd 22 := rfl
theorem c_X_run_22 : cT 220 22 = o_ci 25 2999 := rfl
theorem c_X_run_25 : cT 220 25 = o_icle 28 31 := rfl
theorem c_X_run_28 : cT 220 28 = o_ci 30 (-1000000003) := rfl
theorem c_X_run_30 : cT 220 30 = o_iret .int := rfl
theorem c_X_run_31 : cT 220 31 = o_ci 32 0 := rfl
theorem c_X_run_32 : cT 220 32 = o_is 33 2 := rfl
theorem c_X_run_33 : cT 220 33 = o_il 34 2 := rfl
theorem c_X_run_34 : cT 220 34 = o_il 35 1 := rfl
theorem c_X_run_35 : cT 220 35 = o_icge 38 51 := rfl
theorem c_X_run_38 : cT 220 38 = o_al 39 0 := rfl
theorem c_X_run_39 : cT 220 39 = o_gf 42 9 0 := rfl
theorem c_X_run_42 : cT 220 42 = o_ca 45 219 1 5 false (some 0) := rfl
theorem c_X_run_45 : cT 220 45 = o_inc 48 2 1 := rfl
theorem c_X_run_48 : cT 220 48 = o_goto 33 := rfl
theorem c_X_run_51 : cT 220 51 = o_al 52 0 := rfl
theorem c_X_run_52 : cT 220 52 = o_gf 55 9 0 := rfl
theorem c_X_run_55 : cT 220 55 = o_gf 58 0 8 := rfl
theorem c_X_run_58 : cT 220 58 = o_iret .int := rfl
theorem c_X_table_0 : cT 227 0 = o_il 1 1 := rfl
theorem c_X_table_1 : cT 227 1 = o_ci 2 0 := rfl
theorem c_X_table_2 : cT 227 2 = o_ci 4 7 := rfl
theorem c_X_table_4 : cT 227 4 = o_ca 7 11 3 3 false none := rfl
theorem c_X_table_7 : cT 227 7 = o_ifeq 10 19 := rfl
theorem c_X_table_10 : cT 227 10 = o_il 11 2 := rfl
theorem c_X_table_11 : cT 227 11 = o_ci 12 0 := rfl
theorem c_X_table_12 : cT 227 12 = o_ci 13 2 := rfl
theorem c_X_table_13 : cT 227 13 = o_ca 16 11 3 3 false none := rfl
theorem c_X_table_16 : cT 227 16 = o_ifne 19 22 := rfl
theorem c_X_table_19 : cT 227 19 = o_ci 21 (-1000000001) := rfl
theorem c_X_table_21 : cT 227 21 = o_iret .int := rfl
theorem c_X_table_22 : cT 227 22 = o_il 23 3 := rfl
theorem c_X_table_23 : cT 227 23 = o_ci 24 0 := rfl
theorem c_X_table_24 : cT 227 24 = o_ci 27 9999 := rfl
theorem c_X_table_27 : cT 227 27 = o_ca 30 11 3 3 false none := rfl
theorem c_X_table_30 : cT 227 30 = o_ifne 33 36 := rfl
theorem c_X_table_33 : cT 227 33 = o_ci 35 (-1000000001) := rfl
theorem c_X_table_35 : cT 227 35 = o_iret .int := rfl
theorem c_X_table_36 : cT 227 36 = o_al 37 0 := rfl
theorem c_X_table_37 : cT 227 37 = o_gf 40 9 0 := rfl
theorem c_X_table_40 : cT 227 40 = o_gf 43 0 4 := rfl
theorem c_X_table_43 : cT 227 43 = o_il 44 1 := rfl
theorem c_X_table_44 : cT 227 44 = o_il 45 2 := rfl
theorem c_X_table_45 : cT 227 45 = o_il 46 3 := rfl
theorem c_X_table_46 : cT 227 46 = o_ca 49 38 4 5 false (some 2) := rfl
theorem c_X_table_49 : cT 227 49 = o_iret .int := rfl
theorem c_X_like_0 : cT 231 0 = o_al 1 0 := rfl
theorem c_X_like_1 : cT 231 1 = o_gf 4 9 0 := rfl
theorem c_X_like_4 : cT 231 4 = o_gf 7 0 0 := rfl
theorem c_X_like_7 : cT 231 7 = o_il 8 1 := rfl
theorem c_X_like_8 : cT 231 8 = o_ca 11 21 2 2 false (some 2) := rfl
theorem c_X_like_11 : cT 231 11 = o_ifeq 14 23 := rfl
theorem c_X_like_14 : cT 231 14 = o_il 15 2 := rfl
theorem c_X_like_15 : cT 231 15 = o_ci 16 0 := rfl
theorem c_X_like_16 : cT 231 16 = o_ci 17 2 := rfl
theorem c_X_like_17 : cT 231 17 = o_ca 20 11 3 3 false none := rfl
theorem c_X_like_20 : cT 231 20 = o_ifne 23 26 := rfl
theorem c_X_like_23 : cT 231 23 = o_ci 25 (-1000000001) := rfl
theorem c_X_like_25 : cT 231 25 = o_iret .int := rfl
theorem c_X_like_26 : cT 231 26 = o_al 27 0 := rfl
theorem c_X_like_27 : cT 231 27 = o_gf 30 9 0 := rfl
theorem c_X_like_30 : cT 231 30 = o_il 31 1 := rfl
theorem c_X_like_31 : cT 231 31 = o_ci 32 2 := rfl
theorem c_X_like_32 : cT 231 32 = o_ca 35 230 3 6 false (some 0) := rfl
theorem c_X_like_35 : cT 231 35 = o_is 36 3 := rfl
theorem c_X_like_36 : cT 231 36 = o_il 37 3 := rfl
theorem c_X_like_37 : cT 231 37 = o_al 38 0 := rfl
theorem c_X_like_38 : cT 231 38 = o_gf 41 9 0 := rfl
theorem c_X_like_41 : cT 231 41 = o_il 42 1 := rfl
theorem c_X_like_42 : cT 231 42 = o_ci 43 1 := rfl
theorem c_X_like_43 : cT 231 43 = o_ca 46 230 3 6 false (some 0) := rfl
theorem c_X_like_46 : cT 231 46 = o_iadd 47 := rfl
theorem c_X_like_47 : cT 231 47 = o_is 49 4 := rfl
theorem c_X_like_49 : cT 231 49 = o_il 50 2 := rfl
theorem c_X_like_50 : cT 231 50 = o_ifne 53 56 := rfl
theorem c_X_like_53 : cT 231 53 = o_il 55 4 := rfl
theorem c_X_like_55 : cT 231 55 = o_iret .int := rfl
theorem c_X_like_56 : cT 231 56 = o_il 57 2 := rfl
theorem c_X_like_57 : cT 231 57 = o_ci 58 1 := rfl
theorem c_X_like_58 : cT 231 58 = o_icne 61 63 := rfl
theorem c_X_like_61 : cT 231 61 = o_il 62 3 := rfl
theorem c_X_like_62 : cT 231 62 = o_iret .int := rfl
theorem c_X_like_63 : cT 231 63 = o_il 65 4 := rfl
theorem c_X_like_65 : cT 231 65 = o_ifne 68 73 := rfl
theorem c_X_like_68 : cT 231 68 = o_ci 70 (-1000000005) := rfl
theorem c_X_like_70 : cT 231 70 = o_goto 79 := rfl
theorem c_X_like_73 : cT 231 73 = o_il 74 3 := rfl
theorem c_X_like_74 : cT 231 74 = o_il 76 4 := rfl
theorem c_X_like_76 : cT 231 76 = o_ca 79 25 2 2 false none := rfl
theorem c_X_like_79 : cT 231 79 = o_iret .int := rfl
theorem c_X_twice_0 : cT 233 0 = o_il 1 1 := rfl
theorem c_X_twice_1 : cT 233 1 = o_ci 2 0 := rfl
theorem c_X_twice_2 : cT 233 2 = o_ci 3 1 := rfl
theorem c_X_twice_3 : cT 233 3 = o_ca 6 11 3 3 false none := rfl
theorem c_X_twice_6 : cT 233 6 = o_ifeq 9 18 := rfl
theorem c_X_twice_9 : cT 233 9 = o_il 10 2 := rfl
theorem c_X_twice_10 : cT 233 10 = o_ci 11 0 := rfl
theorem c_X_twice_11 : cT 233 11 = o_ci 12 1 := rfl
theorem c_X_twice_12 : cT 233 12 = o_ca 15 11 3 3 false none := rfl
theorem c_X_twice_15 : cT 233 15 = o_ifne 18 21 := rfl
theorem c_X_twice_18 : cT 233 18 = o_ci 20 (-1000000001) := rfl
theorem c_X_twice_20 : cT 233 20 = o_iret .int := rfl
theorem c_X_twice_21 : cT 233 21 = o_al 22 0 := rfl
theorem c_X_twice_22 : cT 233 22 = o_gf 25 9 0 := rfl
theorem c_X_twice_25 : cT 233 25 = o_gf 28 0 10 := rfl
theorem c_X_twice_28 : cT 233 28 = o_ci 30 20 := rfl
theorem c_X_twice_30 : cT 233 30 = o_iclt 33 36 := rfl
theorem c_X_twice_33 : cT 233 33 = o_ci 35 (-1000000003) := rfl
theorem c_X_twice_35 : cT 233 35 = o_iret .int := rfl
theorem c_X_twice_36 : cT 233 36 = o_al 37 0 := rfl
theorem c_X_twice_37 : cT 233 37 = o_gf 40 9 0 := rfl
theorem c_X_twice_40 : cT 233 40 = o_dup 41 := rfl
theorem c_X_twice_41 : cT 233 41 = o_gf 44 0 10 := rfl
theorem c_X_twice_44 : cT 233 44 = o_ci 45 1 := rfl
theorem c_X_twice_45 : cT 233 45 = o_iadd 46 := rfl
theorem c_X_twice_46 : cT 233 46 = o_pf 49 0 10 0 := rfl
theorem c_X_twice_49 : cT 233 49 = o_il 50 1 := rfl
theorem c_X_twice_50 : cT 233 50 = o_il 51 2 := rfl
theorem c_X_twice_51 : cT 233 51 = o_iceq 54 67 := rfl
theorem c_X_twice_54 : cT 233 54 = o_al 55 0 := rfl
theorem c_X_twice_55 : cT 233 55 = o_gf 58 9 0 := rfl
theorem c_X_twice_58 : cT 233 58 = o_dup 59 := rfl
theorem c_X_twice_59 : cT 233 59 = o_gf 62 0 11 := rfl
theorem c_X_twice_62 : cT 233 62 = o_ci 63 1 := rfl
theorem c_X_twice_63 : cT 233 63 = o_iadd 64 := rfl
theorem c_X_twice_64 : cT 233 64 = o_pf 67 0 11 0 := rfl
theorem c_X_twice_67 : cT 233 67 = o_al 68 0 := rfl
theorem c_X_twice_68 : cT 233 68 = o_gf 71 9 0 := rfl
theorem c_X_twice_71 : cT 233 71 = o_gf 74 0 10 := rfl
theorem c_X_twice_74 : cT 233 74 = o_iret .int := rfl
theorem c_X_spread_0 : cT 235 0 = o_al 1 0 := rfl
theorem c_X_spread_1 : cT 235 1 = o_gf 4 9 0 := rfl
theorem c_X_spread_4 : cT 235 4 = o_gf 7 0 10 := rfl
theorem c_X_spread_7 : cT 235 7 = o_ifne 10 15 := rfl
theorem c_X_spread_10 : cT 235 10 = o_ci 12 (-1000000005) := rfl
theorem c_X_spread_12 : cT 235 12 = o_goto 32 := rfl
theorem c_X_spread_15 : cT 235 15 = o_al 16 0 := rfl
theorem c_X_spread_16 : cT 235 16 = o_gf 19 9 0 := rfl
theorem c_X_spread_19 : cT 235 19 = o_gf 22 0 11 := rfl
theorem c_X_spread_22 : cT 235 22 = o_al 23 0 := rfl
theorem c_X_spread_23 : cT 235 23 = o_gf 26 9 0 := rfl
theorem c_X_spread_26 : cT 235 26 = o_gf 29 0 10 := rfl
theorem c_X_spread_29 : cT 235 29 = o_ca 32 25 2 2 false none := rfl
theorem c_X_spread_32 : cT 235 32 = o_iret .int := rfl
theorem c_X_seed_0 : cT 237 0 = o_il 1 1 := rfl
theorem c_X_seed_1 : cT 237 1 = o_ci 2 0 := rfl
theorem c_X_seed_2 : cT 237 2 = o_ci 5 65535 := rfl
theorem c_X_seed_5 : cT 237 5 = o_ca 8 11 3 3 false none := rfl
theorem c_X_seed_8 : cT 237 8 = o_ifne 11 14 := rfl
theorem c_X_seed_11 : cT 237 11 = o_ci 13 (-1000000001) := rfl
theorem c_X_seed_13 : cT 237 13 = o_iret .int := rfl
theorem c_X_seed_14 : cT 237 14 = o_al 15 0 := rfl
theorem c_X_seed_15 : cT 237 15 = o_gf 18 9 0 := rfl
theorem c_X_seed_18 : cT 237 18 = o_gf 21 0 9 := rfl
theorem c_X_seed_21 : cT 237 21 = o_is 22 2 := rfl
theorem c_X_seed_22 : cT 237 22 = o_al 23 0 := rfl
theorem c_X_seed_23 : cT 237 23 = o_gf 26 9 0 := rfl
theorem c_X_seed_26 : cT 237 26 = o_il 27 1 := rfl
theorem c_X_seed_27 : cT 237 27 = o_pf 30 0 9 0 := rfl
theorem c_X_seed_30 : cT 237 30 = o_il 31 2 := rfl
theorem c_X_seed_31 : cT 237 31 = o_iret .int := rfl
theorem c_X_draw_0 : cT 241 0 = o_al 1 0 := rfl
theorem c_X_draw_1 : cT 241 1 = o_gf 4 9 0 := rfl
theorem c_X_draw_4 : cT 241 4 = o_gf 7 0 2 := rfl
theorem c_X_draw_7 : cT 241 7 = o_gf 10 2 3 := rfl
theorem c_X_draw_10 : cT 241 10 = o_ci 12 6 := rfl
theorem c_X_draw_12 : cT 241 12 = o_icge 15 18 := rfl
theorem c_X_draw_15 : cT 241 15 = o_ci 17 (-1000000002) := rfl
theorem c_X_draw_17 : cT 241 17 = o_iret .int := rfl
theorem c_X_draw_18 : cT 241 18 = o_al 19 0 := rfl
theorem c_X_draw_19 : cT 241 19 = o_gf 22 9 0 := rfl
theorem c_X_draw_22 : cT 241 22 = o_ci 23 0 := rfl
theorem c_X_draw_23 : cT 241 23 = o_ca 26 240 2 4 false (some 0) := rfl
theorem c_X_draw_26 : cT 241 26 = o_is 27 1 := rfl
theorem c_X_draw_27 : cT 241 27 = o_il 28 1 := rfl
theorem c_X_draw_28 : cT 241 28 = o_ci 31 512 := rfl
theorem c_X_draw_31 : cT 241 31 = o_al 32 0 := rfl
theorem c_X_draw_32 : cT 241 32 = o_gf 35 9 0 := rfl
theorem c_X_draw_35 : cT 241 35 = o_il 36 1 := rfl
theorem c_X_draw_36 : cT 241 36 = o_ca 39 240 2 4 false (some 0) := rfl
theorem c_X_draw_39 : cT 241 39 = o_imul 40 := rfl
theorem c_X_draw_40 : cT 241 40 = o_iadd 41 := rfl
theorem c_X_draw_41 : cT 241 41 = o_iret .int := rfl
theorem c_X_sheetAt_0 : cT 244 0 = o_il 1 1 := rfl
theorem c_X_sheetAt_1 : cT 244 1 = o_ci 2 0 := rfl
theorem c_X_sheetAt_2 : cT 244 2 = o_al 3 0 := rfl
theorem c_X_sheetAt_3 : cT 244 3 = o_gf 6 9 6 := rfl
theorem c_X_sheetAt_6 : cT 244 6 = o_len 7 := rfl
theorem c_X_sheetAt_7 : cT 244 7 = o_ci 8 1 := rfl
theorem c_X_sheetAt_8 : cT 244 8 = o_isub 9 := rfl
theorem c_X_sheetAt_9 : cT 244 9 = o_ca 12 11 3 3 false none := rfl
theorem c_X_sheetAt_12 : cT 244 12 = o_ifeq 15 24 := rfl
theorem c_X_sheetAt_15 : cT 244 15 = o_al 16 0 := rfl
theorem c_X_sheetAt_16 : cT 244 16 = o_gf 19 9 6 := rfl
theorem c_X_sheetAt_19 : cT 244 19 = o_il 20 1 := rfl
theorem c_X_sheetAt_20 : cT 244 20 = o_aal 21 3 := rfl
theorem c_X_sheetAt_21 : cT 244 21 = o_goto 25 := rfl
theorem c_X_sheetAt_24 : cT 244 24 = o_nul 25 := rfl
theorem c_X_sheetAt_25 : cT 244 25 = o_aret := rfl
theorem c_JA_fill_0 : cT 245 0 = o_ci 1 0 := rfl
theorem c_JA_fill_1 : cT 245 1 = o_is 2 3 := rfl
theorem c_JA_fill_2 : cT 245 2 = o_al 3 0 := rfl
theorem c_JA_fill_3 : cT 245 3 = o_len 4 := rfl
theorem c_JA_fill_4 : cT 245 4 = o_is 6 4 := rfl
theorem c_JA_fill_6 : cT 245 6 = o_il 7 3 := rfl
theorem c_JA_fill_7 : cT 245 7 = o_il 9 4 := rfl
theorem c_JA_fill_9 : cT 245 9 = o_icge 12 22 := rfl
theorem c_JA_fill_12 : cT 245 12 = o_al 13 0 := rfl
theorem c_JA_fill_13 : cT 245 13 = o_il 14 3 := rfl
theorem c_JA_fill_14 : cT 245 14 = o_ll 15 1 := rfl
theorem c_JA_fill_15 : cT 245 15 = o_las 16 := rfl
theorem c_JA_fill_16 : cT 245 16 = o_inc 19 3 1 := rfl
theorem c_JA_fill_19 : cT 245 19 = o_goto 6 := rfl
theorem c_JA_fill_22 : cT 245 22 = o_vret := rfl
theorem c_X_sheet_0 : cT 247 0 = o_al 1 0 := rfl
theorem c_X_sheet_1 : cT 247 1 = o_il 2 1 := rfl
theorem c_X_sheet_2 : cT 247 2 = o_ca 5 244 2 2 false (some 9) := rfl
theorem c_X_sheet_5 : cT 247 5 = o_as 7 4 := rfl
theorem c_X_sheet_7 : cT 247 7 = o_al 9 4 := rfl
theorem c_X_sheet_9 : cT 247 9 = o_ifnull 12 21 := rfl
theorem c_X_sheet_12 : cT 247 12 = o_il 13 2 := rfl
theorem c_X_sheet_13 : cT 247 13 = o_ci 14 (-1) := rfl
theorem c_X_sheet_14 : cT 247 14 = o_ci 15 2 := rfl
theorem c_X_sheet_15 : cT 247 15 = o_ca 18 11 3 3 false none := rfl
theorem c_X_sheet_18 : cT 247 18 = o_ifne 21 24 := rfl
theorem c_X_sheet_21 : cT 247 21 = o_ci 23 (-1000000001) := rfl
theorem c_X_sheet_23 : cT 247 23 = o_iret .int := rfl
theorem c_X_sheet_24 : cT 247 24 = o_il 25 2 := rfl
theorem c_X_sheet_25 : cT 247 25 = o_ci 26 (-1) := rfl
theorem c_X_sheet_26 : cT 247 26 = o_icne 29 33 := rfl
theorem c_X_sheet_29 : cT 247 29 = o_ci 30 0 := rfl
theorem c_X_sheet_30 : cT 247 30 = o_goto 34 := rfl
theorem c_X_sheet_33 : cT 247 33 = o_il 34 3 := rfl
theorem c_X_sheet_34 : cT 247 34 = o_is 36 5 := rfl
theorem c_X_sheet_36 : cT 247 36 = o_il 38 5 := rfl
theorem c_X_sheet_38 : cT 247 38 = o_ci 40 24 := rfl
theorem c_X_sheet_40 : cT 247 40 = o_icle 43 46 := rfl
theorem c_X_sheet_43 : cT 247 43 = o_ci 45 (-1000000001) := rfl
theorem c_X_sheet_45 : cT 247 45 = o_iret .int := rfl
theorem c_X_sheet_46 : cT 247 46 = o_il 48 5 := rfl
theorem c_X_sheet_48 : cT 247 48 = o_ifge 51 55 := rfl
theorem c_X_sheet_51 : cT 247 51 = o_ci 54 (-1000000014) := rfl
theorem c_X_sheet_54 : cT 247 54 = o_iret .int := rfl
theorem c_X_sheet_55 : cT 247 55 = o_al 57 4 := rfl
theorem c_X_sheet_57 : cT 247 57 = o_il 58 2 := rfl
theorem c_X_sheet_58 : cT 247 58 = o_il 60 5 := rfl
theorem c_X_sheet_60 : cT 247 60 = o_ca 63 246 3 3 false (some 3) := rfl
theorem c_X_sheet_63 : cT 247 63 = o_il 65 5 := rfl
theorem c_X_sheet_65 : cT 247 65 = o_iret .int := rfl
theorem c_X_add_0 : cT 253 0 = o_al 1 0 := rfl
theorem c_X_add_1 : cT 253 1 = o_il 2 1 := rfl
theorem c_X_add_2 : cT 253 2 = o_ca 5 244 2 2 false (some 9) := rfl
theorem c_X_add_5 : cT 253 5 = o_as 7 4 := rfl
theorem c_X_add_7 : cT 253 7 = o_al 9 4 := rfl
theorem c_X_add_9 : cT 253 9 = o_ifnonnull 12 15 := rfl
theorem c_X_add_12 : cT 253 12 = o_ci 14 (-1000000001) := rfl
theorem c_X_add_14 : cT 253 14 = o_iret .int := rfl
theorem c_X_add_15 : cT 253 15 = o_al 17 4 := rfl
theorem c_X_add_17 : cT 253 17 = o_gf 20 3 1 := rfl
theorem c_X_add_20 : cT 253 20 = o_ci 21 (-1) := rfl
theorem c_X_add_21 : cT 253 21 = o_icne 24 28 := rfl
theorem c_X_add_24 : cT 253 24 = o_ci 27 (-1000000011) := rfl
theorem c_X_add_27 : cT 253 27 = o_iret .int := rfl
theorem c_X_add_28 : cT 253 28 = o_al 30 4 := rfl
theorem c_X_add_30 : cT 253 30 = o_il 31 2 := rfl
theorem c_X_add_31 : cT 253 31 = o_ca 34 250 2 2 false (some 3) := rfl
theorem c_X_add_34 : cT 253 34 = o_ifne 37 41 := rfl
theorem c_X_add_37 : cT 253 37 = o_ci 40 (-1000000013) := rfl
theorem c_X_add_40 : cT 253 40 = o_iret .int := rfl
theorem c_X_add_41 : cT 253 41 = o_al 43 4 := rfl
theorem c_X_add_43 : cT 253 43 = o_il 44 2 := rfl
theorem c_X_add_44 : cT 253 44 = o_il 45 3 := rfl
theorem c_X_add_45 : cT 253 45 = o_ca 48 252 3 3 false (some 3) := rfl
theorem c_X_add_48 : cT 253 48 = o_l2i 49 := rfl
theorem c_X_add_49 : cT 253 49 = o_iret .int := rfl
theorem c_X_copy_0 : cT 256 0 = o_al 1 0 := rfl
theorem c_X_copy_1 : cT 256 1 = o_il 2 1 := rfl
theorem c_X_copy_2 : cT 256 2 = o_ca 5 244 2 2 false (some 9) := rfl
theorem c_X_copy_5 : cT 256 5 = o_as 7 6 := rfl
theorem c_X_copy_7 : cT 256 7 = o_al 8 0 := rfl
theorem c_X_copy_8 : cT 256 8 = o_il 9 3 := rfl
theorem c_X_copy_9 : cT 256 9 = o_ca 12 244 2 2 false (some 9) := rfl
theorem c_X_copy_12 : cT 256 12 = o_as 14 7 := rfl
theorem c_X_copy_14 : cT 256 14 = o_al 16 6 := rfl
theorem c_X_copy_16 : cT 256 16 = o_ifnull 19 24 := rfl
theorem c_X_copy_19 : cT 256 19 = o_al 21 7 := rfl
theorem c_X_copy_21 : cT 256 21 = o_ifnonnull 24 27 := rfl
theorem c_X_copy_24 : cT 256 24 = o_ci 26 (-1000000001) := rfl
theorem c_X_copy_26 : cT 256 26 = o_iret .int := rfl
theorem c_X_copy_27 : cT 256 27 = o_al 29 6 := rfl
theorem c_X_copy_29 : cT 256 29 = o_gf 32 3 1 := rfl
theorem c_X_copy_32 : cT 256 32 = o_ci 33 (-1) := rfl
theorem c_X_copy_33 : cT 256 33 = o_iceq 36 45 := rfl
theorem c_X_copy_36 : cT 256 36 = o_al 38 7 := rfl
theorem c_X_copy_38 : cT 256 38 = o_gf 41 3 1 := rfl
theorem c_X_copy_41 : cT 256 41 = o_ci 42 (-1) := rfl
theorem c_X_copy_42 : cT 256 42 = o_icne 45 49 := rfl
theorem c_X_copy_45 : cT 256 45 = o_ci 48 (-1000000011) := rfl
theorem c_X_copy_48 : cT 256 48 = o_iret .int := rfl
theorem c_X_copy_49 : cT 256 49 = o_al 51 6 := rfl
theorem c_X_copy_51 : cT 256 51 = o_gf 54 3 1 := rfl
theorem c_X_copy_54 : cT 256 54 = o_al 56 7 := rfl
theorem c_X_copy_56 : cT 256 56 = o_gf 59 3 1 := rfl
theorem c_X_copy_59 : cT 256 59 = o_iceq 62 65 := rfl
theorem c_X_copy_62 : cT 256 62 = o_ci 64 (-1000000012) := rfl
theorem c_X_copy_64 : cT 256 64 = o_iret .int := rfl
theorem c_X_copy_65 : cT 256 65 = o_al 67 6 := rfl
theorem c_X_copy_67 : cT 256 67 = o_il 68 2 := rfl
theorem c_X_copy_68 : cT 256 68 = o_il 70 5 := rfl
theorem c_X_copy_70 : cT 256 70 = o_ca 73 255 3 3 false (some 3) := rfl
theorem c_X_copy_73 : cT 256 73 = o_ifeq 76 88 := rfl
theorem c_X_copy_76 : cT 256 76 = o_al 78 7 := rfl
theorem c_X_copy_78 : cT 256 78 = o_il 80 4 := rfl
theorem c_X_copy_80 : cT 256 80 = o_il 82 5 := rfl
theorem c_X_copy_82 : cT 256 82 = o_ca 85 255 3 3 false (some 3) := rfl
theorem c_X_copy_85 : cT 256 85 = o_ifne 88 92 := rfl
theorem c_X_copy_88 : cT 256 88 = o_ci 91 (-1000000013) := rfl
theorem c_X_copy_91 : cT 256 91 = o_iret .int := rfl
theorem c_X_copy_92 : cT 256 92 = o_al 94 6 := rfl
theorem c_X_copy_94 : cT 256 94 = o_gf 97 3 0 := rfl
theorem c_X_copy_97 : cT 256 97 = o_il 98 2 := rfl
theorem c_X_copy_98 : cT 256 98 = o_al 100 7 := rfl
theorem c_X_copy_100 : cT 256 100 = o_gf 103 3 0 := rfl
theorem c_X_copy_103 : cT 256 103 = o_il 105 4 := rfl
theorem c_X_copy_105 : cT 256 105 = o_il 107 5 := rfl
theorem c_X_copy_107 : cT 256 107 = o_cpy 110 := rfl
theorem c_X_copy_110 : cT 256 110 = o_il 112 5 := rfl
theorem c_X_copy_112 : cT 256 112 = o_iret .int := rfl
theorem c_X_same_0 : cT 259 0 = o_il 1 1 := rfl
theorem c_X_same_1 : cT 259 1 = o_ifge 4 7 := rfl
theorem c_X_same_4 : cT 259 4 = o_ci 6 (-1000000001) := rfl
theorem c_X_same_6 : cT 259 6 = o_iret .int := rfl
theorem c_X_same_7 : cT 259 7 = o_ci 8 0 := rfl
theorem c_X_same_8 : cT 259 8 = o_is 9 3 := rfl
theorem c_X_same_9 : cT 259 9 = o_ci 10 0 := rfl
theorem c_X_same_10 : cT 259 10 = o_is 12 4 := rfl
theorem c_X_same_12 : cT 259 12 = o_il 14 4 := rfl
theorem c_X_same_14 : cT 259 14 = o_ci 15 4 := rfl
theorem c_X_same_15 : cT 259 15 = o_icge 18 50 := rfl
theorem c_X_same_18 : cT 259 18 = o_al 19 0 := rfl
theorem c_X_same_19 : cT 259 19 = o_il 21 4 := rfl
theorem c_X_same_21 : cT 259 21 = o_ca 24 244 2 2 false (some 9) := rfl
theorem c_X_same_24 : cT 259 24 = o_as 26 5 := rfl
theorem c_X_same_26 : cT 259 26 = o_al 28 5 := rfl
theorem c_X_same_28 : cT 259 28 = o_ifnull 31 44 := rfl
theorem c_X_same_31 : cT 259 31 = o_al 33 5 := rfl
theorem c_X_same_33 : cT 259 33 = o_il 34 1 := rfl
theorem c_X_same_34 : cT 259 34 = o_il 35 2 := rfl
theorem c_X_same_35 : cT 259 35 = o_ca 38 258 3 3 false (some 3) := rfl
theorem c_X_same_38 : cT 259 38 = o_ifeq 41 44 := rfl
theorem c_X_same_41 : cT 259 41 = o_inc 44 3 1 := rfl
theorem c_X_same_44 : cT 259 44 = o_inc 47 4 1 := rfl
theorem c_X_same_47 : cT 259 47 = o_goto 12 := rfl
theorem c_X_same_50 : cT 259 50 = o_il 51 3 := rfl
theorem c_X_same_51 : cT 259 51 = o_iret .int := rfl
theorem c_X_tell_0 : cT 261 0 = o_al 1 0 := rfl
theorem c_X_tell_1 : cT 261 1 = o_gf 4 9 8 := rfl
theorem c_X_tell_4 : cT 261 4 = o_ci 5 0 := rfl
theorem c_X_tell_5 : cT 261 5 = o_al 6 0 := rfl
theorem c_X_tell_6 : cT 261 6 = o_gf 9 9 7 := rfl
theorem c_X_tell_9 : cT 261 9 = o_len 10 := rfl
theorem c_X_tell_10 : cT 261 10 = o_ci 11 1 := rfl
theorem c_X_tell_11 : cT 261 11 = o_isub 12 := rfl
theorem c_X_tell_12 : cT 261 12 = o_ca 15 11 3 3 false none := rfl
theorem c_X_tell_15 : cT 261 15 = o_ifne 18 21 := rfl
theorem c_X_tell_18 : cT 261 18 = o_ci 20 (-1000000003) := rfl
theorem c_X_tell_20 : cT 261 20 = o_iret .int := rfl
theorem c_X_tell_21 : cT 261 21 = o_al 22 0 := rfl
theorem c_X_tell_22 : cT 261 22 = o_gf 25 9 7 := rfl
theorem c_X_tell_25 : cT 261 25 = o_al 26 0 := rfl
theorem c_X_tell_26 : cT 261 26 = o_gf 29 9 8 := rfl
theorem c_X_tell_29 : cT 261 29 = o_il 30 1 := rfl
theorem c_X_tell_30 : cT 261 30 = o_ias 31 := rfl
theorem c_X_tell_31 : cT 261 31 = o_al 32 0 := rfl
theorem c_X_tell_32 : cT 261 32 = o_dup 33 := rfl
theorem c_X_tell_33 : cT 261 33 = o_gf 36 9 8 := rfl
theorem c_X_tell_36 : cT 261 36 = o_ci 37 1 := rfl
theorem c_X_tell_37 : cT 261 37 = o_iadd 38 := rfl
theorem c_X_tell_38 : cT 261 38 = o_pf 41 9 8 0 := rfl
theorem c_X_tell_41 : cT 261 41 = o_al 42 0 := rfl
theorem c_X_tell_42 : cT 261 42 = o_gf 45 9 8 := rfl
theorem c_X_tell_45 : cT 261 45 = o_iret .int := rfl
theorem c_X_waits_0 : cT 268 0 = o_il 1 1 := rfl
theorem c_X_waits_1 : cT 268 1 = o_il 2 2 := rfl
theorem c_X_waits_2 : cT 268 2 = o_icge 5 34 := rfl
theorem c_X_waits_5 : cT 268 5 = o_il 6 1 := rfl
theorem c_X_waits_6 : cT 268 6 = o_ci 7 0 := rfl
theorem c_X_waits_7 : cT 268 7 = o_al 8 0 := rfl
theorem c_X_waits_8 : cT 268 8 = o_gf 11 9 7 := rfl
theorem c_X_waits_11 : cT 268 11 = o_len 12 := rfl
theorem c_X_waits_12 : cT 268 12 = o_ci 13 1 := rfl
theorem c_X_waits_13 : cT 268 13 = o_isub 14 := rfl
theorem c_X_waits_14 : cT 268 14 = o_ca 17 11 3 3 false none := rfl
theorem c_X_waits_17 : cT 268 17 = o_ifeq 20 34 := rfl
theorem c_X_waits_20 : cT 268 20 = o_al 21 0 := rfl
theorem c_X_waits_21 : cT 268 21 = o_gf 24 9 7 := rfl
theorem c_X_waits_24 : cT 268 24 = o_il 25 1 := rfl
theorem c_X_waits_25 : cT 268 25 = o_ial 26 := rfl
theorem c_X_waits_26 : cT 268 26 = o_il 27 3 := rfl
theorem c_X_waits_27 : cT 268 27 = o_icne 30 34 := rfl
theorem c_X_waits_30 : cT 268 30 = o_ci 31 1 := rfl
theorem c_X_waits_31 : cT 268 31 = o_goto 35 := rfl
theorem c_X_waits_34 : cT 268 34 = o_ci 35 0 := rfl
theorem c_X_waits_35 : cT 268 35 = o_iret .boolean := rfl
theorem c_X_check_0 : cT 270 0 = o_al 1 0 := rfl
theorem c_X_check_1 : cT 270 1 = o_gf 4 9 8 := rfl
theorem c_X_check_4 : cT 270 4 = o_is 5 2 := rfl
theorem c_X_check_5 : cT 270 5 = o_al 6 0 := rfl
theorem c_X_check_6 : cT 270 6 = o_ci 7 0 := rfl
theorem c_X_check_7 : cT 270 7 = o_pf 10 9 8 0 := rfl
theorem c_X_check_10 : cT 270 10 = o_il 11 1 := rfl
theorem c_X_check_11 : cT 270 11 = o_ci 12 1 := rfl
theorem c_X_check_12 : cT 270 12 = o_ci 14 30 := rfl
theorem c_X_check_14 : cT 270 14 = o_ca 17 11 3 3 false none := rfl
theorem c_X_check_17 : cT 270 17 = o_ifne 20 23 := rfl
theorem c_X_check_20 : cT 270 20 = o_ci 22 (-1000000001) := rfl
theorem c_X_check_22 : cT 270 22 = o_iret .int := rfl
theorem c_X_check_23 : cT 270 23 = o_al 24 0 := rfl
theorem c_X_check_24 : cT 270 24 = o_gf 27 9 3 := rfl
theorem c_X_check_27 : cT 270 27 = o_ifne 30 33 := rfl
theorem c_X_check_30 : cT 270 30 = o_ci 32 (-1000000002) := rfl
theorem c_X_check_32 : cT 270 32 = o_iret .int := rfl
theorem c_X_check_33 : cT 270 33 = o_al 34 0 := rfl
theorem c_X_check_34 : cT 270 34 = o_gf 37 9 2 := rfl
theorem c_X_check_37 : cT 270 37 = o_al 38 0 := rfl
theorem c_X_check_38 : cT 270 38 = o_gf 41 9 1 := rfl
theorem c_X_check_41 : cT 270 41 = o_ca 44 266 2 2 false (some 0) := rfl
theorem c_X_check_44 : cT 270 44 = o_ci 45 0 := rfl
theorem c_X_check_45 : cT 270 45 = o_is 46 3 := rfl
theorem c_X_check_46 : cT 270 46 = o_il 47 3 := rfl
theorem c_X_check_47 : cT 270 47 = o_il 48 1 := rfl
theorem c_X_check_48 : cT 270 48 = o_icge 51 115 := rfl
theorem c_X_check_51 : cT 270 51 = o_al 52 0 := rfl
theorem c_X_check_52 : cT 270 52 = o_gf 55 9 2 := rfl
theorem c_X_check_55 : cT 270 55 = o_ca 58 219 1 5 false (some 0) := rfl
theorem c_X_check_58 : cT 270 58 = o_al 59 0 := rfl
theorem c_X_check_59 : cT 270 59 = o_ci 60 2 := rfl
theorem c_X_check_60 : cT 270 60 = o_il 61 3 := rfl
theorem c_X_check_61 : cT 270 61 = o_imul 62 := rfl
theorem c_X_check_62 : cT 270 62 = o_il 63 2 := rfl
theorem c_X_check_63 : cT 270 63 = o_al 64 0 := rfl
theorem c_X_check_64 : cT 270 64 = o_gf 67 9 2 := rfl
theorem c_X_check_67 : cT 270 67 = o_ca 70 267 1 3 false (some 0) := rfl
theorem c_X_check_70 : cT 270 70 = o_ca 73 268 4 4 false (some 9) := rfl
theorem c_X_check_73 : cT 270 73 = o_ifne 76 82 := rfl
theorem c_X_check_76 : cT 270 76 = o_ci 77 1 := rfl
theorem c_X_check_77 : cT 270 77 = o_ci 78 2 := rfl
theorem c_X_check_78 : cT 270 78 = o_il 79 3 := rfl
theorem c_X_check_79 : cT 270 79 = o_imul 80 := rfl
theorem c_X_check_80 : cT 270 80 = o_iadd 81 := rfl
theorem c_X_check_81 : cT 270 81 = o_iret .int := rfl
theorem c_X_check_82 : cT 270 82 = o_al 83 0 := rfl
theorem c_X_check_83 : cT 270 83 = o_ci 84 2 := rfl
theorem c_X_check_84 : cT 270 84 = o_il 85 3 := rfl
theorem c_X_check_85 : cT 270 85 = o_imul 86 := rfl
theorem c_X_check_86 : cT 270 86 = o_ci 87 1 := rfl
theorem c_X_check_87 : cT 270 87 = o_iadd 88 := rfl
theorem c_X_check_88 : cT 270 88 = o_il 89 2 := rfl
theorem c_X_check_89 : cT 270 89 = o_al 90 0 := rfl
theorem c_X_check_90 : cT 270 90 = o_gf 93 9 2 := rfl
theorem c_X_check_93 : cT 270 93 = o_ci 94 1 := rfl
theorem c_X_check_94 : cT 270 94 = o_ca 97 269 2 4 false (some 0) := rfl
theorem c_X_check_97 : cT 270 97 = o_ca 100 268 4 4 false (some 9) := rfl
theorem c_X_check_100 : cT 270 100 = o_ifne 103 109 := rfl
theorem c_X_check_103 : cT 270 103 = o_ci 104 2 := rfl
theorem c_X_check_104 : cT 270 104 = o_ci 105 2 := rfl
theorem c_X_check_105 : cT 270 105 = o_il 106 3 := rfl
theorem c_X_check_106 : cT 270 106 = o_imul 107 := rfl
theorem c_X_check_107 : cT 270 107 = o_iadd 108 := rfl
theorem c_X_check_108 : cT 270 108 = o_iret .int := rfl
theorem c_X_check_109 : cT 270 109 = o_inc 112 3 1 := rfl
theorem c_X_check_112 : cT 270 112 = o_goto 46 := rfl
theorem c_X_check_115 : cT 270 115 = o_il 116 2 := rfl
theorem c_X_check_116 : cT 270 116 = o_ci 117 2 := rfl
theorem c_X_check_117 : cT 270 117 = o_il 118 1 := rfl
theorem c_X_check_118 : cT 270 118 = o_imul 119 := rfl
theorem c_X_check_119 : cT 270 119 = o_icle 122 130 := rfl
theorem c_X_check_122 : cT 270 122 = o_ci 123 1 := rfl
theorem c_X_check_123 : cT 270 123 = o_ci 124 2 := rfl
theorem c_X_check_124 : cT 270 124 = o_il 125 1 := rfl
theorem c_X_check_125 : cT 270 125 = o_imul 126 := rfl
theorem c_X_check_126 : cT 270 126 = o_iadd 127 := rfl
theorem c_X_check_127 : cT 270 127 = o_goto 131 := rfl
theorem c_X_check_130 : cT 270 130 = o_ci 131 0 := rfl
theorem c_X_check_131 : cT 270 131 = o_iret .int := rfl
theorem c_X_keep_0 : cT 274 0 = o_al 1 0 := rfl
theorem c_X_keep_1 : cT 274 1 = o_gf 4 9 1 := rfl
theorem c_X_keep_4 : cT 274 4 = o_al 5 0 := rfl
theorem c_X_keep_5 : cT 274 5 = o_gf 8 9 0 := rfl
theorem c_X_keep_8 : cT 274 8 = o_ca 11 266 2 2 false (some 0) := rfl
theorem c_X_keep_11 : cT 274 11 = o_al 12 0 := rfl
theorem c_X_keep_12 : cT 274 12 = o_ci 13 1 := rfl
theorem c_X_keep_13 : cT 274 13 = o_pf 16 9 3 1 := rfl
theorem c_X_keep_16 : cT 274 16 = o_al 17 0 := rfl
theorem c_X_keep_17 : cT 274 17 = o_gf 20 9 0 := rfl
theorem c_X_keep_20 : cT 274 20 = o_gf 23 0 8 := rfl
theorem c_X_keep_23 : cT 274 23 = o_iret .int := rfl
theorem c_X_restore_0 : cT 276 0 = o_al 1 0 := rfl
theorem c_X_restore_1 : cT 276 1 = o_gf 4 9 3 := rfl
theorem c_X_restore_4 : cT 276 4 = o_ifne 7 10 := rfl
theorem c_X_restore_7 : cT 276 7 = o_ci 9 (-1000000002) := rfl
theorem c_X_restore_9 : cT 276 9 = o_iret .int := rfl
theorem c_X_restore_10 : cT 276 10 = o_al 11 0 := rfl
theorem c_X_restore_11 : cT 276 11 = o_gf 14 9 0 := rfl
theorem c_X_restore_14 : cT 276 14 = o_al 15 0 := rfl
theorem c_X_restore_15 : cT 276 15 = o_gf 18 9 1 := rfl
theorem c_X_restore_18 : cT 276 18 = o_ca 21 266 2 2 false (some 0) := rfl
theorem c_X_restore_21 : cT 276 21 = o_al 22 0 := rfl
theorem c_X_restore_22 : cT 276 22 = o_gf 25 9 0 := rfl
theorem c_X_restore_25 : cT 276 25 = o_gf 28 0 8 := rfl
theorem c_X_restore_28 : cT 276 28 = o_iret .int := rfl
theorem c_X_count_0 : cT 279 0 = o_il 1 1 := rfl
theorem c_X_count_1 : cT 279 1 = o_sw 271 [(0, 88), (1, 99), (2, 108), (3, 117), (4, 126), (5, 140), (6, 154), (7, 168), (8, 182), (9, 193), (10, 204), (11, 215), (12, 226), (13, 234), (14, 242), (15, 247), (16, 255), (17, 263)] := rfl
theorem c_X_count_88 : cT 279 88 = o_al 89 0 := rfl
theorem c_X_count_89 : cT 279 89 = o_gf 92 9 0 := rfl
theorem c_X_count_92 : cT 279 92 = o_gf 95 0 0 := rfl
theorem c_X_count_95 : cT 279 95 = o_gf 98 2 3 := rfl
theorem c_X_count_98 : cT 279 98 = o_iret .int := rfl
theorem c_X_count_99 : cT 279 99 = o_al 100 0 := rfl
theorem c_X_count_100 : cT 279 100 = o_gf 103 9 0 := rfl
theorem c_X_count_103 : cT 279 103 = o_ci 104 0 := rfl
theorem c_X_count_104 : cT 279 104 = o_ca 107 269 2 4 false (some 0) := rfl
theorem c_X_count_107 : cT 279 107 = o_iret .int := rfl
theorem c_X_count_108 : cT 279 108 = o_al 109 0 := rfl
theorem c_X_count_109 : cT 279 109 = o_gf 112 9 0 := rfl
theorem c_X_count_112 : cT 279 112 = o_ci 113 1 := rfl
theorem c_X_count_113 : cT 279 113 = o_ca 116 269 2 4 false (some 0) := rfl
theorem c_X_count_116 : cT 279 116 = o_iret .int := rfl
theorem c_X_count_117 : cT 279 117 = o_al 118 0 := rfl
theorem c_X_count_118 : cT 279 118 = o_gf 121 9 0 := rfl
theorem c_X_count_121 : cT 279 121 = o_ci 122 2 := rfl
theorem c_X_count_122 : cT 279 122 = o_ca 125 269 2 4 false (some 0) := rfl
theorem c_X_count_125 : cT 279 125 = o_iret .int := rfl
theorem c_X_count_126 : cT 279 126 = o_al 127 0 := rfl
theorem c_X_count_127 : cT 279 127 = o_gf 130 9 0 := rfl
theorem c_X_count_130 : cT 279 130 = o_gf 133 0 6 := rfl
theorem c_X_count_133 : cT 279 133 = o_gf 136 8 0 := rfl
theorem c_X_count_136 : cT 279 136 = o_gf 139 2 3 := rfl
theorem c_X_count_139 : cT 279 139 = o_iret .int := rfl
theorem c_X_count_140 : cT 279 140 = o_al 141 0 := rfl
theorem c_X_count_141 : cT 279 141 = o_gf 144 9 0 := rfl
theorem c_X_count_144 : cT 279 144 = o_gf 147 0 6 := rfl
theorem c_X_count_147 : cT 279 147 = o_gf 150 8 1 := rfl
theorem c_X_count_150 : cT 279 150 = o_gf 153 2 3 := rfl
theorem c_X_count_153 : cT 279 153 = o_iret .int := rfl
theorem c_X_count_154 : cT 279 154 = o_al 155 0 := rfl
theorem c_X_count_155 : cT 279 155 = o_gf 158 9 0 := rfl
theorem c_X_count_158 : cT 279 158 = o_gf 161 0 6 := rfl
theorem c_X_count_161 : cT 279 161 = o_gf 164 8 2 := rfl
theorem c_X_count_164 : cT 279 164 = o_gf 167 2 3 := rfl
theorem c_X_count_167 : cT 279 167 = o_iret .int := rfl
theorem c_X_count_168 : cT 279 168 = o_al 169 0 := rfl
theorem c_X_count_169 : cT 279 169 = o_gf 172 9 0 := rfl
theorem c_X_count_172 : cT 279 172 = o_gf 175 0 6 := rfl
theorem c_X_count_175 : cT 279 175 = o_gf 178 8 3 := rfl
theorem c_X_count_178 : cT 279 178 = o_gf 181 2 3 := rfl
theorem c_X_count_181 : cT 279 181 = o_iret .int := rfl
theorem c_X_count_182 : cT 279 182 = o_al 183 0 := rfl
theorem c_X_count_183 : cT 279 183 = o_gf 186 9 0 := rfl
theorem c_X_count_186 : cT 279 186 = o_gf 189 0 7 := rfl
theorem c_X_count_189 : cT 279 189 = o_gf 192 1 1 := rfl
theorem c_X_count_192 : cT 279 192 = o_iret .int := rfl
theorem c_X_count_193 : cT 279 193 = o_al 194 0 := rfl
theorem c_X_count_194 : cT 279 194 = o_gf 197 9 0 := rfl
theorem c_X_count_197 : cT 279 197 = o_gf 200 0 1 := rfl
theorem c_X_count_200 : cT 279 200 = o_gf 203 2 3 := rfl
theorem c_X_count_203 : cT 279 203 = o_iret .int := rfl
theorem c_X_count_204 : cT 279 204 = o_al 205 0 := rfl
theorem c_X_count_205 : cT 279 205 = o_gf 208 9 0 := rfl
theorem c_X_count_208 : cT 279 208 = o_gf 211 0 2 := rfl
theorem c_X_count_211 : cT 279 211 = o_gf 214 2 3 := rfl
theorem c_X_count_214 : cT 279 214 = o_iret .int := rfl
theorem c_X_count_215 : cT 279 215 = o_al 216 0 := rfl
theorem c_X_count_216 : cT 279 216 = o_gf 219 9 0 := rfl
theorem c_X_count_219 : cT 279 219 = o_gf 222 0 3 := rfl
theorem c_X_count_222 : cT 279 222 = o_gf 225 2 3 := rfl
theorem c_X_count_225 : cT 279 225 = o_iret .int := rfl
theorem c_X_count_226 : cT 279 226 = o_al 227 0 := rfl
theorem c_X_count_227 : cT 279 227 = o_gf 230 9 0 := rfl
theorem c_X_count_230 : cT 279 230 = o_ca 233 278 1 3 false (some 0) := rfl
theorem c_X_count_233 : cT 279 233 = o_iret .int := rfl
theorem c_X_count_234 : cT 279 234 = o_al 235 0 := rfl
theorem c_X_count_235 : cT 279 235 = o_gf 238 9 0 := rfl
theorem c_X_count_238 : cT 279 238 = o_gf 241 0 10 := rfl
theorem c_X_count_241 : cT 279 241 = o_iret .int := rfl
theorem c_X_count_242 : cT 279 242 = o_al 243 0 := rfl
theorem c_X_count_243 : cT 279 243 = o_gf 246 9 8 := rfl
theorem c_X_count_246 : cT 279 246 = o_iret .int := rfl
theorem c_X_count_247 : cT 279 247 = o_al 248 0 := rfl
theorem c_X_count_248 : cT 279 248 = o_gf 251 9 4 := rfl
theorem c_X_count_251 : cT 279 251 = o_gf 254 5 1 := rfl
theorem c_X_count_254 : cT 279 254 = o_iret .int := rfl
theorem c_X_count_255 : cT 279 255 = o_al 256 0 := rfl
theorem c_X_count_256 : cT 279 256 = o_gf 259 9 0 := rfl
theorem c_X_count_259 : cT 279 259 = o_gf 262 0 8 := rfl
theorem c_X_count_262 : cT 279 262 = o_iret .int := rfl
theorem c_X_count_263 : cT 279 263 = o_al 264 0 := rfl
theorem c_X_count_264 : cT 279 264 = o_gf 267 9 0 := rfl
theorem c_X_count_267 : cT 279 267 = o_gf 270 0 9 := rfl
theorem c_X_count_270 : cT 279 270 = o_iret .int := rfl
theorem c_X_count_271 : cT 279 271 = o_ci 273 (-1000000001) := rfl
theorem c_X_count_273 : cT 279 273 = o_iret .int := rfl
