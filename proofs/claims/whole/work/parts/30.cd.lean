/-! which instruction stands where -/
theorem c_M_member_0 : cT 172 0 = o_il 1 1 := rfl
theorem c_M_member_1 : cT 172 1 = o_i2l 2 := rfl
theorem c_M_member_2 : cT 172 2 = o_cl 3 0 := rfl
theorem c_M_member_3 : cT 172 3 = o_cl 6 127 := rfl
theorem c_M_member_6 : cT 172 6 = o_ca 9 17 3 6 false none := rfl
theorem c_M_member_9 : cT 172 9 = o_ifeq 12 24 := rfl
theorem c_M_member_12 : cT 172 12 = o_il 13 2 := rfl
theorem c_M_member_13 : cT 172 13 = o_i2l 14 := rfl
theorem c_M_member_14 : cT 172 14 = o_cl 15 0 := rfl
theorem c_M_member_15 : cT 172 15 = o_cl 18 63 := rfl
theorem c_M_member_18 : cT 172 18 = o_ca 21 17 3 6 false none := rfl
theorem c_M_member_21 : cT 172 21 = o_ifne 24 27 := rfl
theorem c_M_member_24 : cT 172 24 = o_ci 26 (-1000000001) := rfl
theorem c_M_member_26 : cT 172 26 = o_iret .int := rfl
theorem c_M_member_27 : cT 172 27 = o_al 28 0 := rfl
theorem c_M_member_28 : cT 172 28 = o_gf 31 10 0 := rfl
theorem c_M_member_31 : cT 172 31 = o_ci 33 9 := rfl
theorem c_M_member_33 : cT 172 33 = o_ial 34 := rfl
theorem c_M_member_34 : cT 172 34 = o_is 35 3 := rfl
theorem c_M_member_35 : cT 172 35 = o_il 36 3 := rfl
theorem c_M_member_36 : cT 172 36 = o_ci 38 9 := rfl
theorem c_M_member_38 : cT 172 38 = o_icne 41 44 := rfl
theorem c_M_member_41 : cT 172 41 = o_ci 43 (-1000000003) := rfl
theorem c_M_member_43 : cT 172 43 = o_iret .int := rfl
theorem c_M_member_44 : cT 172 44 = o_al 45 0 := rfl
theorem c_M_member_45 : cT 172 45 = o_gf 48 10 0 := rfl
theorem c_M_member_48 : cT 172 48 = o_ci 51 634 := rfl
theorem c_M_member_51 : cT 172 51 = o_ci 52 4 := rfl
theorem c_M_member_52 : cT 172 52 = o_il 53 3 := rfl
theorem c_M_member_53 : cT 172 53 = o_imul 54 := rfl
theorem c_M_member_54 : cT 172 54 = o_iadd 55 := rfl
theorem c_M_member_55 : cT 172 55 = o_il 56 1 := rfl
theorem c_M_member_56 : cT 172 56 = o_ias 57 := rfl
theorem c_M_member_57 : cT 172 57 = o_al 58 0 := rfl
theorem c_M_member_58 : cT 172 58 = o_gf 61 10 0 := rfl
theorem c_M_member_61 : cT 172 61 = o_ci 64 634 := rfl
theorem c_M_member_64 : cT 172 64 = o_ci 65 4 := rfl
theorem c_M_member_65 : cT 172 65 = o_il 66 3 := rfl
theorem c_M_member_66 : cT 172 66 = o_imul 67 := rfl
theorem c_M_member_67 : cT 172 67 = o_iadd 68 := rfl
theorem c_M_member_68 : cT 172 68 = o_ci 69 1 := rfl
theorem c_M_member_69 : cT 172 69 = o_iadd 70 := rfl
theorem c_M_member_70 : cT 172 70 = o_il 71 2 := rfl
theorem c_M_member_71 : cT 172 71 = o_ias 72 := rfl
theorem c_M_member_72 : cT 172 72 = o_al 73 0 := rfl
theorem c_M_member_73 : cT 172 73 = o_gf 76 10 0 := rfl
theorem c_M_member_76 : cT 172 76 = o_ci 79 634 := rfl
theorem c_M_member_79 : cT 172 79 = o_ci 80 4 := rfl
theorem c_M_member_80 : cT 172 80 = o_il 81 3 := rfl
theorem c_M_member_81 : cT 172 81 = o_imul 82 := rfl
theorem c_M_member_82 : cT 172 82 = o_iadd 83 := rfl
theorem c_M_member_83 : cT 172 83 = o_ci 84 2 := rfl
theorem c_M_member_84 : cT 172 84 = o_iadd 85 := rfl
theorem c_M_member_85 : cT 172 85 = o_ci 86 0 := rfl
theorem c_M_member_86 : cT 172 86 = o_ias 87 := rfl
theorem c_M_member_87 : cT 172 87 = o_al 88 0 := rfl
theorem c_M_member_88 : cT 172 88 = o_gf 91 10 0 := rfl
theorem c_M_member_91 : cT 172 91 = o_ci 94 634 := rfl
theorem c_M_member_94 : cT 172 94 = o_ci 95 4 := rfl
theorem c_M_member_95 : cT 172 95 = o_il 96 3 := rfl
theorem c_M_member_96 : cT 172 96 = o_imul 97 := rfl
theorem c_M_member_97 : cT 172 97 = o_iadd 98 := rfl
theorem c_M_member_98 : cT 172 98 = o_ci 99 3 := rfl
theorem c_M_member_99 : cT 172 99 = o_iadd 100 := rfl
theorem c_M_member_100 : cT 172 100 = o_ci 101 0 := rfl
theorem c_M_member_101 : cT 172 101 = o_ias 102 := rfl
theorem c_M_member_102 : cT 172 102 = o_al 103 0 := rfl
theorem c_M_member_103 : cT 172 103 = o_gf 106 10 0 := rfl
theorem c_M_member_106 : cT 172 106 = o_ci 108 9 := rfl
theorem c_M_member_108 : cT 172 108 = o_dup2 109 := rfl
theorem c_M_member_109 : cT 172 109 = o_ial 110 := rfl
theorem c_M_member_110 : cT 172 110 = o_ci 111 1 := rfl
theorem c_M_member_111 : cT 172 111 = o_iadd 112 := rfl
theorem c_M_member_112 : cT 172 112 = o_ias 113 := rfl
theorem c_M_member_113 : cT 172 113 = o_il 114 3 := rfl
theorem c_M_member_114 : cT 172 114 = o_iret .int := rfl
theorem c_M_conflict_0 : cT 174 0 = o_al 1 0 := rfl
theorem c_M_conflict_1 : cT 174 1 = o_il 2 1 := rfl
theorem c_M_conflict_2 : cT 174 2 = o_ci 4 9 := rfl
theorem c_M_conflict_4 : cT 174 4 = o_ca 7 29 3 3 false (some 10) := rfl
theorem c_M_conflict_7 : cT 174 7 = o_ifeq 10 29 := rfl
theorem c_M_conflict_10 : cT 174 10 = o_al 11 0 := rfl
theorem c_M_conflict_11 : cT 174 11 = o_il 12 2 := rfl
theorem c_M_conflict_12 : cT 174 12 = o_ci 13 2 := rfl
theorem c_M_conflict_13 : cT 174 13 = o_ca 16 29 3 3 false (some 10) := rfl
theorem c_M_conflict_16 : cT 174 16 = o_ifeq 19 29 := rfl
theorem c_M_conflict_19 : cT 174 19 = o_il 20 3 := rfl
theorem c_M_conflict_20 : cT 174 20 = o_i2l 21 := rfl
theorem c_M_conflict_21 : cT 174 21 = o_cl 22 0 := rfl
theorem c_M_conflict_22 : cT 174 22 = o_cl 23 1 := rfl
theorem c_M_conflict_23 : cT 174 23 = o_ca 26 17 3 6 false none := rfl
theorem c_M_conflict_26 : cT 174 26 = o_ifne 29 32 := rfl
theorem c_M_conflict_29 : cT 174 29 = o_ci 31 (-1000000001) := rfl
theorem c_M_conflict_31 : cT 174 31 = o_iret .int := rfl
theorem c_M_conflict_32 : cT 174 32 = o_ci 35 634 := rfl
theorem c_M_conflict_35 : cT 174 35 = o_ci 36 4 := rfl
theorem c_M_conflict_36 : cT 174 36 = o_il 37 1 := rfl
theorem c_M_conflict_37 : cT 174 37 = o_imul 38 := rfl
theorem c_M_conflict_38 : cT 174 38 = o_iadd 39 := rfl
theorem c_M_conflict_39 : cT 174 39 = o_ci 40 2 := rfl
theorem c_M_conflict_40 : cT 174 40 = o_iadd 41 := rfl
theorem c_M_conflict_41 : cT 174 41 = o_is 43 4 := rfl
theorem c_M_conflict_43 : cT 174 43 = o_al 44 0 := rfl
theorem c_M_conflict_44 : cT 174 44 = o_gf 47 10 0 := rfl
theorem c_M_conflict_47 : cT 174 47 = o_il 49 4 := rfl
theorem c_M_conflict_49 : cT 174 49 = o_ial 50 := rfl
theorem c_M_conflict_50 : cT 174 50 = o_il 51 2 := rfl
theorem c_M_conflict_51 : cT 174 51 = o_ishr 52 := rfl
theorem c_M_conflict_52 : cT 174 52 = o_ci 53 1 := rfl
theorem c_M_conflict_53 : cT 174 53 = o_iand 54 := rfl
theorem c_M_conflict_54 : cT 174 54 = o_is 56 5 := rfl
theorem c_M_conflict_56 : cT 174 56 = o_al 57 0 := rfl
theorem c_M_conflict_57 : cT 174 57 = o_gf 60 10 0 := rfl
theorem c_M_conflict_60 : cT 174 60 = o_il 62 4 := rfl
theorem c_M_conflict_62 : cT 174 62 = o_il 63 3 := rfl
theorem c_M_conflict_63 : cT 174 63 = o_ci 64 1 := rfl
theorem c_M_conflict_64 : cT 174 64 = o_icne 67 81 := rfl
theorem c_M_conflict_67 : cT 174 67 = o_al 68 0 := rfl
theorem c_M_conflict_68 : cT 174 68 = o_gf 71 10 0 := rfl
theorem c_M_conflict_71 : cT 174 71 = o_il 73 4 := rfl
theorem c_M_conflict_73 : cT 174 73 = o_ial 74 := rfl
theorem c_M_conflict_74 : cT 174 74 = o_ci 75 1 := rfl
theorem c_M_conflict_75 : cT 174 75 = o_il 76 2 := rfl
theorem c_M_conflict_76 : cT 174 76 = o_ishl 77 := rfl
theorem c_M_conflict_77 : cT 174 77 = o_ior 78 := rfl
theorem c_M_conflict_78 : cT 174 78 = o_goto 94 := rfl
theorem c_M_conflict_81 : cT 174 81 = o_al 82 0 := rfl
theorem c_M_conflict_82 : cT 174 82 = o_gf 85 10 0 := rfl
theorem c_M_conflict_85 : cT 174 85 = o_il 87 4 := rfl
theorem c_M_conflict_87 : cT 174 87 = o_ial 88 := rfl
theorem c_M_conflict_88 : cT 174 88 = o_ci 89 1 := rfl
theorem c_M_conflict_89 : cT 174 89 = o_il 90 2 := rfl
theorem c_M_conflict_90 : cT 174 90 = o_ishl 91 := rfl
theorem c_M_conflict_91 : cT 174 91 = o_ci 92 (-1) := rfl
theorem c_M_conflict_92 : cT 174 92 = o_ixor 93 := rfl
theorem c_M_conflict_93 : cT 174 93 = o_iand 94 := rfl
theorem c_M_conflict_94 : cT 174 94 = o_ias 95 := rfl
theorem c_M_conflict_95 : cT 174 95 = o_il 97 5 := rfl
theorem c_M_conflict_97 : cT 174 97 = o_iret .int := rfl
theorem c_M_is_0 : cT 176 0 = o_al 1 0 := rfl
theorem c_M_is_1 : cT 176 1 = o_il 2 1 := rfl
theorem c_M_is_2 : cT 176 2 = o_ci 4 9 := rfl
theorem c_M_is_4 : cT 176 4 = o_ca 7 29 3 3 false (some 10) := rfl
theorem c_M_is_7 : cT 176 7 = o_ifeq 10 22 := rfl
theorem c_M_is_10 : cT 176 10 = o_il 11 2 := rfl
theorem c_M_is_11 : cT 176 11 = o_i2l 12 := rfl
theorem c_M_is_12 : cT 176 12 = o_cl 13 0 := rfl
theorem c_M_is_13 : cT 176 13 = o_cl 16 3 := rfl
theorem c_M_is_16 : cT 176 16 = o_ca 19 17 3 6 false none := rfl
theorem c_M_is_19 : cT 176 19 = o_ifne 22 27 := rfl
theorem c_M_is_22 : cT 176 22 = o_ci 24 (-1000000001) := rfl
theorem c_M_is_24 : cT 176 24 = o_goto 41 := rfl
theorem c_M_is_27 : cT 176 27 = o_al 28 0 := rfl
theorem c_M_is_28 : cT 176 28 = o_gf 31 10 0 := rfl
theorem c_M_is_31 : cT 176 31 = o_ci 34 634 := rfl
theorem c_M_is_34 : cT 176 34 = o_ci 35 4 := rfl
theorem c_M_is_35 : cT 176 35 = o_il 36 1 := rfl
theorem c_M_is_36 : cT 176 36 = o_imul 37 := rfl
theorem c_M_is_37 : cT 176 37 = o_iadd 38 := rfl
theorem c_M_is_38 : cT 176 38 = o_il 39 2 := rfl
theorem c_M_is_39 : cT 176 39 = o_iadd 40 := rfl
theorem c_M_is_40 : cT 176 40 = o_ial 41 := rfl
theorem c_M_is_41 : cT 176 41 = o_iret .int := rfl
theorem c_M_turns_0 : cT 180 0 = o_al 1 0 := rfl
theorem c_M_turns_1 : cT 180 1 = o_gf 4 10 0 := rfl
theorem c_M_turns_4 : cT 180 4 = o_ci 7 634 := rfl
theorem c_M_turns_7 : cT 180 7 = o_ci 8 4 := rfl
theorem c_M_turns_8 : cT 180 8 = o_il 9 1 := rfl
theorem c_M_turns_9 : cT 180 9 = o_imul 10 := rfl
theorem c_M_turns_10 : cT 180 10 = o_iadd 11 := rfl
theorem c_M_turns_11 : cT 180 11 = o_ci 12 3 := rfl
theorem c_M_turns_12 : cT 180 12 = o_iadd 13 := rfl
theorem c_M_turns_13 : cT 180 13 = o_ial 14 := rfl
theorem c_M_turns_14 : cT 180 14 = o_iret .int := rfl
theorem c_M_has_0 : cT 181 0 = o_il 1 0 := rfl
theorem c_M_has_1 : cT 181 1 = o_il 2 1 := rfl
theorem c_M_has_2 : cT 181 2 = o_ishr 3 := rfl
theorem c_M_has_3 : cT 181 3 = o_ci 4 1 := rfl
theorem c_M_has_4 : cT 181 4 = o_iand 5 := rfl
theorem c_M_has_5 : cT 181 5 = o_ci 6 1 := rfl
theorem c_M_has_6 : cT 181 6 = o_icne 9 13 := rfl
theorem c_M_has_9 : cT 181 9 = o_ci 10 1 := rfl
theorem c_M_has_10 : cT 181 10 = o_goto 14 := rfl
theorem c_M_has_13 : cT 181 13 = o_ci 14 0 := rfl
theorem c_M_has_14 : cT 181 14 = o_iret .boolean := rfl
theorem c_M_mayGo_0 : cT 182 0 = o_ci 3 634 := rfl
theorem c_M_mayGo_3 : cT 182 3 = o_ci 4 4 := rfl
theorem c_M_mayGo_4 : cT 182 4 = o_il 5 1 := rfl
theorem c_M_mayGo_5 : cT 182 5 = o_imul 6 := rfl
theorem c_M_mayGo_6 : cT 182 6 = o_iadd 7 := rfl
theorem c_M_mayGo_7 : cT 182 7 = o_is 9 5 := rfl
theorem c_M_mayGo_9 : cT 182 9 = o_al 10 0 := rfl
theorem c_M_mayGo_10 : cT 182 10 = o_gf 13 10 0 := rfl
theorem c_M_mayGo_13 : cT 182 13 = o_il 15 5 := rfl
theorem c_M_mayGo_15 : cT 182 15 = o_ci 16 1 := rfl
theorem c_M_mayGo_16 : cT 182 16 = o_iadd 17 := rfl
theorem c_M_mayGo_17 : cT 182 17 = o_ial 18 := rfl
theorem c_M_mayGo_18 : cT 182 18 = o_il 19 3 := rfl
theorem c_M_mayGo_19 : cT 182 19 = o_ca 22 181 2 2 false none := rfl
theorem c_M_mayGo_22 : cT 182 22 = o_ifeq 25 61 := rfl
theorem c_M_mayGo_25 : cT 182 25 = o_al 26 0 := rfl
theorem c_M_mayGo_26 : cT 182 26 = o_gf 29 10 0 := rfl
theorem c_M_mayGo_29 : cT 182 29 = o_il 31 5 := rfl
theorem c_M_mayGo_31 : cT 182 31 = o_ial 32 := rfl
theorem c_M_mayGo_32 : cT 182 32 = o_il 34 4 := rfl
theorem c_M_mayGo_34 : cT 182 34 = o_ci 36 7 := rfl
theorem c_M_mayGo_36 : cT 182 36 = o_irem 37 := rfl
theorem c_M_mayGo_37 : cT 182 37 = o_ca 40 181 2 2 false none := rfl
theorem c_M_mayGo_40 : cT 182 40 = o_ifne 43 61 := rfl
theorem c_M_mayGo_43 : cT 182 43 = o_al 44 0 := rfl
theorem c_M_mayGo_44 : cT 182 44 = o_gf 47 10 0 := rfl
theorem c_M_mayGo_47 : cT 182 47 = o_il 49 5 := rfl
theorem c_M_mayGo_49 : cT 182 49 = o_ci 50 2 := rfl
theorem c_M_mayGo_50 : cT 182 50 = o_iadd 51 := rfl
theorem c_M_mayGo_51 : cT 182 51 = o_ial 52 := rfl
theorem c_M_mayGo_52 : cT 182 52 = o_il 53 2 := rfl
theorem c_M_mayGo_53 : cT 182 53 = o_iand 54 := rfl
theorem c_M_mayGo_54 : cT 182 54 = o_ifne 57 61 := rfl
theorem c_M_mayGo_57 : cT 182 57 = o_ci 58 1 := rfl
theorem c_M_mayGo_58 : cT 182 58 = o_goto 62 := rfl
theorem c_M_mayGo_61 : cT 182 61 = o_ci 62 0 := rfl
theorem c_M_mayGo_62 : cT 182 62 = o_iret .boolean := rfl
theorem c_M_boardFor_0 : cT 183 0 = o_ci 1 (-1) := rfl
theorem c_M_boardFor_1 : cT 183 1 = o_is 3 4 := rfl
theorem c_M_boardFor_3 : cT 183 3 = o_ci 4 0 := rfl
theorem c_M_boardFor_4 : cT 183 4 = o_is 6 5 := rfl
theorem c_M_boardFor_6 : cT 183 6 = o_ci 7 0 := rfl
theorem c_M_boardFor_7 : cT 183 7 = o_is 9 6 := rfl
theorem c_M_boardFor_9 : cT 183 9 = o_il 11 6 := rfl
theorem c_M_boardFor_11 : cT 183 11 = o_al 12 0 := rfl
theorem c_M_boardFor_12 : cT 183 12 = o_gf 15 10 0 := rfl
theorem c_M_boardFor_15 : cT 183 15 = o_ci 17 9 := rfl
theorem c_M_boardFor_17 : cT 183 17 = o_ial 18 := rfl
theorem c_M_boardFor_18 : cT 183 18 = o_icge 21 177 := rfl
theorem c_M_boardFor_21 : cT 183 21 = o_il 23 6 := rfl
theorem c_M_boardFor_23 : cT 183 23 = o_ci 24 1 := rfl
theorem c_M_boardFor_24 : cT 183 24 = o_iadd 25 := rfl
theorem c_M_boardFor_25 : cT 183 25 = o_is 27 7 := rfl
theorem c_M_boardFor_27 : cT 183 27 = o_il 29 7 := rfl
theorem c_M_boardFor_29 : cT 183 29 = o_al 30 0 := rfl
theorem c_M_boardFor_30 : cT 183 30 = o_gf 33 10 0 := rfl
theorem c_M_boardFor_33 : cT 183 33 = o_ci 35 9 := rfl
theorem c_M_boardFor_35 : cT 183 35 = o_ial 36 := rfl
theorem c_M_boardFor_36 : cT 183 36 = o_icge 39 171 := rfl
theorem c_M_boardFor_39 : cT 183 39 = o_il 41 7 := rfl
theorem c_M_boardFor_41 : cT 183 41 = o_ci 42 1 := rfl
theorem c_M_boardFor_42 : cT 183 42 = o_iadd 43 := rfl
theorem c_M_boardFor_43 : cT 183 43 = o_is 45 8 := rfl
theorem c_M_boardFor_45 : cT 183 45 = o_il 47 8 := rfl
theorem c_M_boardFor_47 : cT 183 47 = o_al 48 0 := rfl
theorem c_M_boardFor_48 : cT 183 48 = o_gf 51 10 0 := rfl
theorem c_M_boardFor_51 : cT 183 51 = o_ci 53 9 := rfl
theorem c_M_boardFor_53 : cT 183 53 = o_ial 54 := rfl
theorem c_M_boardFor_54 : cT 183 54 = o_icge 57 165 := rfl
theorem c_M_boardFor_57 : cT 183 57 = o_al 58 0 := rfl
theorem c_M_boardFor_58 : cT 183 58 = o_il 60 6 := rfl
theorem c_M_boardFor_60 : cT 183 60 = o_ca 63 180 2 2 false (some 10) := rfl
theorem c_M_boardFor_63 : cT 183 63 = o_al 64 0 := rfl
theorem c_M_boardFor_64 : cT 183 64 = o_il 66 7 := rfl
theorem c_M_boardFor_66 : cT 183 66 = o_ca 69 180 2 2 false (some 10) := rfl
theorem c_M_boardFor_69 : cT 183 69 = o_iadd 70 := rfl
theorem c_M_boardFor_70 : cT 183 70 = o_al 71 0 := rfl
theorem c_M_boardFor_71 : cT 183 71 = o_il 73 8 := rfl
theorem c_M_boardFor_73 : cT 183 73 = o_ca 76 180 2 2 false (some 10) := rfl
theorem c_M_boardFor_76 : cT 183 76 = o_iadd 77 := rfl
theorem c_M_boardFor_77 : cT 183 77 = o_is 79 9 := rfl
theorem c_M_boardFor_79 : cT 183 79 = o_al 80 0 := rfl
theorem c_M_boardFor_80 : cT 183 80 = o_il 82 6 := rfl
theorem c_M_boardFor_82 : cT 183 82 = o_il 83 1 := rfl
theorem c_M_boardFor_83 : cT 183 83 = o_il 84 2 := rfl
theorem c_M_boardFor_84 : cT 183 84 = o_il 85 3 := rfl
theorem c_M_boardFor_85 : cT 183 85 = o_ca 88 182 5 6 false (some 10) := rfl
theorem c_M_boardFor_88 : cT 183 88 = o_ifeq 91 119 := rfl
theorem c_M_boardFor_91 : cT 183 91 = o_al 92 0 := rfl
theorem c_M_boardFor_92 : cT 183 92 = o_il 94 7 := rfl
theorem c_M_boardFor_94 : cT 183 94 = o_il 95 1 := rfl
theorem c_M_boardFor_95 : cT 183 95 = o_il 96 2 := rfl
theorem c_M_boardFor_96 : cT 183 96 = o_il 97 3 := rfl
theorem c_M_boardFor_97 : cT 183 97 = o_ca 100 182 5 6 false (some 10) := rfl
theorem c_M_boardFor_100 : cT 183 100 = o_ifeq 103 119 := rfl
theorem c_M_boardFor_103 : cT 183 103 = o_al 104 0 := rfl
theorem c_M_boardFor_104 : cT 183 104 = o_il 106 8 := rfl
theorem c_M_boardFor_106 : cT 183 106 = o_il 107 1 := rfl
theorem c_M_boardFor_107 : cT 183 107 = o_il 108 2 := rfl
theorem c_M_boardFor_108 : cT 183 108 = o_il 109 3 := rfl
theorem c_M_boardFor_109 : cT 183 109 = o_ca 112 182 5 6 false (some 10) := rfl
theorem c_M_boardFor_112 : cT 183 112 = o_ifeq 115 119 := rfl
theorem c_M_boardFor_115 : cT 183 115 = o_ci 116 1 := rfl
theorem c_M_boardFor_116 : cT 183 116 = o_goto 120 := rfl
theorem c_M_boardFor_119 : cT 183 119 = o_ci 120 0 := rfl
theorem c_M_boardFor_120 : cT 183 120 = o_is 122 10 := rfl
theorem c_M_boardFor_122 : cT 183 122 = o_il 124 10 := rfl
theorem c_M_boardFor_124 : cT 183 124 = o_ifeq 127 159 := rfl
theorem c_M_boardFor_127 : cT 183 127 = o_il 129 4 := rfl
theorem c_M_boardFor_129 : cT 183 129 = o_iflt 132 139 := rfl
theorem c_M_boardFor_132 : cT 183 132 = o_il 134 9 := rfl
theorem c_M_boardFor_134 : cT 183 134 = o_il 136 5 := rfl
theorem c_M_boardFor_136 : cT 183 136 = o_icge 139 159 := rfl
theorem c_M_boardFor_139 : cT 183 139 = o_ci 141 100 := rfl
theorem c_M_boardFor_141 : cT 183 141 = o_il 143 6 := rfl
theorem c_M_boardFor_143 : cT 183 143 = o_imul 144 := rfl
theorem c_M_boardFor_144 : cT 183 144 = o_ci 146 10 := rfl
theorem c_M_boardFor_146 : cT 183 146 = o_il 148 7 := rfl
theorem c_M_boardFor_148 : cT 183 148 = o_imul 149 := rfl
theorem c_M_boardFor_149 : cT 183 149 = o_iadd 150 := rfl
theorem c_M_boardFor_150 : cT 183 150 = o_il 152 8 := rfl
theorem c_M_boardFor_152 : cT 183 152 = o_iadd 153 := rfl
theorem c_M_boardFor_153 : cT 183 153 = o_is 155 4 := rfl
theorem c_M_boardFor_155 : cT 183 155 = o_il 157 9 := rfl
theorem c_M_boardFor_157 : cT 183 157 = o_is 159 5 := rfl
theorem c_M_boardFor_159 : cT 183 159 = o_inc 162 8 1 := rfl
theorem c_M_boardFor_162 : cT 183 162 = o_goto 45 := rfl
theorem c_M_boardFor_165 : cT 183 165 = o_inc 168 7 1 := rfl
theorem c_M_boardFor_168 : cT 183 168 = o_goto 27 := rfl
theorem c_M_boardFor_171 : cT 183 171 = o_inc 174 6 1 := rfl
theorem c_M_boardFor_174 : cT 183 174 = o_goto 9 := rfl
theorem c_M_boardFor_177 : cT 183 177 = o_il 179 4 := rfl
theorem c_M_boardFor_179 : cT 183 179 = o_iret .int := rfl
theorem c_M_board_0 : cT 184 0 = o_il 1 1 := rfl
theorem c_M_board_1 : cT 184 1 = o_iflt 4 40 := rfl
theorem c_M_board_4 : cT 184 4 = o_il 5 1 := rfl
theorem c_M_board_5 : cT 184 5 = o_ci 6 1 := rfl
theorem c_M_board_6 : cT 184 6 = o_al 7 0 := rfl
theorem c_M_board_7 : cT 184 7 = o_gf 10 10 0 := rfl
theorem c_M_board_10 : cT 184 10 = o_ci 11 2 := rfl
theorem c_M_board_11 : cT 184 11 = o_ial 12 := rfl
theorem c_M_board_12 : cT 184 12 = o_ishl 13 := rfl
theorem c_M_board_13 : cT 184 13 = o_icge 16 40 := rfl
theorem c_M_board_16 : cT 184 16 = o_il 17 2 := rfl
theorem c_M_board_17 : cT 184 17 = o_i2l 18 := rfl
theorem c_M_board_18 : cT 184 18 = o_cl 19 0 := rfl
theorem c_M_board_19 : cT 184 19 = o_cl 22 5 := rfl
theorem c_M_board_22 : cT 184 22 = o_ca 25 17 3 6 false none := rfl
theorem c_M_board_25 : cT 184 25 = o_ifeq 28 40 := rfl
theorem c_M_board_28 : cT 184 28 = o_il 29 3 := rfl
theorem c_M_board_29 : cT 184 29 = o_i2l 30 := rfl
theorem c_M_board_30 : cT 184 30 = o_cl 31 0 := rfl
theorem c_M_board_31 : cT 184 31 = o_cl 34 9999 := rfl
theorem c_M_board_34 : cT 184 34 = o_ca 37 17 3 6 false none := rfl
theorem c_M_board_37 : cT 184 37 = o_ifne 40 43 := rfl
theorem c_M_board_40 : cT 184 40 = o_ci 42 (-1000000001) := rfl
theorem c_M_board_42 : cT 184 42 = o_iret .int := rfl
theorem c_M_board_43 : cT 184 43 = o_al 44 0 := rfl
theorem c_M_board_44 : cT 184 44 = o_il 45 1 := rfl
theorem c_M_board_45 : cT 184 45 = o_il 46 2 := rfl
theorem c_M_board_46 : cT 184 46 = o_il 47 3 := rfl
theorem c_M_board_47 : cT 184 47 = o_ca 50 183 4 11 false (some 10) := rfl
theorem c_M_board_50 : cT 184 50 = o_is 52 4 := rfl
theorem c_M_board_52 : cT 184 52 = o_il 54 4 := rfl
theorem c_M_board_54 : cT 184 54 = o_ifge 57 62 := rfl
theorem c_M_board_57 : cT 184 57 = o_ci 59 (-1000000005) := rfl
theorem c_M_board_59 : cT 184 59 = o_goto 64 := rfl
theorem c_M_board_62 : cT 184 62 = o_il 64 4 := rfl
theorem c_M_board_64 : cT 184 64 = o_iret .int := rfl
theorem c_M_ofHearing_0 : cT 186 0 = o_ci 3 670 := rfl
theorem c_M_ofHearing_3 : cT 186 3 = o_ci 5 6 := rfl
theorem c_M_ofHearing_5 : cT 186 5 = o_il 6 0 := rfl
theorem c_M_ofHearing_6 : cT 186 6 = o_imul 7 := rfl
theorem c_M_ofHearing_7 : cT 186 7 = o_iadd 8 := rfl
theorem c_M_ofHearing_8 : cT 186 8 = o_il 9 1 := rfl
theorem c_M_ofHearing_9 : cT 186 9 = o_iadd 10 := rfl
theorem c_M_ofHearing_10 : cT 186 10 = o_iret .int := rfl
theorem c_M_hearing_0 : cT 187 0 = o_al 1 0 := rfl
theorem c_M_hearing_1 : cT 187 1 = o_il 2 1 := rfl
theorem c_M_hearing_2 : cT 187 2 = o_ci 3 2 := rfl
theorem c_M_hearing_3 : cT 187 3 = o_ca 6 29 3 3 false (some 10) := rfl
theorem c_M_hearing_6 : cT 187 6 = o_ifeq 9 27 := rfl
theorem c_M_hearing_9 : cT 187 9 = o_il 10 2 := rfl
theorem c_M_hearing_10 : cT 187 10 = o_i2l 11 := rfl
theorem c_M_hearing_11 : cT 187 11 = o_al 12 0 := rfl
theorem c_M_hearing_12 : cT 187 12 = o_gf 15 10 0 := rfl
theorem c_M_hearing_15 : cT 187 15 = o_ci 16 0 := rfl
theorem c_M_hearing_16 : cT 187 16 = o_ial 17 := rfl
theorem c_M_hearing_17 : cT 187 17 = o_i2l 18 := rfl
theorem c_M_hearing_18 : cT 187 18 = o_cl 21 2999 := rfl
theorem c_M_hearing_21 : cT 187 21 = o_ca 24 17 3 6 false none := rfl
theorem c_M_hearing_24 : cT 187 24 = o_ifne 27 30 := rfl
theorem c_M_hearing_27 : cT 187 27 = o_ci 29 (-1000000001) := rfl
theorem c_M_hearing_29 : cT 187 29 = o_iret .int := rfl
theorem c_M_hearing_30 : cT 187 30 = o_al 31 0 := rfl
theorem c_M_hearing_31 : cT 187 31 = o_il 32 1 := rfl
theorem c_M_hearing_32 : cT 187 32 = o_ci 33 3 := rfl
theorem c_M_hearing_33 : cT 187 33 = o_ca 36 32 3 3 false (some 10) := rfl
theorem c_M_hearing_36 : cT 187 36 = o_ifne 39 47 := rfl
theorem c_M_hearing_39 : cT 187 39 = o_al 40 0 := rfl
theorem c_M_hearing_40 : cT 187 40 = o_il 41 1 := rfl
theorem c_M_hearing_41 : cT 187 41 = o_ca 44 35 2 3 false (some 10) := rfl
theorem c_M_hearing_44 : cT 187 44 = o_iflt 47 50 := rfl
theorem c_M_hearing_47 : cT 187 47 = o_ci 49 (-1000000002) := rfl
theorem c_M_hearing_49 : cT 187 49 = o_iret .int := rfl
theorem c_M_hearing_50 : cT 187 50 = o_al 51 0 := rfl
theorem c_M_hearing_51 : cT 187 51 = o_gf 54 10 0 := rfl
theorem c_M_hearing_54 : cT 187 54 = o_ci 56 10 := rfl
theorem c_M_hearing_56 : cT 187 56 = o_ial 57 := rfl
theorem c_M_hearing_57 : cT 187 57 = o_is 58 3 := rfl
theorem c_M_hearing_58 : cT 187 58 = o_il 59 3 := rfl
theorem c_M_hearing_59 : cT 187 59 = o_ci 61 30 := rfl
theorem c_M_hearing_61 : cT 187 61 = o_icne 64 67 := rfl
theorem c_M_hearing_64 : cT 187 64 = o_ci 66 (-1000000003) := rfl
theorem c_M_hearing_66 : cT 187 66 = o_iret .int := rfl
theorem c_M_hearing_67 : cT 187 67 = o_ci 68 0 := rfl
theorem c_M_hearing_68 : cT 187 68 = o_is 70 4 := rfl
theorem c_M_hearing_70 : cT 187 70 = o_il 72 4 := rfl
theorem c_M_hearing_72 : cT 187 72 = o_ci 74 6 := rfl
theorem c_M_hearing_74 : cT 187 74 = o_icge 77 95 := rfl
theorem c_M_hearing_77 : cT 187 77 = o_al 78 0 := rfl
theorem c_M_hearing_78 : cT 187 78 = o_gf 81 10 0 := rfl
theorem c_M_hearing_81 : cT 187 81 = o_il 82 3 := rfl
theorem c_M_hearing_82 : cT 187 82 = o_il 84 4 := rfl
theorem c_M_hearing_84 : cT 187 84 = o_ca 87 186 2 2 false none := rfl
theorem c_M_hearing_87 : cT 187 87 = o_ci 88 0 := rfl
theorem c_M_hearing_88 : cT 187 88 = o_ias 89 := rfl
theorem c_M_hearing_89 : cT 187 89 = o_inc 92 4 1 := rfl
theorem c_M_hearing_92 : cT 187 92 = o_goto 70 := rfl
theorem c_M_hearing_95 : cT 187 95 = o_al 96 0 := rfl
theorem c_M_hearing_96 : cT 187 96 = o_gf 99 10 0 := rfl
theorem c_M_hearing_99 : cT 187 99 = o_il 100 3 := rfl
theorem c_M_hearing_100 : cT 187 100 = o_ci 101 0 := rfl
theorem c_M_hearing_101 : cT 187 101 = o_ca 104 186 2 2 false none := rfl
theorem c_M_hearing_104 : cT 187 104 = o_il 105 1 := rfl
theorem c_M_hearing_105 : cT 187 105 = o_ias 106 := rfl
theorem c_M_hearing_106 : cT 187 106 = o_al 107 0 := rfl
theorem c_M_hearing_107 : cT 187 107 = o_gf 110 10 0 := rfl
theorem c_M_hearing_110 : cT 187 110 = o_il 111 3 := rfl
theorem c_M_hearing_111 : cT 187 111 = o_ci 112 1 := rfl
theorem c_M_hearing_112 : cT 187 112 = o_ca 115 186 2 2 false none := rfl
theorem c_M_hearing_115 : cT 187 115 = o_il 116 2 := rfl
theorem c_M_hearing_116 : cT 187 116 = o_ias 117 := rfl
theorem c_M_hearing_117 : cT 187 117 = o_al 118 0 := rfl
theorem c_M_hearing_118 : cT 187 118 = o_gf 121 10 0 := rfl
theorem c_M_hearing_121 : cT 187 121 = o_ci 123 10 := rfl
theorem c_M_hearing_123 : cT 187 123 = o_dup2 124 := rfl
theorem c_M_hearing_124 : cT 187 124 = o_ial 125 := rfl
theorem c_M_hearing_125 : cT 187 125 = o_ci 126 1 := rfl
theorem c_M_hearing_126 : cT 187 126 = o_iadd 127 := rfl
theorem c_M_hearing_127 : cT 187 127 = o_ias 128 := rfl
theorem c_M_hearing_128 : cT 187 128 = o_il 129 3 := rfl
theorem c_M_hearing_129 : cT 187 129 = o_iret .int := rfl
theorem c_M_heard_0 : cT 189 0 = o_al 1 0 := rfl
theorem c_M_heard_1 : cT 189 1 = o_il 2 1 := rfl
theorem c_M_heard_2 : cT 189 2 = o_ci 4 10 := rfl
theorem c_M_heard_4 : cT 189 4 = o_ca 7 29 3 3 false (some 10) := rfl
theorem c_M_heard_7 : cT 189 7 = o_ifeq 10 22 := rfl
theorem c_M_heard_10 : cT 189 10 = o_il 11 2 := rfl
theorem c_M_heard_11 : cT 189 11 = o_i2l 12 := rfl
theorem c_M_heard_12 : cT 189 12 = o_cl 13 0 := rfl
theorem c_M_heard_13 : cT 189 13 = o_cl 16 4 := rfl
theorem c_M_heard_16 : cT 189 16 = o_ca 19 17 3 6 false none := rfl
theorem c_M_heard_19 : cT 189 19 = o_ifne 22 27 := rfl
theorem c_M_heard_22 : cT 189 22 = o_ci 24 (-1000000001) := rfl
theorem c_M_heard_24 : cT 189 24 = o_goto 37 := rfl
theorem c_M_heard_27 : cT 189 27 = o_al 28 0 := rfl
theorem c_M_heard_28 : cT 189 28 = o_gf 31 10 0 := rfl
theorem c_M_heard_31 : cT 189 31 = o_il 32 1 := rfl
theorem c_M_heard_32 : cT 189 32 = o_il 33 2 := rfl
theorem c_M_heard_33 : cT 189 33 = o_ca 36 186 2 2 false none := rfl
theorem c_M_heard_36 : cT 189 36 = o_ial 37 := rfl
theorem c_M_heard_37 : cT 189 37 = o_iret .int := rfl
theorem c_M_hasReport_0 : cT 194 0 = o_ci 1 0 := rfl
theorem c_M_hasReport_1 : cT 194 1 = o_is 2 2 := rfl
theorem c_M_hasReport_2 : cT 194 2 = o_ci 3 0 := rfl
theorem c_M_hasReport_3 : cT 194 3 = o_is 4 3 := rfl
theorem c_M_hasReport_4 : cT 194 4 = o_il 5 3 := rfl
theorem c_M_hasReport_5 : cT 194 5 = o_al 6 0 := rfl
theorem c_M_hasReport_6 : cT 194 6 = o_gf 9 10 0 := rfl
theorem c_M_hasReport_9 : cT 194 9 = o_ci 11 8 := rfl
theorem c_M_hasReport_11 : cT 194 11 = o_ial 12 := rfl
theorem c_M_hasReport_12 : cT 194 12 = o_icge 15 115 := rfl
theorem c_M_hasReport_15 : cT 194 15 = o_ci 18 474 := rfl
theorem c_M_hasReport_18 : cT 194 18 = o_ci 19 4 := rfl
theorem c_M_hasReport_19 : cT 194 19 = o_il 20 3 := rfl
theorem c_M_hasReport_20 : cT 194 20 = o_imul 21 := rfl
theorem c_M_hasReport_21 : cT 194 21 = o_iadd 22 := rfl
theorem c_M_hasReport_22 : cT 194 22 = o_is 24 4 := rfl
theorem c_M_hasReport_24 : cT 194 24 = o_al 25 0 := rfl
theorem c_M_hasReport_25 : cT 194 25 = o_gf 28 10 0 := rfl
theorem c_M_hasReport_28 : cT 194 28 = o_il 30 4 := rfl
theorem c_M_hasReport_30 : cT 194 30 = o_ial 31 := rfl
theorem c_M_hasReport_31 : cT 194 31 = o_ci 32 1 := rfl
theorem c_M_hasReport_32 : cT 194 32 = o_iceq 35 46 := rfl
theorem c_M_hasReport_35 : cT 194 35 = o_al 36 0 := rfl
theorem c_M_hasReport_36 : cT 194 36 = o_gf 39 10 0 := rfl
theorem c_M_hasReport_39 : cT 194 39 = o_il 41 4 := rfl
theorem c_M_hasReport_41 : cT 194 41 = o_ial 42 := rfl
theorem c_M_hasReport_42 : cT 194 42 = o_ci 43 2 := rfl
theorem c_M_hasReport_43 : cT 194 43 = o_icne 46 78 := rfl
theorem c_M_hasReport_46 : cT 194 46 = o_al 47 0 := rfl
theorem c_M_hasReport_47 : cT 194 47 = o_gf 50 10 0 := rfl
theorem c_M_hasReport_50 : cT 194 50 = o_ci 51 0 := rfl
theorem c_M_hasReport_51 : cT 194 51 = o_ial 52 := rfl
theorem c_M_hasReport_52 : cT 194 52 = o_al 53 0 := rfl
theorem c_M_hasReport_53 : cT 194 53 = o_gf 56 10 0 := rfl
theorem c_M_hasReport_56 : cT 194 56 = o_il 58 4 := rfl
theorem c_M_hasReport_58 : cT 194 58 = o_ci 59 3 := rfl
theorem c_M_hasReport_59 : cT 194 59 = o_iadd 60 := rfl
theorem c_M_hasReport_60 : cT 194 60 = o_ial 61 := rfl
theorem c_M_hasReport_61 : cT 194 61 = o_al 62 0 := rfl
theorem c_M_hasReport_62 : cT 194 62 = o_gf 65 10 0 := rfl
theorem c_M_hasReport_65 : cT 194 65 = o_il 67 4 := rfl
theorem c_M_hasReport_67 : cT 194 67 = o_ci 68 2 := rfl
theorem c_M_hasReport_68 : cT 194 68 = o_iadd 69 := rfl
theorem c_M_hasReport_69 : cT 194 69 = o_ial 70 := rfl
theorem c_M_hasReport_70 : cT 194 70 = o_iadd 71 := rfl
theorem c_M_hasReport_71 : cT 194 71 = o_icge 74 78 := rfl
theorem c_M_hasReport_74 : cT 194 74 = o_ci 75 1 := rfl
theorem c_M_hasReport_75 : cT 194 75 = o_goto 79 := rfl
theorem c_M_hasReport_78 : cT 194 78 = o_ci 79 0 := rfl
theorem c_M_hasReport_79 : cT 194 79 = o_is 81 5 := rfl
theorem c_M_hasReport_81 : cT 194 81 = o_il 82 2 := rfl
theorem c_M_hasReport_82 : cT 194 82 = o_ifne 85 103 := rfl
theorem c_M_hasReport_85 : cT 194 85 = o_il 87 5 := rfl
theorem c_M_hasReport_87 : cT 194 87 = o_ifeq 90 107 := rfl
theorem c_M_hasReport_90 : cT 194 90 = o_al 91 0 := rfl
theorem c_M_hasReport_91 : cT 194 91 = o_gf 94 10 0 := rfl
theorem c_M_hasReport_94 : cT 194 94 = o_il 96 4 := rfl
theorem c_M_hasReport_96 : cT 194 96 = o_ci 97 1 := rfl
theorem c_M_hasReport_97 : cT 194 97 = o_iadd 98 := rfl
theorem c_M_hasReport_98 : cT 194 98 = o_ial 99 := rfl
theorem c_M_hasReport_99 : cT 194 99 = o_il 100 1 := rfl
theorem c_M_hasReport_100 : cT 194 100 = o_icne 103 107 := rfl
theorem c_M_hasReport_103 : cT 194 103 = o_ci 104 1 := rfl
theorem c_M_hasReport_104 : cT 194 104 = o_goto 108 := rfl
theorem c_M_hasReport_107 : cT 194 107 = o_ci 108 0 := rfl
theorem c_M_hasReport_108 : cT 194 108 = o_is 109 2 := rfl
theorem c_M_hasReport_109 : cT 194 109 = o_inc 112 3 1 := rfl
theorem c_M_hasReport_112 : cT 194 112 = o_goto 4 := rfl
theorem c_M_hasReport_115 : cT 194 115 = o_il 116 2 := rfl
theorem c_M_hasReport_116 : cT 194 116 = o_iret .boolean := rfl
theorem c_M_hasNotice_0 : cT 195 0 = o_al 1 0 := rfl
theorem c_M_hasNotice_1 : cT 195 1 = o_al 2 0 := rfl
theorem c_M_hasNotice_2 : cT 195 2 = o_il 3 1 := rfl
theorem c_M_hasNotice_3 : cT 195 3 = o_ci 4 0 := rfl
theorem c_M_hasNotice_4 : cT 195 4 = o_ca 7 32 3 3 false (some 10) := rfl
theorem c_M_hasNotice_7 : cT 195 7 = o_ci 8 1 := rfl
theorem c_M_hasNotice_8 : cT 195 8 = o_al 9 0 := rfl
theorem c_M_hasNotice_9 : cT 195 9 = o_il 10 1 := rfl
theorem c_M_hasNotice_10 : cT 195 10 = o_ci 11 4 := rfl
theorem c_M_hasNotice_11 : cT 195 11 = o_ca 14 32 3 3 false (some 10) := rfl
theorem c_M_hasNotice_14 : cT 195 14 = o_ci 15 0 := rfl
theorem c_M_hasNotice_15 : cT 195 15 = o_ci 16 0 := rfl
theorem c_M_hasNotice_16 : cT 195 16 = o_ci 17 0 := rfl
theorem c_M_hasNotice_17 : cT 195 17 = o_ca 20 91 7 12 false (some 10) := rfl
theorem c_M_hasNotice_20 : cT 195 20 = o_is 21 2 := rfl
theorem c_M_hasNotice_21 : cT 195 21 = o_ci 22 0 := rfl
theorem c_M_hasNotice_22 : cT 195 22 = o_is 23 3 := rfl
theorem c_M_hasNotice_23 : cT 195 23 = o_ci 24 0 := rfl
theorem c_M_hasNotice_24 : cT 195 24 = o_is 26 4 := rfl
theorem c_M_hasNotice_26 : cT 195 26 = o_il 28 4 := rfl
theorem c_M_hasNotice_28 : cT 195 28 = o_al 29 0 := rfl
theorem c_M_hasNotice_29 : cT 195 29 = o_gf 32 10 0 := rfl
theorem c_M_hasNotice_32 : cT 195 32 = o_ci 34 8 := rfl
theorem c_M_hasNotice_34 : cT 195 34 = o_ial 35 := rfl
theorem c_M_hasNotice_35 : cT 195 35 = o_icge 38 126 := rfl
theorem c_M_hasNotice_38 : cT 195 38 = o_ci 41 474 := rfl
theorem c_M_hasNotice_41 : cT 195 41 = o_ci 42 4 := rfl
theorem c_M_hasNotice_42 : cT 195 42 = o_il 44 4 := rfl
theorem c_M_hasNotice_44 : cT 195 44 = o_imul 45 := rfl
theorem c_M_hasNotice_45 : cT 195 45 = o_iadd 46 := rfl
theorem c_M_hasNotice_46 : cT 195 46 = o_is 48 5 := rfl
theorem c_M_hasNotice_48 : cT 195 48 = o_il 49 3 := rfl
theorem c_M_hasNotice_49 : cT 195 49 = o_ifne 52 114 := rfl
theorem c_M_hasNotice_52 : cT 195 52 = o_al 53 0 := rfl
theorem c_M_hasNotice_53 : cT 195 53 = o_gf 56 10 0 := rfl
theorem c_M_hasNotice_56 : cT 195 56 = o_il 58 5 := rfl
theorem c_M_hasNotice_58 : cT 195 58 = o_ial 59 := rfl
theorem c_M_hasNotice_59 : cT 195 59 = o_ci 60 3 := rfl
theorem c_M_hasNotice_60 : cT 195 60 = o_icne 63 118 := rfl
theorem c_M_hasNotice_63 : cT 195 63 = o_al 64 0 := rfl
theorem c_M_hasNotice_64 : cT 195 64 = o_gf 67 10 0 := rfl
theorem c_M_hasNotice_67 : cT 195 67 = o_il 69 5 := rfl
theorem c_M_hasNotice_69 : cT 195 69 = o_ci 70 1 := rfl
theorem c_M_hasNotice_70 : cT 195 70 = o_iadd 71 := rfl
theorem c_M_hasNotice_71 : cT 195 71 = o_ial 72 := rfl
theorem c_M_hasNotice_72 : cT 195 72 = o_il 73 1 := rfl
theorem c_M_hasNotice_73 : cT 195 73 = o_icne 76 118 := rfl
theorem c_M_hasNotice_76 : cT 195 76 = o_al 77 0 := rfl
theorem c_M_hasNotice_77 : cT 195 77 = o_gf 80 10 0 := rfl
theorem c_M_hasNotice_80 : cT 195 80 = o_il 82 5 := rfl
theorem c_M_hasNotice_82 : cT 195 82 = o_ci 83 2 := rfl
theorem c_M_hasNotice_83 : cT 195 83 = o_iadd 84 := rfl
theorem c_M_hasNotice_84 : cT 195 84 = o_ial 85 := rfl
theorem c_M_hasNotice_85 : cT 195 85 = o_al 86 0 := rfl
theorem c_M_hasNotice_86 : cT 195 86 = o_gf 89 10 0 := rfl
theorem c_M_hasNotice_89 : cT 195 89 = o_ci 90 0 := rfl
theorem c_M_hasNotice_90 : cT 195 90 = o_ial 91 := rfl
theorem c_M_hasNotice_91 : cT 195 91 = o_icne 94 118 := rfl
theorem c_M_hasNotice_94 : cT 195 94 = o_al 95 0 := rfl
theorem c_M_hasNotice_95 : cT 195 95 = o_gf 98 10 0 := rfl
theorem c_M_hasNotice_98 : cT 195 98 = o_ci 99 0 := rfl
theorem c_M_hasNotice_99 : cT 195 99 = o_ial 100 := rfl
theorem c_M_hasNotice_100 : cT 195 100 = o_al 101 0 := rfl
theorem c_M_hasNotice_101 : cT 195 101 = o_gf 104 10 0 := rfl
theorem c_M_hasNotice_104 : cT 195 104 = o_il 106 5 := rfl
theorem c_M_hasNotice_106 : cT 195 106 = o_ci 107 3 := rfl
theorem c_M_hasNotice_107 : cT 195 107 = o_iadd 108 := rfl
theorem c_M_hasNotice_108 : cT 195 108 = o_ial 109 := rfl
theorem c_M_hasNotice_109 : cT 195 109 = o_isub 110 := rfl
theorem c_M_hasNotice_110 : cT 195 110 = o_il 111 2 := rfl
theorem c_M_hasNotice_111 : cT 195 111 = o_iclt 114 118 := rfl
theorem c_M_hasNotice_114 : cT 195 114 = o_ci 115 1 := rfl
theorem c_M_hasNotice_115 : cT 195 115 = o_goto 119 := rfl
theorem c_M_hasNotice_118 : cT 195 118 = o_ci 119 0 := rfl
theorem c_M_hasNotice_119 : cT 195 119 = o_is 120 3 := rfl
theorem c_M_hasNotice_120 : cT 195 120 = o_inc 123 4 1 := rfl
theorem c_M_hasNotice_123 : cT 195 123 = o_goto 26 := rfl
theorem c_M_hasNotice_126 : cT 195 126 = o_il 127 3 := rfl
theorem c_M_hasNotice_127 : cT 195 127 = o_iret .boolean := rfl
theorem c_M_causeOf_0 : cT 196 0 = o_al 1 0 := rfl
theorem c_M_causeOf_1 : cT 196 1 = o_il 2 1 := rfl
theorem c_M_causeOf_2 : cT 196 2 = o_al 3 0 := rfl
theorem c_M_causeOf_3 : cT 196 3 = o_gf 6 10 0 := rfl
theorem c_M_causeOf_6 : cT 196 6 = o_ci 7 0 := rfl
theorem c_M_causeOf_7 : cT 196 7 = o_ial 8 := rfl
theorem c_M_causeOf_8 : cT 196 8 = o_ca 11 93 3 3 false (some 10) := rfl
theorem c_M_causeOf_11 : cT 196 11 = o_ifne 14 18 := rfl
theorem c_M_causeOf_14 : cT 196 14 = o_ci 15 1 := rfl
theorem c_M_causeOf_15 : cT 196 15 = o_goto 43 := rfl
theorem c_M_causeOf_18 : cT 196 18 = o_al 19 0 := rfl
theorem c_M_causeOf_19 : cT 196 19 = o_il 20 1 := rfl
theorem c_M_causeOf_20 : cT 196 20 = o_ca 23 194 2 6 false (some 10) := rfl
theorem c_M_causeOf_23 : cT 196 23 = o_ifne 26 30 := rfl
theorem c_M_causeOf_26 : cT 196 26 = o_ci 27 2 := rfl
theorem c_M_causeOf_27 : cT 196 27 = o_goto 43 := rfl
theorem c_M_causeOf_30 : cT 196 30 = o_al 31 0 := rfl
theorem c_M_causeOf_31 : cT 196 31 = o_il 32 1 := rfl
theorem c_M_causeOf_32 : cT 196 32 = o_ca 35 195 2 6 false (some 10) := rfl
theorem c_M_causeOf_35 : cT 196 35 = o_ifne 38 42 := rfl
theorem c_M_causeOf_38 : cT 196 38 = o_ci 39 3 := rfl
theorem c_M_causeOf_39 : cT 196 39 = o_goto 43 := rfl
theorem c_M_causeOf_42 : cT 196 42 = o_ci 43 0 := rfl
theorem c_M_causeOf_43 : cT 196 43 = o_iret .int := rfl
theorem c_M_cause_0 : cT 197 0 = o_al 1 0 := rfl
theorem c_M_cause_1 : cT 197 1 = o_il 2 1 := rfl
theorem c_M_cause_2 : cT 197 2 = o_ci 3 2 := rfl
theorem c_M_cause_3 : cT 197 3 = o_ca 6 29 3 3 false (some 10) := rfl
theorem c_M_cause_6 : cT 197 6 = o_ifne 9 12 := rfl
theorem c_M_cause_9 : cT 197 9 = o_ci 11 (-1000000001) := rfl
theorem c_M_cause_11 : cT 197 11 = o_iret .int := rfl
theorem c_M_cause_12 : cT 197 12 = o_al 13 0 := rfl
theorem c_M_cause_13 : cT 197 13 = o_il 14 1 := rfl
theorem c_M_cause_14 : cT 197 14 = o_ci 15 3 := rfl
theorem c_M_cause_15 : cT 197 15 = o_ca 18 32 3 3 false (some 10) := rfl
theorem c_M_cause_18 : cT 197 18 = o_ifeq 21 26 := rfl
theorem c_M_cause_21 : cT 197 21 = o_ci 23 (-1000000002) := rfl
theorem c_M_cause_23 : cT 197 23 = o_goto 31 := rfl
theorem c_M_cause_26 : cT 197 26 = o_al 27 0 := rfl
theorem c_M_cause_27 : cT 197 27 = o_il 28 1 := rfl
theorem c_M_cause_28 : cT 197 28 = o_ca 31 196 2 2 false (some 10) := rfl
theorem c_M_cause_31 : cT 197 31 = o_iret .int := rfl
theorem c_M_puts_0 : cT 200 0 = o_il 1 1 := rfl
theorem c_M_puts_1 : cT 200 1 = o_i2l 2 := rfl
theorem c_M_puts_2 : cT 200 2 = o_cl 3 1 := rfl
theorem c_M_puts_3 : cT 200 3 = o_cl 6 4 := rfl
theorem c_M_puts_6 : cT 200 6 = o_ca 9 17 3 6 false none := rfl
theorem c_M_puts_9 : cT 200 9 = o_ifeq 12 24 := rfl
theorem c_M_puts_12 : cT 200 12 = o_al 13 0 := rfl
theorem c_M_puts_13 : cT 200 13 = o_gf 16 10 0 := rfl
theorem c_M_puts_16 : cT 200 16 = o_ci 18 12 := rfl
theorem c_M_puts_18 : cT 200 18 = o_il 19 1 := rfl
theorem c_M_puts_19 : cT 200 19 = o_iadd 20 := rfl
theorem c_M_puts_20 : cT 200 20 = o_ial 21 := rfl
theorem c_M_puts_21 : cT 200 21 = o_goto 26 := rfl
theorem c_M_puts_24 : cT 200 24 = o_ci 26 (-1000000001) := rfl
theorem c_M_puts_26 : cT 200 26 = o_iret .int := rfl
theorem c_M_recall_0 : cT 202 0 = o_al 1 0 := rfl
theorem c_M_recall_1 : cT 202 1 = o_il 2 1 := rfl
theorem c_M_recall_2 : cT 202 2 = o_ci 3 2 := rfl
theorem c_M_recall_3 : cT 202 3 = o_ca 6 29 3 3 false (some 10) := rfl
theorem c_M_recall_6 : cT 202 6 = o_ifne 9 12 := rfl
theorem c_M_recall_9 : cT 202 9 = o_ci 11 (-1000000001) := rfl
theorem c_M_recall_11 : cT 202 11 = o_iret .int := rfl
theorem c_M_recall_12 : cT 202 12 = o_al 13 0 := rfl
theorem c_M_recall_13 : cT 202 13 = o_il 14 1 := rfl
theorem c_M_recall_14 : cT 202 14 = o_ci 15 3 := rfl
theorem c_M_recall_15 : cT 202 15 = o_ca 18 32 3 3 false (some 10) := rfl
theorem c_M_recall_18 : cT 202 18 = o_ci 19 1 := rfl
theorem c_M_recall_19 : cT 202 19 = o_iceq 22 25 := rfl
theorem c_M_recall_22 : cT 202 22 = o_ci 24 (-1000000002) := rfl
theorem c_M_recall_24 : cT 202 24 = o_iret .int := rfl
theorem c_M_recall_25 : cT 202 25 = o_al 26 0 := rfl
theorem c_M_recall_26 : cT 202 26 = o_gf 29 10 0 := rfl
theorem c_M_recall_29 : cT 202 29 = o_ci 30 4 := rfl
theorem c_M_recall_30 : cT 202 30 = o_ial 31 := rfl
theorem c_M_recall_31 : cT 202 31 = o_ci 33 30 := rfl
theorem c_M_recall_33 : cT 202 33 = o_icne 36 39 := rfl
theorem c_M_recall_36 : cT 202 36 = o_ci 38 (-1000000003) := rfl
theorem c_M_recall_38 : cT 202 38 = o_iret .int := rfl
theorem c_M_recall_39 : cT 202 39 = o_al 40 0 := rfl
theorem c_M_recall_40 : cT 202 40 = o_il 41 1 := rfl
theorem c_M_recall_41 : cT 202 41 = o_ci 42 3 := rfl
theorem c_M_recall_42 : cT 202 42 = o_ci 43 0 := rfl
theorem c_M_recall_43 : cT 202 43 = o_ca 46 18 4 4 false (some 10) := rfl
theorem c_M_recall_46 : cT 202 46 = o_al 47 0 := rfl
theorem c_M_recall_47 : cT 202 47 = o_il 48 1 := rfl
theorem c_M_recall_48 : cT 202 48 = o_ca 51 19 2 3 false (some 10) := rfl
theorem c_M_recall_51 : cT 202 51 = o_ci 52 1 := rfl
theorem c_M_recall_52 : cT 202 52 = o_iret .int := rfl
theorem c_M_unwind_0 : cT 208 0 = o_al 1 0 := rfl
theorem c_M_unwind_1 : cT 208 1 = o_il 2 1 := rfl
theorem c_M_unwind_2 : cT 208 2 = o_ci 4 10 := rfl
theorem c_M_unwind_4 : cT 208 4 = o_ca 7 29 3 3 false (some 10) := rfl
theorem c_M_unwind_7 : cT 208 7 = o_ifne 10 13 := rfl
theorem c_M_unwind_10 : cT 208 10 = o_ci 12 (-1000000001) := rfl
theorem c_M_unwind_12 : cT 208 12 = o_iret .int := rfl
theorem c_M_unwind_13 : cT 208 13 = o_al 14 0 := rfl
theorem c_M_unwind_14 : cT 208 14 = o_gf 17 10 0 := rfl
theorem c_M_unwind_17 : cT 208 17 = o_il 18 1 := rfl
theorem c_M_unwind_18 : cT 208 18 = o_ci 19 0 := rfl
theorem c_M_unwind_19 : cT 208 19 = o_ca 22 186 2 2 false none := rfl
theorem c_M_unwind_22 : cT 208 22 = o_ial 23 := rfl
theorem c_M_unwind_23 : cT 208 23 = o_is 24 2 := rfl
theorem c_M_unwind_24 : cT 208 24 = o_ci 25 (-1) := rfl
theorem c_M_unwind_25 : cT 208 25 = o_is 26 3 := rfl
theorem c_M_unwind_26 : cT 208 26 = o_ci 27 0 := rfl
theorem c_M_unwind_27 : cT 208 27 = o_is 29 4 := rfl
theorem c_M_unwind_29 : cT 208 29 = o_il 31 4 := rfl
theorem c_M_unwind_31 : cT 208 31 = o_al 32 0 := rfl
theorem c_M_unwind_32 : cT 208 32 = o_gf 35 10 0 := rfl
theorem c_M_unwind_35 : cT 208 35 = o_ci 37 10 := rfl
theorem c_M_unwind_37 : cT 208 37 = o_ial 38 := rfl
theorem c_M_unwind_38 : cT 208 38 = o_icge 41 84 := rfl
theorem c_M_unwind_41 : cT 208 41 = o_al 42 0 := rfl
theorem c_M_unwind_42 : cT 208 42 = o_gf 45 10 0 := rfl
theorem c_M_unwind_45 : cT 208 45 = o_il 47 4 := rfl
theorem c_M_unwind_47 : cT 208 47 = o_ci 48 0 := rfl
theorem c_M_unwind_48 : cT 208 48 = o_ca 51 186 2 2 false none := rfl
theorem c_M_unwind_51 : cT 208 51 = o_ial 52 := rfl
theorem c_M_unwind_52 : cT 208 52 = o_il 53 2 := rfl
theorem c_M_unwind_53 : cT 208 53 = o_icne 56 76 := rfl
theorem c_M_unwind_56 : cT 208 56 = o_al 57 0 := rfl
theorem c_M_unwind_57 : cT 208 57 = o_gf 60 10 0 := rfl
theorem c_M_unwind_60 : cT 208 60 = o_il 62 4 := rfl
theorem c_M_unwind_62 : cT 208 62 = o_ci 63 2 := rfl
theorem c_M_unwind_63 : cT 208 63 = o_ca 66 186 2 2 false none := rfl
theorem c_M_unwind_66 : cT 208 66 = o_ial 67 := rfl
theorem c_M_unwind_67 : cT 208 67 = o_ci 68 2 := rfl
theorem c_M_unwind_68 : cT 208 68 = o_icne 71 76 := rfl
theorem c_M_unwind_71 : cT 208 71 = o_il 73 4 := rfl
theorem c_M_unwind_73 : cT 208 73 = o_goto 77 := rfl
theorem c_M_unwind_76 : cT 208 76 = o_il 77 3 := rfl
theorem c_M_unwind_77 : cT 208 77 = o_is 78 3 := rfl
theorem c_M_unwind_78 : cT 208 78 = o_inc 81 4 1 := rfl
theorem c_M_unwind_81 : cT 208 81 = o_goto 29 := rfl
theorem c_M_unwind_84 : cT 208 84 = o_il 85 3 := rfl
theorem c_M_unwind_85 : cT 208 85 = o_il 86 1 := rfl
theorem c_M_unwind_86 : cT 208 86 = o_icne 89 99 := rfl
theorem c_M_unwind_89 : cT 208 89 = o_al 90 0 := rfl
theorem c_M_unwind_90 : cT 208 90 = o_il 91 2 := rfl
theorem c_M_unwind_91 : cT 208 91 = o_ci 92 3 := rfl
theorem c_M_unwind_92 : cT 208 92 = o_ca 95 32 3 3 false (some 10) := rfl
theorem c_M_unwind_95 : cT 208 95 = o_ci 96 1 := rfl
theorem c_M_unwind_96 : cT 208 96 = o_iceq 99 102 := rfl
theorem c_M_unwind_99 : cT 208 99 = o_ci 101 (-1000000002) := rfl
theorem c_M_unwind_101 : cT 208 101 = o_iret .int := rfl
theorem c_M_unwind_102 : cT 208 102 = o_al 103 0 := rfl
theorem c_M_unwind_103 : cT 208 103 = o_al 104 0 := rfl
theorem c_M_unwind_104 : cT 208 104 = o_il 105 2 := rfl
theorem c_M_unwind_105 : cT 208 105 = o_ci 106 0 := rfl
theorem c_M_unwind_106 : cT 208 106 = o_ca 109 32 3 3 false (some 10) := rfl
theorem c_M_unwind_109 : cT 208 109 = o_ci 110 4 := rfl
theorem c_M_unwind_110 : cT 208 110 = o_al 111 0 := rfl
theorem c_M_unwind_111 : cT 208 111 = o_gf 114 10 0 := rfl
theorem c_M_unwind_114 : cT 208 114 = o_ci 115 0 := rfl
theorem c_M_unwind_115 : cT 208 115 = o_ial 116 := rfl
theorem c_M_unwind_116 : cT 208 116 = o_al 117 0 := rfl
theorem c_M_unwind_117 : cT 208 117 = o_gf 120 10 0 := rfl
theorem c_M_unwind_120 : cT 208 120 = o_il 121 1 := rfl
theorem c_M_unwind_121 : cT 208 121 = o_ci 122 1 := rfl
theorem c_M_unwind_122 : cT 208 122 = o_ca 125 186 2 2 false none := rfl
theorem c_M_unwind_125 : cT 208 125 = o_ial 126 := rfl
theorem c_M_unwind_126 : cT 208 126 = o_isub 127 := rfl
theorem c_M_unwind_127 : cT 208 127 = o_ci 128 0 := rfl
theorem c_M_unwind_128 : cT 208 128 = o_ci 129 0 := rfl
theorem c_M_unwind_129 : cT 208 129 = o_ci 130 0 := rfl
theorem c_M_unwind_130 : cT 208 130 = o_ca 133 91 7 12 false (some 10) := rfl
theorem c_M_unwind_133 : cT 208 133 = o_ifeq 136 140 := rfl
theorem c_M_unwind_136 : cT 208 136 = o_ci 137 1 := rfl
theorem c_M_unwind_137 : cT 208 137 = o_goto 141 := rfl
theorem c_M_unwind_140 : cT 208 140 = o_ci 141 0 := rfl
theorem c_M_unwind_141 : cT 208 141 = o_is 143 4 := rfl
theorem c_M_unwind_143 : cT 208 143 = o_il 145 4 := rfl
theorem c_M_unwind_145 : cT 208 145 = o_ifne 148 162 := rfl
theorem c_M_unwind_148 : cT 208 148 = o_al 149 0 := rfl
theorem c_M_unwind_149 : cT 208 149 = o_gf 152 10 0 := rfl
theorem c_M_unwind_152 : cT 208 152 = o_ci 153 4 := rfl
theorem c_M_unwind_153 : cT 208 153 = o_ial 154 := rfl
theorem c_M_unwind_154 : cT 208 154 = o_ci 156 30 := rfl
theorem c_M_unwind_156 : cT 208 156 = o_icne 159 162 := rfl
theorem c_M_unwind_159 : cT 208 159 = o_ci 161 (-1000000003) := rfl
theorem c_M_unwind_161 : cT 208 161 = o_iret .int := rfl
theorem c_M_unwind_162 : cT 208 162 = o_al 163 0 := rfl
theorem c_M_unwind_163 : cT 208 163 = o_gf 166 10 0 := rfl
theorem c_M_unwind_166 : cT 208 166 = o_il 167 1 := rfl
theorem c_M_unwind_167 : cT 208 167 = o_ci 168 2 := rfl
theorem c_M_unwind_168 : cT 208 168 = o_ca 171 186 2 2 false none := rfl
theorem c_M_unwind_171 : cT 208 171 = o_ci 172 3 := rfl
theorem c_M_unwind_172 : cT 208 172 = o_ias 173 := rfl
theorem c_M_unwind_173 : cT 208 173 = o_al 174 0 := rfl
theorem c_M_unwind_174 : cT 208 174 = o_il 175 2 := rfl
theorem c_M_unwind_175 : cT 208 175 = o_ci 176 3 := rfl
theorem c_M_unwind_176 : cT 208 176 = o_ci 177 0 := rfl
theorem c_M_unwind_177 : cT 208 177 = o_ca 180 18 4 4 false (some 10) := rfl
theorem c_M_unwind_180 : cT 208 180 = o_il 182 4 := rfl
theorem c_M_unwind_182 : cT 208 182 = o_ifne 185 192 := rfl
theorem c_M_unwind_185 : cT 208 185 = o_al 186 0 := rfl
theorem c_M_unwind_186 : cT 208 186 = o_il 187 2 := rfl
theorem c_M_unwind_187 : cT 208 187 = o_ca 190 19 2 3 false (some 10) := rfl
theorem c_M_unwind_190 : cT 208 190 = o_ci 191 0 := rfl
theorem c_M_unwind_191 : cT 208 191 = o_iret .int := rfl
theorem c_M_unwind_192 : cT 208 192 = o_ci 193 0 := rfl
theorem c_M_unwind_193 : cT 208 193 = o_is 195 5 := rfl
theorem c_M_unwind_195 : cT 208 195 = o_il 197 5 := rfl
theorem c_M_unwind_197 : cT 208 197 = o_al 198 0 := rfl
theorem c_M_unwind_198 : cT 208 198 = o_gf 201 10 0 := rfl
theorem c_M_unwind_201 : cT 208 201 = o_ci 202 4 := rfl
theorem c_M_unwind_202 : cT 208 202 = o_ial 203 := rfl
theorem c_M_unwind_203 : cT 208 203 = o_icge 206 237 := rfl
theorem c_M_unwind_206 : cT 208 206 = o_al 207 0 := rfl
theorem c_M_unwind_207 : cT 208 207 = o_gf 210 10 0 := rfl
theorem c_M_unwind_210 : cT 208 210 = o_ci 213 164 := rfl
theorem c_M_unwind_213 : cT 208 213 = o_ci 214 3 := rfl
theorem c_M_unwind_214 : cT 208 214 = o_il 216 5 := rfl
theorem c_M_unwind_216 : cT 208 216 = o_imul 217 := rfl
theorem c_M_unwind_217 : cT 208 217 = o_iadd 218 := rfl
theorem c_M_unwind_218 : cT 208 218 = o_ial 219 := rfl
theorem c_M_unwind_219 : cT 208 219 = o_il 220 2 := rfl
theorem c_M_unwind_220 : cT 208 220 = o_icne 223 231 := rfl
theorem c_M_unwind_223 : cT 208 223 = o_al 224 0 := rfl
theorem c_M_unwind_224 : cT 208 224 = o_il 225 2 := rfl
theorem c_M_unwind_225 : cT 208 225 = o_ci 226 5 := rfl
theorem c_M_unwind_226 : cT 208 226 = o_il 228 5 := rfl
theorem c_M_unwind_228 : cT 208 228 = o_ca 231 18 4 4 false (some 10) := rfl
theorem c_M_unwind_231 : cT 208 231 = o_inc 234 5 1 := rfl
theorem c_M_unwind_234 : cT 208 234 = o_goto 195 := rfl
theorem c_M_unwind_237 : cT 208 237 = o_al 238 0 := rfl
theorem c_M_unwind_238 : cT 208 238 = o_gf 241 10 0 := rfl
theorem c_M_unwind_241 : cT 208 241 = o_ci 244 164 := rfl
theorem c_M_unwind_244 : cT 208 244 = o_ci 245 3 := rfl
theorem c_M_unwind_245 : cT 208 245 = o_al 246 0 := rfl
theorem c_M_unwind_246 : cT 208 246 = o_il 247 2 := rfl
theorem c_M_unwind_247 : cT 208 247 = o_ci 248 5 := rfl
theorem c_M_unwind_248 : cT 208 248 = o_ca 251 32 3 3 false (some 10) := rfl
theorem c_M_unwind_251 : cT 208 251 = o_imul 252 := rfl
theorem c_M_unwind_252 : cT 208 252 = o_iadd 253 := rfl
theorem c_M_unwind_253 : cT 208 253 = o_ci 254 2 := rfl
theorem c_M_unwind_254 : cT 208 254 = o_iadd 255 := rfl
theorem c_M_unwind_255 : cT 208 255 = o_ci 256 (-1) := rfl
theorem c_M_unwind_256 : cT 208 256 = o_ias 257 := rfl
theorem c_M_unwind_257 : cT 208 257 = o_ci 258 1 := rfl
theorem c_M_unwind_258 : cT 208 258 = o_iret .int := rfl
theorem c_M_isToday_0 : cT 221 0 = o_al 1 0 := rfl
theorem c_M_isToday_1 : cT 221 1 = o_gf 4 10 0 := rfl
theorem c_M_isToday_4 : cT 221 4 = o_il 5 1 := rfl
theorem c_M_isToday_5 : cT 221 5 = o_ci 6 2 := rfl
theorem c_M_isToday_6 : cT 221 6 = o_ca 9 186 2 2 false none := rfl
theorem c_M_isToday_9 : cT 221 9 = o_ial 10 := rfl
theorem c_M_isToday_10 : cT 221 10 = o_ifne 13 36 := rfl
theorem c_M_isToday_13 : cT 221 13 = o_al 14 0 := rfl
theorem c_M_isToday_14 : cT 221 14 = o_gf 17 10 0 := rfl
theorem c_M_isToday_17 : cT 221 17 = o_il 18 1 := rfl
theorem c_M_isToday_18 : cT 221 18 = o_ci 19 1 := rfl
theorem c_M_isToday_19 : cT 221 19 = o_ca 22 186 2 2 false none := rfl
theorem c_M_isToday_22 : cT 221 22 = o_ial 23 := rfl
theorem c_M_isToday_23 : cT 221 23 = o_al 24 0 := rfl
theorem c_M_isToday_24 : cT 221 24 = o_gf 27 10 0 := rfl
theorem c_M_isToday_27 : cT 221 27 = o_ci 28 0 := rfl
theorem c_M_isToday_28 : cT 221 28 = o_ial 29 := rfl
theorem c_M_isToday_29 : cT 221 29 = o_icne 32 36 := rfl
theorem c_M_isToday_32 : cT 221 32 = o_ci 33 1 := rfl
theorem c_M_isToday_33 : cT 221 33 = o_goto 37 := rfl
theorem c_M_isToday_36 : cT 221 36 = o_ci 37 0 := rfl
theorem c_M_isToday_37 : cT 221 37 = o_iret .boolean := rfl
theorem c_M_putOff_0 : cT 222 0 = o_al 1 0 := rfl
theorem c_M_putOff_1 : cT 222 1 = o_gf 4 10 0 := rfl
theorem c_M_putOff_4 : cT 222 4 = o_il 5 1 := rfl
theorem c_M_putOff_5 : cT 222 5 = o_ci 6 0 := rfl
theorem c_M_putOff_6 : cT 222 6 = o_ca 9 186 2 2 false none := rfl
theorem c_M_putOff_9 : cT 222 9 = o_ial 10 := rfl
theorem c_M_putOff_10 : cT 222 10 = o_is 11 3 := rfl
theorem c_M_putOff_11 : cT 222 11 = o_al 12 0 := rfl
theorem c_M_putOff_12 : cT 222 12 = o_gf 15 10 0 := rfl
theorem c_M_putOff_15 : cT 222 15 = o_il 16 1 := rfl
theorem c_M_putOff_16 : cT 222 16 = o_ci 17 1 := rfl
theorem c_M_putOff_17 : cT 222 17 = o_ca 20 186 2 2 false none := rfl
theorem c_M_putOff_20 : cT 222 20 = o_al 21 0 := rfl
theorem c_M_putOff_21 : cT 222 21 = o_gf 24 10 0 := rfl
theorem c_M_putOff_24 : cT 222 24 = o_ci 25 0 := rfl
theorem c_M_putOff_25 : cT 222 25 = o_ial 26 := rfl
theorem c_M_putOff_26 : cT 222 26 = o_al 27 0 := rfl
theorem c_M_putOff_27 : cT 222 27 = o_al 28 0 := rfl
theorem c_M_putOff_28 : cT 222 28 = o_il 29 3 := rfl
theorem c_M_putOff_29 : cT 222 29 = o_ci 30 0 := rfl
theorem c_M_putOff_30 : cT 222 30 = o_ca 33 32 3 3 false (some 10) := rfl
theorem c_M_putOff_33 : cT 222 33 = o_ci 34 3 := rfl
theorem c_M_putOff_34 : cT 222 34 = o_il 35 2 := rfl
theorem c_M_putOff_35 : cT 222 35 = o_ci 36 0 := rfl
theorem c_M_putOff_36 : cT 222 36 = o_ci 37 0 := rfl
theorem c_M_putOff_37 : cT 222 37 = o_ci 38 0 := rfl
theorem c_M_putOff_38 : cT 222 38 = o_ca 41 91 7 12 false (some 10) := rfl
theorem c_M_putOff_41 : cT 222 41 = o_iadd 42 := rfl
theorem c_M_putOff_42 : cT 222 42 = o_ias 43 := rfl
theorem c_M_putOff_43 : cT 222 43 = o_al 44 0 := rfl
theorem c_M_putOff_44 : cT 222 44 = o_gf 47 10 0 := rfl
theorem c_M_putOff_47 : cT 222 47 = o_il 48 1 := rfl
theorem c_M_putOff_48 : cT 222 48 = o_ci 49 3 := rfl
theorem c_M_putOff_49 : cT 222 49 = o_ca 52 186 2 2 false none := rfl
theorem c_M_putOff_52 : cT 222 52 = o_dup2 53 := rfl
theorem c_M_putOff_53 : cT 222 53 = o_ial 54 := rfl
theorem c_M_putOff_54 : cT 222 54 = o_ci 55 1 := rfl
theorem c_M_putOff_55 : cT 222 55 = o_iadd 56 := rfl
theorem c_M_putOff_56 : cT 222 56 = o_ias 57 := rfl
theorem c_M_putOff_57 : cT 222 57 = o_al 58 0 := rfl
theorem c_M_putOff_58 : cT 222 58 = o_gf 61 10 0 := rfl
theorem c_M_putOff_61 : cT 222 61 = o_il 62 1 := rfl
theorem c_M_putOff_62 : cT 222 62 = o_ci 63 4 := rfl
theorem c_M_putOff_63 : cT 222 63 = o_ca 66 186 2 2 false none := rfl
theorem c_M_putOff_66 : cT 222 66 = o_il 67 2 := rfl
theorem c_M_putOff_67 : cT 222 67 = o_ias 68 := rfl
theorem c_M_putOff_68 : cT 222 68 = o_al 69 0 := rfl
theorem c_M_putOff_69 : cT 222 69 = o_gf 72 10 0 := rfl
theorem c_M_putOff_72 : cT 222 72 = o_ci 74 12 := rfl
theorem c_M_putOff_74 : cT 222 74 = o_il 75 2 := rfl
theorem c_M_putOff_75 : cT 222 75 = o_iadd 76 := rfl
theorem c_M_putOff_76 : cT 222 76 = o_dup2 77 := rfl
theorem c_M_putOff_77 : cT 222 77 = o_ial 78 := rfl
theorem c_M_putOff_78 : cT 222 78 = o_ci 79 1 := rfl
theorem c_M_putOff_79 : cT 222 79 = o_iadd 80 := rfl
theorem c_M_putOff_80 : cT 222 80 = o_ias 81 := rfl
theorem c_M_putOff_81 : cT 222 81 = o_vret := rfl
theorem c_M_hear_0 : cT 223 0 = o_al 1 0 := rfl
theorem c_M_hear_1 : cT 223 1 = o_gf 4 10 0 := rfl
theorem c_M_hear_4 : cT 223 4 = o_il 5 1 := rfl
theorem c_M_hear_5 : cT 223 5 = o_ci 6 0 := rfl
theorem c_M_hear_6 : cT 223 6 = o_ca 9 186 2 2 false none := rfl
theorem c_M_hear_9 : cT 223 9 = o_ial 10 := rfl
theorem c_M_hear_10 : cT 223 10 = o_is 11 2 := rfl
theorem c_M_hear_11 : cT 223 11 = o_al 12 0 := rfl
theorem c_M_hear_12 : cT 223 12 = o_al 13 0 := rfl
theorem c_M_hear_13 : cT 223 13 = o_il 14 2 := rfl
theorem c_M_hear_14 : cT 223 14 = o_ci 15 0 := rfl
theorem c_M_hear_15 : cT 223 15 = o_ca 18 32 3 3 false (some 10) := rfl
theorem c_M_hear_18 : cT 223 18 = o_ci 19 2 := rfl
theorem c_M_hear_19 : cT 223 19 = o_al 20 0 := rfl
theorem c_M_hear_20 : cT 223 20 = o_il 21 2 := rfl
theorem c_M_hear_21 : cT 223 21 = o_ci 22 0 := rfl
theorem c_M_hear_22 : cT 223 22 = o_ca 25 34 3 4 false (some 10) := rfl
theorem c_M_hear_25 : cT 223 25 = o_al 26 0 := rfl
theorem c_M_hear_26 : cT 223 26 = o_il 27 2 := rfl
theorem c_M_hear_27 : cT 223 27 = o_ca 30 31 2 4 false (some 10) := rfl
theorem c_M_hear_30 : cT 223 30 = o_al 31 0 := rfl
theorem c_M_hear_31 : cT 223 31 = o_il 32 2 := rfl
theorem c_M_hear_32 : cT 223 32 = o_al 33 0 := rfl
theorem c_M_hear_33 : cT 223 33 = o_gf 36 10 0 := rfl
theorem c_M_hear_36 : cT 223 36 = o_ci 37 0 := rfl
theorem c_M_hear_37 : cT 223 37 = o_ial 38 := rfl
theorem c_M_hear_38 : cT 223 38 = o_ca 41 72 3 7 false (some 10) := rfl
theorem c_M_hear_41 : cT 223 41 = o_al 42 0 := rfl
theorem c_M_hear_42 : cT 223 42 = o_il 43 2 := rfl
theorem c_M_hear_43 : cT 223 43 = o_al 44 0 := rfl
theorem c_M_hear_44 : cT 223 44 = o_gf 47 10 0 := rfl
theorem c_M_hear_47 : cT 223 47 = o_ci 48 0 := rfl
theorem c_M_hear_48 : cT 223 48 = o_ial 49 := rfl
theorem c_M_hear_49 : cT 223 49 = o_ca 52 64 3 5 false (some 10) := rfl
theorem c_M_hear_52 : cT 223 52 = o_ca 55 91 7 12 false (some 10) := rfl
theorem c_M_hear_55 : cT 223 55 = o_is 56 3 := rfl
theorem c_M_hear_56 : cT 223 56 = o_al 57 0 := rfl
theorem c_M_hear_57 : cT 223 57 = o_gf 60 10 0 := rfl
theorem c_M_hear_60 : cT 223 60 = o_il 61 1 := rfl
theorem c_M_hear_61 : cT 223 61 = o_ci 62 5 := rfl
theorem c_M_hear_62 : cT 223 62 = o_ca 65 186 2 2 false none := rfl
theorem c_M_hear_65 : cT 223 65 = o_ci 66 1 := rfl
theorem c_M_hear_66 : cT 223 66 = o_ias 67 := rfl
theorem c_M_hear_67 : cT 223 67 = o_al 68 0 := rfl
theorem c_M_hear_68 : cT 223 68 = o_gf 71 10 0 := rfl
theorem c_M_hear_71 : cT 223 71 = o_il 72 1 := rfl
theorem c_M_hear_72 : cT 223 72 = o_ci 73 2 := rfl
theorem c_M_hear_73 : cT 223 73 = o_ca 76 186 2 2 false none := rfl
theorem c_M_hear_76 : cT 223 76 = o_il 77 3 := rfl
theorem c_M_hear_77 : cT 223 77 = o_ifeq 80 84 := rfl
theorem c_M_hear_80 : cT 223 80 = o_ci 81 2 := rfl
theorem c_M_hear_81 : cT 223 81 = o_goto 85 := rfl
theorem c_M_hear_84 : cT 223 84 = o_ci 85 1 := rfl
theorem c_M_hear_85 : cT 223 85 = o_ias 86 := rfl
theorem c_M_hear_86 : cT 223 86 = o_il 87 3 := rfl
theorem c_M_hear_87 : cT 223 87 = o_ifeq 90 102 := rfl
theorem c_M_hear_90 : cT 223 90 = o_al 91 0 := rfl
theorem c_M_hear_91 : cT 223 91 = o_il 92 2 := rfl
theorem c_M_hear_92 : cT 223 92 = o_ca 95 51 2 3 false (some 10) := rfl
theorem c_M_hear_95 : cT 223 95 = o_al 96 0 := rfl
theorem c_M_hear_96 : cT 223 96 = o_il 97 2 := rfl
theorem c_M_hear_97 : cT 223 97 = o_ci 98 3 := rfl
theorem c_M_hear_98 : cT 223 98 = o_ci 99 1 := rfl
theorem c_M_hear_99 : cT 223 99 = o_ca 102 18 4 4 false (some 10) := rfl
theorem c_M_hear_102 : cT 223 102 = o_vret := rfl
theorem c_M_prisonGoes_0 : cT 224 0 = o_ci 1 0 := rfl
theorem c_M_prisonGoes_1 : cT 224 1 = o_is 2 2 := rfl
theorem c_M_prisonGoes_2 : cT 224 2 = o_ci 3 0 := rfl
theorem c_M_prisonGoes_3 : cT 224 3 = o_is 4 3 := rfl
theorem c_M_prisonGoes_4 : cT 224 4 = o_ci 5 0 := rfl
theorem c_M_prisonGoes_5 : cT 224 5 = o_is 7 4 := rfl
theorem c_M_prisonGoes_7 : cT 224 7 = o_il 9 4 := rfl
theorem c_M_prisonGoes_9 : cT 224 9 = o_al 10 0 := rfl
theorem c_M_prisonGoes_10 : cT 224 10 = o_gf 13 10 0 := rfl
theorem c_M_prisonGoes_13 : cT 224 13 = o_ci 15 10 := rfl
theorem c_M_prisonGoes_15 : cT 224 15 = o_ial 16 := rfl
theorem c_M_prisonGoes_16 : cT 224 16 = o_icge 19 106 := rfl
theorem c_M_prisonGoes_19 : cT 224 19 = o_al 20 0 := rfl
theorem c_M_prisonGoes_20 : cT 224 20 = o_gf 23 10 0 := rfl
theorem c_M_prisonGoes_23 : cT 224 23 = o_il 25 4 := rfl
theorem c_M_prisonGoes_25 : cT 224 25 = o_ci 26 0 := rfl
theorem c_M_prisonGoes_26 : cT 224 26 = o_ca 29 186 2 2 false none := rfl
theorem c_M_prisonGoes_29 : cT 224 29 = o_ial 30 := rfl
theorem c_M_prisonGoes_30 : cT 224 30 = o_is 32 5 := rfl
theorem c_M_prisonGoes_32 : cT 224 32 = o_al 33 0 := rfl
theorem c_M_prisonGoes_33 : cT 224 33 = o_il 35 4 := rfl
theorem c_M_prisonGoes_35 : cT 224 35 = o_ca 38 221 2 2 false (some 10) := rfl
theorem c_M_prisonGoes_38 : cT 224 38 = o_ifeq 41 100 := rfl
theorem c_M_prisonGoes_41 : cT 224 41 = o_al 42 0 := rfl
theorem c_M_prisonGoes_42 : cT 224 42 = o_il 44 5 := rfl
theorem c_M_prisonGoes_44 : cT 224 44 = o_ci 45 3 := rfl
theorem c_M_prisonGoes_45 : cT 224 45 = o_ca 48 32 3 3 false (some 10) := rfl
theorem c_M_prisonGoes_48 : cT 224 48 = o_ifne 51 100 := rfl
theorem c_M_prisonGoes_51 : cT 224 51 = o_al 52 0 := rfl
theorem c_M_prisonGoes_52 : cT 224 52 = o_il 54 5 := rfl
theorem c_M_prisonGoes_54 : cT 224 54 = o_ci 55 1 := rfl
theorem c_M_prisonGoes_55 : cT 224 55 = o_ca 58 32 3 3 false (some 10) := rfl
theorem c_M_prisonGoes_58 : cT 224 58 = o_il 59 1 := rfl
theorem c_M_prisonGoes_59 : cT 224 59 = o_icne 62 100 := rfl
theorem c_M_prisonGoes_62 : cT 224 62 = o_al 63 0 := rfl
theorem c_M_prisonGoes_63 : cT 224 63 = o_il 65 5 := rfl
theorem c_M_prisonGoes_65 : cT 224 65 = o_ca 68 196 2 2 false (some 10) := rfl
theorem c_M_prisonGoes_68 : cT 224 68 = o_is 70 6 := rfl
theorem c_M_prisonGoes_70 : cT 224 70 = o_il 72 6 := rfl
theorem c_M_prisonGoes_72 : cT 224 72 = o_ifle 75 86 := rfl
theorem c_M_prisonGoes_75 : cT 224 75 = o_al 76 0 := rfl
theorem c_M_prisonGoes_76 : cT 224 76 = o_il 78 4 := rfl
theorem c_M_prisonGoes_78 : cT 224 78 = o_il 80 6 := rfl
theorem c_M_prisonGoes_80 : cT 224 80 = o_ca 83 222 3 4 false (some 10) := rfl
theorem c_M_prisonGoes_83 : cT 224 83 = o_goto 100 := rfl
theorem c_M_prisonGoes_86 : cT 224 86 = o_il 87 2 := rfl
theorem c_M_prisonGoes_87 : cT 224 87 = o_ci 88 1 := rfl
theorem c_M_prisonGoes_88 : cT 224 88 = o_il 90 4 := rfl
theorem c_M_prisonGoes_90 : cT 224 90 = o_ishl 91 := rfl
theorem c_M_prisonGoes_91 : cT 224 91 = o_ior 92 := rfl
theorem c_M_prisonGoes_92 : cT 224 92 = o_is 93 2 := rfl
theorem c_M_prisonGoes_93 : cT 224 93 = o_il 94 3 := rfl
theorem c_M_prisonGoes_94 : cT 224 94 = o_ci 95 1 := rfl
theorem c_M_prisonGoes_95 : cT 224 95 = o_il 97 5 := rfl
theorem c_M_prisonGoes_97 : cT 224 97 = o_ishl 98 := rfl
theorem c_M_prisonGoes_98 : cT 224 98 = o_ior 99 := rfl
theorem c_M_prisonGoes_99 : cT 224 99 = o_is 100 3 := rfl
theorem c_M_prisonGoes_100 : cT 224 100 = o_inc 103 4 1 := rfl
theorem c_M_prisonGoes_103 : cT 224 103 = o_goto 7 := rfl
theorem c_M_prisonGoes_106 : cT 224 106 = o_al 107 0 := rfl
theorem c_M_prisonGoes_107 : cT 224 107 = o_il 108 3 := rfl
theorem c_M_prisonGoes_108 : cT 224 108 = o_il 109 1 := rfl
theorem c_M_prisonGoes_109 : cT 224 109 = o_al 110 0 := rfl
theorem c_M_prisonGoes_110 : cT 224 110 = o_gf 113 10 0 := rfl
theorem c_M_prisonGoes_113 : cT 224 113 = o_ci 114 0 := rfl
theorem c_M_prisonGoes_114 : cT 224 114 = o_ial 115 := rfl
theorem c_M_prisonGoes_115 : cT 224 115 = o_ca 118 183 4 11 false (some 10) := rfl
theorem c_M_prisonGoes_118 : cT 224 118 = o_is 120 4 := rfl
theorem c_M_prisonGoes_120 : cT 224 120 = o_ci 121 0 := rfl
theorem c_M_prisonGoes_121 : cT 224 121 = o_is 123 5 := rfl
theorem c_M_prisonGoes_123 : cT 224 123 = o_il 125 5 := rfl
theorem c_M_prisonGoes_125 : cT 224 125 = o_al 126 0 := rfl
theorem c_M_prisonGoes_126 : cT 224 126 = o_gf 129 10 0 := rfl
theorem c_M_prisonGoes_129 : cT 224 129 = o_ci 131 10 := rfl
theorem c_M_prisonGoes_131 : cT 224 131 = o_ial 132 := rfl
theorem c_M_prisonGoes_132 : cT 224 132 = o_icge 135 162 := rfl
theorem c_M_prisonGoes_135 : cT 224 135 = o_il 137 4 := rfl
theorem c_M_prisonGoes_137 : cT 224 137 = o_ifge 140 162 := rfl
theorem c_M_prisonGoes_140 : cT 224 140 = o_il 141 2 := rfl
theorem c_M_prisonGoes_141 : cT 224 141 = o_il 143 5 := rfl
theorem c_M_prisonGoes_143 : cT 224 143 = o_ca 146 181 2 2 false none := rfl
theorem c_M_prisonGoes_146 : cT 224 146 = o_ifeq 149 156 := rfl
theorem c_M_prisonGoes_149 : cT 224 149 = o_al 150 0 := rfl
theorem c_M_prisonGoes_150 : cT 224 150 = o_il 152 5 := rfl
theorem c_M_prisonGoes_152 : cT 224 152 = o_ci 153 4 := rfl
theorem c_M_prisonGoes_153 : cT 224 153 = o_ca 156 222 3 4 false (some 10) := rfl
theorem c_M_prisonGoes_156 : cT 224 156 = o_inc 159 5 1 := rfl
theorem c_M_prisonGoes_159 : cT 224 159 = o_goto 123 := rfl
theorem c_M_prisonGoes_162 : cT 224 162 = o_il 164 4 := rfl
theorem c_M_prisonGoes_164 : cT 224 164 = o_iflt 167 276 := rfl
theorem c_M_prisonGoes_167 : cT 224 167 = o_il 168 2 := rfl
theorem c_M_prisonGoes_168 : cT 224 168 = o_ifeq 171 276 := rfl
theorem c_M_prisonGoes_171 : cT 224 171 = o_al 172 0 := rfl
theorem c_M_prisonGoes_172 : cT 224 172 = o_gf 175 10 0 := rfl
theorem c_M_prisonGoes_175 : cT 224 175 = o_ci 178 634 := rfl
theorem c_M_prisonGoes_178 : cT 224 178 = o_ci 179 4 := rfl
theorem c_M_prisonGoes_179 : cT 224 179 = o_il 181 4 := rfl
theorem c_M_prisonGoes_181 : cT 224 181 = o_ci 183 100 := rfl
theorem c_M_prisonGoes_183 : cT 224 183 = o_idiv 184 := rfl
theorem c_M_prisonGoes_184 : cT 224 184 = o_imul 185 := rfl
theorem c_M_prisonGoes_185 : cT 224 185 = o_iadd 186 := rfl
theorem c_M_prisonGoes_186 : cT 224 186 = o_ci 187 3 := rfl
theorem c_M_prisonGoes_187 : cT 224 187 = o_iadd 188 := rfl
theorem c_M_prisonGoes_188 : cT 224 188 = o_dup2 189 := rfl
theorem c_M_prisonGoes_189 : cT 224 189 = o_ial 190 := rfl
theorem c_M_prisonGoes_190 : cT 224 190 = o_ci 191 1 := rfl
theorem c_M_prisonGoes_191 : cT 224 191 = o_iadd 192 := rfl
theorem c_M_prisonGoes_192 : cT 224 192 = o_ias 193 := rfl
theorem c_M_prisonGoes_193 : cT 224 193 = o_al 194 0 := rfl
theorem c_M_prisonGoes_194 : cT 224 194 = o_gf 197 10 0 := rfl
theorem c_M_prisonGoes_197 : cT 224 197 = o_ci 200 634 := rfl
theorem c_M_prisonGoes_200 : cT 224 200 = o_ci 201 4 := rfl
theorem c_M_prisonGoes_201 : cT 224 201 = o_il 203 4 := rfl
theorem c_M_prisonGoes_203 : cT 224 203 = o_ci 205 10 := rfl
theorem c_M_prisonGoes_205 : cT 224 205 = o_idiv 206 := rfl
theorem c_M_prisonGoes_206 : cT 224 206 = o_ci 208 10 := rfl
theorem c_M_prisonGoes_208 : cT 224 208 = o_irem 209 := rfl
theorem c_M_prisonGoes_209 : cT 224 209 = o_imul 210 := rfl
theorem c_M_prisonGoes_210 : cT 224 210 = o_iadd 211 := rfl
theorem c_M_prisonGoes_211 : cT 224 211 = o_ci 212 3 := rfl
theorem c_M_prisonGoes_212 : cT 224 212 = o_iadd 213 := rfl
theorem c_M_prisonGoes_213 : cT 224 213 = o_dup2 214 := rfl
theorem c_M_prisonGoes_214 : cT 224 214 = o_ial 215 := rfl
theorem c_M_prisonGoes_215 : cT 224 215 = o_ci 216 1 := rfl
theorem c_M_prisonGoes_216 : cT 224 216 = o_iadd 217 := rfl
theorem c_M_prisonGoes_217 : cT 224 217 = o_ias 218 := rfl
theorem c_M_prisonGoes_218 : cT 224 218 = o_al 219 0 := rfl
theorem c_M_prisonGoes_219 : cT 224 219 = o_gf 222 10 0 := rfl
theorem c_M_prisonGoes_222 : cT 224 222 = o_ci 225 634 := rfl
theorem c_M_prisonGoes_225 : cT 224 225 = o_ci 226 4 := rfl
theorem c_M_prisonGoes_226 : cT 224 226 = o_il 228 4 := rfl
theorem c_M_prisonGoes_228 : cT 224 228 = o_ci 230 10 := rfl
theorem c_M_prisonGoes_230 : cT 224 230 = o_irem 231 := rfl
theorem c_M_prisonGoes_231 : cT 224 231 = o_imul 232 := rfl
theorem c_M_prisonGoes_232 : cT 224 232 = o_iadd 233 := rfl
theorem c_M_prisonGoes_233 : cT 224 233 = o_ci 234 3 := rfl
theorem c_M_prisonGoes_234 : cT 224 234 = o_iadd 235 := rfl
theorem c_M_prisonGoes_235 : cT 224 235 = o_dup2 236 := rfl
theorem c_M_prisonGoes_236 : cT 224 236 = o_ial 237 := rfl
theorem c_M_prisonGoes_237 : cT 224 237 = o_ci 238 1 := rfl
theorem c_M_prisonGoes_238 : cT 224 238 = o_iadd 239 := rfl
theorem c_M_prisonGoes_239 : cT 224 239 = o_ias 240 := rfl
theorem c_M_prisonGoes_240 : cT 224 240 = o_ci 241 0 := rfl
theorem c_M_prisonGoes_241 : cT 224 241 = o_is 243 5 := rfl
theorem c_M_prisonGoes_243 : cT 224 243 = o_il 245 5 := rfl
theorem c_M_prisonGoes_245 : cT 224 245 = o_al 246 0 := rfl
theorem c_M_prisonGoes_246 : cT 224 246 = o_gf 249 10 0 := rfl
theorem c_M_prisonGoes_249 : cT 224 249 = o_ci 251 10 := rfl
theorem c_M_prisonGoes_251 : cT 224 251 = o_ial 252 := rfl
theorem c_M_prisonGoes_252 : cT 224 252 = o_icge 255 276 := rfl
theorem c_M_prisonGoes_255 : cT 224 255 = o_il 256 2 := rfl
theorem c_M_prisonGoes_256 : cT 224 256 = o_il 258 5 := rfl
theorem c_M_prisonGoes_258 : cT 224 258 = o_ca 261 181 2 2 false none := rfl
theorem c_M_prisonGoes_261 : cT 224 261 = o_ifeq 264 270 := rfl
theorem c_M_prisonGoes_264 : cT 224 264 = o_al 265 0 := rfl
theorem c_M_prisonGoes_265 : cT 224 265 = o_il 267 5 := rfl
theorem c_M_prisonGoes_267 : cT 224 267 = o_ca 270 223 2 4 false (some 10) := rfl
theorem c_M_prisonGoes_270 : cT 224 270 = o_inc 273 5 1 := rfl
theorem c_M_prisonGoes_273 : cT 224 273 = o_goto 243 := rfl
theorem c_M_prisonGoes_276 : cT 224 276 = o_vret := rfl
theorem c_M_dayGoes_0 : cT 225 0 = o_ci 1 0 := rfl
theorem c_M_dayGoes_1 : cT 225 1 = o_is 2 1 := rfl
theorem c_M_dayGoes_2 : cT 225 2 = o_il 3 1 := rfl
theorem c_M_dayGoes_3 : cT 225 3 = o_ci 5 6 := rfl
theorem c_M_dayGoes_5 : cT 225 5 = o_icge 8 19 := rfl
theorem c_M_dayGoes_8 : cT 225 8 = o_al 9 0 := rfl
theorem c_M_dayGoes_9 : cT 225 9 = o_il 10 1 := rfl
theorem c_M_dayGoes_10 : cT 225 10 = o_ca 13 224 2 7 false (some 10) := rfl
theorem c_M_dayGoes_13 : cT 225 13 = o_inc 16 1 1 := rfl
theorem c_M_dayGoes_16 : cT 225 16 = o_goto 2 := rfl
theorem c_M_dayGoes_19 : cT 225 19 = o_ci 20 0 := rfl
theorem c_M_dayGoes_20 : cT 225 20 = o_is 21 1 := rfl
theorem c_M_dayGoes_21 : cT 225 21 = o_il 22 1 := rfl
theorem c_M_dayGoes_22 : cT 225 22 = o_al 23 0 := rfl
theorem c_M_dayGoes_23 : cT 225 23 = o_gf 26 10 0 := rfl
theorem c_M_dayGoes_26 : cT 225 26 = o_ci 28 10 := rfl
theorem c_M_dayGoes_28 : cT 225 28 = o_ial 29 := rfl
theorem c_M_dayGoes_29 : cT 225 29 = o_icge 32 75 := rfl
theorem c_M_dayGoes_32 : cT 225 32 = o_al 33 0 := rfl
theorem c_M_dayGoes_33 : cT 225 33 = o_il 34 1 := rfl
theorem c_M_dayGoes_34 : cT 225 34 = o_ca 37 221 2 2 false (some 10) := rfl
theorem c_M_dayGoes_37 : cT 225 37 = o_ifeq 40 69 := rfl
theorem c_M_dayGoes_40 : cT 225 40 = o_al 41 0 := rfl
theorem c_M_dayGoes_41 : cT 225 41 = o_al 42 0 := rfl
theorem c_M_dayGoes_42 : cT 225 42 = o_gf 45 10 0 := rfl
theorem c_M_dayGoes_45 : cT 225 45 = o_il 46 1 := rfl
theorem c_M_dayGoes_46 : cT 225 46 = o_ci 47 0 := rfl
theorem c_M_dayGoes_47 : cT 225 47 = o_ca 50 186 2 2 false none := rfl
theorem c_M_dayGoes_50 : cT 225 50 = o_ial 51 := rfl
theorem c_M_dayGoes_51 : cT 225 51 = o_ci 52 3 := rfl
theorem c_M_dayGoes_52 : cT 225 52 = o_ca 55 32 3 3 false (some 10) := rfl
theorem c_M_dayGoes_55 : cT 225 55 = o_ifeq 58 69 := rfl
theorem c_M_dayGoes_58 : cT 225 58 = o_al 59 0 := rfl
theorem c_M_dayGoes_59 : cT 225 59 = o_gf 62 10 0 := rfl
theorem c_M_dayGoes_62 : cT 225 62 = o_il 63 1 := rfl
theorem c_M_dayGoes_63 : cT 225 63 = o_ci 64 2 := rfl
theorem c_M_dayGoes_64 : cT 225 64 = o_ca 67 186 2 2 false none := rfl
theorem c_M_dayGoes_67 : cT 225 67 = o_ci 68 3 := rfl
theorem c_M_dayGoes_68 : cT 225 68 = o_ias 69 := rfl
theorem c_M_dayGoes_69 : cT 225 69 = o_inc 72 1 1 := rfl
theorem c_M_dayGoes_72 : cT 225 72 = o_goto 21 := rfl
theorem c_M_dayGoes_75 : cT 225 75 = o_al 76 0 := rfl
theorem c_M_dayGoes_76 : cT 225 76 = o_gf 79 10 0 := rfl
theorem c_M_dayGoes_79 : cT 225 79 = o_ci 80 0 := rfl
theorem c_M_dayGoes_80 : cT 225 80 = o_dup2 81 := rfl
theorem c_M_dayGoes_81 : cT 225 81 = o_ial 82 := rfl
theorem c_M_dayGoes_82 : cT 225 82 = o_ci 83 1 := rfl
theorem c_M_dayGoes_83 : cT 225 83 = o_iadd 84 := rfl
theorem c_M_dayGoes_84 : cT 225 84 = o_ias 85 := rfl
theorem c_M_dayGoes_85 : cT 225 85 = o_vret := rfl
theorem c_M_run_0 : cT 226 0 = o_il 1 1 := rfl
theorem c_M_run_1 : cT 226 1 = o_i2l 2 := rfl
theorem c_M_run_2 : cT 226 2 = o_cl 3 1 := rfl
theorem c_M_run_3 : cT 226 3 = o_cl 6 60 := rfl
theorem c_M_run_6 : cT 226 6 = o_ca 9 17 3 6 false none := rfl
theorem c_M_run_9 : cT 226 9 = o_ifne 12 15 := rfl
theorem c_M_run_12 : cT 226 12 = o_ci 14 (-1000000001) := rfl
theorem c_M_run_14 : cT 226 14 = o_iret .int := rfl
theorem c_M_run_15 : cT 226 15 = o_al 16 0 := rfl
theorem c_M_run_16 : cT 226 16 = o_gf 19 10 0 := rfl
theorem c_M_run_19 : cT 226 19 = o_ci 20 0 := rfl
theorem c_M_run_20 : cT 226 20 = o_ial 21 := rfl
theorem c_M_run_21 : cT 226 21 = o_il 22 1 := rfl
theorem c_M_run_22 : cT 226 22 = o_iadd 23 := rfl
theorem c_M_run_23 : cT 226 23 = o_ci 26 2999 := rfl
theorem c_M_run_26 : cT 226 26 = o_icle 29 32 := rfl
theorem c_M_run_29 : cT 226 29 = o_ci 31 (-1000000003) := rfl
theorem c_M_run_31 : cT 226 31 = o_iret .int := rfl
theorem c_M_run_32 : cT 226 32 = o_ci 33 0 := rfl
theorem c_M_run_33 : cT 226 33 = o_is 34 2 := rfl
theorem c_M_run_34 : cT 226 34 = o_il 35 2 := rfl
theorem c_M_run_35 : cT 226 35 = o_il 36 1 := rfl
theorem c_M_run_36 : cT 226 36 = o_icge 39 49 := rfl
theorem c_M_run_39 : cT 226 39 = o_al 40 0 := rfl
theorem c_M_run_40 : cT 226 40 = o_ca 43 225 1 2 false (some 10) := rfl
theorem c_M_run_43 : cT 226 43 = o_inc 46 2 1 := rfl
theorem c_M_run_46 : cT 226 46 = o_goto 34 := rfl
theorem c_M_run_49 : cT 226 49 = o_al 50 0 := rfl
theorem c_M_run_50 : cT 226 50 = o_gf 53 10 0 := rfl
theorem c_M_run_53 : cT 226 53 = o_ci 54 0 := rfl
theorem c_M_run_54 : cT 226 54 = o_ial 55 := rfl
theorem c_M_run_55 : cT 226 55 = o_iret .int := rfl
theorem c_M_table_0 : cT 228 0 = o_il 1 1 := rfl
theorem c_M_table_1 : cT 228 1 = o_i2l 2 := rfl
theorem c_M_table_2 : cT 228 2 = o_cl 3 0 := rfl
theorem c_M_table_3 : cT 228 3 = o_cl 6 7 := rfl
theorem c_M_table_6 : cT 228 6 = o_ca 9 17 3 6 false none := rfl
theorem c_M_table_9 : cT 228 9 = o_ifeq 12 36 := rfl
theorem c_M_table_12 : cT 228 12 = o_il 13 2 := rfl
theorem c_M_table_13 : cT 228 13 = o_i2l 14 := rfl
theorem c_M_table_14 : cT 228 14 = o_cl 15 0 := rfl
theorem c_M_table_15 : cT 228 15 = o_cl 18 2 := rfl
theorem c_M_table_18 : cT 228 18 = o_ca 21 17 3 6 false none := rfl
theorem c_M_table_21 : cT 228 21 = o_ifeq 24 36 := rfl
theorem c_M_table_24 : cT 228 24 = o_il 25 3 := rfl
theorem c_M_table_25 : cT 228 25 = o_i2l 26 := rfl
theorem c_M_table_26 : cT 228 26 = o_cl 27 0 := rfl
theorem c_M_table_27 : cT 228 27 = o_cl 30 9999 := rfl
theorem c_M_table_30 : cT 228 30 = o_ca 33 17 3 6 false none := rfl
theorem c_M_table_33 : cT 228 33 = o_ifne 36 39 := rfl
theorem c_M_table_36 : cT 228 36 = o_ci 38 (-1000000001) := rfl
theorem c_M_table_38 : cT 228 38 = o_iret .int := rfl
theorem c_M_table_39 : cT 228 39 = o_al 40 0 := rfl
theorem c_M_table_40 : cT 228 40 = o_gf 43 10 0 := rfl
theorem c_M_table_43 : cT 228 43 = o_ci 46 890 := rfl
theorem c_M_table_46 : cT 228 46 = o_ci 47 3 := rfl
theorem c_M_table_47 : cT 228 47 = o_il 48 1 := rfl
theorem c_M_table_48 : cT 228 48 = o_imul 49 := rfl
theorem c_M_table_49 : cT 228 49 = o_iadd 50 := rfl
theorem c_M_table_50 : cT 228 50 = o_il 51 2 := rfl
theorem c_M_table_51 : cT 228 51 = o_iadd 52 := rfl
theorem c_M_table_52 : cT 228 52 = o_ial 53 := rfl
theorem c_M_table_53 : cT 228 53 = o_is 55 4 := rfl
theorem c_M_table_55 : cT 228 55 = o_al 56 0 := rfl
theorem c_M_table_56 : cT 228 56 = o_gf 59 10 0 := rfl
theorem c_M_table_59 : cT 228 59 = o_ci 62 890 := rfl
theorem c_M_table_62 : cT 228 62 = o_ci 63 3 := rfl
theorem c_M_table_63 : cT 228 63 = o_il 64 1 := rfl
theorem c_M_table_64 : cT 228 64 = o_imul 65 := rfl
theorem c_M_table_65 : cT 228 65 = o_iadd 66 := rfl
theorem c_M_table_66 : cT 228 66 = o_il 67 2 := rfl
theorem c_M_table_67 : cT 228 67 = o_iadd 68 := rfl
theorem c_M_table_68 : cT 228 68 = o_il 69 3 := rfl
theorem c_M_table_69 : cT 228 69 = o_ias 70 := rfl
theorem c_M_table_70 : cT 228 70 = o_il 72 4 := rfl
theorem c_M_table_72 : cT 228 72 = o_iret .int := rfl
theorem c_M_like_0 : cT 232 0 = o_al 1 0 := rfl
theorem c_M_like_1 : cT 232 1 = o_il 2 1 := rfl
theorem c_M_like_2 : cT 232 2 = o_ci 3 2 := rfl
theorem c_M_like_3 : cT 232 3 = o_ca 6 29 3 3 false (some 10) := rfl
theorem c_M_like_6 : cT 232 6 = o_ifeq 9 21 := rfl
theorem c_M_like_9 : cT 232 9 = o_il 10 2 := rfl
theorem c_M_like_10 : cT 232 10 = o_i2l 11 := rfl
theorem c_M_like_11 : cT 232 11 = o_cl 12 0 := rfl
theorem c_M_like_12 : cT 232 12 = o_cl 15 2 := rfl
theorem c_M_like_15 : cT 232 15 = o_ca 18 17 3 6 false none := rfl
theorem c_M_like_18 : cT 232 18 = o_ifne 21 24 := rfl
theorem c_M_like_21 : cT 232 21 = o_ci 23 (-1000000001) := rfl
theorem c_M_like_23 : cT 232 23 = o_iret .int := rfl
theorem c_M_like_24 : cT 232 24 = o_ci 25 0 := rfl
theorem c_M_like_25 : cT 232 25 = o_is 26 3 := rfl
theorem c_M_like_26 : cT 232 26 = o_ci 27 0 := rfl
theorem c_M_like_27 : cT 232 27 = o_is 29 4 := rfl
theorem c_M_like_29 : cT 232 29 = o_ci 30 0 := rfl
theorem c_M_like_30 : cT 232 30 = o_is 32 5 := rfl
theorem c_M_like_32 : cT 232 32 = o_il 34 5 := rfl
theorem c_M_like_34 : cT 232 34 = o_al 35 0 := rfl
theorem c_M_like_35 : cT 232 35 = o_gf 38 10 0 := rfl
theorem c_M_like_38 : cT 232 38 = o_ci 40 10 := rfl
theorem c_M_like_40 : cT 232 40 = o_ial 41 := rfl
theorem c_M_like_41 : cT 232 41 = o_icge 44 172 := rfl
theorem c_M_like_44 : cT 232 44 = o_al 45 0 := rfl
theorem c_M_like_45 : cT 232 45 = o_gf 48 10 0 := rfl
theorem c_M_like_48 : cT 232 48 = o_il 50 5 := rfl
theorem c_M_like_50 : cT 232 50 = o_ci 51 0 := rfl
theorem c_M_like_51 : cT 232 51 = o_ca 54 186 2 2 false none := rfl
theorem c_M_like_54 : cT 232 54 = o_ial 55 := rfl
theorem c_M_like_55 : cT 232 55 = o_is 57 6 := rfl
theorem c_M_like_57 : cT 232 57 = o_al 58 0 := rfl
theorem c_M_like_58 : cT 232 58 = o_gf 61 10 0 := rfl
theorem c_M_like_61 : cT 232 61 = o_il 63 5 := rfl
theorem c_M_like_63 : cT 232 63 = o_ci 64 2 := rfl
theorem c_M_like_64 : cT 232 64 = o_ca 67 186 2 2 false none := rfl
theorem c_M_like_67 : cT 232 67 = o_ial 68 := rfl
theorem c_M_like_68 : cT 232 68 = o_is 70 7 := rfl
theorem c_M_like_70 : cT 232 70 = o_il 72 6 := rfl
theorem c_M_like_72 : cT 232 72 = o_il 73 1 := rfl
theorem c_M_like_73 : cT 232 73 = o_iceq 76 117 := rfl
theorem c_M_like_76 : cT 232 76 = o_al 77 0 := rfl
theorem c_M_like_77 : cT 232 77 = o_il 79 6 := rfl
theorem c_M_like_79 : cT 232 79 = o_ci 80 0 := rfl
theorem c_M_like_80 : cT 232 80 = o_ca 83 32 3 3 false (some 10) := rfl
theorem c_M_like_83 : cT 232 83 = o_al 84 0 := rfl
theorem c_M_like_84 : cT 232 84 = o_il 85 1 := rfl
theorem c_M_like_85 : cT 232 85 = o_ci 86 0 := rfl
theorem c_M_like_86 : cT 232 86 = o_ca 89 32 3 3 false (some 10) := rfl
theorem c_M_like_89 : cT 232 89 = o_icne 92 117 := rfl
theorem c_M_like_92 : cT 232 92 = o_al 93 0 := rfl
theorem c_M_like_93 : cT 232 93 = o_il 95 6 := rfl
theorem c_M_like_95 : cT 232 95 = o_ci 96 2 := rfl
theorem c_M_like_96 : cT 232 96 = o_ca 99 32 3 3 false (some 10) := rfl
theorem c_M_like_99 : cT 232 99 = o_al 100 0 := rfl
theorem c_M_like_100 : cT 232 100 = o_il 101 1 := rfl
theorem c_M_like_101 : cT 232 101 = o_ci 102 2 := rfl
theorem c_M_like_102 : cT 232 102 = o_ca 105 32 3 3 false (some 10) := rfl
theorem c_M_like_105 : cT 232 105 = o_ixor 106 := rfl
theorem c_M_like_106 : cT 232 106 = o_ca 109 33 1 3 false none := rfl
theorem c_M_like_109 : cT 232 109 = o_ci 110 2 := rfl
theorem c_M_like_110 : cT 232 110 = o_icge 113 117 := rfl
theorem c_M_like_113 : cT 232 113 = o_ci 114 1 := rfl
theorem c_M_like_114 : cT 232 114 = o_goto 118 := rfl
theorem c_M_like_117 : cT 232 117 = o_ci 118 0 := rfl
theorem c_M_like_118 : cT 232 118 = o_is 120 8 := rfl
theorem c_M_like_120 : cT 232 120 = o_il 121 3 := rfl
theorem c_M_like_121 : cT 232 121 = o_il 123 8 := rfl
theorem c_M_like_123 : cT 232 123 = o_ifeq 126 142 := rfl
theorem c_M_like_126 : cT 232 126 = o_il 128 7 := rfl
theorem c_M_like_128 : cT 232 128 = o_ci 129 1 := rfl
theorem c_M_like_129 : cT 232 129 = o_iceq 132 138 := rfl
theorem c_M_like_132 : cT 232 132 = o_il 134 7 := rfl
theorem c_M_like_134 : cT 232 134 = o_ci 135 2 := rfl
theorem c_M_like_135 : cT 232 135 = o_icne 138 142 := rfl
theorem c_M_like_138 : cT 232 138 = o_ci 139 1 := rfl
theorem c_M_like_139 : cT 232 139 = o_goto 143 := rfl
theorem c_M_like_142 : cT 232 142 = o_ci 143 0 := rfl
theorem c_M_like_143 : cT 232 143 = o_iadd 144 := rfl
theorem c_M_like_144 : cT 232 144 = o_is 145 3 := rfl
theorem c_M_like_145 : cT 232 145 = o_il 147 4 := rfl
theorem c_M_like_147 : cT 232 147 = o_il 149 8 := rfl
theorem c_M_like_149 : cT 232 149 = o_ifeq 152 162 := rfl
theorem c_M_like_152 : cT 232 152 = o_il 154 7 := rfl
theorem c_M_like_154 : cT 232 154 = o_ci 155 2 := rfl
theorem c_M_like_155 : cT 232 155 = o_icne 158 162 := rfl
theorem c_M_like_158 : cT 232 158 = o_ci 159 1 := rfl
theorem c_M_like_159 : cT 232 159 = o_goto 163 := rfl
theorem c_M_like_162 : cT 232 162 = o_ci 163 0 := rfl
theorem c_M_like_163 : cT 232 163 = o_iadd 164 := rfl
theorem c_M_like_164 : cT 232 164 = o_is 166 4 := rfl
theorem c_M_like_166 : cT 232 166 = o_inc 169 5 1 := rfl
theorem c_M_like_169 : cT 232 169 = o_goto 32 := rfl
theorem c_M_like_172 : cT 232 172 = o_il 173 2 := rfl
theorem c_M_like_173 : cT 232 173 = o_ifne 176 180 := rfl
theorem c_M_like_176 : cT 232 176 = o_il 177 3 := rfl
theorem c_M_like_177 : cT 232 177 = o_goto 206 := rfl
theorem c_M_like_180 : cT 232 180 = o_il 181 2 := rfl
theorem c_M_like_181 : cT 232 181 = o_ci 182 1 := rfl
theorem c_M_like_182 : cT 232 182 = o_icne 185 190 := rfl
theorem c_M_like_185 : cT 232 185 = o_il 187 4 := rfl
theorem c_M_like_187 : cT 232 187 = o_goto 206 := rfl
theorem c_M_like_190 : cT 232 190 = o_il 191 3 := rfl
theorem c_M_like_191 : cT 232 191 = o_ifne 194 199 := rfl
theorem c_M_like_194 : cT 232 194 = o_ci 196 (-1000000005) := rfl
theorem c_M_like_196 : cT 232 196 = o_goto 206 := rfl
theorem c_M_like_199 : cT 232 199 = o_ci 201 100 := rfl
theorem c_M_like_201 : cT 232 201 = o_il 203 4 := rfl
theorem c_M_like_203 : cT 232 203 = o_imul 204 := rfl
theorem c_M_like_204 : cT 232 204 = o_il 205 3 := rfl
theorem c_M_like_205 : cT 232 205 = o_idiv 206 := rfl
theorem c_M_like_206 : cT 232 206 = o_iret .int := rfl
theorem c_M_twice_0 : cT 234 0 = o_il 1 1 := rfl
theorem c_M_twice_1 : cT 234 1 = o_i2l 2 := rfl
theorem c_M_twice_2 : cT 234 2 = o_cl 3 0 := rfl
theorem c_M_twice_3 : cT 234 3 = o_cl 4 1 := rfl
theorem c_M_twice_4 : cT 234 4 = o_ca 7 17 3 6 false none := rfl
theorem c_M_twice_7 : cT 234 7 = o_ifeq 10 20 := rfl
theorem c_M_twice_10 : cT 234 10 = o_il 11 2 := rfl
theorem c_M_twice_11 : cT 234 11 = o_i2l 12 := rfl
theorem c_M_twice_12 : cT 234 12 = o_cl 13 0 := rfl
theorem c_M_twice_13 : cT 234 13 = o_cl 14 1 := rfl
theorem c_M_twice_14 : cT 234 14 = o_ca 17 17 3 6 false none := rfl
theorem c_M_twice_17 : cT 234 17 = o_ifne 20 23 := rfl
theorem c_M_twice_20 : cT 234 20 = o_ci 22 (-1000000001) := rfl
theorem c_M_twice_22 : cT 234 22 = o_iret .int := rfl
theorem c_M_twice_23 : cT 234 23 = o_al 24 0 := rfl
theorem c_M_twice_24 : cT 234 24 = o_gf 27 10 0 := rfl
theorem c_M_twice_27 : cT 234 27 = o_ci 29 11 := rfl
theorem c_M_twice_29 : cT 234 29 = o_ial 30 := rfl
theorem c_M_twice_30 : cT 234 30 = o_is 31 3 := rfl
theorem c_M_twice_31 : cT 234 31 = o_il 32 3 := rfl
theorem c_M_twice_32 : cT 234 32 = o_ci 34 20 := rfl
theorem c_M_twice_34 : cT 234 34 = o_icne 37 40 := rfl
theorem c_M_twice_37 : cT 234 37 = o_ci 39 (-1000000003) := rfl
theorem c_M_twice_39 : cT 234 39 = o_iret .int := rfl
theorem c_M_twice_40 : cT 234 40 = o_al 41 0 := rfl
theorem c_M_twice_41 : cT 234 41 = o_gf 44 10 0 := rfl
theorem c_M_twice_44 : cT 234 44 = o_ci 47 850 := rfl
theorem c_M_twice_47 : cT 234 47 = o_ci 48 2 := rfl
theorem c_M_twice_48 : cT 234 48 = o_il 49 3 := rfl
theorem c_M_twice_49 : cT 234 49 = o_imul 50 := rfl
theorem c_M_twice_50 : cT 234 50 = o_iadd 51 := rfl
theorem c_M_twice_51 : cT 234 51 = o_il 52 1 := rfl
theorem c_M_twice_52 : cT 234 52 = o_ias 53 := rfl
theorem c_M_twice_53 : cT 234 53 = o_al 54 0 := rfl
theorem c_M_twice_54 : cT 234 54 = o_gf 57 10 0 := rfl
theorem c_M_twice_57 : cT 234 57 = o_ci 60 850 := rfl
theorem c_M_twice_60 : cT 234 60 = o_ci 61 2 := rfl
theorem c_M_twice_61 : cT 234 61 = o_il 62 3 := rfl
theorem c_M_twice_62 : cT 234 62 = o_imul 63 := rfl
theorem c_M_twice_63 : cT 234 63 = o_iadd 64 := rfl
theorem c_M_twice_64 : cT 234 64 = o_ci 65 1 := rfl
theorem c_M_twice_65 : cT 234 65 = o_iadd 66 := rfl
theorem c_M_twice_66 : cT 234 66 = o_il 67 2 := rfl
theorem c_M_twice_67 : cT 234 67 = o_ias 68 := rfl
theorem c_M_twice_68 : cT 234 68 = o_al 69 0 := rfl
theorem c_M_twice_69 : cT 234 69 = o_gf 72 10 0 := rfl
theorem c_M_twice_72 : cT 234 72 = o_ci 74 11 := rfl
theorem c_M_twice_74 : cT 234 74 = o_dup2 75 := rfl
theorem c_M_twice_75 : cT 234 75 = o_ial 76 := rfl
theorem c_M_twice_76 : cT 234 76 = o_ci 77 1 := rfl
theorem c_M_twice_77 : cT 234 77 = o_iadd 78 := rfl
theorem c_M_twice_78 : cT 234 78 = o_ias 79 := rfl
theorem c_M_twice_79 : cT 234 79 = o_al 80 0 := rfl
theorem c_M_twice_80 : cT 234 80 = o_gf 83 10 0 := rfl
theorem c_M_twice_83 : cT 234 83 = o_ci 85 11 := rfl
theorem c_M_twice_85 : cT 234 85 = o_ial 86 := rfl
theorem c_M_twice_86 : cT 234 86 = o_iret .int := rfl
theorem c_M_spread_0 : cT 236 0 = o_ci 1 0 := rfl
theorem c_M_spread_1 : cT 236 1 = o_is 2 1 := rfl
theorem c_M_spread_2 : cT 236 2 = o_ci 3 0 := rfl
theorem c_M_spread_3 : cT 236 3 = o_is 4 2 := rfl
theorem c_M_spread_4 : cT 236 4 = o_il 5 2 := rfl
theorem c_M_spread_5 : cT 236 5 = o_al 6 0 := rfl
theorem c_M_spread_6 : cT 236 6 = o_gf 9 10 0 := rfl
theorem c_M_spread_9 : cT 236 9 = o_ci 11 11 := rfl
theorem c_M_spread_11 : cT 236 11 = o_ial 12 := rfl
theorem c_M_spread_12 : cT 236 12 = o_icge 15 58 := rfl
theorem c_M_spread_15 : cT 236 15 = o_il 16 1 := rfl
theorem c_M_spread_16 : cT 236 16 = o_al 17 0 := rfl
theorem c_M_spread_17 : cT 236 17 = o_gf 20 10 0 := rfl
theorem c_M_spread_20 : cT 236 20 = o_ci 23 850 := rfl
theorem c_M_spread_23 : cT 236 23 = o_ci 24 2 := rfl
theorem c_M_spread_24 : cT 236 24 = o_il 25 2 := rfl
theorem c_M_spread_25 : cT 236 25 = o_imul 26 := rfl
theorem c_M_spread_26 : cT 236 26 = o_iadd 27 := rfl
theorem c_M_spread_27 : cT 236 27 = o_ial 28 := rfl
theorem c_M_spread_28 : cT 236 28 = o_al 29 0 := rfl
theorem c_M_spread_29 : cT 236 29 = o_gf 32 10 0 := rfl
theorem c_M_spread_32 : cT 236 32 = o_ci 35 850 := rfl
theorem c_M_spread_35 : cT 236 35 = o_ci 36 2 := rfl
theorem c_M_spread_36 : cT 236 36 = o_il 37 2 := rfl
theorem c_M_spread_37 : cT 236 37 = o_imul 38 := rfl
theorem c_M_spread_38 : cT 236 38 = o_iadd 39 := rfl
theorem c_M_spread_39 : cT 236 39 = o_ci 40 1 := rfl
theorem c_M_spread_40 : cT 236 40 = o_iadd 41 := rfl
theorem c_M_spread_41 : cT 236 41 = o_ial 42 := rfl
theorem c_M_spread_42 : cT 236 42 = o_iceq 45 49 := rfl
theorem c_M_spread_45 : cT 236 45 = o_ci 46 1 := rfl
theorem c_M_spread_46 : cT 236 46 = o_goto 50 := rfl
theorem c_M_spread_49 : cT 236 49 = o_ci 50 0 := rfl
theorem c_M_spread_50 : cT 236 50 = o_iadd 51 := rfl
theorem c_M_spread_51 : cT 236 51 = o_is 52 1 := rfl
theorem c_M_spread_52 : cT 236 52 = o_inc 55 2 1 := rfl
theorem c_M_spread_55 : cT 236 55 = o_goto 4 := rfl
theorem c_M_spread_58 : cT 236 58 = o_al 59 0 := rfl
theorem c_M_spread_59 : cT 236 59 = o_gf 62 10 0 := rfl
theorem c_M_spread_62 : cT 236 62 = o_ci 64 11 := rfl
theorem c_M_spread_64 : cT 236 64 = o_ial 65 := rfl
theorem c_M_spread_65 : cT 236 65 = o_ifne 68 73 := rfl
theorem c_M_spread_68 : cT 236 68 = o_ci 70 (-1000000005) := rfl
theorem c_M_spread_70 : cT 236 70 = o_goto 85 := rfl
theorem c_M_spread_73 : cT 236 73 = o_ci 75 100 := rfl
theorem c_M_spread_75 : cT 236 75 = o_il 76 1 := rfl
theorem c_M_spread_76 : cT 236 76 = o_imul 77 := rfl
theorem c_M_spread_77 : cT 236 77 = o_al 78 0 := rfl
theorem c_M_spread_78 : cT 236 78 = o_gf 81 10 0 := rfl
theorem c_M_spread_81 : cT 236 81 = o_ci 83 11 := rfl
theorem c_M_spread_83 : cT 236 83 = o_ial 84 := rfl
theorem c_M_spread_84 : cT 236 84 = o_idiv 85 := rfl
theorem c_M_spread_85 : cT 236 85 = o_iret .int := rfl
theorem c_M_seed_0 : cT 238 0 = o_il 1 1 := rfl
theorem c_M_seed_1 : cT 238 1 = o_i2l 2 := rfl
theorem c_M_seed_2 : cT 238 2 = o_cl 3 0 := rfl
theorem c_M_seed_3 : cT 238 3 = o_cl 6 65535 := rfl
theorem c_M_seed_6 : cT 238 6 = o_ca 9 17 3 6 false none := rfl
theorem c_M_seed_9 : cT 238 9 = o_ifne 12 15 := rfl
theorem c_M_seed_12 : cT 238 12 = o_ci 14 (-1000000001) := rfl
theorem c_M_seed_14 : cT 238 14 = o_iret .int := rfl
theorem c_M_seed_15 : cT 238 15 = o_al 16 0 := rfl
theorem c_M_seed_16 : cT 238 16 = o_gf 19 10 0 := rfl
theorem c_M_seed_19 : cT 238 19 = o_ci 20 1 := rfl
theorem c_M_seed_20 : cT 238 20 = o_ial 21 := rfl
theorem c_M_seed_21 : cT 238 21 = o_is 22 2 := rfl
theorem c_M_seed_22 : cT 238 22 = o_al 23 0 := rfl
theorem c_M_seed_23 : cT 238 23 = o_gf 26 10 0 := rfl
theorem c_M_seed_26 : cT 238 26 = o_ci 27 1 := rfl
theorem c_M_seed_27 : cT 238 27 = o_il 28 1 := rfl
theorem c_M_seed_28 : cT 238 28 = o_ias 29 := rfl
theorem c_M_seed_29 : cT 238 29 = o_il 30 2 := rfl
theorem c_M_seed_30 : cT 238 30 = o_iret .int := rfl
theorem c_M_leftAt_0 : cT 242 0 = o_il 1 2 := rfl
theorem c_M_leftAt_1 : cT 242 1 = o_is 2 3 := rfl
theorem c_M_leftAt_2 : cT 242 2 = o_ci 3 0 := rfl
theorem c_M_leftAt_3 : cT 242 3 = o_is 5 4 := rfl
theorem c_M_leftAt_5 : cT 242 5 = o_il 6 1 := rfl
theorem c_M_leftAt_6 : cT 242 6 = o_il 8 4 := rfl
theorem c_M_leftAt_8 : cT 242 8 = o_ca 11 181 2 2 false none := rfl
theorem c_M_leftAt_11 : cT 242 11 = o_ifne 14 18 := rfl
theorem c_M_leftAt_14 : cT 242 14 = o_il 15 3 := rfl
theorem c_M_leftAt_15 : cT 242 15 = o_ifle 18 41 := rfl
theorem c_M_leftAt_18 : cT 242 18 = o_il 19 3 := rfl
theorem c_M_leftAt_19 : cT 242 19 = o_il 20 1 := rfl
theorem c_M_leftAt_20 : cT 242 20 = o_il 22 4 := rfl
theorem c_M_leftAt_22 : cT 242 22 = o_ca 25 181 2 2 false none := rfl
theorem c_M_leftAt_25 : cT 242 25 = o_ifeq 28 32 := rfl
theorem c_M_leftAt_28 : cT 242 28 = o_ci 29 0 := rfl
theorem c_M_leftAt_29 : cT 242 29 = o_goto 33 := rfl
theorem c_M_leftAt_32 : cT 242 32 = o_ci 33 1 := rfl
theorem c_M_leftAt_33 : cT 242 33 = o_isub 34 := rfl
theorem c_M_leftAt_34 : cT 242 34 = o_is 35 3 := rfl
theorem c_M_leftAt_35 : cT 242 35 = o_inc 38 4 1 := rfl
theorem c_M_leftAt_38 : cT 242 38 = o_goto 5 := rfl
theorem c_M_leftAt_41 : cT 242 41 = o_il 43 4 := rfl
theorem c_M_leftAt_43 : cT 242 43 = o_iret .int := rfl
theorem c_M_draw_0 : cT 243 0 = o_al 1 0 := rfl
theorem c_M_draw_1 : cT 243 1 = o_gf 4 10 0 := rfl
theorem c_M_draw_4 : cT 243 4 = o_ci 6 9 := rfl
theorem c_M_draw_6 : cT 243 6 = o_ial 7 := rfl
theorem c_M_draw_7 : cT 243 7 = o_ci 9 6 := rfl
theorem c_M_draw_9 : cT 243 9 = o_icge 12 15 := rfl
theorem c_M_draw_12 : cT 243 12 = o_ci 14 (-1000000002) := rfl
theorem c_M_draw_14 : cT 243 14 = o_iret .int := rfl
theorem c_M_draw_15 : cT 243 15 = o_ci 16 0 := rfl
theorem c_M_draw_16 : cT 243 16 = o_is 17 1 := rfl
theorem c_M_draw_17 : cT 243 17 = o_ci 18 0 := rfl
theorem c_M_draw_18 : cT 243 18 = o_is 19 2 := rfl
theorem c_M_draw_19 : cT 243 19 = o_ci 20 0 := rfl
theorem c_M_draw_20 : cT 243 20 = o_is 21 3 := rfl
theorem c_M_draw_21 : cT 243 21 = o_il 22 3 := rfl
theorem c_M_draw_22 : cT 243 22 = o_ci 24 6 := rfl
theorem c_M_draw_24 : cT 243 24 = o_icge 27 116 := rfl
theorem c_M_draw_27 : cT 243 27 = o_al 28 0 := rfl
theorem c_M_draw_28 : cT 243 28 = o_gf 31 10 0 := rfl
theorem c_M_draw_31 : cT 243 31 = o_ci 32 1 := rfl
theorem c_M_draw_32 : cT 243 32 = o_cl 35 25173 := rfl
theorem c_M_draw_35 : cT 243 35 = o_al 36 0 := rfl
theorem c_M_draw_36 : cT 243 36 = o_gf 39 10 0 := rfl
theorem c_M_draw_39 : cT 243 39 = o_ci 40 1 := rfl
theorem c_M_draw_40 : cT 243 40 = o_ial 41 := rfl
theorem c_M_draw_41 : cT 243 41 = o_i2l 42 := rfl
theorem c_M_draw_42 : cT 243 42 = o_lmul 43 := rfl
theorem c_M_draw_43 : cT 243 43 = o_cl 46 13849 := rfl
theorem c_M_draw_46 : cT 243 46 = o_ladd 47 := rfl
theorem c_M_draw_47 : cT 243 47 = o_cl 50 65536 := rfl
theorem c_M_draw_50 : cT 243 50 = o_lrem 51 := rfl
theorem c_M_draw_51 : cT 243 51 = o_l2i 52 := rfl
theorem c_M_draw_52 : cT 243 52 = o_ias 53 := rfl
theorem c_M_draw_53 : cT 243 53 = o_al 54 0 := rfl
theorem c_M_draw_54 : cT 243 54 = o_il 55 1 := rfl
theorem c_M_draw_55 : cT 243 55 = o_il 56 2 := rfl
theorem c_M_draw_56 : cT 243 56 = o_ior 57 := rfl
theorem c_M_draw_57 : cT 243 57 = o_al 58 0 := rfl
theorem c_M_draw_58 : cT 243 58 = o_gf 61 10 0 := rfl
theorem c_M_draw_61 : cT 243 61 = o_ci 62 1 := rfl
theorem c_M_draw_62 : cT 243 62 = o_ial 63 := rfl
theorem c_M_draw_63 : cT 243 63 = o_al 64 0 := rfl
theorem c_M_draw_64 : cT 243 64 = o_gf 67 10 0 := rfl
theorem c_M_draw_67 : cT 243 67 = o_ci 69 9 := rfl
theorem c_M_draw_69 : cT 243 69 = o_ial 70 := rfl
theorem c_M_draw_70 : cT 243 70 = o_il 71 3 := rfl
theorem c_M_draw_71 : cT 243 71 = o_isub 72 := rfl
theorem c_M_draw_72 : cT 243 72 = o_irem 73 := rfl
theorem c_M_draw_73 : cT 243 73 = o_ca 76 242 3 5 false (some 10) := rfl
theorem c_M_draw_76 : cT 243 76 = o_is 78 4 := rfl
theorem c_M_draw_78 : cT 243 78 = o_il 79 1 := rfl
theorem c_M_draw_79 : cT 243 79 = o_il 80 3 := rfl
theorem c_M_draw_80 : cT 243 80 = o_ci 81 3 := rfl
theorem c_M_draw_81 : cT 243 81 = o_icge 84 91 := rfl
theorem c_M_draw_84 : cT 243 84 = o_ci 85 1 := rfl
theorem c_M_draw_85 : cT 243 85 = o_il 87 4 := rfl
theorem c_M_draw_87 : cT 243 87 = o_ishl 88 := rfl
theorem c_M_draw_88 : cT 243 88 = o_goto 92 := rfl
theorem c_M_draw_91 : cT 243 91 = o_ci 92 0 := rfl
theorem c_M_draw_92 : cT 243 92 = o_ior 93 := rfl
theorem c_M_draw_93 : cT 243 93 = o_is 94 1 := rfl
theorem c_M_draw_94 : cT 243 94 = o_il 95 2 := rfl
theorem c_M_draw_95 : cT 243 95 = o_il 96 3 := rfl
theorem c_M_draw_96 : cT 243 96 = o_ci 97 3 := rfl
theorem c_M_draw_97 : cT 243 97 = o_icge 100 104 := rfl
theorem c_M_draw_100 : cT 243 100 = o_ci 101 0 := rfl
theorem c_M_draw_101 : cT 243 101 = o_goto 108 := rfl
theorem c_M_draw_104 : cT 243 104 = o_ci 105 1 := rfl
theorem c_M_draw_105 : cT 243 105 = o_il 107 4 := rfl
theorem c_M_draw_107 : cT 243 107 = o_ishl 108 := rfl
theorem c_M_draw_108 : cT 243 108 = o_ior 109 := rfl
theorem c_M_draw_109 : cT 243 109 = o_is 110 2 := rfl
theorem c_M_draw_110 : cT 243 110 = o_inc 113 3 1 := rfl
theorem c_M_draw_113 : cT 243 113 = o_goto 21 := rfl
theorem c_M_draw_116 : cT 243 116 = o_il 117 1 := rfl
theorem c_M_draw_117 : cT 243 117 = o_ci 120 512 := rfl
theorem c_M_draw_120 : cT 243 120 = o_il 121 2 := rfl
theorem c_M_draw_121 : cT 243 121 = o_imul 122 := rfl
theorem c_M_draw_122 : cT 243 122 = o_iadd 123 := rfl
theorem c_M_draw_123 : cT 243 123 = o_iret .int := rfl
theorem c_M_isSheet_0 : cT 248 0 = o_il 1 0 := rfl
theorem c_M_isSheet_1 : cT 248 1 = o_i2l 2 := rfl
theorem c_M_isSheet_2 : cT 248 2 = o_cl 3 0 := rfl
theorem c_M_isSheet_3 : cT 248 3 = o_cl 6 3 := rfl
theorem c_M_isSheet_6 : cT 248 6 = o_ca 9 17 3 6 false none := rfl
theorem c_M_isSheet_9 : cT 248 9 = o_iret .boolean := rfl
theorem c_M_sheet_0 : cT 249 0 = o_il 1 1 := rfl
theorem c_M_sheet_1 : cT 249 1 = o_ca 4 248 1 1 false none := rfl
theorem c_M_sheet_4 : cT 249 4 = o_ifeq 7 31 := rfl
theorem c_M_sheet_7 : cT 249 7 = o_il 8 2 := rfl
theorem c_M_sheet_8 : cT 249 8 = o_i2l 9 := rfl
theorem c_M_sheet_9 : cT 249 9 = o_cl 12 (-1) := rfl
theorem c_M_sheet_12 : cT 249 12 = o_cl 15 2 := rfl
theorem c_M_sheet_15 : cT 249 15 = o_ca 18 17 3 6 false none := rfl
theorem c_M_sheet_18 : cT 249 18 = o_ifeq 21 31 := rfl
theorem c_M_sheet_21 : cT 249 21 = o_il 22 2 := rfl
theorem c_M_sheet_22 : cT 249 22 = o_iflt 25 34 := rfl
theorem c_M_sheet_25 : cT 249 25 = o_il 26 3 := rfl
theorem c_M_sheet_26 : cT 249 26 = o_ci 28 24 := rfl
theorem c_M_sheet_28 : cT 249 28 = o_icle 31 34 := rfl
theorem c_M_sheet_31 : cT 249 31 = o_ci 33 (-1000000001) := rfl
theorem c_M_sheet_33 : cT 249 33 = o_iret .int := rfl
theorem c_M_sheet_34 : cT 249 34 = o_il 35 2 := rfl
theorem c_M_sheet_35 : cT 249 35 = o_iflt 38 46 := rfl
theorem c_M_sheet_38 : cT 249 38 = o_il 39 3 := rfl
theorem c_M_sheet_39 : cT 249 39 = o_ifge 42 46 := rfl
theorem c_M_sheet_42 : cT 249 42 = o_ci 45 (-1000000014) := rfl
theorem c_M_sheet_45 : cT 249 45 = o_iret .int := rfl
theorem c_M_sheet_46 : cT 249 46 = o_al 47 0 := rfl
theorem c_M_sheet_47 : cT 249 47 = o_gf 50 10 8 := rfl
theorem c_M_sheet_50 : cT 249 50 = o_il 51 1 := rfl
theorem c_M_sheet_51 : cT 249 51 = o_il 52 2 := rfl
theorem c_M_sheet_52 : cT 249 52 = o_ias 53 := rfl
theorem c_M_sheet_53 : cT 249 53 = o_al 54 0 := rfl
theorem c_M_sheet_54 : cT 249 54 = o_gf 57 10 9 := rfl
theorem c_M_sheet_57 : cT 249 57 = o_il 58 1 := rfl
theorem c_M_sheet_58 : cT 249 58 = o_il 59 2 := rfl
theorem c_M_sheet_59 : cT 249 59 = o_ifge 62 66 := rfl
theorem c_M_sheet_62 : cT 249 62 = o_ci 63 0 := rfl
theorem c_M_sheet_63 : cT 249 63 = o_goto 67 := rfl
theorem c_M_sheet_66 : cT 249 66 = o_il 67 3 := rfl
theorem c_M_sheet_67 : cT 249 67 = o_ias 68 := rfl
theorem c_M_sheet_68 : cT 249 68 = o_ci 69 0 := rfl
theorem c_M_sheet_69 : cT 249 69 = o_is 71 4 := rfl
theorem c_M_sheet_71 : cT 249 71 = o_il 73 4 := rfl
theorem c_M_sheet_73 : cT 249 73 = o_ci 75 24 := rfl
theorem c_M_sheet_75 : cT 249 75 = o_icge 78 97 := rfl
theorem c_M_sheet_78 : cT 249 78 = o_al 79 0 := rfl
theorem c_M_sheet_79 : cT 249 79 = o_gf 82 10 10 := rfl
theorem c_M_sheet_82 : cT 249 82 = o_ci 84 24 := rfl
theorem c_M_sheet_84 : cT 249 84 = o_il 85 1 := rfl
theorem c_M_sheet_85 : cT 249 85 = o_imul 86 := rfl
theorem c_M_sheet_86 : cT 249 86 = o_il 88 4 := rfl
theorem c_M_sheet_88 : cT 249 88 = o_iadd 89 := rfl
theorem c_M_sheet_89 : cT 249 89 = o_cl 90 0 := rfl
theorem c_M_sheet_90 : cT 249 90 = o_las 91 := rfl
theorem c_M_sheet_91 : cT 249 91 = o_inc 94 4 1 := rfl
theorem c_M_sheet_94 : cT 249 94 = o_goto 71 := rfl
theorem c_M_sheet_97 : cT 249 97 = o_al 98 0 := rfl
theorem c_M_sheet_98 : cT 249 98 = o_gf 101 10 9 := rfl
theorem c_M_sheet_101 : cT 249 101 = o_il 102 1 := rfl
theorem c_M_sheet_102 : cT 249 102 = o_ial 103 := rfl
theorem c_M_sheet_103 : cT 249 103 = o_iret .int := rfl
theorem c_M_add_0 : cT 254 0 = o_il 1 1 := rfl
theorem c_M_add_1 : cT 254 1 = o_ca 4 248 1 1 false none := rfl
theorem c_M_add_4 : cT 254 4 = o_ifne 7 10 := rfl
theorem c_M_add_7 : cT 254 7 = o_ci 9 (-1000000001) := rfl
theorem c_M_add_9 : cT 254 9 = o_iret .int := rfl
theorem c_M_add_10 : cT 254 10 = o_al 11 0 := rfl
theorem c_M_add_11 : cT 254 11 = o_gf 14 10 8 := rfl
theorem c_M_add_14 : cT 254 14 = o_il 15 1 := rfl
theorem c_M_add_15 : cT 254 15 = o_ial 16 := rfl
theorem c_M_add_16 : cT 254 16 = o_ifge 19 23 := rfl
theorem c_M_add_19 : cT 254 19 = o_ci 22 (-1000000011) := rfl
theorem c_M_add_22 : cT 254 22 = o_iret .int := rfl
theorem c_M_add_23 : cT 254 23 = o_il 24 2 := rfl
theorem c_M_add_24 : cT 254 24 = o_i2l 25 := rfl
theorem c_M_add_25 : cT 254 25 = o_cl 26 0 := rfl
theorem c_M_add_26 : cT 254 26 = o_al 27 0 := rfl
theorem c_M_add_27 : cT 254 27 = o_gf 30 10 9 := rfl
theorem c_M_add_30 : cT 254 30 = o_il 31 1 := rfl
theorem c_M_add_31 : cT 254 31 = o_ial 32 := rfl
theorem c_M_add_32 : cT 254 32 = o_ci 33 1 := rfl
theorem c_M_add_33 : cT 254 33 = o_isub 34 := rfl
theorem c_M_add_34 : cT 254 34 = o_i2l 35 := rfl
theorem c_M_add_35 : cT 254 35 = o_ca 38 17 3 6 false none := rfl
theorem c_M_add_38 : cT 254 38 = o_ifne 41 45 := rfl
theorem c_M_add_41 : cT 254 41 = o_ci 44 (-1000000013) := rfl
theorem c_M_add_44 : cT 254 44 = o_iret .int := rfl
theorem c_M_add_45 : cT 254 45 = o_ci 47 24 := rfl
theorem c_M_add_47 : cT 254 47 = o_il 48 1 := rfl
theorem c_M_add_48 : cT 254 48 = o_imul 49 := rfl
theorem c_M_add_49 : cT 254 49 = o_il 50 2 := rfl
theorem c_M_add_50 : cT 254 50 = o_iadd 51 := rfl
theorem c_M_add_51 : cT 254 51 = o_is 53 4 := rfl
theorem c_M_add_53 : cT 254 53 = o_al 54 0 := rfl
theorem c_M_add_54 : cT 254 54 = o_gf 57 10 10 := rfl
theorem c_M_add_57 : cT 254 57 = o_il 59 4 := rfl
theorem c_M_add_59 : cT 254 59 = o_lal 60 := rfl
theorem c_M_add_60 : cT 254 60 = o_il 61 3 := rfl
theorem c_M_add_61 : cT 254 61 = o_i2l 62 := rfl
theorem c_M_add_62 : cT 254 62 = o_ladd 63 := rfl
theorem c_M_add_63 : cT 254 63 = o_ls 65 5 := rfl
theorem c_M_add_65 : cT 254 65 = o_al 66 0 := rfl
theorem c_M_add_66 : cT 254 66 = o_gf 69 10 10 := rfl
theorem c_M_add_69 : cT 254 69 = o_il 71 4 := rfl
theorem c_M_add_71 : cT 254 71 = o_al 72 0 := rfl
theorem c_M_add_72 : cT 254 72 = o_gf 75 10 8 := rfl
theorem c_M_add_75 : cT 254 75 = o_il 76 1 := rfl
theorem c_M_add_76 : cT 254 76 = o_ial 77 := rfl
theorem c_M_add_77 : cT 254 77 = o_ifne 80 88 := rfl
theorem c_M_add_80 : cT 254 80 = o_ll 82 5 := rfl
theorem c_M_add_82 : cT 254 82 = o_l2i 83 := rfl
theorem c_M_add_83 : cT 254 83 = o_i2b 84 := rfl
theorem c_M_add_84 : cT 254 84 = o_i2l 85 := rfl
theorem c_M_add_85 : cT 254 85 = o_goto 108 := rfl
theorem c_M_add_88 : cT 254 88 = o_al 89 0 := rfl
theorem c_M_add_89 : cT 254 89 = o_gf 92 10 8 := rfl
theorem c_M_add_92 : cT 254 92 = o_il 93 1 := rfl
theorem c_M_add_93 : cT 254 93 = o_ial 94 := rfl
theorem c_M_add_94 : cT 254 94 = o_ci 95 1 := rfl
theorem c_M_add_95 : cT 254 95 = o_icne 98 106 := rfl
theorem c_M_add_98 : cT 254 98 = o_ll 100 5 := rfl
theorem c_M_add_100 : cT 254 100 = o_l2i 101 := rfl
theorem c_M_add_101 : cT 254 101 = o_i2s 102 := rfl
theorem c_M_add_102 : cT 254 102 = o_i2l 103 := rfl
theorem c_M_add_103 : cT 254 103 = o_goto 108 := rfl
theorem c_M_add_106 : cT 254 106 = o_ll 108 5 := rfl
theorem c_M_add_108 : cT 254 108 = o_las 109 := rfl
theorem c_M_add_109 : cT 254 109 = o_al 110 0 := rfl
theorem c_M_add_110 : cT 254 110 = o_gf 113 10 10 := rfl
theorem c_M_add_113 : cT 254 113 = o_il 115 4 := rfl
theorem c_M_add_115 : cT 254 115 = o_lal 116 := rfl
theorem c_M_add_116 : cT 254 116 = o_l2i 117 := rfl
theorem c_M_add_117 : cT 254 117 = o_iret .int := rfl
theorem c_M_copy_0 : cT 257 0 = o_il 1 1 := rfl
theorem c_M_copy_1 : cT 257 1 = o_ca 4 248 1 1 false none := rfl
theorem c_M_copy_4 : cT 257 4 = o_ifeq 7 14 := rfl
theorem c_M_copy_7 : cT 257 7 = o_il 8 3 := rfl
theorem c_M_copy_8 : cT 257 8 = o_ca 11 248 1 1 false none := rfl
theorem c_M_copy_11 : cT 257 11 = o_ifne 14 17 := rfl
theorem c_M_copy_14 : cT 257 14 = o_ci 16 (-1000000001) := rfl
theorem c_M_copy_16 : cT 257 16 = o_iret .int := rfl
theorem c_M_copy_17 : cT 257 17 = o_al 18 0 := rfl
theorem c_M_copy_18 : cT 257 18 = o_gf 21 10 8 := rfl
theorem c_M_copy_21 : cT 257 21 = o_il 22 1 := rfl
theorem c_M_copy_22 : cT 257 22 = o_ial 23 := rfl
theorem c_M_copy_23 : cT 257 23 = o_iflt 26 35 := rfl
theorem c_M_copy_26 : cT 257 26 = o_al 27 0 := rfl
theorem c_M_copy_27 : cT 257 27 = o_gf 30 10 8 := rfl
theorem c_M_copy_30 : cT 257 30 = o_il 31 3 := rfl
theorem c_M_copy_31 : cT 257 31 = o_ial 32 := rfl
theorem c_M_copy_32 : cT 257 32 = o_ifge 35 39 := rfl
theorem c_M_copy_35 : cT 257 35 = o_ci 38 (-1000000011) := rfl
theorem c_M_copy_38 : cT 257 38 = o_iret .int := rfl
theorem c_M_copy_39 : cT 257 39 = o_al 40 0 := rfl
theorem c_M_copy_40 : cT 257 40 = o_gf 43 10 8 := rfl
theorem c_M_copy_43 : cT 257 43 = o_il 44 1 := rfl
theorem c_M_copy_44 : cT 257 44 = o_ial 45 := rfl
theorem c_M_copy_45 : cT 257 45 = o_al 46 0 := rfl
theorem c_M_copy_46 : cT 257 46 = o_gf 49 10 8 := rfl
theorem c_M_copy_49 : cT 257 49 = o_il 50 3 := rfl
theorem c_M_copy_50 : cT 257 50 = o_ial 51 := rfl
theorem c_M_copy_51 : cT 257 51 = o_iceq 54 57 := rfl
theorem c_M_copy_54 : cT 257 54 = o_ci 56 (-1000000012) := rfl
theorem c_M_copy_56 : cT 257 56 = o_iret .int := rfl
theorem c_M_copy_57 : cT 257 57 = o_il 58 2 := rfl
theorem c_M_copy_58 : cT 257 58 = o_iflt 61 106 := rfl
theorem c_M_copy_61 : cT 257 61 = o_il 63 4 := rfl
theorem c_M_copy_63 : cT 257 63 = o_iflt 66 106 := rfl
theorem c_M_copy_66 : cT 257 66 = o_il 68 5 := rfl
theorem c_M_copy_68 : cT 257 68 = o_iflt 71 106 := rfl
theorem c_M_copy_71 : cT 257 71 = o_il 72 2 := rfl
theorem c_M_copy_72 : cT 257 72 = o_i2l 73 := rfl
theorem c_M_copy_73 : cT 257 73 = o_il 75 5 := rfl
theorem c_M_copy_75 : cT 257 75 = o_i2l 76 := rfl
theorem c_M_copy_76 : cT 257 76 = o_ladd 77 := rfl
theorem c_M_copy_77 : cT 257 77 = o_al 78 0 := rfl
theorem c_M_copy_78 : cT 257 78 = o_gf 81 10 9 := rfl
theorem c_M_copy_81 : cT 257 81 = o_il 82 1 := rfl
theorem c_M_copy_82 : cT 257 82 = o_ial 83 := rfl
theorem c_M_copy_83 : cT 257 83 = o_i2l 84 := rfl
theorem c_M_copy_84 : cT 257 84 = o_lcmp 85 := rfl
theorem c_M_copy_85 : cT 257 85 = o_ifgt 88 106 := rfl
theorem c_M_copy_88 : cT 257 88 = o_il 90 4 := rfl
theorem c_M_copy_90 : cT 257 90 = o_i2l 91 := rfl
theorem c_M_copy_91 : cT 257 91 = o_il 93 5 := rfl
theorem c_M_copy_93 : cT 257 93 = o_i2l 94 := rfl
theorem c_M_copy_94 : cT 257 94 = o_ladd 95 := rfl
theorem c_M_copy_95 : cT 257 95 = o_al 96 0 := rfl
theorem c_M_copy_96 : cT 257 96 = o_gf 99 10 9 := rfl
theorem c_M_copy_99 : cT 257 99 = o_il 100 3 := rfl
theorem c_M_copy_100 : cT 257 100 = o_ial 101 := rfl
theorem c_M_copy_101 : cT 257 101 = o_i2l 102 := rfl
theorem c_M_copy_102 : cT 257 102 = o_lcmp 103 := rfl
theorem c_M_copy_103 : cT 257 103 = o_ifle 106 110 := rfl
theorem c_M_copy_106 : cT 257 106 = o_ci 109 (-1000000013) := rfl
theorem c_M_copy_109 : cT 257 109 = o_iret .int := rfl
theorem c_M_copy_110 : cT 257 110 = o_ci 111 0 := rfl
theorem c_M_copy_111 : cT 257 111 = o_is 113 6 := rfl
theorem c_M_copy_113 : cT 257 113 = o_il 115 6 := rfl
theorem c_M_copy_115 : cT 257 115 = o_il 117 5 := rfl
theorem c_M_copy_117 : cT 257 117 = o_icge 120 147 := rfl
theorem c_M_copy_120 : cT 257 120 = o_al 121 0 := rfl
theorem c_M_copy_121 : cT 257 121 = o_gf 124 10 27 := rfl
theorem c_M_copy_124 : cT 257 124 = o_il 126 6 := rfl
theorem c_M_copy_126 : cT 257 126 = o_al 127 0 := rfl
theorem c_M_copy_127 : cT 257 127 = o_gf 130 10 10 := rfl
theorem c_M_copy_130 : cT 257 130 = o_ci 132 24 := rfl
theorem c_M_copy_132 : cT 257 132 = o_il 133 1 := rfl
theorem c_M_copy_133 : cT 257 133 = o_imul 134 := rfl
theorem c_M_copy_134 : cT 257 134 = o_il 135 2 := rfl
theorem c_M_copy_135 : cT 257 135 = o_iadd 136 := rfl
theorem c_M_copy_136 : cT 257 136 = o_il 138 6 := rfl
theorem c_M_copy_138 : cT 257 138 = o_iadd 139 := rfl
theorem c_M_copy_139 : cT 257 139 = o_lal 140 := rfl
theorem c_M_copy_140 : cT 257 140 = o_las 141 := rfl
theorem c_M_copy_141 : cT 257 141 = o_inc 144 6 1 := rfl
theorem c_M_copy_144 : cT 257 144 = o_goto 113 := rfl
theorem c_M_copy_147 : cT 257 147 = o_ci 148 0 := rfl
theorem c_M_copy_148 : cT 257 148 = o_is 150 6 := rfl
theorem c_M_copy_150 : cT 257 150 = o_il 152 6 := rfl
theorem c_M_copy_152 : cT 257 152 = o_il 154 5 := rfl
theorem c_M_copy_154 : cT 257 154 = o_icge 157 185 := rfl
theorem c_M_copy_157 : cT 257 157 = o_al 158 0 := rfl
theorem c_M_copy_158 : cT 257 158 = o_gf 161 10 10 := rfl
theorem c_M_copy_161 : cT 257 161 = o_ci 163 24 := rfl
theorem c_M_copy_163 : cT 257 163 = o_il 164 3 := rfl
theorem c_M_copy_164 : cT 257 164 = o_imul 165 := rfl
theorem c_M_copy_165 : cT 257 165 = o_il 167 4 := rfl
theorem c_M_copy_167 : cT 257 167 = o_iadd 168 := rfl
theorem c_M_copy_168 : cT 257 168 = o_il 170 6 := rfl
theorem c_M_copy_170 : cT 257 170 = o_iadd 171 := rfl
theorem c_M_copy_171 : cT 257 171 = o_al 172 0 := rfl
theorem c_M_copy_172 : cT 257 172 = o_gf 175 10 27 := rfl
theorem c_M_copy_175 : cT 257 175 = o_il 177 6 := rfl
theorem c_M_copy_177 : cT 257 177 = o_lal 178 := rfl
theorem c_M_copy_178 : cT 257 178 = o_las 179 := rfl
theorem c_M_copy_179 : cT 257 179 = o_inc 182 6 1 := rfl
theorem c_M_copy_182 : cT 257 182 = o_goto 150 := rfl
theorem c_M_copy_185 : cT 257 185 = o_il 187 5 := rfl
theorem c_M_copy_187 : cT 257 187 = o_iret .int := rfl
theorem c_M_same_0 : cT 260 0 = o_il 1 1 := rfl
theorem c_M_same_1 : cT 260 1 = o_ifge 4 7 := rfl
theorem c_M_same_4 : cT 260 4 = o_ci 6 (-1000000001) := rfl
theorem c_M_same_6 : cT 260 6 = o_iret .int := rfl
theorem c_M_same_7 : cT 260 7 = o_ci 8 0 := rfl
theorem c_M_same_8 : cT 260 8 = o_is 9 3 := rfl
theorem c_M_same_9 : cT 260 9 = o_ci 10 0 := rfl
theorem c_M_same_10 : cT 260 10 = o_is 12 4 := rfl
theorem c_M_same_12 : cT 260 12 = o_il 14 4 := rfl
theorem c_M_same_14 : cT 260 14 = o_ci 15 4 := rfl
theorem c_M_same_15 : cT 260 15 = o_icge 18 98 := rfl
theorem c_M_same_18 : cT 260 18 = o_al 19 0 := rfl
theorem c_M_same_19 : cT 260 19 = o_gf 22 10 8 := rfl
theorem c_M_same_22 : cT 260 22 = o_il 24 4 := rfl
theorem c_M_same_24 : cT 260 24 = o_ial 25 := rfl
theorem c_M_same_25 : cT 260 25 = o_ifne 28 34 := rfl
theorem c_M_same_28 : cT 260 28 = o_il 29 2 := rfl
theorem c_M_same_29 : cT 260 29 = o_i2b 30 := rfl
theorem c_M_same_30 : cT 260 30 = o_i2l 31 := rfl
theorem c_M_same_31 : cT 260 31 = o_goto 53 := rfl
theorem c_M_same_34 : cT 260 34 = o_al 35 0 := rfl
theorem c_M_same_35 : cT 260 35 = o_gf 38 10 8 := rfl
theorem c_M_same_38 : cT 260 38 = o_il 40 4 := rfl
theorem c_M_same_40 : cT 260 40 = o_ial 41 := rfl
theorem c_M_same_41 : cT 260 41 = o_ci 42 1 := rfl
theorem c_M_same_42 : cT 260 42 = o_icne 45 51 := rfl
theorem c_M_same_45 : cT 260 45 = o_il 46 2 := rfl
theorem c_M_same_46 : cT 260 46 = o_i2s 47 := rfl
theorem c_M_same_47 : cT 260 47 = o_i2l 48 := rfl
theorem c_M_same_48 : cT 260 48 = o_goto 53 := rfl
theorem c_M_same_51 : cT 260 51 = o_il 52 2 := rfl
theorem c_M_same_52 : cT 260 52 = o_i2l 53 := rfl
theorem c_M_same_53 : cT 260 53 = o_ls 55 5 := rfl
theorem c_M_same_55 : cT 260 55 = o_il 56 3 := rfl
theorem c_M_same_56 : cT 260 56 = o_il 57 1 := rfl
theorem c_M_same_57 : cT 260 57 = o_al 58 0 := rfl
theorem c_M_same_58 : cT 260 58 = o_gf 61 10 9 := rfl
theorem c_M_same_61 : cT 260 61 = o_il 63 4 := rfl
theorem c_M_same_63 : cT 260 63 = o_ial 64 := rfl
theorem c_M_same_64 : cT 260 64 = o_icge 67 89 := rfl
theorem c_M_same_67 : cT 260 67 = o_al 68 0 := rfl
theorem c_M_same_68 : cT 260 68 = o_gf 71 10 10 := rfl
theorem c_M_same_71 : cT 260 71 = o_ci 73 24 := rfl
theorem c_M_same_73 : cT 260 73 = o_il 75 4 := rfl
theorem c_M_same_75 : cT 260 75 = o_imul 76 := rfl
theorem c_M_same_76 : cT 260 76 = o_il 77 1 := rfl
theorem c_M_same_77 : cT 260 77 = o_iadd 78 := rfl
theorem c_M_same_78 : cT 260 78 = o_lal 79 := rfl
theorem c_M_same_79 : cT 260 79 = o_ll 81 5 := rfl
theorem c_M_same_81 : cT 260 81 = o_lcmp 82 := rfl
theorem c_M_same_82 : cT 260 82 = o_ifne 85 89 := rfl
theorem c_M_same_85 : cT 260 85 = o_ci 86 1 := rfl
theorem c_M_same_86 : cT 260 86 = o_goto 90 := rfl
theorem c_M_same_89 : cT 260 89 = o_ci 90 0 := rfl
theorem c_M_same_90 : cT 260 90 = o_iadd 91 := rfl
theorem c_M_same_91 : cT 260 91 = o_is 92 3 := rfl
theorem c_M_same_92 : cT 260 92 = o_inc 95 4 1 := rfl
theorem c_M_same_95 : cT 260 95 = o_goto 12 := rfl
theorem c_M_same_98 : cT 260 98 = o_il 99 3 := rfl
theorem c_M_same_99 : cT 260 99 = o_iret .int := rfl
theorem c_M_tell_0 : cT 262 0 = o_al 1 0 := rfl
theorem c_M_tell_1 : cT 262 1 = o_gf 4 10 7 := rfl
theorem c_M_tell_4 : cT 262 4 = o_ci 6 60 := rfl
theorem c_M_tell_6 : cT 262 6 = o_icne 9 12 := rfl
theorem c_M_tell_9 : cT 262 9 = o_ci 11 (-1000000003) := rfl
theorem c_M_tell_11 : cT 262 11 = o_iret .int := rfl
theorem c_M_tell_12 : cT 262 12 = o_al 13 0 := rfl
theorem c_M_tell_13 : cT 262 13 = o_gf 16 10 6 := rfl
theorem c_M_tell_16 : cT 262 16 = o_al 17 0 := rfl
theorem c_M_tell_17 : cT 262 17 = o_gf 20 10 7 := rfl
theorem c_M_tell_20 : cT 262 20 = o_il 21 1 := rfl
theorem c_M_tell_21 : cT 262 21 = o_ias 22 := rfl
theorem c_M_tell_22 : cT 262 22 = o_al 23 0 := rfl
theorem c_M_tell_23 : cT 262 23 = o_dup 24 := rfl
theorem c_M_tell_24 : cT 262 24 = o_gf 27 10 7 := rfl
theorem c_M_tell_27 : cT 262 27 = o_ci 28 1 := rfl
theorem c_M_tell_28 : cT 262 28 = o_iadd 29 := rfl
theorem c_M_tell_29 : cT 262 29 = o_pf 32 10 7 0 := rfl
theorem c_M_tell_32 : cT 262 32 = o_al 33 0 := rfl
theorem c_M_tell_33 : cT 262 33 = o_gf 36 10 7 := rfl
theorem c_M_tell_36 : cT 262 36 = o_iret .int := rfl
theorem c_M_servedAll_0 : cT 271 0 = o_ci 1 0 := rfl
theorem c_M_servedAll_1 : cT 271 1 = o_is 2 1 := rfl
theorem c_M_servedAll_2 : cT 271 2 = o_ci 3 0 := rfl
theorem c_M_servedAll_3 : cT 271 3 = o_is 4 2 := rfl
theorem c_M_servedAll_4 : cT 271 4 = o_il 5 2 := rfl
theorem c_M_servedAll_5 : cT 271 5 = o_al 6 0 := rfl
theorem c_M_servedAll_6 : cT 271 6 = o_gf 9 10 0 := rfl
theorem c_M_servedAll_9 : cT 271 9 = o_ci 10 2 := rfl
theorem c_M_servedAll_10 : cT 271 10 = o_ial 11 := rfl
theorem c_M_servedAll_11 : cT 271 11 = o_icge 14 34 := rfl
theorem c_M_servedAll_14 : cT 271 14 = o_il 15 1 := rfl
theorem c_M_servedAll_15 : cT 271 15 = o_al 16 0 := rfl
theorem c_M_servedAll_16 : cT 271 16 = o_il 17 2 := rfl
theorem c_M_servedAll_17 : cT 271 17 = o_al 18 0 := rfl
theorem c_M_servedAll_18 : cT 271 18 = o_gf 21 10 0 := rfl
theorem c_M_servedAll_21 : cT 271 21 = o_ci 22 0 := rfl
theorem c_M_servedAll_22 : cT 271 22 = o_ial 23 := rfl
theorem c_M_servedAll_23 : cT 271 23 = o_ca 26 64 3 5 false (some 10) := rfl
theorem c_M_servedAll_26 : cT 271 26 = o_iadd 27 := rfl
theorem c_M_servedAll_27 : cT 271 27 = o_is 28 1 := rfl
theorem c_M_servedAll_28 : cT 271 28 = o_inc 31 2 1 := rfl
theorem c_M_servedAll_31 : cT 271 31 = o_goto 4 := rfl
theorem c_M_servedAll_34 : cT 271 34 = o_il 35 1 := rfl
theorem c_M_servedAll_35 : cT 271 35 = o_iret .int := rfl
theorem c_M_casesIn_0 : cT 272 0 = o_ci 1 0 := rfl
theorem c_M_casesIn_1 : cT 272 1 = o_is 2 2 := rfl
theorem c_M_casesIn_2 : cT 272 2 = o_ci 3 0 := rfl
theorem c_M_casesIn_3 : cT 272 3 = o_is 4 3 := rfl
theorem c_M_casesIn_4 : cT 272 4 = o_il 5 3 := rfl
theorem c_M_casesIn_5 : cT 272 5 = o_al 6 0 := rfl
theorem c_M_casesIn_6 : cT 272 6 = o_gf 9 10 0 := rfl
theorem c_M_casesIn_9 : cT 272 9 = o_ci 10 2 := rfl
theorem c_M_casesIn_10 : cT 272 10 = o_ial 11 := rfl
theorem c_M_casesIn_11 : cT 272 11 = o_icge 14 38 := rfl
theorem c_M_casesIn_14 : cT 272 14 = o_il 15 2 := rfl
theorem c_M_casesIn_15 : cT 272 15 = o_al 16 0 := rfl
theorem c_M_casesIn_16 : cT 272 16 = o_il 17 3 := rfl
theorem c_M_casesIn_17 : cT 272 17 = o_ci 18 3 := rfl
theorem c_M_casesIn_18 : cT 272 18 = o_ca 21 32 3 3 false (some 10) := rfl
theorem c_M_casesIn_21 : cT 272 21 = o_il 22 1 := rfl
theorem c_M_casesIn_22 : cT 272 22 = o_icne 25 29 := rfl
theorem c_M_casesIn_25 : cT 272 25 = o_ci 26 1 := rfl
theorem c_M_casesIn_26 : cT 272 26 = o_goto 30 := rfl
theorem c_M_casesIn_29 : cT 272 29 = o_ci 30 0 := rfl
theorem c_M_casesIn_30 : cT 272 30 = o_iadd 31 := rfl
theorem c_M_casesIn_31 : cT 272 31 = o_is 32 2 := rfl
theorem c_M_casesIn_32 : cT 272 32 = o_inc 35 3 1 := rfl
theorem c_M_casesIn_35 : cT 272 35 = o_goto 4 := rfl
theorem c_M_casesIn_38 : cT 272 38 = o_il 39 2 := rfl
theorem c_M_casesIn_39 : cT 272 39 = o_iret .int := rfl
theorem c_M_check_0 : cT 273 0 = o_al 1 0 := rfl
theorem c_M_check_1 : cT 273 1 = o_gf 4 10 7 := rfl
theorem c_M_check_4 : cT 273 4 = o_is 5 2 := rfl
theorem c_M_check_5 : cT 273 5 = o_al 6 0 := rfl
theorem c_M_check_6 : cT 273 6 = o_ci 7 0 := rfl
theorem c_M_check_7 : cT 273 7 = o_pf 10 10 7 0 := rfl
theorem c_M_check_10 : cT 273 10 = o_il 11 1 := rfl
theorem c_M_check_11 : cT 273 11 = o_i2l 12 := rfl
theorem c_M_check_12 : cT 273 12 = o_cl 13 1 := rfl
theorem c_M_check_13 : cT 273 13 = o_cl 16 30 := rfl
theorem c_M_check_16 : cT 273 16 = o_ca 19 17 3 6 false none := rfl
theorem c_M_check_19 : cT 273 19 = o_ifne 22 25 := rfl
theorem c_M_check_22 : cT 273 22 = o_ci 24 (-1000000001) := rfl
theorem c_M_check_24 : cT 273 24 = o_iret .int := rfl
theorem c_M_check_25 : cT 273 25 = o_al 26 0 := rfl
theorem c_M_check_26 : cT 273 26 = o_gf 29 10 3 := rfl
theorem c_M_check_29 : cT 273 29 = o_ifne 32 35 := rfl
theorem c_M_check_32 : cT 273 32 = o_ci 34 (-1000000002) := rfl
theorem c_M_check_34 : cT 273 34 = o_iret .int := rfl
theorem c_M_check_35 : cT 273 35 = o_ci 36 0 := rfl
theorem c_M_check_36 : cT 273 36 = o_is 37 3 := rfl
theorem c_M_check_37 : cT 273 37 = o_il 38 3 := rfl
theorem c_M_check_38 : cT 273 38 = o_ci 41 2578 := rfl
theorem c_M_check_41 : cT 273 41 = o_icge 44 74 := rfl
theorem c_M_check_44 : cT 273 44 = o_al 45 0 := rfl
theorem c_M_check_45 : cT 273 45 = o_gf 48 10 2 := rfl
theorem c_M_check_48 : cT 273 48 = o_il 49 3 := rfl
theorem c_M_check_49 : cT 273 49 = o_al 50 0 := rfl
theorem c_M_check_50 : cT 273 50 = o_gf 53 10 0 := rfl
theorem c_M_check_53 : cT 273 53 = o_il 54 3 := rfl
theorem c_M_check_54 : cT 273 54 = o_ial 55 := rfl
theorem c_M_check_55 : cT 273 55 = o_ias 56 := rfl
theorem c_M_check_56 : cT 273 56 = o_al 57 0 := rfl
theorem c_M_check_57 : cT 273 57 = o_gf 60 10 0 := rfl
theorem c_M_check_60 : cT 273 60 = o_il 61 3 := rfl
theorem c_M_check_61 : cT 273 61 = o_al 62 0 := rfl
theorem c_M_check_62 : cT 273 62 = o_gf 65 10 1 := rfl
theorem c_M_check_65 : cT 273 65 = o_il 66 3 := rfl
theorem c_M_check_66 : cT 273 66 = o_ial 67 := rfl
theorem c_M_check_67 : cT 273 67 = o_ias 68 := rfl
theorem c_M_check_68 : cT 273 68 = o_inc 71 3 1 := rfl
theorem c_M_check_71 : cT 273 71 = o_goto 37 := rfl
theorem c_M_check_74 : cT 273 74 = o_ci 75 0 := rfl
theorem c_M_check_75 : cT 273 75 = o_is 76 3 := rfl
theorem c_M_check_76 : cT 273 76 = o_ci 77 1 := rfl
theorem c_M_check_77 : cT 273 77 = o_is 79 4 := rfl
theorem c_M_check_79 : cT 273 79 = o_ci 80 0 := rfl
theorem c_M_check_80 : cT 273 80 = o_is 82 5 := rfl
theorem c_M_check_82 : cT 273 82 = o_il 84 5 := rfl
theorem c_M_check_84 : cT 273 84 = o_ci 85 2 := rfl
theorem c_M_check_85 : cT 273 85 = o_il 86 1 := rfl
theorem c_M_check_86 : cT 273 86 = o_imul 87 := rfl
theorem c_M_check_87 : cT 273 87 = o_icge 90 167 := rfl
theorem c_M_check_90 : cT 273 90 = o_il 92 4 := rfl
theorem c_M_check_92 : cT 273 92 = o_ifeq 95 167 := rfl
theorem c_M_check_95 : cT 273 95 = o_il 97 5 := rfl
theorem c_M_check_97 : cT 273 97 = o_ci 98 2 := rfl
theorem c_M_check_98 : cT 273 98 = o_irem 99 := rfl
theorem c_M_check_99 : cT 273 99 = o_ifne 102 106 := rfl
theorem c_M_check_102 : cT 273 102 = o_al 103 0 := rfl
theorem c_M_check_103 : cT 273 103 = o_ca 106 225 1 2 false (some 10) := rfl
theorem c_M_check_106 : cT 273 106 = o_il 108 5 := rfl
theorem c_M_check_108 : cT 273 108 = o_il 109 2 := rfl
theorem c_M_check_109 : cT 273 109 = o_icge 112 145 := rfl
theorem c_M_check_112 : cT 273 112 = o_al 113 0 := rfl
theorem c_M_check_113 : cT 273 113 = o_gf 116 10 6 := rfl
theorem c_M_check_116 : cT 273 116 = o_il 118 5 := rfl
theorem c_M_check_118 : cT 273 118 = o_ial 119 := rfl
theorem c_M_check_119 : cT 273 119 = o_il 121 5 := rfl
theorem c_M_check_121 : cT 273 121 = o_ci 122 2 := rfl
theorem c_M_check_122 : cT 273 122 = o_irem 123 := rfl
theorem c_M_check_123 : cT 273 123 = o_ifne 126 133 := rfl
theorem c_M_check_126 : cT 273 126 = o_al 127 0 := rfl
theorem c_M_check_127 : cT 273 127 = o_ca 130 271 1 3 false (some 10) := rfl
theorem c_M_check_130 : cT 273 130 = o_goto 138 := rfl
theorem c_M_check_133 : cT 273 133 = o_al 134 0 := rfl
theorem c_M_check_134 : cT 273 134 = o_ci 135 1 := rfl
theorem c_M_check_135 : cT 273 135 = o_ca 138 272 2 4 false (some 10) := rfl
theorem c_M_check_138 : cT 273 138 = o_icne 141 145 := rfl
theorem c_M_check_141 : cT 273 141 = o_ci 142 1 := rfl
theorem c_M_check_142 : cT 273 142 = o_goto 146 := rfl
theorem c_M_check_145 : cT 273 145 = o_ci 146 0 := rfl
theorem c_M_check_146 : cT 273 146 = o_is 148 4 := rfl
theorem c_M_check_148 : cT 273 148 = o_il 149 3 := rfl
theorem c_M_check_149 : cT 273 149 = o_il 151 4 := rfl
theorem c_M_check_151 : cT 273 151 = o_ifeq 154 158 := rfl
theorem c_M_check_154 : cT 273 154 = o_ci 155 1 := rfl
theorem c_M_check_155 : cT 273 155 = o_goto 159 := rfl
theorem c_M_check_158 : cT 273 158 = o_ci 159 0 := rfl
theorem c_M_check_159 : cT 273 159 = o_iadd 160 := rfl
theorem c_M_check_160 : cT 273 160 = o_is 161 3 := rfl
theorem c_M_check_161 : cT 273 161 = o_inc 164 5 1 := rfl
theorem c_M_check_164 : cT 273 164 = o_goto 82 := rfl
theorem c_M_check_167 : cT 273 167 = o_ci 168 0 := rfl
theorem c_M_check_168 : cT 273 168 = o_is 170 5 := rfl
theorem c_M_check_170 : cT 273 170 = o_il 172 5 := rfl
theorem c_M_check_172 : cT 273 172 = o_ci 175 2578 := rfl
theorem c_M_check_175 : cT 273 175 = o_icge 178 198 := rfl
theorem c_M_check_178 : cT 273 178 = o_al 179 0 := rfl
theorem c_M_check_179 : cT 273 179 = o_gf 182 10 0 := rfl
theorem c_M_check_182 : cT 273 182 = o_il 184 5 := rfl
theorem c_M_check_184 : cT 273 184 = o_al 185 0 := rfl
theorem c_M_check_185 : cT 273 185 = o_gf 188 10 2 := rfl
theorem c_M_check_188 : cT 273 188 = o_il 190 5 := rfl
theorem c_M_check_190 : cT 273 190 = o_ial 191 := rfl
theorem c_M_check_191 : cT 273 191 = o_ias 192 := rfl
theorem c_M_check_192 : cT 273 192 = o_inc 195 5 1 := rfl
theorem c_M_check_195 : cT 273 195 = o_goto 170 := rfl
theorem c_M_check_198 : cT 273 198 = o_il 200 4 := rfl
theorem c_M_check_200 : cT 273 200 = o_ifeq 203 214 := rfl
theorem c_M_check_203 : cT 273 203 = o_il 204 2 := rfl
theorem c_M_check_204 : cT 273 204 = o_ci 205 2 := rfl
theorem c_M_check_205 : cT 273 205 = o_il 206 1 := rfl
theorem c_M_check_206 : cT 273 206 = o_imul 207 := rfl
theorem c_M_check_207 : cT 273 207 = o_icne 210 214 := rfl
theorem c_M_check_210 : cT 273 210 = o_ci 211 0 := rfl
theorem c_M_check_211 : cT 273 211 = o_goto 217 := rfl
theorem c_M_check_214 : cT 273 214 = o_ci 215 1 := rfl
theorem c_M_check_215 : cT 273 215 = o_il 216 3 := rfl
theorem c_M_check_216 : cT 273 216 = o_iadd 217 := rfl
theorem c_M_check_217 : cT 273 217 = o_iret .int := rfl
theorem c_M_keep_0 : cT 275 0 = o_ci 1 0 := rfl
theorem c_M_keep_1 : cT 275 1 = o_is 2 1 := rfl
theorem c_M_keep_2 : cT 275 2 = o_il 3 1 := rfl
theorem c_M_keep_3 : cT 275 3 = o_ci 6 2578 := rfl
theorem c_M_keep_6 : cT 275 6 = o_icge 9 27 := rfl
theorem c_M_keep_9 : cT 275 9 = o_al 10 0 := rfl
theorem c_M_keep_10 : cT 275 10 = o_gf 13 10 1 := rfl
theorem c_M_keep_13 : cT 275 13 = o_il 14 1 := rfl
theorem c_M_keep_14 : cT 275 14 = o_al 15 0 := rfl
theorem c_M_keep_15 : cT 275 15 = o_gf 18 10 0 := rfl
theorem c_M_keep_18 : cT 275 18 = o_il 19 1 := rfl
theorem c_M_keep_19 : cT 275 19 = o_ial 20 := rfl
theorem c_M_keep_20 : cT 275 20 = o_ias 21 := rfl
theorem c_M_keep_21 : cT 275 21 = o_inc 24 1 1 := rfl
theorem c_M_keep_24 : cT 275 24 = o_goto 2 := rfl
theorem c_M_keep_27 : cT 275 27 = o_al 28 0 := rfl
theorem c_M_keep_28 : cT 275 28 = o_ci 29 1 := rfl
theorem c_M_keep_29 : cT 275 29 = o_pf 32 10 3 1 := rfl
theorem c_M_keep_32 : cT 275 32 = o_al 33 0 := rfl
theorem c_M_keep_33 : cT 275 33 = o_gf 36 10 0 := rfl
theorem c_M_keep_36 : cT 275 36 = o_ci 37 0 := rfl
theorem c_M_keep_37 : cT 275 37 = o_ial 38 := rfl
theorem c_M_keep_38 : cT 275 38 = o_iret .int := rfl
theorem c_M_restore_0 : cT 277 0 = o_al 1 0 := rfl
theorem c_M_restore_1 : cT 277 1 = o_gf 4 10 3 := rfl
theorem c_M_restore_4 : cT 277 4 = o_ifne 7 10 := rfl
theorem c_M_restore_7 : cT 277 7 = o_ci 9 (-1000000002) := rfl
theorem c_M_restore_9 : cT 277 9 = o_iret .int := rfl
theorem c_M_restore_10 : cT 277 10 = o_ci 11 0 := rfl
theorem c_M_restore_11 : cT 277 11 = o_is 12 1 := rfl
theorem c_M_restore_12 : cT 277 12 = o_il 13 1 := rfl
theorem c_M_restore_13 : cT 277 13 = o_ci 16 2578 := rfl
theorem c_M_restore_16 : cT 277 16 = o_icge 19 37 := rfl
theorem c_M_restore_19 : cT 277 19 = o_al 20 0 := rfl
theorem c_M_restore_20 : cT 277 20 = o_gf 23 10 0 := rfl
theorem c_M_restore_23 : cT 277 23 = o_il 24 1 := rfl
theorem c_M_restore_24 : cT 277 24 = o_al 25 0 := rfl
theorem c_M_restore_25 : cT 277 25 = o_gf 28 10 1 := rfl
theorem c_M_restore_28 : cT 277 28 = o_il 29 1 := rfl
theorem c_M_restore_29 : cT 277 29 = o_ial 30 := rfl
theorem c_M_restore_30 : cT 277 30 = o_ias 31 := rfl
theorem c_M_restore_31 : cT 277 31 = o_inc 34 1 1 := rfl
theorem c_M_restore_34 : cT 277 34 = o_goto 12 := rfl
theorem c_M_restore_37 : cT 277 37 = o_al 38 0 := rfl
theorem c_M_restore_38 : cT 277 38 = o_gf 41 10 0 := rfl
theorem c_M_restore_41 : cT 277 41 = o_ci 42 0 := rfl
theorem c_M_restore_42 : cT 277 42 = o_ial 43 := rfl
theorem c_M_restore_43 : cT 277 43 = o_iret .int := rfl
theorem c_M_count_0 : cT 280 0 = o_il 1 1 := rfl
theorem c_M_count_1 : cT 280 1 = o_sw 240 [(0, 88), (1, 95), (2, 95), (3, 95), (4, 103), (5, 110), (6, 117), (7, 124), (8, 132), (9, 140), (10, 148), (11, 156), (12, 164), (13, 208), (14, 216), (15, 221), (16, 226), (17, 233)] := rfl
theorem c_M_count_88 : cT 280 88 = o_al 89 0 := rfl
theorem c_M_count_89 : cT 280 89 = o_gf 92 10 0 := rfl
theorem c_M_count_92 : cT 280 92 = o_ci 93 2 := rfl
theorem c_M_count_93 : cT 280 93 = o_ial 94 := rfl
theorem c_M_count_94 : cT 280 94 = o_iret .int := rfl
theorem c_M_count_95 : cT 280 95 = o_al 96 0 := rfl
theorem c_M_count_96 : cT 280 96 = o_il 97 1 := rfl
theorem c_M_count_97 : cT 280 97 = o_ci 98 1 := rfl
theorem c_M_count_98 : cT 280 98 = o_isub 99 := rfl
theorem c_M_count_99 : cT 280 99 = o_ca 102 272 2 4 false (some 10) := rfl
theorem c_M_count_102 : cT 280 102 = o_iret .int := rfl
theorem c_M_count_103 : cT 280 103 = o_al 104 0 := rfl
theorem c_M_count_104 : cT 280 104 = o_gf 107 10 0 := rfl
theorem c_M_count_107 : cT 280 107 = o_ci 108 3 := rfl
theorem c_M_count_108 : cT 280 108 = o_ial 109 := rfl
theorem c_M_count_109 : cT 280 109 = o_iret .int := rfl
theorem c_M_count_110 : cT 280 110 = o_al 111 0 := rfl
theorem c_M_count_111 : cT 280 111 = o_gf 114 10 0 := rfl
theorem c_M_count_114 : cT 280 114 = o_ci 115 4 := rfl
theorem c_M_count_115 : cT 280 115 = o_ial 116 := rfl
theorem c_M_count_116 : cT 280 116 = o_iret .int := rfl
theorem c_M_count_117 : cT 280 117 = o_al 118 0 := rfl
theorem c_M_count_118 : cT 280 118 = o_gf 121 10 0 := rfl
theorem c_M_count_121 : cT 280 121 = o_ci 122 5 := rfl
theorem c_M_count_122 : cT 280 122 = o_ial 123 := rfl
theorem c_M_count_123 : cT 280 123 = o_iret .int := rfl
theorem c_M_count_124 : cT 280 124 = o_al 125 0 := rfl
theorem c_M_count_125 : cT 280 125 = o_gf 128 10 0 := rfl
theorem c_M_count_128 : cT 280 128 = o_ci 130 6 := rfl
theorem c_M_count_130 : cT 280 130 = o_ial 131 := rfl
theorem c_M_count_131 : cT 280 131 = o_iret .int := rfl
theorem c_M_count_132 : cT 280 132 = o_al 133 0 := rfl
theorem c_M_count_133 : cT 280 133 = o_gf 136 10 0 := rfl
theorem c_M_count_136 : cT 280 136 = o_ci 138 7 := rfl
theorem c_M_count_138 : cT 280 138 = o_ial 139 := rfl
theorem c_M_count_139 : cT 280 139 = o_iret .int := rfl
theorem c_M_count_140 : cT 280 140 = o_al 141 0 := rfl
theorem c_M_count_141 : cT 280 141 = o_gf 144 10 0 := rfl
theorem c_M_count_144 : cT 280 144 = o_ci 146 8 := rfl
theorem c_M_count_146 : cT 280 146 = o_ial 147 := rfl
theorem c_M_count_147 : cT 280 147 = o_iret .int := rfl
theorem c_M_count_148 : cT 280 148 = o_al 149 0 := rfl
theorem c_M_count_149 : cT 280 149 = o_gf 152 10 0 := rfl
theorem c_M_count_152 : cT 280 152 = o_ci 154 9 := rfl
theorem c_M_count_154 : cT 280 154 = o_ial 155 := rfl
theorem c_M_count_155 : cT 280 155 = o_iret .int := rfl
theorem c_M_count_156 : cT 280 156 = o_al 157 0 := rfl
theorem c_M_count_157 : cT 280 157 = o_gf 160 10 0 := rfl
theorem c_M_count_160 : cT 280 160 = o_ci 162 10 := rfl
theorem c_M_count_162 : cT 280 162 = o_ial 163 := rfl
theorem c_M_count_163 : cT 280 163 = o_iret .int := rfl
theorem c_M_count_164 : cT 280 164 = o_ci 165 0 := rfl
theorem c_M_count_165 : cT 280 165 = o_is 166 2 := rfl
theorem c_M_count_166 : cT 280 166 = o_ci 167 0 := rfl
theorem c_M_count_167 : cT 280 167 = o_is 168 3 := rfl
theorem c_M_count_168 : cT 280 168 = o_il 169 3 := rfl
theorem c_M_count_169 : cT 280 169 = o_al 170 0 := rfl
theorem c_M_count_170 : cT 280 170 = o_gf 173 10 0 := rfl
theorem c_M_count_173 : cT 280 173 = o_ci 175 10 := rfl
theorem c_M_count_175 : cT 280 175 = o_ial 176 := rfl
theorem c_M_count_176 : cT 280 176 = o_icge 179 206 := rfl
theorem c_M_count_179 : cT 280 179 = o_il 180 2 := rfl
theorem c_M_count_180 : cT 280 180 = o_al 181 0 := rfl
theorem c_M_count_181 : cT 280 181 = o_gf 184 10 0 := rfl
theorem c_M_count_184 : cT 280 184 = o_il 185 3 := rfl
theorem c_M_count_185 : cT 280 185 = o_ci 186 2 := rfl
theorem c_M_count_186 : cT 280 186 = o_ca 189 186 2 2 false none := rfl
theorem c_M_count_189 : cT 280 189 = o_ial 190 := rfl
theorem c_M_count_190 : cT 280 190 = o_ifne 193 197 := rfl
theorem c_M_count_193 : cT 280 193 = o_ci 194 1 := rfl
theorem c_M_count_194 : cT 280 194 = o_goto 198 := rfl
theorem c_M_count_197 : cT 280 197 = o_ci 198 0 := rfl
theorem c_M_count_198 : cT 280 198 = o_iadd 199 := rfl
theorem c_M_count_199 : cT 280 199 = o_is 200 2 := rfl
theorem c_M_count_200 : cT 280 200 = o_inc 203 3 1 := rfl
theorem c_M_count_203 : cT 280 203 = o_goto 168 := rfl
theorem c_M_count_206 : cT 280 206 = o_il 207 2 := rfl
theorem c_M_count_207 : cT 280 207 = o_iret .int := rfl
theorem c_M_count_208 : cT 280 208 = o_al 209 0 := rfl
theorem c_M_count_209 : cT 280 209 = o_gf 212 10 0 := rfl
theorem c_M_count_212 : cT 280 212 = o_ci 214 11 := rfl
theorem c_M_count_214 : cT 280 214 = o_ial 215 := rfl
theorem c_M_count_215 : cT 280 215 = o_iret .int := rfl
theorem c_M_count_216 : cT 280 216 = o_al 217 0 := rfl
theorem c_M_count_217 : cT 280 217 = o_gf 220 10 7 := rfl
theorem c_M_count_220 : cT 280 220 = o_iret .int := rfl
theorem c_M_count_221 : cT 280 221 = o_al 222 0 := rfl
theorem c_M_count_222 : cT 280 222 = o_gf 225 10 5 := rfl
theorem c_M_count_225 : cT 280 225 = o_iret .int := rfl
theorem c_M_count_226 : cT 280 226 = o_al 227 0 := rfl
theorem c_M_count_227 : cT 280 227 = o_gf 230 10 0 := rfl
theorem c_M_count_230 : cT 280 230 = o_ci 231 0 := rfl
theorem c_M_count_231 : cT 280 231 = o_ial 232 := rfl
theorem c_M_count_232 : cT 280 232 = o_iret .int := rfl
theorem c_M_count_233 : cT 280 233 = o_al 234 0 := rfl
theorem c_M_count_234 : cT 280 234 = o_gf 237 10 0 := rfl
theorem c_M_count_237 : cT 280 237 = o_ci 238 1 := rfl
theorem c_M_count_238 : cT 280 238 = o_ial 239 := rfl
theorem c_M_count_239 : cT 280 239 = o_iret .int := rfl
theorem c_M_count_240 : cT 280 240 = o_ci 242 (-1000000001) := rfl
theorem c_M_count_242 : cT 280 242 = o_iret .int := rfl
