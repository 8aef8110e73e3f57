/-! which instruction stands where -/
theorem c_R_init_0 : cT 1 0 = o_al 1 0 := rfl
theorem c_R_init_1 : cT 1 1 = o_oin 4 := rfl
theorem c_R_init_4 : cT 1 4 = o_al 5 0 := rfl
theorem c_R_init_5 : cT 1 5 = o_il 6 1 := rfl
theorem c_R_init_6 : cT 1 6 = o_pf 9 2 0 0 := rfl
theorem c_R_init_9 : cT 1 9 = o_al 10 0 := rfl
theorem c_R_init_10 : cT 1 10 = o_il 11 2 := rfl
theorem c_R_init_11 : cT 1 11 = o_pf 14 2 1 0 := rfl
theorem c_R_init_14 : cT 1 14 = o_al 15 0 := rfl
theorem c_R_init_15 : cT 1 15 = o_ci 16 0 := rfl
theorem c_R_init_16 : cT 1 16 = o_il 17 1 := rfl
theorem c_R_init_17 : cT 1 17 = o_il 18 2 := rfl
theorem c_R_init_18 : cT 1 18 = o_imul 19 := rfl
theorem c_R_init_19 : cT 1 19 = o_ca 22 0 2 2 false none := rfl
theorem c_R_init_22 : cT 1 22 = o_na 24 0 := rfl
theorem c_R_init_24 : cT 1 24 = o_pf 27 2 2 2 := rfl
theorem c_R_init_27 : cT 1 27 = o_vret := rfl
theorem c_I_init_0 : cT 2 0 = o_al 1 0 := rfl
theorem c_I_init_1 : cT 2 1 = o_oin 4 := rfl
theorem c_I_init_4 : cT 2 4 = o_al 5 0 := rfl
theorem c_I_init_5 : cT 2 5 = o_new 8 2 4 [.int 0, .int 0, .null, .int 0] := rfl
theorem c_I_init_8 : cT 2 8 = o_dup 9 := rfl
theorem c_I_init_9 : cT 2 9 = o_ci 11 24 := rfl
theorem c_I_init_11 : cT 2 11 = o_ci 12 3 := rfl
theorem c_I_init_12 : cT 2 12 = o_ca 15 1 3 3 false (some 2) := rfl
theorem c_I_init_15 : cT 2 15 = o_pf 18 8 0 2 := rfl
theorem c_I_init_18 : cT 2 18 = o_al 19 0 := rfl
theorem c_I_init_19 : cT 2 19 = o_new 22 2 4 [.int 0, .int 0, .null, .int 0] := rfl
theorem c_I_init_22 : cT 2 22 = o_dup 23 := rfl
theorem c_I_init_23 : cT 2 23 = o_ci 25 30 := rfl
theorem c_I_init_25 : cT 2 25 = o_ci 26 3 := rfl
theorem c_I_init_26 : cT 2 26 = o_ca 29 1 3 3 false (some 2) := rfl
theorem c_I_init_29 : cT 2 29 = o_pf 32 8 1 2 := rfl
theorem c_I_init_32 : cT 2 32 = o_al 33 0 := rfl
theorem c_I_init_33 : cT 2 33 = o_new 36 2 4 [.int 0, .int 0, .null, .int 0] := rfl
theorem c_I_init_36 : cT 2 36 = o_dup 37 := rfl
theorem c_I_init_37 : cT 2 37 = o_ci 39 20 := rfl
theorem c_I_init_39 : cT 2 39 = o_ci 40 3 := rfl
theorem c_I_init_40 : cT 2 40 = o_ca 43 1 3 3 false (some 2) := rfl
theorem c_I_init_43 : cT 2 43 = o_pf 46 8 2 2 := rfl
theorem c_I_init_46 : cT 2 46 = o_al 47 0 := rfl
theorem c_I_init_47 : cT 2 47 = o_new 50 2 4 [.int 0, .int 0, .null, .int 0] := rfl
theorem c_I_init_50 : cT 2 50 = o_dup 51 := rfl
theorem c_I_init_51 : cT 2 51 = o_ci 53 40 := rfl
theorem c_I_init_53 : cT 2 53 = o_ci 54 4 := rfl
theorem c_I_init_54 : cT 2 54 = o_ca 57 1 3 3 false (some 2) := rfl
theorem c_I_init_57 : cT 2 57 = o_pf 60 8 3 2 := rfl
theorem c_I_init_60 : cT 2 60 = o_vret := rfl
theorem c_K_init_0 : cT 3 0 = o_al 1 0 := rfl
theorem c_K_init_1 : cT 3 1 = o_oin 4 := rfl
theorem c_K_init_4 : cT 3 4 = o_al 5 0 := rfl
theorem c_K_init_5 : cT 3 5 = o_ci 7 96 := rfl
theorem c_K_init_7 : cT 3 7 = o_na 9 0 := rfl
theorem c_K_init_9 : cT 3 9 = o_pf 12 4 0 2 := rfl
theorem c_K_init_12 : cT 3 12 = o_vret := rfl
theorem c_L_init_0 : cT 4 0 = o_al 1 0 := rfl
theorem c_L_init_1 : cT 4 1 = o_oin 4 := rfl
theorem c_L_init_4 : cT 4 4 = o_al 5 0 := rfl
theorem c_L_init_5 : cT 4 5 = o_ci 7 16 := rfl
theorem c_L_init_7 : cT 4 7 = o_na 10 4 := rfl
theorem c_L_init_10 : cT 4 10 = o_pf 13 1 0 2 := rfl
theorem c_L_init_13 : cT 4 13 = o_al 14 0 := rfl
theorem c_L_init_14 : cT 4 14 = o_new 17 4 2 [.null, .int 0] := rfl
theorem c_L_init_17 : cT 4 17 = o_dup 18 := rfl
theorem c_L_init_18 : cT 4 18 = o_ca 21 3 1 1 false (some 4) := rfl
theorem c_L_init_21 : cT 4 21 = o_pf 24 1 2 2 := rfl
theorem c_L_init_24 : cT 4 24 = o_vret := rfl
theorem c_B_init_0 : cT 5 0 = o_al 1 0 := rfl
theorem c_B_init_1 : cT 5 1 = o_oin 4 := rfl
theorem c_B_init_4 : cT 5 4 = o_al 5 0 := rfl
theorem c_B_init_5 : cT 5 5 = o_new 8 2 4 [.int 0, .int 0, .null, .int 0] := rfl
theorem c_B_init_8 : cT 5 8 = o_dup 9 := rfl
theorem c_B_init_9 : cT 5 9 = o_ci 11 12 := rfl
theorem c_B_init_11 : cT 5 11 = o_ci 13 6 := rfl
theorem c_B_init_13 : cT 5 13 = o_ca 16 1 3 3 false (some 2) := rfl
theorem c_B_init_16 : cT 5 16 = o_pf 19 0 0 2 := rfl
theorem c_B_init_19 : cT 5 19 = o_al 20 0 := rfl
theorem c_B_init_20 : cT 5 20 = o_new 23 2 4 [.int 0, .int 0, .null, .int 0] := rfl
theorem c_B_init_23 : cT 5 23 = o_dup 24 := rfl
theorem c_B_init_24 : cT 5 24 = o_ci 26 40 := rfl
theorem c_B_init_26 : cT 5 26 = o_ci 27 4 := rfl
theorem c_B_init_27 : cT 5 27 = o_ca 30 1 3 3 false (some 2) := rfl
theorem c_B_init_30 : cT 5 30 = o_pf 33 0 1 2 := rfl
theorem c_B_init_33 : cT 5 33 = o_al 34 0 := rfl
theorem c_B_init_34 : cT 5 34 = o_new 37 2 4 [.int 0, .int 0, .null, .int 0] := rfl
theorem c_B_init_37 : cT 5 37 = o_dup 38 := rfl
theorem c_B_init_38 : cT 5 38 = o_ci 40 9 := rfl
theorem c_B_init_40 : cT 5 40 = o_ci 41 4 := rfl
theorem c_B_init_41 : cT 5 41 = o_ca 44 1 3 3 false (some 2) := rfl
theorem c_B_init_44 : cT 5 44 = o_pf 47 0 2 2 := rfl
theorem c_B_init_47 : cT 5 47 = o_al 48 0 := rfl
theorem c_B_init_48 : cT 5 48 = o_new 51 2 4 [.int 0, .int 0, .null, .int 0] := rfl
theorem c_B_init_51 : cT 5 51 = o_dup 52 := rfl
theorem c_B_init_52 : cT 5 52 = o_ci 54 30 := rfl
theorem c_B_init_54 : cT 5 54 = o_ci 55 5 := rfl
theorem c_B_init_55 : cT 5 55 = o_ca 58 1 3 3 false (some 2) := rfl
theorem c_B_init_58 : cT 5 58 = o_pf 61 0 3 2 := rfl
theorem c_B_init_61 : cT 5 61 = o_al 62 0 := rfl
theorem c_B_init_62 : cT 5 62 = o_new 65 2 4 [.int 0, .int 0, .null, .int 0] := rfl
theorem c_B_init_65 : cT 5 65 = o_dup 66 := rfl
theorem c_B_init_66 : cT 5 66 = o_ci 68 8 := rfl
theorem c_B_init_68 : cT 5 68 = o_ci 69 3 := rfl
theorem c_B_init_69 : cT 5 69 = o_ca 72 1 3 3 false (some 2) := rfl
theorem c_B_init_72 : cT 5 72 = o_pf 75 0 4 2 := rfl
theorem c_B_init_75 : cT 5 75 = o_al 76 0 := rfl
theorem c_B_init_76 : cT 5 76 = o_new 79 2 4 [.int 0, .int 0, .null, .int 0] := rfl
theorem c_B_init_79 : cT 5 79 = o_dup 80 := rfl
theorem c_B_init_80 : cT 5 80 = o_ci 81 5 := rfl
theorem c_B_init_81 : cT 5 81 = o_ci 82 1 := rfl
theorem c_B_init_82 : cT 5 82 = o_ca 85 1 3 3 false (some 2) := rfl
theorem c_B_init_85 : cT 5 85 = o_pf 88 0 5 2 := rfl
theorem c_B_init_88 : cT 5 88 = o_al 89 0 := rfl
theorem c_B_init_89 : cT 5 89 = o_new 92 8 4 [.null, .null, .null, .null] := rfl
theorem c_B_init_92 : cT 5 92 = o_dup 93 := rfl
theorem c_B_init_93 : cT 5 93 = o_ca 96 2 1 1 false (some 8) := rfl
theorem c_B_init_96 : cT 5 96 = o_pf 99 0 6 2 := rfl
theorem c_B_init_99 : cT 5 99 = o_al 100 0 := rfl
theorem c_B_init_100 : cT 5 100 = o_new 103 1 3 [.null, .int 0, .null] := rfl
theorem c_B_init_103 : cT 5 103 = o_dup 104 := rfl
theorem c_B_init_104 : cT 5 104 = o_ca 107 4 1 1 false (some 1) := rfl
theorem c_B_init_107 : cT 5 107 = o_pf 110 0 7 2 := rfl
theorem c_B_init_110 : cT 5 110 = o_vret := rfl
theorem c_P_init_0 : cT 6 0 = o_al 1 0 := rfl
theorem c_P_init_1 : cT 6 1 = o_oin 4 := rfl
theorem c_P_init_4 : cT 6 4 = o_al 5 0 := rfl
theorem c_P_init_5 : cT 6 5 = o_ci 7 96 := rfl
theorem c_P_init_7 : cT 6 7 = o_na 9 1 := rfl
theorem c_P_init_9 : cT 6 9 = o_pf 12 5 0 2 := rfl
theorem c_P_init_12 : cT 6 12 = o_vret := rfl
theorem c_D_init_0 : cT 7 0 = o_al 1 0 := rfl
theorem c_D_init_1 : cT 7 1 = o_oin 4 := rfl
theorem c_D_init_4 : cT 7 4 = o_al 5 0 := rfl
theorem c_D_init_5 : cT 7 5 = o_ci 7 96 := rfl
theorem c_D_init_7 : cT 7 7 = o_na 9 0 := rfl
theorem c_D_init_9 : cT 7 9 = o_pf 12 7 1 2 := rfl
theorem c_D_init_12 : cT 7 12 = o_al 13 0 := rfl
theorem c_D_init_13 : cT 7 13 = o_al 14 1 := rfl
theorem c_D_init_14 : cT 7 14 = o_pf 17 7 0 2 := rfl
theorem c_D_init_17 : cT 7 17 = o_vret := rfl
theorem c_S_init_0 : cT 8 0 = o_al 1 0 := rfl
theorem c_S_init_1 : cT 8 1 = o_oin 4 := rfl
theorem c_S_init_4 : cT 8 4 = o_al 5 0 := rfl
theorem c_S_init_5 : cT 8 5 = o_ci 7 24 := rfl
theorem c_S_init_7 : cT 8 7 = o_na 9 2 := rfl
theorem c_S_init_9 : cT 8 9 = o_pf 12 3 0 2 := rfl
theorem c_S_init_12 : cT 8 12 = o_al 13 0 := rfl
theorem c_S_init_13 : cT 8 13 = o_ci 14 (-1) := rfl
theorem c_S_init_14 : cT 8 14 = o_pf 17 3 1 0 := rfl
theorem c_S_init_17 : cT 8 17 = o_vret := rfl
theorem c_R_isFull_0 : cT 12 0 = o_al 1 0 := rfl
theorem c_R_isFull_1 : cT 12 1 = o_gf 4 2 3 := rfl
theorem c_R_isFull_4 : cT 12 4 = o_al 5 0 := rfl
theorem c_R_isFull_5 : cT 12 5 = o_gf 8 2 0 := rfl
theorem c_R_isFull_8 : cT 12 8 = o_iclt 11 15 := rfl
theorem c_R_isFull_11 : cT 12 11 = o_ci 12 1 := rfl
theorem c_R_isFull_12 : cT 12 12 = o_goto 16 := rfl
theorem c_R_isFull_15 : cT 12 15 = o_ci 16 0 := rfl
theorem c_R_isFull_16 : cT 12 16 = o_iret .boolean := rfl
theorem c_R_put_0 : cT 13 0 = o_il 1 1 := rfl
theorem c_R_put_1 : cT 13 1 = o_al 2 0 := rfl
theorem c_R_put_2 : cT 13 2 = o_gf 5 2 1 := rfl
theorem c_R_put_5 : cT 13 5 = o_imul 6 := rfl
theorem c_R_put_6 : cT 13 6 = o_il 7 2 := rfl
theorem c_R_put_7 : cT 13 7 = o_iadd 8 := rfl
theorem c_R_put_8 : cT 13 8 = o_is 10 4 := rfl
theorem c_R_put_10 : cT 13 10 = o_il 11 2 := rfl
theorem c_R_put_11 : cT 13 11 = o_iflt 14 37 := rfl
theorem c_R_put_14 : cT 13 14 = o_il 15 2 := rfl
theorem c_R_put_15 : cT 13 15 = o_al 16 0 := rfl
theorem c_R_put_16 : cT 13 16 = o_gf 19 2 1 := rfl
theorem c_R_put_19 : cT 13 19 = o_icge 22 37 := rfl
theorem c_R_put_22 : cT 13 22 = o_il 24 4 := rfl
theorem c_R_put_24 : cT 13 24 = o_iflt 27 37 := rfl
theorem c_R_put_27 : cT 13 27 = o_il 29 4 := rfl
theorem c_R_put_29 : cT 13 29 = o_al 30 0 := rfl
theorem c_R_put_30 : cT 13 30 = o_gf 33 2 2 := rfl
theorem c_R_put_33 : cT 13 33 = o_len 34 := rfl
theorem c_R_put_34 : cT 13 34 = o_iclt 37 38 := rfl
theorem c_R_put_37 : cT 13 37 = o_vret := rfl
theorem c_R_put_38 : cT 13 38 = o_al 39 0 := rfl
theorem c_R_put_39 : cT 13 39 = o_gf 42 2 2 := rfl
theorem c_R_put_42 : cT 13 42 = o_il 44 4 := rfl
theorem c_R_put_44 : cT 13 44 = o_il 45 3 := rfl
theorem c_R_put_45 : cT 13 45 = o_ias 46 := rfl
theorem c_R_put_46 : cT 13 46 = o_vret := rfl
theorem c_R_more_0 : cT 14 0 = o_al 1 0 := rfl
theorem c_R_more_1 : cT 14 1 = o_gf 4 2 3 := rfl
theorem c_R_more_4 : cT 14 4 = o_is 6 5 := rfl
theorem c_R_more_6 : cT 14 6 = o_al 7 0 := rfl
theorem c_R_more_7 : cT 14 7 = o_dup 8 := rfl
theorem c_R_more_8 : cT 14 8 = o_gf 11 2 3 := rfl
theorem c_R_more_11 : cT 14 11 = o_ci 12 1 := rfl
theorem c_R_more_12 : cT 14 12 = o_iadd 13 := rfl
theorem c_R_more_13 : cT 14 13 = o_pf 16 2 3 0 := rfl
theorem c_R_more_16 : cT 14 16 = o_al 17 0 := rfl
theorem c_R_more_17 : cT 14 17 = o_il 19 5 := rfl
theorem c_R_more_19 : cT 14 19 = o_ci 20 0 := rfl
theorem c_R_more_20 : cT 14 20 = o_il 21 1 := rfl
theorem c_R_more_21 : cT 14 21 = o_ca 24 13 4 5 false (some 2) := rfl
theorem c_R_more_24 : cT 14 24 = o_al 25 0 := rfl
theorem c_R_more_25 : cT 14 25 = o_il 27 5 := rfl
theorem c_R_more_27 : cT 14 27 = o_ci 28 1 := rfl
theorem c_R_more_28 : cT 14 28 = o_il 29 2 := rfl
theorem c_R_more_29 : cT 14 29 = o_ca 32 13 4 5 false (some 2) := rfl
theorem c_R_more_32 : cT 14 32 = o_al 33 0 := rfl
theorem c_R_more_33 : cT 14 33 = o_il 35 5 := rfl
theorem c_R_more_35 : cT 14 35 = o_ci 36 2 := rfl
theorem c_R_more_36 : cT 14 36 = o_il 37 3 := rfl
theorem c_R_more_37 : cT 14 37 = o_ca 40 13 4 5 false (some 2) := rfl
theorem c_R_more_40 : cT 14 40 = o_al 41 0 := rfl
theorem c_R_more_41 : cT 14 41 = o_il 43 5 := rfl
theorem c_R_more_43 : cT 14 43 = o_ci 44 3 := rfl
theorem c_R_more_44 : cT 14 44 = o_il 46 4 := rfl
theorem c_R_more_46 : cT 14 46 = o_ca 49 13 4 5 false (some 2) := rfl
theorem c_R_more_49 : cT 14 49 = o_ci 50 4 := rfl
theorem c_R_more_50 : cT 14 50 = o_is 52 6 := rfl
theorem c_R_more_52 : cT 14 52 = o_il 54 6 := rfl
theorem c_R_more_54 : cT 14 54 = o_al 55 0 := rfl
theorem c_R_more_55 : cT 14 55 = o_gf 58 2 1 := rfl
theorem c_R_more_58 : cT 14 58 = o_icge 61 76 := rfl
theorem c_R_more_61 : cT 14 61 = o_al 62 0 := rfl
theorem c_R_more_62 : cT 14 62 = o_il 64 5 := rfl
theorem c_R_more_64 : cT 14 64 = o_il 66 6 := rfl
theorem c_R_more_66 : cT 14 66 = o_ci 67 0 := rfl
theorem c_R_more_67 : cT 14 67 = o_ca 70 13 4 5 false (some 2) := rfl
theorem c_R_more_70 : cT 14 70 = o_inc 73 6 1 := rfl
theorem c_R_more_73 : cT 14 73 = o_goto 52 := rfl
theorem c_R_more_76 : cT 14 76 = o_il 78 5 := rfl
theorem c_R_more_78 : cT 14 78 = o_iret .int := rfl
theorem c_I_beginSpan_0 : cT 15 0 = o_al 1 0 := rfl
theorem c_I_beginSpan_1 : cT 15 1 = o_gf 4 8 1 := rfl
theorem c_I_beginSpan_4 : cT 15 4 = o_il 5 1 := rfl
theorem c_I_beginSpan_5 : cT 15 5 = o_il 6 2 := rfl
theorem c_I_beginSpan_6 : cT 15 6 = o_ci 8 2147483647 := rfl
theorem c_I_beginSpan_8 : cT 15 8 = o_ci 9 0 := rfl
theorem c_I_beginSpan_9 : cT 15 9 = o_ca 12 14 5 7 false (some 2) := rfl
theorem c_I_beginSpan_12 : cT 15 12 = o_pop 13 := rfl
theorem c_I_beginSpan_13 : cT 15 13 = o_vret := rfl
theorem c_R_has_0 : cT 21 0 = o_il 1 1 := rfl
theorem c_R_has_1 : cT 21 1 = o_iflt 4 16 := rfl
theorem c_R_has_4 : cT 21 4 = o_il 5 1 := rfl
theorem c_R_has_5 : cT 21 5 = o_al 6 0 := rfl
theorem c_R_has_6 : cT 21 6 = o_gf 9 2 3 := rfl
theorem c_R_has_9 : cT 21 9 = o_icge 12 16 := rfl
theorem c_R_has_12 : cT 21 12 = o_ci 13 1 := rfl
theorem c_R_has_13 : cT 21 13 = o_goto 17 := rfl
theorem c_R_has_16 : cT 21 16 = o_ci 17 0 := rfl
theorem c_R_has_17 : cT 21 17 = o_iret .boolean := rfl
theorem c_R_at_0 : cT 22 0 = o_il 1 1 := rfl
theorem c_R_at_1 : cT 22 1 = o_al 2 0 := rfl
theorem c_R_at_2 : cT 22 2 = o_gf 5 2 1 := rfl
theorem c_R_at_5 : cT 22 5 = o_imul 6 := rfl
theorem c_R_at_6 : cT 22 6 = o_il 7 2 := rfl
theorem c_R_at_7 : cT 22 7 = o_iadd 8 := rfl
theorem c_R_at_8 : cT 22 8 = o_is 9 3 := rfl
theorem c_R_at_9 : cT 22 9 = o_il 10 2 := rfl
theorem c_R_at_10 : cT 22 10 = o_iflt 13 34 := rfl
theorem c_R_at_13 : cT 22 13 = o_il 14 2 := rfl
theorem c_R_at_14 : cT 22 14 = o_al 15 0 := rfl
theorem c_R_at_15 : cT 22 15 = o_gf 18 2 1 := rfl
theorem c_R_at_18 : cT 22 18 = o_icge 21 34 := rfl
theorem c_R_at_21 : cT 22 21 = o_il 22 3 := rfl
theorem c_R_at_22 : cT 22 22 = o_iflt 25 34 := rfl
theorem c_R_at_25 : cT 22 25 = o_il 26 3 := rfl
theorem c_R_at_26 : cT 22 26 = o_al 27 0 := rfl
theorem c_R_at_27 : cT 22 27 = o_gf 30 2 2 := rfl
theorem c_R_at_30 : cT 22 30 = o_len 31 := rfl
theorem c_R_at_31 : cT 22 31 = o_iclt 34 36 := rfl
theorem c_R_at_34 : cT 22 34 = o_ci 35 0 := rfl
theorem c_R_at_35 : cT 22 35 = o_iret .int := rfl
theorem c_R_at_36 : cT 22 36 = o_al 37 0 := rfl
theorem c_R_at_37 : cT 22 37 = o_gf 40 2 2 := rfl
theorem c_R_at_40 : cT 22 40 = o_il 41 3 := rfl
theorem c_R_at_41 : cT 22 41 = o_ial 42 := rfl
theorem c_R_at_42 : cT 22 42 = o_iret .int := rfl
theorem c_I_totalOf_0 : cT 23 0 = o_ci 1 0 := rfl
theorem c_I_totalOf_1 : cT 23 1 = o_is 2 2 := rfl
theorem c_I_totalOf_2 : cT 23 2 = o_ci 3 0 := rfl
theorem c_I_totalOf_3 : cT 23 3 = o_is 4 3 := rfl
theorem c_I_totalOf_4 : cT 23 4 = o_ci 5 0 := rfl
theorem c_I_totalOf_5 : cT 23 5 = o_is 7 4 := rfl
theorem c_I_totalOf_7 : cT 23 7 = o_il 9 4 := rfl
theorem c_I_totalOf_9 : cT 23 9 = o_al 10 0 := rfl
theorem c_I_totalOf_10 : cT 23 10 = o_gf 13 8 0 := rfl
theorem c_I_totalOf_13 : cT 23 13 = o_gf 16 2 3 := rfl
theorem c_I_totalOf_16 : cT 23 16 = o_icge 19 83 := rfl
theorem c_I_totalOf_19 : cT 23 19 = o_al 20 0 := rfl
theorem c_I_totalOf_20 : cT 23 20 = o_gf 23 8 0 := rfl
theorem c_I_totalOf_23 : cT 23 23 = o_il 25 4 := rfl
theorem c_I_totalOf_25 : cT 23 25 = o_ci 26 0 := rfl
theorem c_I_totalOf_26 : cT 23 26 = o_ca 29 22 3 4 false (some 2) := rfl
theorem c_I_totalOf_29 : cT 23 29 = o_il 30 1 := rfl
theorem c_I_totalOf_30 : cT 23 30 = o_iceq 33 36 := rfl
theorem c_I_totalOf_33 : cT 23 33 = o_goto 77 := rfl
theorem c_I_totalOf_36 : cT 23 36 = o_al 37 0 := rfl
theorem c_I_totalOf_37 : cT 23 37 = o_gf 40 8 0 := rfl
theorem c_I_totalOf_40 : cT 23 40 = o_il 42 4 := rfl
theorem c_I_totalOf_42 : cT 23 42 = o_ci 43 1 := rfl
theorem c_I_totalOf_43 : cT 23 43 = o_ca 46 22 3 4 false (some 2) := rfl
theorem c_I_totalOf_46 : cT 23 46 = o_is 48 5 := rfl
theorem c_I_totalOf_48 : cT 23 48 = o_al 49 0 := rfl
theorem c_I_totalOf_49 : cT 23 49 = o_gf 52 8 0 := rfl
theorem c_I_totalOf_52 : cT 23 52 = o_il 54 4 := rfl
theorem c_I_totalOf_54 : cT 23 54 = o_ci 55 2 := rfl
theorem c_I_totalOf_55 : cT 23 55 = o_ca 58 22 3 4 false (some 2) := rfl
theorem c_I_totalOf_58 : cT 23 58 = o_ci 59 1 := rfl
theorem c_I_totalOf_59 : cT 23 59 = o_icne 62 70 := rfl
theorem c_I_totalOf_62 : cT 23 62 = o_il 63 3 := rfl
theorem c_I_totalOf_63 : cT 23 63 = o_il 65 5 := rfl
theorem c_I_totalOf_65 : cT 23 65 = o_iadd 66 := rfl
theorem c_I_totalOf_66 : cT 23 66 = o_is 67 3 := rfl
theorem c_I_totalOf_67 : cT 23 67 = o_goto 77 := rfl
theorem c_I_totalOf_70 : cT 23 70 = o_il 71 2 := rfl
theorem c_I_totalOf_71 : cT 23 71 = o_il 73 5 := rfl
theorem c_I_totalOf_73 : cT 23 73 = o_ca 76 0 2 2 false none := rfl
theorem c_I_totalOf_76 : cT 23 76 = o_is 77 2 := rfl
theorem c_I_totalOf_77 : cT 23 77 = o_inc 80 4 1 := rfl
theorem c_I_totalOf_80 : cT 23 80 = o_goto 7 := rfl
theorem c_I_totalOf_83 : cT 23 83 = o_il 84 2 := rfl
theorem c_I_totalOf_84 : cT 23 84 = o_il 85 3 := rfl
theorem c_I_totalOf_85 : cT 23 85 = o_iadd 86 := rfl
theorem c_I_totalOf_86 : cT 23 86 = o_iret .int := rfl
theorem c_B_hundredthsFor_0 : cT 26 0 = o_al 1 0 := rfl
theorem c_B_hundredthsFor_1 : cT 26 1 = o_gf 4 0 0 := rfl
theorem c_B_hundredthsFor_4 : cT 26 4 = o_il 5 1 := rfl
theorem c_B_hundredthsFor_5 : cT 26 5 = o_ci 6 2 := rfl
theorem c_B_hundredthsFor_6 : cT 26 6 = o_ca 9 22 3 4 false (some 2) := rfl
theorem c_B_hundredthsFor_9 : cT 26 9 = o_ca 12 24 1 1 false none := rfl
theorem c_B_hundredthsFor_12 : cT 26 12 = o_ci 14 8 := rfl
theorem c_B_hundredthsFor_14 : cT 26 14 = o_irem 15 := rfl
theorem c_B_hundredthsFor_15 : cT 26 15 = o_is 16 3 := rfl
theorem c_B_hundredthsFor_16 : cT 26 16 = o_al 17 0 := rfl
theorem c_B_hundredthsFor_17 : cT 26 17 = o_gf 20 0 4 := rfl
theorem c_B_hundredthsFor_20 : cT 26 20 = o_il 21 3 := rfl
theorem c_B_hundredthsFor_21 : cT 26 21 = o_il 22 2 := rfl
theorem c_B_hundredthsFor_22 : cT 26 22 = o_ca 25 22 3 4 false (some 2) := rfl
theorem c_B_hundredthsFor_25 : cT 26 25 = o_al 26 0 := rfl
theorem c_B_hundredthsFor_26 : cT 26 26 = o_gf 29 0 4 := rfl
theorem c_B_hundredthsFor_29 : cT 26 29 = o_il 30 3 := rfl
theorem c_B_hundredthsFor_30 : cT 26 30 = o_ci 31 1 := rfl
theorem c_B_hundredthsFor_31 : cT 26 31 = o_ca 34 22 3 4 false (some 2) := rfl
theorem c_B_hundredthsFor_34 : cT 26 34 = o_ca 37 25 2 2 false none := rfl
theorem c_B_hundredthsFor_37 : cT 26 37 = o_iret .int := rfl
theorem c_B_setHearingOf_0 : cT 27 0 = o_ci 1 0 := rfl
theorem c_B_setHearingOf_1 : cT 27 1 = o_is 2 2 := rfl
theorem c_B_setHearingOf_2 : cT 27 2 = o_il 3 2 := rfl
theorem c_B_setHearingOf_3 : cT 27 3 = o_al 4 0 := rfl
theorem c_B_setHearingOf_4 : cT 27 4 = o_gf 7 0 3 := rfl
theorem c_B_setHearingOf_7 : cT 27 7 = o_gf 10 2 3 := rfl
theorem c_B_setHearingOf_10 : cT 27 10 = o_icge 13 46 := rfl
theorem c_B_setHearingOf_13 : cT 27 13 = o_al 14 0 := rfl
theorem c_B_setHearingOf_14 : cT 27 14 = o_gf 17 0 3 := rfl
theorem c_B_setHearingOf_17 : cT 27 17 = o_il 18 2 := rfl
theorem c_B_setHearingOf_18 : cT 27 18 = o_ci 19 0 := rfl
theorem c_B_setHearingOf_19 : cT 27 19 = o_ca 22 22 3 4 false (some 2) := rfl
theorem c_B_setHearingOf_22 : cT 27 22 = o_il 23 1 := rfl
theorem c_B_setHearingOf_23 : cT 27 23 = o_icne 26 40 := rfl
theorem c_B_setHearingOf_26 : cT 27 26 = o_al 27 0 := rfl
theorem c_B_setHearingOf_27 : cT 27 27 = o_gf 30 0 3 := rfl
theorem c_B_setHearingOf_30 : cT 27 30 = o_il 31 2 := rfl
theorem c_B_setHearingOf_31 : cT 27 31 = o_ci 32 2 := rfl
theorem c_B_setHearingOf_32 : cT 27 32 = o_ca 35 22 3 4 false (some 2) := rfl
theorem c_B_setHearingOf_35 : cT 27 35 = o_ifne 38 40 := rfl
theorem c_B_setHearingOf_38 : cT 27 38 = o_il 39 2 := rfl
theorem c_B_setHearingOf_39 : cT 27 39 = o_iret .int := rfl
theorem c_B_setHearingOf_40 : cT 27 40 = o_inc 43 2 1 := rfl
theorem c_B_setHearingOf_43 : cT 27 43 = o_goto 2 := rfl
theorem c_B_setHearingOf_46 : cT 27 46 = o_ci 48 (-1000000005) := rfl
theorem c_B_setHearingOf_48 : cT 27 48 = o_iret .int := rfl
theorem c_R_exchange_0 : cT 38 0 = o_al 1 0 := rfl
theorem c_R_exchange_1 : cT 38 1 = o_il 2 1 := rfl
theorem c_R_exchange_2 : cT 38 2 = o_il 3 2 := rfl
theorem c_R_exchange_3 : cT 38 3 = o_ca 6 22 3 4 false (some 2) := rfl
theorem c_R_exchange_6 : cT 38 6 = o_is 8 4 := rfl
theorem c_R_exchange_8 : cT 38 8 = o_al 9 0 := rfl
theorem c_R_exchange_9 : cT 38 9 = o_il 10 1 := rfl
theorem c_R_exchange_10 : cT 38 10 = o_il 11 2 := rfl
theorem c_R_exchange_11 : cT 38 11 = o_il 12 3 := rfl
theorem c_R_exchange_12 : cT 38 12 = o_ca 15 13 4 5 false (some 2) := rfl
theorem c_R_exchange_15 : cT 38 15 = o_il 17 4 := rfl
theorem c_R_exchange_17 : cT 38 17 = o_iret .int := rfl
theorem c_B_stateOf_0 : cT 41 0 = o_al 1 0 := rfl
theorem c_B_stateOf_1 : cT 41 1 = o_gf 4 0 0 := rfl
theorem c_B_stateOf_4 : cT 41 4 = o_il 5 1 := rfl
theorem c_B_stateOf_5 : cT 41 5 = o_ci 6 3 := rfl
theorem c_B_stateOf_6 : cT 41 6 = o_ca 9 22 3 4 false (some 2) := rfl
theorem c_B_stateOf_9 : cT 41 9 = o_iret .int := rfl
theorem c_I_latestSpan_0 : cT 46 0 = o_al 1 0 := rfl
theorem c_I_latestSpan_1 : cT 46 1 = o_gf 4 8 1 := rfl
theorem c_I_latestSpan_4 : cT 46 4 = o_gf 7 2 3 := rfl
theorem c_I_latestSpan_7 : cT 46 7 = o_ci 8 1 := rfl
theorem c_I_latestSpan_8 : cT 46 8 = o_isub 9 := rfl
theorem c_I_latestSpan_9 : cT 46 9 = o_is 10 2 := rfl
theorem c_I_latestSpan_10 : cT 46 10 = o_il 11 2 := rfl
theorem c_I_latestSpan_11 : cT 46 11 = o_iflt 14 35 := rfl
theorem c_I_latestSpan_14 : cT 46 14 = o_al 15 0 := rfl
theorem c_I_latestSpan_15 : cT 46 15 = o_gf 18 8 1 := rfl
theorem c_I_latestSpan_18 : cT 46 18 = o_il 19 2 := rfl
theorem c_I_latestSpan_19 : cT 46 19 = o_ci 20 0 := rfl
theorem c_I_latestSpan_20 : cT 46 20 = o_ca 23 22 3 4 false (some 2) := rfl
theorem c_I_latestSpan_23 : cT 46 23 = o_il 24 1 := rfl
theorem c_I_latestSpan_24 : cT 46 24 = o_icne 27 29 := rfl
theorem c_I_latestSpan_27 : cT 46 27 = o_il 28 2 := rfl
theorem c_I_latestSpan_28 : cT 46 28 = o_iret .int := rfl
theorem c_I_latestSpan_29 : cT 46 29 = o_inc 32 2 (-1) := rfl
theorem c_I_latestSpan_32 : cT 46 32 = o_goto 10 := rfl
theorem c_I_latestSpan_35 : cT 46 35 = o_ci 37 (-1000000005) := rfl
theorem c_I_latestSpan_37 : cT 46 37 = o_iret .int := rfl
theorem c_I_goesOn_0 : cT 47 0 = o_al 1 0 := rfl
theorem c_I_goesOn_1 : cT 47 1 = o_gf 4 8 1 := rfl
theorem c_I_goesOn_4 : cT 47 4 = o_il 5 1 := rfl
theorem c_I_goesOn_5 : cT 47 5 = o_ca 8 21 2 2 false (some 2) := rfl
theorem c_I_goesOn_8 : cT 47 8 = o_ifeq 11 29 := rfl
theorem c_I_goesOn_11 : cT 47 11 = o_al 12 0 := rfl
theorem c_I_goesOn_12 : cT 47 12 = o_gf 15 8 1 := rfl
theorem c_I_goesOn_15 : cT 47 15 = o_il 16 1 := rfl
theorem c_I_goesOn_16 : cT 47 16 = o_ci 17 2 := rfl
theorem c_I_goesOn_17 : cT 47 17 = o_ca 20 22 3 4 false (some 2) := rfl
theorem c_I_goesOn_20 : cT 47 20 = o_ci 22 2147483647 := rfl
theorem c_I_goesOn_22 : cT 47 22 = o_icne 25 29 := rfl
theorem c_I_goesOn_25 : cT 47 25 = o_ci 26 1 := rfl
theorem c_I_goesOn_26 : cT 47 26 = o_goto 30 := rfl
theorem c_I_goesOn_29 : cT 47 29 = o_ci 30 0 := rfl
theorem c_I_goesOn_30 : cT 47 30 = o_iret .boolean := rfl
theorem c_B_hasFled_0 : cT 48 0 = o_al 1 0 := rfl
theorem c_B_hasFled_1 : cT 48 1 = o_il 2 1 := rfl
theorem c_B_hasFled_2 : cT 48 2 = o_ca 5 41 2 2 false (some 0) := rfl
theorem c_B_hasFled_5 : cT 48 5 = o_ifne 8 30 := rfl
theorem c_B_hasFled_8 : cT 48 8 = o_al 9 0 := rfl
theorem c_B_hasFled_9 : cT 48 9 = o_gf 12 0 6 := rfl
theorem c_B_hasFled_12 : cT 48 12 = o_al 13 0 := rfl
theorem c_B_hasFled_13 : cT 48 13 = o_gf 16 0 6 := rfl
theorem c_B_hasFled_16 : cT 48 16 = o_il 17 1 := rfl
theorem c_B_hasFled_17 : cT 48 17 = o_ca 20 46 2 3 false (some 8) := rfl
theorem c_B_hasFled_20 : cT 48 20 = o_ca 23 47 2 2 false (some 8) := rfl
theorem c_B_hasFled_23 : cT 48 23 = o_ifne 26 30 := rfl
theorem c_B_hasFled_26 : cT 48 26 = o_ci 27 1 := rfl
theorem c_B_hasFled_27 : cT 48 27 = o_goto 31 := rfl
theorem c_B_hasFled_30 : cT 48 30 = o_ci 31 0 := rfl
theorem c_B_hasFled_31 : cT 48 31 = o_iret .boolean := rfl
theorem c_I_endSpan_0 : cT 49 0 = o_al 1 0 := rfl
theorem c_I_endSpan_1 : cT 49 1 = o_il 2 1 := rfl
theorem c_I_endSpan_2 : cT 49 2 = o_ca 5 46 2 3 false (some 8) := rfl
theorem c_I_endSpan_5 : cT 49 5 = o_is 6 3 := rfl
theorem c_I_endSpan_6 : cT 49 6 = o_al 7 0 := rfl
theorem c_I_endSpan_7 : cT 49 7 = o_il 8 3 := rfl
theorem c_I_endSpan_8 : cT 49 8 = o_ca 11 47 2 2 false (some 8) := rfl
theorem c_I_endSpan_11 : cT 49 11 = o_ifeq 14 24 := rfl
theorem c_I_endSpan_14 : cT 49 14 = o_al 15 0 := rfl
theorem c_I_endSpan_15 : cT 49 15 = o_gf 18 8 1 := rfl
theorem c_I_endSpan_18 : cT 49 18 = o_il 19 3 := rfl
theorem c_I_endSpan_19 : cT 49 19 = o_ci 20 2 := rfl
theorem c_I_endSpan_20 : cT 49 20 = o_il 21 2 := rfl
theorem c_I_endSpan_21 : cT 49 21 = o_ca 24 13 4 5 false (some 2) := rfl
theorem c_I_endSpan_24 : cT 49 24 = o_vret := rfl
theorem c_B_leave_0 : cT 55 0 = o_al 1 0 := rfl
theorem c_B_leave_1 : cT 55 1 = o_gf 4 0 0 := rfl
theorem c_B_leave_4 : cT 55 4 = o_il 5 1 := rfl
theorem c_B_leave_5 : cT 55 5 = o_ci 6 3 := rfl
theorem c_B_leave_6 : cT 55 6 = o_il 7 2 := rfl
theorem c_B_leave_7 : cT 55 7 = o_ca 10 13 4 5 false (some 2) := rfl
theorem c_B_leave_10 : cT 55 10 = o_al 11 0 := rfl
theorem c_B_leave_11 : cT 55 11 = o_gf 14 0 6 := rfl
theorem c_B_leave_14 : cT 55 14 = o_il 15 1 := rfl
theorem c_B_leave_15 : cT 55 15 = o_al 16 0 := rfl
theorem c_B_leave_16 : cT 55 16 = o_gf 19 0 8 := rfl
theorem c_B_leave_19 : cT 55 19 = o_ca 22 49 3 4 false (some 8) := rfl
theorem c_B_leave_22 : cT 55 22 = o_vret := rfl
theorem c_I_freeDays_0 : cT 59 0 = o_ci 1 0 := rfl
theorem c_I_freeDays_1 : cT 59 1 = o_is 3 4 := rfl
theorem c_I_freeDays_3 : cT 59 3 = o_il 4 2 := rfl
theorem c_I_freeDays_4 : cT 59 4 = o_is 6 5 := rfl
theorem c_I_freeDays_6 : cT 59 6 = o_ci 7 0 := rfl
theorem c_I_freeDays_7 : cT 59 7 = o_is 9 6 := rfl
theorem c_I_freeDays_9 : cT 59 9 = o_il 11 5 := rfl
theorem c_I_freeDays_11 : cT 59 11 = o_il 12 3 := rfl
theorem c_I_freeDays_12 : cT 59 12 = o_icge 15 163 := rfl
theorem c_I_freeDays_15 : cT 59 15 = o_il 17 6 := rfl
theorem c_I_freeDays_17 : cT 59 17 = o_ci 18 2 := rfl
theorem c_I_freeDays_18 : cT 59 18 = o_al 19 0 := rfl
theorem c_I_freeDays_19 : cT 59 19 = o_gf 22 8 2 := rfl
theorem c_I_freeDays_22 : cT 59 22 = o_gf 25 2 0 := rfl
theorem c_I_freeDays_25 : cT 59 25 = o_imul 26 := rfl
theorem c_I_freeDays_26 : cT 59 26 = o_ci 27 1 := rfl
theorem c_I_freeDays_27 : cT 59 27 = o_iadd 28 := rfl
theorem c_I_freeDays_28 : cT 59 28 = o_icgt 31 163 := rfl
theorem c_I_freeDays_31 : cT 59 31 = o_il 33 5 := rfl
theorem c_I_freeDays_33 : cT 59 33 = o_is 35 7 := rfl
theorem c_I_freeDays_35 : cT 59 35 = o_il 36 3 := rfl
theorem c_I_freeDays_36 : cT 59 36 = o_is 38 8 := rfl
theorem c_I_freeDays_38 : cT 59 38 = o_ci 39 0 := rfl
theorem c_I_freeDays_39 : cT 59 39 = o_is 41 9 := rfl
theorem c_I_freeDays_41 : cT 59 41 = o_il 43 9 := rfl
theorem c_I_freeDays_43 : cT 59 43 = o_al 44 0 := rfl
theorem c_I_freeDays_44 : cT 59 44 = o_gf 47 8 2 := rfl
theorem c_I_freeDays_47 : cT 59 47 = o_gf 50 2 3 := rfl
theorem c_I_freeDays_50 : cT 59 50 = o_icge 53 124 := rfl
theorem c_I_freeDays_53 : cT 59 53 = o_al 54 0 := rfl
theorem c_I_freeDays_54 : cT 59 54 = o_gf 57 8 2 := rfl
theorem c_I_freeDays_57 : cT 59 57 = o_il 59 9 := rfl
theorem c_I_freeDays_59 : cT 59 59 = o_ci 60 0 := rfl
theorem c_I_freeDays_60 : cT 59 60 = o_ca 63 22 3 4 false (some 2) := rfl
theorem c_I_freeDays_63 : cT 59 63 = o_il 64 1 := rfl
theorem c_I_freeDays_64 : cT 59 64 = o_iceq 67 70 := rfl
theorem c_I_freeDays_67 : cT 59 67 = o_goto 118 := rfl
theorem c_I_freeDays_70 : cT 59 70 = o_al 71 0 := rfl
theorem c_I_freeDays_71 : cT 59 71 = o_gf 74 8 2 := rfl
theorem c_I_freeDays_74 : cT 59 74 = o_il 76 9 := rfl
theorem c_I_freeDays_76 : cT 59 76 = o_ci 77 1 := rfl
theorem c_I_freeDays_77 : cT 59 77 = o_ca 80 22 3 4 false (some 2) := rfl
theorem c_I_freeDays_80 : cT 59 80 = o_is 82 10 := rfl
theorem c_I_freeDays_82 : cT 59 82 = o_il 84 10 := rfl
theorem c_I_freeDays_84 : cT 59 84 = o_il 86 5 := rfl
theorem c_I_freeDays_86 : cT 59 86 = o_icgt 89 109 := rfl
theorem c_I_freeDays_89 : cT 59 89 = o_il 91 7 := rfl
theorem c_I_freeDays_91 : cT 59 91 = o_al 92 0 := rfl
theorem c_I_freeDays_92 : cT 59 92 = o_gf 95 8 2 := rfl
theorem c_I_freeDays_95 : cT 59 95 = o_il 97 9 := rfl
theorem c_I_freeDays_97 : cT 59 97 = o_ci 98 2 := rfl
theorem c_I_freeDays_98 : cT 59 98 = o_ca 101 22 3 4 false (some 2) := rfl
theorem c_I_freeDays_101 : cT 59 101 = o_ca 104 0 2 2 false none := rfl
theorem c_I_freeDays_104 : cT 59 104 = o_is 106 7 := rfl
theorem c_I_freeDays_106 : cT 59 106 = o_goto 118 := rfl
theorem c_I_freeDays_109 : cT 59 109 = o_il 111 8 := rfl
theorem c_I_freeDays_111 : cT 59 111 = o_il 113 10 := rfl
theorem c_I_freeDays_113 : cT 59 113 = o_ca 116 58 2 2 false none := rfl
theorem c_I_freeDays_116 : cT 59 116 = o_is 118 8 := rfl
theorem c_I_freeDays_118 : cT 59 118 = o_inc 121 9 1 := rfl
theorem c_I_freeDays_121 : cT 59 121 = o_goto 41 := rfl
theorem c_I_freeDays_124 : cT 59 124 = o_il 126 7 := rfl
theorem c_I_freeDays_126 : cT 59 126 = o_il 128 5 := rfl
theorem c_I_freeDays_128 : cT 59 128 = o_icne 131 141 := rfl
theorem c_I_freeDays_131 : cT 59 131 = o_il 133 4 := rfl
theorem c_I_freeDays_133 : cT 59 133 = o_il 135 8 := rfl
theorem c_I_freeDays_135 : cT 59 135 = o_il 137 5 := rfl
theorem c_I_freeDays_137 : cT 59 137 = o_isub 138 := rfl
theorem c_I_freeDays_138 : cT 59 138 = o_iadd 139 := rfl
theorem c_I_freeDays_139 : cT 59 139 = o_is 141 4 := rfl
theorem c_I_freeDays_141 : cT 59 141 = o_il 143 7 := rfl
theorem c_I_freeDays_143 : cT 59 143 = o_il 145 5 := rfl
theorem c_I_freeDays_145 : cT 59 145 = o_icne 148 153 := rfl
theorem c_I_freeDays_148 : cT 59 148 = o_il 150 8 := rfl
theorem c_I_freeDays_150 : cT 59 150 = o_goto 155 := rfl
theorem c_I_freeDays_153 : cT 59 153 = o_il 155 7 := rfl
theorem c_I_freeDays_155 : cT 59 155 = o_is 157 5 := rfl
theorem c_I_freeDays_157 : cT 59 157 = o_inc 160 6 1 := rfl
theorem c_I_freeDays_160 : cT 59 160 = o_goto 9 := rfl
theorem c_I_freeDays_163 : cT 59 163 = o_il 165 4 := rfl
theorem c_I_freeDays_165 : cT 59 165 = o_iret .int := rfl
theorem c_I_servedOf_0 : cT 60 0 = o_ci 1 0 := rfl
theorem c_I_servedOf_1 : cT 60 1 = o_is 2 3 := rfl
theorem c_I_servedOf_2 : cT 60 2 = o_ci 3 0 := rfl
theorem c_I_servedOf_3 : cT 60 3 = o_is 5 4 := rfl
theorem c_I_servedOf_5 : cT 60 5 = o_il 7 4 := rfl
theorem c_I_servedOf_7 : cT 60 7 = o_al 8 0 := rfl
theorem c_I_servedOf_8 : cT 60 8 = o_gf 11 8 1 := rfl
theorem c_I_servedOf_11 : cT 60 11 = o_gf 14 2 3 := rfl
theorem c_I_servedOf_14 : cT 60 14 = o_icge 17 72 := rfl
theorem c_I_servedOf_17 : cT 60 17 = o_al 18 0 := rfl
theorem c_I_servedOf_18 : cT 60 18 = o_gf 21 8 1 := rfl
theorem c_I_servedOf_21 : cT 60 21 = o_il 23 4 := rfl
theorem c_I_servedOf_23 : cT 60 23 = o_ci 24 0 := rfl
theorem c_I_servedOf_24 : cT 60 24 = o_ca 27 22 3 4 false (some 2) := rfl
theorem c_I_servedOf_27 : cT 60 27 = o_il 28 1 := rfl
theorem c_I_servedOf_28 : cT 60 28 = o_iceq 31 34 := rfl
theorem c_I_servedOf_31 : cT 60 31 = o_goto 66 := rfl
theorem c_I_servedOf_34 : cT 60 34 = o_il 35 3 := rfl
theorem c_I_servedOf_35 : cT 60 35 = o_al 36 0 := rfl
theorem c_I_servedOf_36 : cT 60 36 = o_il 37 1 := rfl
theorem c_I_servedOf_37 : cT 60 37 = o_al 38 0 := rfl
theorem c_I_servedOf_38 : cT 60 38 = o_gf 41 8 1 := rfl
theorem c_I_servedOf_41 : cT 60 41 = o_il 43 4 := rfl
theorem c_I_servedOf_43 : cT 60 43 = o_ci 44 1 := rfl
theorem c_I_servedOf_44 : cT 60 44 = o_ca 47 22 3 4 false (some 2) := rfl
theorem c_I_servedOf_47 : cT 60 47 = o_il 48 2 := rfl
theorem c_I_servedOf_48 : cT 60 48 = o_al 49 0 := rfl
theorem c_I_servedOf_49 : cT 60 49 = o_gf 52 8 1 := rfl
theorem c_I_servedOf_52 : cT 60 52 = o_il 54 4 := rfl
theorem c_I_servedOf_54 : cT 60 54 = o_ci 55 2 := rfl
theorem c_I_servedOf_55 : cT 60 55 = o_ca 58 22 3 4 false (some 2) := rfl
theorem c_I_servedOf_58 : cT 60 58 = o_ca 61 58 2 2 false none := rfl
theorem c_I_servedOf_61 : cT 60 61 = o_ca 64 59 4 11 false (some 8) := rfl
theorem c_I_servedOf_64 : cT 60 64 = o_iadd 65 := rfl
theorem c_I_servedOf_65 : cT 60 65 = o_is 66 3 := rfl
theorem c_I_servedOf_66 : cT 60 66 = o_inc 69 4 1 := rfl
theorem c_I_servedOf_69 : cT 60 69 = o_goto 5 := rfl
theorem c_I_servedOf_72 : cT 60 72 = o_il 73 3 := rfl
theorem c_I_servedOf_73 : cT 60 73 = o_iret .int := rfl
theorem c_I_creditOf_0 : cT 70 0 = o_ci 1 0 := rfl
theorem c_I_creditOf_1 : cT 70 1 = o_is 2 3 := rfl
theorem c_I_creditOf_2 : cT 70 2 = o_ci 3 0 := rfl
theorem c_I_creditOf_3 : cT 70 3 = o_is 5 4 := rfl
theorem c_I_creditOf_5 : cT 70 5 = o_il 7 4 := rfl
theorem c_I_creditOf_7 : cT 70 7 = o_al 8 0 := rfl
theorem c_I_creditOf_8 : cT 70 8 = o_gf 11 8 3 := rfl
theorem c_I_creditOf_11 : cT 70 11 = o_gf 14 2 3 := rfl
theorem c_I_creditOf_14 : cT 70 14 = o_icge 17 81 := rfl
theorem c_I_creditOf_17 : cT 70 17 = o_al 18 0 := rfl
theorem c_I_creditOf_18 : cT 70 18 = o_gf 21 8 3 := rfl
theorem c_I_creditOf_21 : cT 70 21 = o_il 23 4 := rfl
theorem c_I_creditOf_23 : cT 70 23 = o_ci 24 0 := rfl
theorem c_I_creditOf_24 : cT 70 24 = o_ca 27 22 3 4 false (some 2) := rfl
theorem c_I_creditOf_27 : cT 70 27 = o_il 28 1 := rfl
theorem c_I_creditOf_28 : cT 70 28 = o_icne 31 75 := rfl
theorem c_I_creditOf_31 : cT 70 31 = o_al 32 0 := rfl
theorem c_I_creditOf_32 : cT 70 32 = o_gf 35 8 3 := rfl
theorem c_I_creditOf_35 : cT 70 35 = o_il 37 4 := rfl
theorem c_I_creditOf_37 : cT 70 37 = o_ci 38 2 := rfl
theorem c_I_creditOf_38 : cT 70 38 = o_ca 41 22 3 4 false (some 2) := rfl
theorem c_I_creditOf_41 : cT 70 41 = o_il 42 2 := rfl
theorem c_I_creditOf_42 : cT 70 42 = o_icle 45 48 := rfl
theorem c_I_creditOf_45 : cT 70 45 = o_goto 75 := rfl
theorem c_I_creditOf_48 : cT 70 48 = o_al 49 0 := rfl
theorem c_I_creditOf_49 : cT 70 49 = o_gf 52 8 3 := rfl
theorem c_I_creditOf_52 : cT 70 52 = o_il 54 4 := rfl
theorem c_I_creditOf_54 : cT 70 54 = o_ci 55 3 := rfl
theorem c_I_creditOf_55 : cT 70 55 = o_ca 58 22 3 4 false (some 2) := rfl
theorem c_I_creditOf_58 : cT 70 58 = o_il 59 2 := rfl
theorem c_I_creditOf_59 : cT 70 59 = o_icle 62 75 := rfl
theorem c_I_creditOf_62 : cT 70 62 = o_il 63 3 := rfl
theorem c_I_creditOf_63 : cT 70 63 = o_al 64 0 := rfl
theorem c_I_creditOf_64 : cT 70 64 = o_gf 67 8 3 := rfl
theorem c_I_creditOf_67 : cT 70 67 = o_il 69 4 := rfl
theorem c_I_creditOf_69 : cT 70 69 = o_ci 70 1 := rfl
theorem c_I_creditOf_70 : cT 70 70 = o_ca 73 22 3 4 false (some 2) := rfl
theorem c_I_creditOf_73 : cT 70 73 = o_iadd 74 := rfl
theorem c_I_creditOf_74 : cT 70 74 = o_is 75 3 := rfl
theorem c_I_creditOf_75 : cT 70 75 = o_inc 78 4 1 := rfl
theorem c_I_creditOf_78 : cT 70 78 = o_goto 5 := rfl
theorem c_I_creditOf_81 : cT 70 81 = o_il 82 3 := rfl
theorem c_I_creditOf_82 : cT 70 82 = o_iret .int := rfl
theorem c_L_textAt_0 : cT 74 0 = o_il 1 1 := rfl
theorem c_L_textAt_1 : cT 74 1 = o_iflt 4 30 := rfl
theorem c_L_textAt_4 : cT 74 4 = o_il 5 1 := rfl
theorem c_L_textAt_5 : cT 74 5 = o_al 6 0 := rfl
theorem c_L_textAt_6 : cT 74 6 = o_gf 9 1 1 := rfl
theorem c_L_textAt_9 : cT 74 9 = o_icge 12 30 := rfl
theorem c_L_textAt_12 : cT 74 12 = o_il 13 1 := rfl
theorem c_L_textAt_13 : cT 74 13 = o_al 14 0 := rfl
theorem c_L_textAt_14 : cT 74 14 = o_gf 17 1 0 := rfl
theorem c_L_textAt_17 : cT 74 17 = o_len 18 := rfl
theorem c_L_textAt_18 : cT 74 18 = o_icge 21 30 := rfl
theorem c_L_textAt_21 : cT 74 21 = o_al 22 0 := rfl
theorem c_L_textAt_22 : cT 74 22 = o_gf 25 1 0 := rfl
theorem c_L_textAt_25 : cT 74 25 = o_il 26 1 := rfl
theorem c_L_textAt_26 : cT 74 26 = o_aal 27 4 := rfl
theorem c_L_textAt_27 : cT 74 27 = o_goto 31 := rfl
theorem c_L_textAt_30 : cT 74 30 = o_nul 31 := rfl
theorem c_L_textAt_31 : cT 74 31 = o_aret := rfl
theorem c_T_counts_0 : cT 75 0 = o_al 1 0 := rfl
theorem c_T_counts_1 : cT 75 1 = o_gf 4 6 0 := rfl
theorem c_T_counts_4 : cT 75 4 = o_il 5 2 := rfl
theorem c_T_counts_5 : cT 75 5 = o_icne 8 37 := rfl
theorem c_T_counts_8 : cT 75 8 = o_al 9 0 := rfl
theorem c_T_counts_9 : cT 75 9 = o_gf 12 6 2 := rfl
theorem c_T_counts_12 : cT 75 12 = o_il 13 3 := rfl
theorem c_T_counts_13 : cT 75 13 = o_icgt 16 37 := rfl
theorem c_T_counts_16 : cT 75 16 = o_al 17 0 := rfl
theorem c_T_counts_17 : cT 75 17 = o_gf 20 6 1 := rfl
theorem c_T_counts_20 : cT 75 20 = o_il 21 1 := rfl
theorem c_T_counts_21 : cT 75 21 = o_iceq 24 33 := rfl
theorem c_T_counts_24 : cT 75 24 = o_al 25 0 := rfl
theorem c_T_counts_25 : cT 75 25 = o_gf 28 6 1 := rfl
theorem c_T_counts_28 : cT 75 28 = o_ci 30 8 := rfl
theorem c_T_counts_30 : cT 75 30 = o_icne 33 37 := rfl
theorem c_T_counts_33 : cT 75 33 = o_ci 34 1 := rfl
theorem c_T_counts_34 : cT 75 34 = o_goto 38 := rfl
theorem c_T_counts_37 : cT 75 37 = o_ci 38 0 := rfl
theorem c_T_counts_38 : cT 75 38 = o_iret .boolean := rfl
theorem c_L_countingText_0 : cT 76 0 = o_ci 2 (-1000000005) := rfl
theorem c_L_countingText_2 : cT 76 2 = o_is 4 4 := rfl
theorem c_L_countingText_4 : cT 76 4 = o_ci 5 (-1) := rfl
theorem c_L_countingText_5 : cT 76 5 = o_is 7 5 := rfl
theorem c_L_countingText_7 : cT 76 7 = o_ci 8 0 := rfl
theorem c_L_countingText_8 : cT 76 8 = o_is 10 6 := rfl
theorem c_L_countingText_10 : cT 76 10 = o_il 12 6 := rfl
theorem c_L_countingText_12 : cT 76 12 = o_al 13 0 := rfl
theorem c_L_countingText_13 : cT 76 13 = o_gf 16 1 1 := rfl
theorem c_L_countingText_16 : cT 76 16 = o_icge 19 73 := rfl
theorem c_L_countingText_19 : cT 76 19 = o_al 20 0 := rfl
theorem c_L_countingText_20 : cT 76 20 = o_il 22 6 := rfl
theorem c_L_countingText_22 : cT 76 22 = o_ca 25 74 2 2 false (some 1) := rfl
theorem c_L_countingText_25 : cT 76 25 = o_as 27 7 := rfl
theorem c_L_countingText_27 : cT 76 27 = o_al 29 7 := rfl
theorem c_L_countingText_29 : cT 76 29 = o_ifnull 32 67 := rfl
theorem c_L_countingText_32 : cT 76 32 = o_al 34 7 := rfl
theorem c_L_countingText_34 : cT 76 34 = o_il 35 1 := rfl
theorem c_L_countingText_35 : cT 76 35 = o_il 36 2 := rfl
theorem c_L_countingText_36 : cT 76 36 = o_il 37 3 := rfl
theorem c_L_countingText_37 : cT 76 37 = o_ca 40 75 4 4 false (some 6) := rfl
theorem c_L_countingText_40 : cT 76 40 = o_ifeq 43 67 := rfl
theorem c_L_countingText_43 : cT 76 43 = o_al 45 7 := rfl
theorem c_L_countingText_45 : cT 76 45 = o_gf 48 6 2 := rfl
theorem c_L_countingText_48 : cT 76 48 = o_il 50 5 := rfl
theorem c_L_countingText_50 : cT 76 50 = o_icge 53 56 := rfl
theorem c_L_countingText_53 : cT 76 53 = o_goto 67 := rfl
theorem c_L_countingText_56 : cT 76 56 = o_il 58 6 := rfl
theorem c_L_countingText_58 : cT 76 58 = o_is 60 4 := rfl
theorem c_L_countingText_60 : cT 76 60 = o_al 62 7 := rfl
theorem c_L_countingText_62 : cT 76 62 = o_gf 65 6 2 := rfl
theorem c_L_countingText_65 : cT 76 65 = o_is 67 5 := rfl
theorem c_L_countingText_67 : cT 76 67 = o_inc 70 6 1 := rfl
theorem c_L_countingText_70 : cT 76 70 = o_goto 10 := rfl
theorem c_L_countingText_73 : cT 76 73 = o_il 75 4 := rfl
theorem c_L_countingText_75 : cT 76 75 = o_iret .int := rfl
theorem c_L_unwritten_0 : cT 77 0 = o_il 1 0 := rfl
theorem c_L_unwritten_1 : cT 77 1 = o_sw 44 [(0, 32), (1, 36), (3, 41)] := rfl
theorem c_L_unwritten_32 : cT 77 32 = o_il 33 1 := rfl
theorem c_L_unwritten_33 : cT 77 33 = o_ci 34 2 := rfl
theorem c_L_unwritten_34 : cT 77 34 = o_idiv 35 := rfl
theorem c_L_unwritten_35 : cT 77 35 = o_iret .int := rfl
theorem c_L_unwritten_36 : cT 77 36 = o_ci 38 7 := rfl
theorem c_L_unwritten_38 : cT 77 38 = o_il 39 1 := rfl
theorem c_L_unwritten_39 : cT 77 39 = o_imul 40 := rfl
theorem c_L_unwritten_40 : cT 77 40 = o_iret .int := rfl
theorem c_L_unwritten_41 : cT 77 41 = o_ci 43 28 := rfl
theorem c_L_unwritten_43 : cT 77 43 = o_iret .int := rfl
theorem c_L_unwritten_44 : cT 77 44 = o_ci 45 0 := rfl
theorem c_L_unwritten_45 : cT 77 45 = o_iret .int := rfl
theorem c_K_clear_0 : cT 78 0 = o_al 1 0 := rfl
theorem c_K_clear_1 : cT 78 1 = o_ci 2 0 := rfl
theorem c_K_clear_2 : cT 78 2 = o_pf 5 4 1 0 := rfl
theorem c_K_clear_5 : cT 78 5 = o_vret := rfl
theorem c_K_push_0 : cT 79 0 = o_al 1 0 := rfl
theorem c_K_push_1 : cT 79 1 = o_gf 4 4 1 := rfl
theorem c_K_push_4 : cT 79 4 = o_iflt 7 19 := rfl
theorem c_K_push_7 : cT 79 7 = o_al 8 0 := rfl
theorem c_K_push_8 : cT 79 8 = o_gf 11 4 1 := rfl
theorem c_K_push_11 : cT 79 11 = o_al 12 0 := rfl
theorem c_K_push_12 : cT 79 12 = o_gf 15 4 0 := rfl
theorem c_K_push_15 : cT 79 15 = o_len 16 := rfl
theorem c_K_push_16 : cT 79 16 = o_iclt 19 20 := rfl
theorem c_K_push_19 : cT 79 19 = o_vret := rfl
theorem c_K_push_20 : cT 79 20 = o_al 21 0 := rfl
theorem c_K_push_21 : cT 79 21 = o_gf 24 4 0 := rfl
theorem c_K_push_24 : cT 79 24 = o_al 25 0 := rfl
theorem c_K_push_25 : cT 79 25 = o_gf 28 4 1 := rfl
theorem c_K_push_28 : cT 79 28 = o_il 29 1 := rfl
theorem c_K_push_29 : cT 79 29 = o_ias 30 := rfl
theorem c_K_push_30 : cT 79 30 = o_al 31 0 := rfl
theorem c_K_push_31 : cT 79 31 = o_dup 32 := rfl
theorem c_K_push_32 : cT 79 32 = o_gf 35 4 1 := rfl
theorem c_K_push_35 : cT 79 35 = o_ci 36 1 := rfl
theorem c_K_push_36 : cT 79 36 = o_iadd 37 := rfl
theorem c_K_push_37 : cT 79 37 = o_pf 40 4 1 0 := rfl
theorem c_K_push_40 : cT 79 40 = o_vret := rfl
theorem c_T_named_0 : cT 80 0 = o_il 1 0 := rfl
theorem c_T_named_1 : cT 80 1 = o_sw 34 [(0, 28), (1, 30), (2, 32)] := rfl
theorem c_T_named_28 : cT 80 28 = o_il 29 1 := rfl
theorem c_T_named_29 : cT 80 29 = o_iret .int := rfl
theorem c_T_named_30 : cT 80 30 = o_il 31 2 := rfl
theorem c_T_named_31 : cT 80 31 = o_iret .int := rfl
theorem c_T_named_32 : cT 80 32 = o_il 33 3 := rfl
theorem c_T_named_33 : cT 80 33 = o_iret .int := rfl
theorem c_T_named_34 : cT 80 34 = o_il 36 4 := rfl
theorem c_T_named_36 : cT 80 36 = o_iret .int := rfl
theorem c_K_pop_0 : cT 81 0 = o_al 1 0 := rfl
theorem c_K_pop_1 : cT 81 1 = o_gf 4 4 1 := rfl
theorem c_K_pop_4 : cT 81 4 = o_ifle 7 19 := rfl
theorem c_K_pop_7 : cT 81 7 = o_al 8 0 := rfl
theorem c_K_pop_8 : cT 81 8 = o_gf 11 4 1 := rfl
theorem c_K_pop_11 : cT 81 11 = o_al 12 0 := rfl
theorem c_K_pop_12 : cT 81 12 = o_gf 15 4 0 := rfl
theorem c_K_pop_15 : cT 81 15 = o_len 16 := rfl
theorem c_K_pop_16 : cT 81 16 = o_icle 19 21 := rfl
theorem c_K_pop_19 : cT 81 19 = o_ci 20 0 := rfl
theorem c_K_pop_20 : cT 81 20 = o_iret .int := rfl
theorem c_K_pop_21 : cT 81 21 = o_al 22 0 := rfl
theorem c_K_pop_22 : cT 81 22 = o_dup 23 := rfl
theorem c_K_pop_23 : cT 81 23 = o_gf 26 4 1 := rfl
theorem c_K_pop_26 : cT 81 26 = o_ci 27 1 := rfl
theorem c_K_pop_27 : cT 81 27 = o_isub 28 := rfl
theorem c_K_pop_28 : cT 81 28 = o_pf 31 4 1 0 := rfl
theorem c_K_pop_31 : cT 81 31 = o_al 32 0 := rfl
theorem c_K_pop_32 : cT 81 32 = o_gf 35 4 0 := rfl
theorem c_K_pop_35 : cT 81 35 = o_al 36 0 := rfl
theorem c_K_pop_36 : cT 81 36 = o_gf 39 4 1 := rfl
theorem c_K_pop_39 : cT 81 39 = o_ial 40 := rfl
theorem c_K_pop_40 : cT 81 40 = o_iret .int := rfl
theorem c_T_joined_0 : cT 82 0 = o_il 1 1 := rfl
theorem c_T_joined_1 : cT 82 1 = o_sw 169 [(38, 141), (42, 84), (43, 100), (45, 104), (47, 88), (60, 108), (61, 119), (62, 130), (124, 155)] := rfl
theorem c_T_joined_84 : cT 82 84 = o_il 85 0 := rfl
theorem c_T_joined_85 : cT 82 85 = o_il 86 2 := rfl
theorem c_T_joined_86 : cT 82 86 = o_imul 87 := rfl
theorem c_T_joined_87 : cT 82 87 = o_iret .int := rfl
theorem c_T_joined_88 : cT 82 88 = o_il 89 2 := rfl
theorem c_T_joined_89 : cT 82 89 = o_ifne 92 96 := rfl
theorem c_T_joined_92 : cT 82 92 = o_ci 93 0 := rfl
theorem c_T_joined_93 : cT 82 93 = o_goto 99 := rfl
theorem c_T_joined_96 : cT 82 96 = o_il 97 0 := rfl
theorem c_T_joined_97 : cT 82 97 = o_il 98 2 := rfl
theorem c_T_joined_98 : cT 82 98 = o_idiv 99 := rfl
theorem c_T_joined_99 : cT 82 99 = o_iret .int := rfl
theorem c_T_joined_100 : cT 82 100 = o_il 101 0 := rfl
theorem c_T_joined_101 : cT 82 101 = o_il 102 2 := rfl
theorem c_T_joined_102 : cT 82 102 = o_iadd 103 := rfl
theorem c_T_joined_103 : cT 82 103 = o_iret .int := rfl
theorem c_T_joined_104 : cT 82 104 = o_il 105 0 := rfl
theorem c_T_joined_105 : cT 82 105 = o_il 106 2 := rfl
theorem c_T_joined_106 : cT 82 106 = o_isub 107 := rfl
theorem c_T_joined_107 : cT 82 107 = o_iret .int := rfl
theorem c_T_joined_108 : cT 82 108 = o_il 109 0 := rfl
theorem c_T_joined_109 : cT 82 109 = o_il 110 2 := rfl
theorem c_T_joined_110 : cT 82 110 = o_icge 113 117 := rfl
theorem c_T_joined_113 : cT 82 113 = o_ci 114 1 := rfl
theorem c_T_joined_114 : cT 82 114 = o_goto 118 := rfl
theorem c_T_joined_117 : cT 82 117 = o_ci 118 0 := rfl
theorem c_T_joined_118 : cT 82 118 = o_iret .int := rfl
theorem c_T_joined_119 : cT 82 119 = o_il 120 0 := rfl
theorem c_T_joined_120 : cT 82 120 = o_il 121 2 := rfl
theorem c_T_joined_121 : cT 82 121 = o_icne 124 128 := rfl
theorem c_T_joined_124 : cT 82 124 = o_ci 125 1 := rfl
theorem c_T_joined_125 : cT 82 125 = o_goto 129 := rfl
theorem c_T_joined_128 : cT 82 128 = o_ci 129 0 := rfl
theorem c_T_joined_129 : cT 82 129 = o_iret .int := rfl
theorem c_T_joined_130 : cT 82 130 = o_il 131 0 := rfl
theorem c_T_joined_131 : cT 82 131 = o_il 132 2 := rfl
theorem c_T_joined_132 : cT 82 132 = o_icle 135 139 := rfl
theorem c_T_joined_135 : cT 82 135 = o_ci 136 1 := rfl
theorem c_T_joined_136 : cT 82 136 = o_goto 140 := rfl
theorem c_T_joined_139 : cT 82 139 = o_ci 140 0 := rfl
theorem c_T_joined_140 : cT 82 140 = o_iret .int := rfl
theorem c_T_joined_141 : cT 82 141 = o_il 142 0 := rfl
theorem c_T_joined_142 : cT 82 142 = o_ifeq 145 153 := rfl
theorem c_T_joined_145 : cT 82 145 = o_il 146 2 := rfl
theorem c_T_joined_146 : cT 82 146 = o_ifeq 149 153 := rfl
theorem c_T_joined_149 : cT 82 149 = o_ci 150 1 := rfl
theorem c_T_joined_150 : cT 82 150 = o_goto 154 := rfl
theorem c_T_joined_153 : cT 82 153 = o_ci 154 0 := rfl
theorem c_T_joined_154 : cT 82 154 = o_iret .int := rfl
theorem c_T_joined_155 : cT 82 155 = o_il 156 0 := rfl
theorem c_T_joined_156 : cT 82 156 = o_ifne 159 163 := rfl
theorem c_T_joined_159 : cT 82 159 = o_il 160 2 := rfl
theorem c_T_joined_160 : cT 82 160 = o_ifeq 163 167 := rfl
theorem c_T_joined_163 : cT 82 163 = o_ci 164 1 := rfl
theorem c_T_joined_164 : cT 82 164 = o_goto 168 := rfl
theorem c_T_joined_167 : cT 82 167 = o_ci 168 0 := rfl
theorem c_T_joined_168 : cT 82 168 = o_iret .int := rfl
theorem c_T_joined_169 : cT 82 169 = o_ci 170 0 := rfl
theorem c_T_joined_170 : cT 82 170 = o_iret .int := rfl
theorem c_T_value_0 : cT 83 0 = o_al 1 1 := rfl
theorem c_T_value_1 : cT 83 1 = o_ca 4 78 1 1 false (some 4) := rfl
theorem c_T_value_4 : cT 83 4 = o_ci 5 0 := rfl
theorem c_T_value_5 : cT 83 5 = o_is 7 6 := rfl
theorem c_T_value_7 : cT 83 7 = o_il 9 6 := rfl
theorem c_T_value_9 : cT 83 9 = o_al 10 0 := rfl
theorem c_T_value_10 : cT 83 10 = o_gf 13 6 4 := rfl
theorem c_T_value_13 : cT 83 13 = o_len 14 := rfl
theorem c_T_value_14 : cT 83 14 = o_icge 17 125 := rfl
theorem c_T_value_17 : cT 83 17 = o_al 18 0 := rfl
theorem c_T_value_18 : cT 83 18 = o_gf 21 6 4 := rfl
theorem c_T_value_21 : cT 83 21 = o_il 23 6 := rfl
theorem c_T_value_23 : cT 83 23 = o_ial 24 := rfl
theorem c_T_value_24 : cT 83 24 = o_is 26 7 := rfl
theorem c_T_value_26 : cT 83 26 = o_il 28 7 := rfl
theorem c_T_value_28 : cT 83 28 = o_iflt 31 40 := rfl
theorem c_T_value_31 : cT 83 31 = o_al 32 1 := rfl
theorem c_T_value_32 : cT 83 32 = o_il 34 7 := rfl
theorem c_T_value_34 : cT 83 34 = o_ca 37 79 2 2 false (some 4) := rfl
theorem c_T_value_37 : cT 83 37 = o_goto 119 := rfl
theorem c_T_value_40 : cT 83 40 = o_il 42 7 := rfl
theorem c_T_value_42 : cT 83 42 = o_ci 44 (-4) := rfl
theorem c_T_value_44 : cT 83 44 = o_iclt 47 67 := rfl
theorem c_T_value_47 : cT 83 47 = o_al 48 1 := rfl
theorem c_T_value_48 : cT 83 48 = o_ci 49 (-1) := rfl
theorem c_T_value_49 : cT 83 49 = o_il 51 7 := rfl
theorem c_T_value_51 : cT 83 51 = o_isub 52 := rfl
theorem c_T_value_52 : cT 83 52 = o_il 53 2 := rfl
theorem c_T_value_53 : cT 83 53 = o_il 54 3 := rfl
theorem c_T_value_54 : cT 83 54 = o_il 56 4 := rfl
theorem c_T_value_56 : cT 83 56 = o_il 58 5 := rfl
theorem c_T_value_58 : cT 83 58 = o_ca 61 80 5 5 false none := rfl
theorem c_T_value_61 : cT 83 61 = o_ca 64 79 2 2 false (some 4) := rfl
theorem c_T_value_64 : cT 83 64 = o_goto 119 := rfl
theorem c_T_value_67 : cT 83 67 = o_il 69 7 := rfl
theorem c_T_value_69 : cT 83 69 = o_ci 71 (-33) := rfl
theorem c_T_value_71 : cT 83 71 = o_icne 74 93 := rfl
theorem c_T_value_74 : cT 83 74 = o_al 75 1 := rfl
theorem c_T_value_75 : cT 83 75 = o_al 76 1 := rfl
theorem c_T_value_76 : cT 83 76 = o_ca 79 81 1 1 false (some 4) := rfl
theorem c_T_value_79 : cT 83 79 = o_ifne 82 86 := rfl
theorem c_T_value_82 : cT 83 82 = o_ci 83 1 := rfl
theorem c_T_value_83 : cT 83 83 = o_goto 87 := rfl
theorem c_T_value_86 : cT 83 86 = o_ci 87 0 := rfl
theorem c_T_value_87 : cT 83 87 = o_ca 90 79 2 2 false (some 4) := rfl
theorem c_T_value_90 : cT 83 90 = o_goto 119 := rfl
theorem c_T_value_93 : cT 83 93 = o_al 94 1 := rfl
theorem c_T_value_94 : cT 83 94 = o_ca 97 81 1 1 false (some 4) := rfl
theorem c_T_value_97 : cT 83 97 = o_is 99 8 := rfl
theorem c_T_value_99 : cT 83 99 = o_al 100 1 := rfl
theorem c_T_value_100 : cT 83 100 = o_ca 103 81 1 1 false (some 4) := rfl
theorem c_T_value_103 : cT 83 103 = o_is 105 9 := rfl
theorem c_T_value_105 : cT 83 105 = o_al 106 1 := rfl
theorem c_T_value_106 : cT 83 106 = o_il 108 9 := rfl
theorem c_T_value_108 : cT 83 108 = o_il 110 7 := rfl
theorem c_T_value_110 : cT 83 110 = o_ineg 111 := rfl
theorem c_T_value_111 : cT 83 111 = o_il 113 8 := rfl
theorem c_T_value_113 : cT 83 113 = o_ca 116 82 3 3 false none := rfl
theorem c_T_value_116 : cT 83 116 = o_ca 119 79 2 2 false (some 4) := rfl
theorem c_T_value_119 : cT 83 119 = o_inc 122 6 1 := rfl
theorem c_T_value_122 : cT 83 122 = o_goto 7 := rfl
theorem c_T_value_125 : cT 83 125 = o_al 126 1 := rfl
theorem c_T_value_126 : cT 83 126 = o_ca 129 81 1 1 false (some 4) := rfl
theorem c_T_value_129 : cT 83 129 = o_iret .int := rfl
theorem c_L_held_0 : cT 84 0 = o_il 1 0 := rfl
theorem c_L_held_1 : cT 84 1 = o_sw 65 [(0, 32), (1, 43), (3, 54)] := rfl
theorem c_L_held_32 : cT 84 32 = o_ci 33 0 := rfl
theorem c_L_held_33 : cT 84 33 = o_ci 35 99999 := rfl
theorem c_L_held_35 : cT 84 35 = o_il 36 1 := rfl
theorem c_L_held_36 : cT 84 36 = o_ca 39 58 2 2 false none := rfl
theorem c_L_held_39 : cT 84 39 = o_ca 42 0 2 2 false none := rfl
theorem c_L_held_42 : cT 84 42 = o_iret .int := rfl
theorem c_L_held_43 : cT 84 43 = o_ci 44 0 := rfl
theorem c_L_held_44 : cT 84 44 = o_ci 46 99 := rfl
theorem c_L_held_46 : cT 84 46 = o_il 47 1 := rfl
theorem c_L_held_47 : cT 84 47 = o_ca 50 58 2 2 false none := rfl
theorem c_L_held_50 : cT 84 50 = o_ca 53 0 2 2 false none := rfl
theorem c_L_held_53 : cT 84 53 = o_iret .int := rfl
theorem c_L_held_54 : cT 84 54 = o_ci 55 1 := rfl
theorem c_L_held_55 : cT 84 55 = o_ci 57 99 := rfl
theorem c_L_held_57 : cT 84 57 = o_il 58 1 := rfl
theorem c_L_held_58 : cT 84 58 = o_ca 61 58 2 2 false none := rfl
theorem c_L_held_61 : cT 84 61 = o_ca 64 0 2 2 false none := rfl
theorem c_L_held_64 : cT 84 64 = o_iret .int := rfl
theorem c_L_held_65 : cT 84 65 = o_il 66 1 := rfl
theorem c_L_held_66 : cT 84 66 = o_iret .int := rfl
theorem c_L_ruleOf_0 : cT 85 0 = o_al 1 0 := rfl
theorem c_L_ruleOf_1 : cT 85 1 = o_al 2 0 := rfl
theorem c_L_ruleOf_2 : cT 85 2 = o_il 3 1 := rfl
theorem c_L_ruleOf_3 : cT 85 3 = o_il 4 2 := rfl
theorem c_L_ruleOf_4 : cT 85 4 = o_il 5 3 := rfl
theorem c_L_ruleOf_5 : cT 85 5 = o_ca 8 76 4 8 false (some 1) := rfl
theorem c_L_ruleOf_8 : cT 85 8 = o_ca 11 74 2 2 false (some 1) := rfl
theorem c_L_ruleOf_11 : cT 85 11 = o_as 13 8 := rfl
theorem c_L_ruleOf_13 : cT 85 13 = o_il 14 2 := rfl
theorem c_L_ruleOf_14 : cT 85 14 = o_al 16 8 := rfl
theorem c_L_ruleOf_16 : cT 85 16 = o_ifnonnull 19 28 := rfl
theorem c_L_ruleOf_19 : cT 85 19 = o_il 20 2 := rfl
theorem c_L_ruleOf_20 : cT 85 20 = o_il 22 4 := rfl
theorem c_L_ruleOf_22 : cT 85 22 = o_ca 25 77 2 2 false none := rfl
theorem c_L_ruleOf_25 : cT 85 25 = o_goto 45 := rfl
theorem c_L_ruleOf_28 : cT 85 28 = o_al 30 8 := rfl
theorem c_L_ruleOf_30 : cT 85 30 = o_al 31 0 := rfl
theorem c_L_ruleOf_31 : cT 85 31 = o_gf 34 1 2 := rfl
theorem c_L_ruleOf_34 : cT 85 34 = o_il 36 4 := rfl
theorem c_L_ruleOf_36 : cT 85 36 = o_il 38 5 := rfl
theorem c_L_ruleOf_38 : cT 85 38 = o_il 40 6 := rfl
theorem c_L_ruleOf_40 : cT 85 40 = o_il 42 7 := rfl
theorem c_L_ruleOf_42 : cT 85 42 = o_ca 45 83 6 10 false (some 6) := rfl
theorem c_L_ruleOf_45 : cT 85 45 = o_ca 48 84 2 2 false none := rfl
theorem c_L_ruleOf_48 : cT 85 48 = o_iret .int := rfl
theorem c_B_isDue_0 : cT 86 0 = o_al 1 0 := rfl
theorem c_B_isDue_1 : cT 86 1 = o_gf 4 0 7 := rfl
theorem c_B_isDue_4 : cT 86 4 = o_al 5 0 := rfl
theorem c_B_isDue_5 : cT 86 5 = o_gf 8 0 0 := rfl
theorem c_B_isDue_8 : cT 86 8 = o_il 9 1 := rfl
theorem c_B_isDue_9 : cT 86 9 = o_ci 10 0 := rfl
theorem c_B_isDue_10 : cT 86 10 = o_ca 13 22 3 4 false (some 2) := rfl
theorem c_B_isDue_13 : cT 86 13 = o_ci 14 0 := rfl
theorem c_B_isDue_14 : cT 86 14 = o_al 15 0 := rfl
theorem c_B_isDue_15 : cT 86 15 = o_gf 18 0 8 := rfl
theorem c_B_isDue_18 : cT 86 18 = o_al 19 0 := rfl
theorem c_B_isDue_19 : cT 86 19 = o_gf 22 0 6 := rfl
theorem c_B_isDue_22 : cT 86 22 = o_il 23 1 := rfl
theorem c_B_isDue_23 : cT 86 23 = o_ca 26 23 2 6 false (some 8) := rfl
theorem c_B_isDue_26 : cT 86 26 = o_al 27 0 := rfl
theorem c_B_isDue_27 : cT 86 27 = o_gf 30 0 6 := rfl
theorem c_B_isDue_30 : cT 86 30 = o_il 31 1 := rfl
theorem c_B_isDue_31 : cT 86 31 = o_al 32 0 := rfl
theorem c_B_isDue_32 : cT 86 32 = o_gf 35 0 8 := rfl
theorem c_B_isDue_35 : cT 86 35 = o_ca 38 70 3 5 false (some 8) := rfl
theorem c_B_isDue_38 : cT 86 38 = o_al 39 0 := rfl
theorem c_B_isDue_39 : cT 86 39 = o_gf 42 0 0 := rfl
theorem c_B_isDue_42 : cT 86 42 = o_il 43 1 := rfl
theorem c_B_isDue_43 : cT 86 43 = o_ci 44 5 := rfl
theorem c_B_isDue_44 : cT 86 44 = o_ca 47 22 3 4 false (some 2) := rfl
theorem c_B_isDue_47 : cT 86 47 = o_ci 48 0 := rfl
theorem c_B_isDue_48 : cT 86 48 = o_ca 51 85 8 9 false (some 1) := rfl
theorem c_B_isDue_51 : cT 86 51 = o_is 52 3 := rfl
theorem c_B_isDue_52 : cT 86 52 = o_al 53 0 := rfl
theorem c_B_isDue_53 : cT 86 53 = o_gf 56 0 6 := rfl
theorem c_B_isDue_56 : cT 86 56 = o_il 57 1 := rfl
theorem c_B_isDue_57 : cT 86 57 = o_il 58 2 := rfl
theorem c_B_isDue_58 : cT 86 58 = o_ca 61 60 3 5 false (some 8) := rfl
theorem c_B_isDue_61 : cT 86 61 = o_al 62 0 := rfl
theorem c_B_isDue_62 : cT 86 62 = o_gf 65 0 6 := rfl
theorem c_B_isDue_65 : cT 86 65 = o_il 66 1 := rfl
theorem c_B_isDue_66 : cT 86 66 = o_il 67 2 := rfl
theorem c_B_isDue_67 : cT 86 67 = o_ca 70 70 3 5 false (some 8) := rfl
theorem c_B_isDue_70 : cT 86 70 = o_iadd 71 := rfl
theorem c_B_isDue_71 : cT 86 71 = o_il 72 3 := rfl
theorem c_B_isDue_72 : cT 86 72 = o_iclt 75 79 := rfl
theorem c_B_isDue_75 : cT 86 75 = o_ci 76 1 := rfl
theorem c_B_isDue_76 : cT 86 76 = o_goto 80 := rfl
theorem c_B_isDue_79 : cT 86 79 = o_ci 80 0 := rfl
theorem c_B_isDue_80 : cT 86 80 = o_iret .boolean := rfl
theorem c_B_dateOf_0 : cT 95 0 = o_al 1 0 := rfl
theorem c_B_dateOf_1 : cT 95 1 = o_gf 4 0 8 := rfl
theorem c_B_dateOf_4 : cT 95 4 = o_is 5 2 := rfl
theorem c_B_dateOf_5 : cT 95 5 = o_al 6 0 := rfl
theorem c_B_dateOf_6 : cT 95 6 = o_gf 9 0 8 := rfl
theorem c_B_dateOf_9 : cT 95 9 = o_ci 12 2999 := rfl
theorem c_B_dateOf_12 : cT 95 12 = o_iadd 13 := rfl
theorem c_B_dateOf_13 : cT 95 13 = o_is 14 3 := rfl
theorem c_B_dateOf_14 : cT 95 14 = o_al 15 0 := rfl
theorem c_B_dateOf_15 : cT 95 15 = o_il 16 1 := rfl
theorem c_B_dateOf_16 : cT 95 16 = o_ca 19 41 2 2 false (some 0) := rfl
theorem c_B_dateOf_19 : cT 95 19 = o_ifne 22 31 := rfl
theorem c_B_dateOf_22 : cT 95 22 = o_al 23 0 := rfl
theorem c_B_dateOf_23 : cT 95 23 = o_il 24 1 := rfl
theorem c_B_dateOf_24 : cT 95 24 = o_il 25 3 := rfl
theorem c_B_dateOf_25 : cT 95 25 = o_ca 28 86 3 4 false (some 0) := rfl
theorem c_B_dateOf_28 : cT 95 28 = o_ifne 31 34 := rfl
theorem c_B_dateOf_31 : cT 95 31 = o_ci 33 (-1000000005) := rfl
theorem c_B_dateOf_33 : cT 95 33 = o_iret .int := rfl
theorem c_B_dateOf_34 : cT 95 34 = o_ci 35 0 := rfl
theorem c_B_dateOf_35 : cT 95 35 = o_is 37 4 := rfl
theorem c_B_dateOf_37 : cT 95 37 = o_il 39 4 := rfl
theorem c_B_dateOf_39 : cT 95 39 = o_ci 41 12 := rfl
theorem c_B_dateOf_41 : cT 95 41 = o_icge 44 83 := rfl
theorem c_B_dateOf_44 : cT 95 44 = o_il 45 2 := rfl
theorem c_B_dateOf_45 : cT 95 45 = o_il 46 3 := rfl
theorem c_B_dateOf_46 : cT 95 46 = o_icge 49 83 := rfl
theorem c_B_dateOf_49 : cT 95 49 = o_il 50 2 := rfl
theorem c_B_dateOf_50 : cT 95 50 = o_il 51 3 := rfl
theorem c_B_dateOf_51 : cT 95 51 = o_iadd 52 := rfl
theorem c_B_dateOf_52 : cT 95 52 = o_ci 53 2 := rfl
theorem c_B_dateOf_53 : cT 95 53 = o_idiv 54 := rfl
theorem c_B_dateOf_54 : cT 95 54 = o_is 56 5 := rfl
theorem c_B_dateOf_56 : cT 95 56 = o_al 57 0 := rfl
theorem c_B_dateOf_57 : cT 95 57 = o_il 58 1 := rfl
theorem c_B_dateOf_58 : cT 95 58 = o_il 60 5 := rfl
theorem c_B_dateOf_60 : cT 95 60 = o_ca 63 86 3 4 false (some 0) := rfl
theorem c_B_dateOf_63 : cT 95 63 = o_ifeq 66 72 := rfl
theorem c_B_dateOf_66 : cT 95 66 = o_il 68 5 := rfl
theorem c_B_dateOf_68 : cT 95 68 = o_is 69 3 := rfl
theorem c_B_dateOf_69 : cT 95 69 = o_goto 77 := rfl
theorem c_B_dateOf_72 : cT 95 72 = o_il 74 5 := rfl
theorem c_B_dateOf_74 : cT 95 74 = o_ci 75 1 := rfl
theorem c_B_dateOf_75 : cT 95 75 = o_iadd 76 := rfl
theorem c_B_dateOf_76 : cT 95 76 = o_is 77 2 := rfl
theorem c_B_dateOf_77 : cT 95 77 = o_inc 80 4 1 := rfl
theorem c_B_dateOf_80 : cT 95 80 = o_goto 37 := rfl
theorem c_B_dateOf_83 : cT 95 83 = o_il 84 3 := rfl
theorem c_B_dateOf_84 : cT 95 84 = o_iret .int := rfl
theorem c_P_hasRoom_0 : cT 98 0 = o_al 1 0 := rfl
theorem c_P_hasRoom_1 : cT 98 1 = o_gf 4 5 1 := rfl
theorem c_P_hasRoom_4 : cT 98 4 = o_ci 6 12 := rfl
theorem c_P_hasRoom_6 : cT 98 6 = o_iadd 7 := rfl
theorem c_P_hasRoom_7 : cT 98 7 = o_ci 9 96 := rfl
theorem c_P_hasRoom_9 : cT 98 9 = o_icgt 12 16 := rfl
theorem c_P_hasRoom_12 : cT 98 12 = o_ci 13 1 := rfl
theorem c_P_hasRoom_13 : cT 98 13 = o_goto 17 := rfl
theorem c_P_hasRoom_16 : cT 98 16 = o_ci 17 0 := rfl
theorem c_P_hasRoom_17 : cT 98 17 = o_iret .boolean := rfl
theorem c_P_append_0 : cT 99 0 = o_ci 2 24 := rfl
theorem c_P_append_2 : cT 99 2 = o_is 3 2 := rfl
theorem c_P_append_3 : cT 99 3 = o_il 4 2 := rfl
theorem c_P_append_4 : cT 99 4 = o_iflt 7 56 := rfl
theorem c_P_append_7 : cT 99 7 = o_al 8 0 := rfl
theorem c_P_append_8 : cT 99 8 = o_gf 11 5 1 := rfl
theorem c_P_append_11 : cT 99 11 = o_iflt 14 26 := rfl
theorem c_P_append_14 : cT 99 14 = o_al 15 0 := rfl
theorem c_P_append_15 : cT 99 15 = o_gf 18 5 1 := rfl
theorem c_P_append_18 : cT 99 18 = o_al 19 0 := rfl
theorem c_P_append_19 : cT 99 19 = o_gf 22 5 0 := rfl
theorem c_P_append_22 : cT 99 22 = o_len 23 := rfl
theorem c_P_append_23 : cT 99 23 = o_iclt 26 27 := rfl
theorem c_P_append_26 : cT 99 26 = o_vret := rfl
theorem c_P_append_27 : cT 99 27 = o_al 28 0 := rfl
theorem c_P_append_28 : cT 99 28 = o_gf 31 5 0 := rfl
theorem c_P_append_31 : cT 99 31 = o_al 32 0 := rfl
theorem c_P_append_32 : cT 99 32 = o_gf 35 5 1 := rfl
theorem c_P_append_35 : cT 99 35 = o_il 36 1 := rfl
theorem c_P_append_36 : cT 99 36 = o_il 37 2 := rfl
theorem c_P_append_37 : cT 99 37 = o_ishr 38 := rfl
theorem c_P_append_38 : cT 99 38 = o_i2b 39 := rfl
theorem c_P_append_39 : cT 99 39 = o_bas 40 := rfl
theorem c_P_append_40 : cT 99 40 = o_al 41 0 := rfl
theorem c_P_append_41 : cT 99 41 = o_dup 42 := rfl
theorem c_P_append_42 : cT 99 42 = o_gf 45 5 1 := rfl
theorem c_P_append_45 : cT 99 45 = o_ci 46 1 := rfl
theorem c_P_append_46 : cT 99 46 = o_iadd 47 := rfl
theorem c_P_append_47 : cT 99 47 = o_pf 50 5 1 0 := rfl
theorem c_P_append_50 : cT 99 50 = o_inc 53 2 (-8) := rfl
theorem c_P_append_53 : cT 99 53 = o_goto 3 := rfl
theorem c_P_append_56 : cT 99 56 = o_vret := rfl
theorem c_D_isWord_0 : cT 104 0 = o_il 1 0 := rfl
theorem c_D_isWord_1 : cT 104 1 = o_ci 2 3 := rfl
theorem c_D_isWord_2 : cT 104 2 = o_iceq 5 10 := rfl
theorem c_D_isWord_5 : cT 104 5 = o_il 6 0 := rfl
theorem c_D_isWord_6 : cT 104 6 = o_ci 7 4 := rfl
theorem c_D_isWord_7 : cT 104 7 = o_icne 10 14 := rfl
theorem c_D_isWord_10 : cT 104 10 = o_ci 11 1 := rfl
theorem c_D_isWord_11 : cT 104 11 = o_goto 15 := rfl
theorem c_D_isWord_14 : cT 104 14 = o_ci 15 0 := rfl
theorem c_D_isWord_15 : cT 104 15 = o_iret .boolean := rfl
theorem c_P_byteAt_0 : cT 105 0 = o_il 1 1 := rfl
theorem c_P_byteAt_1 : cT 105 1 = o_iflt 4 21 := rfl
theorem c_P_byteAt_4 : cT 105 4 = o_il 5 1 := rfl
theorem c_P_byteAt_5 : cT 105 5 = o_al 6 0 := rfl
theorem c_P_byteAt_6 : cT 105 6 = o_gf 9 5 1 := rfl
theorem c_P_byteAt_9 : cT 105 9 = o_icge 12 21 := rfl
theorem c_P_byteAt_12 : cT 105 12 = o_il 13 1 := rfl
theorem c_P_byteAt_13 : cT 105 13 = o_al 14 0 := rfl
theorem c_P_byteAt_14 : cT 105 14 = o_gf 17 5 0 := rfl
theorem c_P_byteAt_17 : cT 105 17 = o_len 18 := rfl
theorem c_P_byteAt_18 : cT 105 18 = o_iclt 21 23 := rfl
theorem c_P_byteAt_21 : cT 105 21 = o_ci 22 (-1) := rfl
theorem c_P_byteAt_22 : cT 105 22 = o_iret .int := rfl
theorem c_P_byteAt_23 : cT 105 23 = o_al 24 0 := rfl
theorem c_P_byteAt_24 : cT 105 24 = o_gf 27 5 0 := rfl
theorem c_P_byteAt_27 : cT 105 27 = o_il 28 1 := rfl
theorem c_P_byteAt_28 : cT 105 28 = o_bal 29 := rfl
theorem c_P_byteAt_29 : cT 105 29 = o_ci 32 255 := rfl
theorem c_P_byteAt_32 : cT 105 32 = o_iand 33 := rfl
theorem c_P_byteAt_33 : cT 105 33 = o_iret .int := rfl
theorem c_D_sortAt_0 : cT 106 0 = o_al 1 0 := rfl
theorem c_D_sortAt_1 : cT 106 1 = o_gf 4 7 0 := rfl
theorem c_D_sortAt_4 : cT 106 4 = o_il 5 1 := rfl
theorem c_D_sortAt_5 : cT 106 5 = o_ca 8 105 2 2 false (some 5) := rfl
theorem c_D_sortAt_8 : cT 106 8 = o_is 9 2 := rfl
theorem c_D_sortAt_9 : cT 106 9 = o_il 10 2 := rfl
theorem c_D_sortAt_10 : cT 106 10 = o_ifge 13 15 := rfl
theorem c_D_sortAt_13 : cT 106 13 = o_ci 14 1 := rfl
theorem c_D_sortAt_14 : cT 106 14 = o_iret .int := rfl
theorem c_D_sortAt_15 : cT 106 15 = o_il 16 2 := rfl
theorem c_D_sortAt_16 : cT 106 16 = o_ci 18 97 := rfl
theorem c_D_sortAt_18 : cT 106 18 = o_iclt 21 29 := rfl
theorem c_D_sortAt_21 : cT 106 21 = o_il 22 2 := rfl
theorem c_D_sortAt_22 : cT 106 22 = o_ci 24 122 := rfl
theorem c_D_sortAt_24 : cT 106 24 = o_icgt 27 29 := rfl
theorem c_D_sortAt_27 : cT 106 27 = o_ci 28 3 := rfl
theorem c_D_sortAt_28 : cT 106 28 = o_iret .int := rfl
theorem c_D_sortAt_29 : cT 106 29 = o_il 30 2 := rfl
theorem c_D_sortAt_30 : cT 106 30 = o_ci 32 48 := rfl
theorem c_D_sortAt_32 : cT 106 32 = o_iclt 35 45 := rfl
theorem c_D_sortAt_35 : cT 106 35 = o_il 36 2 := rfl
theorem c_D_sortAt_36 : cT 106 36 = o_ci 38 57 := rfl
theorem c_D_sortAt_38 : cT 106 38 = o_icgt 41 45 := rfl
theorem c_D_sortAt_41 : cT 106 41 = o_ci 42 4 := rfl
theorem c_D_sortAt_42 : cT 106 42 = o_goto 46 := rfl
theorem c_D_sortAt_45 : cT 106 45 = o_ci 46 2 := rfl
theorem c_D_sortAt_46 : cT 106 46 = o_iret .int := rfl
theorem c_D_advance_0 : cT 107 0 = o_al 1 0 := rfl
theorem c_D_advance_1 : cT 107 1 = o_gf 4 7 8 := rfl
theorem c_D_advance_4 : cT 107 4 = o_is 5 1 := rfl
theorem c_D_advance_5 : cT 107 5 = o_al 6 0 := rfl
theorem c_D_advance_6 : cT 107 6 = o_gf 9 7 6 := rfl
theorem c_D_advance_9 : cT 107 9 = o_ca 12 104 1 1 false none := rfl
theorem c_D_advance_12 : cT 107 12 = o_is 13 2 := rfl
theorem c_D_advance_13 : cT 107 13 = o_al 14 0 := rfl
theorem c_D_advance_14 : cT 107 14 = o_il 15 1 := rfl
theorem c_D_advance_15 : cT 107 15 = o_pf 18 7 7 0 := rfl
theorem c_D_advance_18 : cT 107 18 = o_al 19 0 := rfl
theorem c_D_advance_19 : cT 107 19 = o_gf 22 7 7 := rfl
theorem c_D_advance_22 : cT 107 22 = o_ci 24 96 := rfl
theorem c_D_advance_24 : cT 107 24 = o_icge 27 56 := rfl
theorem c_D_advance_27 : cT 107 27 = o_al 28 0 := rfl
theorem c_D_advance_28 : cT 107 28 = o_gf 31 7 0 := rfl
theorem c_D_advance_31 : cT 107 31 = o_al 32 0 := rfl
theorem c_D_advance_32 : cT 107 32 = o_gf 35 7 7 := rfl
theorem c_D_advance_35 : cT 107 35 = o_ca 38 105 2 2 false (some 5) := rfl
theorem c_D_advance_38 : cT 107 38 = o_ci 40 32 := rfl
theorem c_D_advance_40 : cT 107 40 = o_icne 43 56 := rfl
theorem c_D_advance_43 : cT 107 43 = o_al 44 0 := rfl
theorem c_D_advance_44 : cT 107 44 = o_dup 45 := rfl
theorem c_D_advance_45 : cT 107 45 = o_gf 48 7 7 := rfl
theorem c_D_advance_48 : cT 107 48 = o_ci 49 1 := rfl
theorem c_D_advance_49 : cT 107 49 = o_iadd 50 := rfl
theorem c_D_advance_50 : cT 107 50 = o_pf 53 7 7 0 := rfl
theorem c_D_advance_53 : cT 107 53 = o_goto 18 := rfl
theorem c_D_advance_56 : cT 107 56 = o_al 57 0 := rfl
theorem c_D_advance_57 : cT 107 57 = o_al 58 0 := rfl
theorem c_D_advance_58 : cT 107 58 = o_al 59 0 := rfl
theorem c_D_advance_59 : cT 107 59 = o_gf 62 7 7 := rfl
theorem c_D_advance_62 : cT 107 62 = o_ca 65 106 2 3 false (some 7) := rfl
theorem c_D_advance_65 : cT 107 65 = o_pf 68 7 6 0 := rfl
theorem c_D_advance_68 : cT 107 68 = o_al 69 0 := rfl
theorem c_D_advance_69 : cT 107 69 = o_al 70 0 := rfl
theorem c_D_advance_70 : cT 107 70 = o_gf 73 7 6 := rfl
theorem c_D_advance_73 : cT 107 73 = o_ci 74 1 := rfl
theorem c_D_advance_74 : cT 107 74 = o_icne 77 84 := rfl
theorem c_D_advance_77 : cT 107 77 = o_al 78 0 := rfl
theorem c_D_advance_78 : cT 107 78 = o_gf 81 7 7 := rfl
theorem c_D_advance_81 : cT 107 81 = o_goto 90 := rfl
theorem c_D_advance_84 : cT 107 84 = o_al 85 0 := rfl
theorem c_D_advance_85 : cT 107 85 = o_gf 88 7 7 := rfl
theorem c_D_advance_88 : cT 107 88 = o_ci 89 1 := rfl
theorem c_D_advance_89 : cT 107 89 = o_iadd 90 := rfl
theorem c_D_advance_90 : cT 107 90 = o_pf 93 7 8 0 := rfl
theorem c_D_advance_93 : cT 107 93 = o_al 94 0 := rfl
theorem c_D_advance_94 : cT 107 94 = o_gf 97 7 6 := rfl
theorem c_D_advance_97 : cT 107 97 = o_ca 100 104 1 1 false none := rfl
theorem c_D_advance_100 : cT 107 100 = o_ifne 103 104 := rfl
theorem c_D_advance_103 : cT 107 103 = o_vret := rfl
theorem c_D_advance_104 : cT 107 104 = o_al 105 0 := rfl
theorem c_D_advance_105 : cT 107 105 = o_gf 108 7 8 := rfl
theorem c_D_advance_108 : cT 107 108 = o_ci 110 96 := rfl
theorem c_D_advance_110 : cT 107 110 = o_icge 113 141 := rfl
theorem c_D_advance_113 : cT 107 113 = o_al 114 0 := rfl
theorem c_D_advance_114 : cT 107 114 = o_al 115 0 := rfl
theorem c_D_advance_115 : cT 107 115 = o_gf 118 7 8 := rfl
theorem c_D_advance_118 : cT 107 118 = o_ca 121 106 2 3 false (some 7) := rfl
theorem c_D_advance_121 : cT 107 121 = o_al 122 0 := rfl
theorem c_D_advance_122 : cT 107 122 = o_gf 125 7 6 := rfl
theorem c_D_advance_125 : cT 107 125 = o_icne 128 141 := rfl
theorem c_D_advance_128 : cT 107 128 = o_al 129 0 := rfl
theorem c_D_advance_129 : cT 107 129 = o_dup 130 := rfl
theorem c_D_advance_130 : cT 107 130 = o_gf 133 7 8 := rfl
theorem c_D_advance_133 : cT 107 133 = o_ci 134 1 := rfl
theorem c_D_advance_134 : cT 107 134 = o_iadd 135 := rfl
theorem c_D_advance_135 : cT 107 135 = o_pf 138 7 8 0 := rfl
theorem c_D_advance_138 : cT 107 138 = o_goto 104 := rfl
theorem c_D_advance_141 : cT 107 141 = o_il 142 2 := rfl
theorem c_D_advance_142 : cT 107 142 = o_ifeq 145 158 := rfl
theorem c_D_advance_145 : cT 107 145 = o_al 146 0 := rfl
theorem c_D_advance_146 : cT 107 146 = o_gf 149 7 7 := rfl
theorem c_D_advance_149 : cT 107 149 = o_il 150 1 := rfl
theorem c_D_advance_150 : cT 107 150 = o_icne 153 158 := rfl
theorem c_D_advance_153 : cT 107 153 = o_al 154 0 := rfl
theorem c_D_advance_154 : cT 107 154 = o_ci 155 5 := rfl
theorem c_D_advance_155 : cT 107 155 = o_pf 158 7 6 0 := rfl
theorem c_D_advance_158 : cT 107 158 = o_vret := rfl
theorem c_D_wordOf_0 : cT 108 0 = o_il 1 0 := rfl
theorem c_D_wordOf_1 : cT 108 1 = o_sw 44 [(0, 32), (1, 35), (2, 38), (3, 41)] := rfl
theorem c_D_wordOf_32 : cT 108 32 = o_cv 34 (.ref 1000000) := rfl
theorem c_D_wordOf_34 : cT 108 34 = o_aret := rfl
theorem c_D_wordOf_35 : cT 108 35 = o_cv 37 (.ref 1000001) := rfl
theorem c_D_wordOf_37 : cT 108 37 = o_aret := rfl
theorem c_D_wordOf_38 : cT 108 38 = o_cv 40 (.ref 1000002) := rfl
theorem c_D_wordOf_40 : cT 108 40 = o_aret := rfl
theorem c_D_wordOf_41 : cT 108 41 = o_cv 43 (.ref 1000003) := rfl
theorem c_D_wordOf_43 : cT 108 43 = o_aret := rfl
theorem c_D_wordOf_44 : cT 108 44 = o_cv 46 (.ref 1000004) := rfl
theorem c_D_wordOf_46 : cT 108 46 = o_aret := rfl
theorem c_D_isWordHere_0 : cT 116 0 = o_al 1 0 := rfl
theorem c_D_isWordHere_1 : cT 116 1 = o_gf 4 7 8 := rfl
theorem c_D_isWordHere_4 : cT 116 4 = o_al 5 0 := rfl
theorem c_D_isWordHere_5 : cT 116 5 = o_gf 8 7 7 := rfl
theorem c_D_isWordHere_8 : cT 116 8 = o_isub 9 := rfl
theorem c_D_isWordHere_9 : cT 116 9 = o_al 10 1 := rfl
theorem c_D_isWordHere_10 : cT 116 10 = o_ca 13 110 1 1 false (some 100) := rfl
theorem c_D_isWordHere_13 : cT 116 13 = o_iceq 16 18 := rfl
theorem c_D_isWordHere_16 : cT 116 16 = o_ci 17 0 := rfl
theorem c_D_isWordHere_17 : cT 116 17 = o_iret .boolean := rfl
theorem c_D_isWordHere_18 : cT 116 18 = o_ci 19 0 := rfl
theorem c_D_isWordHere_19 : cT 116 19 = o_is 20 2 := rfl
theorem c_D_isWordHere_20 : cT 116 20 = o_il 21 2 := rfl
theorem c_D_isWordHere_21 : cT 116 21 = o_al 22 1 := rfl
theorem c_D_isWordHere_22 : cT 116 22 = o_ca 25 110 1 1 false (some 100) := rfl
theorem c_D_isWordHere_25 : cT 116 25 = o_icge 28 57 := rfl
theorem c_D_isWordHere_28 : cT 116 28 = o_al 29 0 := rfl
theorem c_D_isWordHere_29 : cT 116 29 = o_gf 32 7 0 := rfl
theorem c_D_isWordHere_32 : cT 116 32 = o_al 33 0 := rfl
theorem c_D_isWordHere_33 : cT 116 33 = o_gf 36 7 7 := rfl
theorem c_D_isWordHere_36 : cT 116 36 = o_il 37 2 := rfl
theorem c_D_isWordHere_37 : cT 116 37 = o_iadd 38 := rfl
theorem c_D_isWordHere_38 : cT 116 38 = o_ca 41 105 2 2 false (some 5) := rfl
theorem c_D_isWordHere_41 : cT 116 41 = o_al 42 1 := rfl
theorem c_D_isWordHere_42 : cT 116 42 = o_il 43 2 := rfl
theorem c_D_isWordHere_43 : cT 116 43 = o_ca 46 115 2 2 false (some 100) := rfl
theorem c_D_isWordHere_46 : cT 116 46 = o_iceq 49 51 := rfl
theorem c_D_isWordHere_49 : cT 116 49 = o_ci 50 0 := rfl
theorem c_D_isWordHere_50 : cT 116 50 = o_iret .boolean := rfl
theorem c_D_isWordHere_51 : cT 116 51 = o_inc 54 2 1 := rfl
theorem c_D_isWordHere_54 : cT 116 54 = o_goto 20 := rfl
theorem c_D_isWordHere_57 : cT 116 57 = o_ci 58 1 := rfl
theorem c_D_isWordHere_58 : cT 116 58 = o_iret .boolean := rfl
theorem c_D_keyHere_0 : cT 117 0 = o_al 1 0 := rfl
theorem c_D_keyHere_1 : cT 117 1 = o_gf 4 7 6 := rfl
theorem c_D_keyHere_4 : cT 117 4 = o_ci 5 3 := rfl
theorem c_D_keyHere_5 : cT 117 5 = o_iceq 8 11 := rfl
theorem c_D_keyHere_8 : cT 117 8 = o_ci 10 (-1000000005) := rfl
theorem c_D_keyHere_10 : cT 117 10 = o_iret .int := rfl
theorem c_D_keyHere_11 : cT 117 11 = o_ci 12 0 := rfl
theorem c_D_keyHere_12 : cT 117 12 = o_is 13 1 := rfl
theorem c_D_keyHere_13 : cT 117 13 = o_il 14 1 := rfl
theorem c_D_keyHere_14 : cT 117 14 = o_ci 15 5 := rfl
theorem c_D_keyHere_15 : cT 117 15 = o_icge 18 37 := rfl
theorem c_D_keyHere_18 : cT 117 18 = o_al 19 0 := rfl
theorem c_D_keyHere_19 : cT 117 19 = o_il 20 1 := rfl
theorem c_D_keyHere_20 : cT 117 20 = o_ca 23 108 1 1 false none := rfl
theorem c_D_keyHere_23 : cT 117 23 = o_ca 26 116 2 3 false (some 7) := rfl
theorem c_D_keyHere_26 : cT 117 26 = o_ifeq 29 31 := rfl
theorem c_D_keyHere_29 : cT 117 29 = o_il 30 1 := rfl
theorem c_D_keyHere_30 : cT 117 30 = o_iret .int := rfl
theorem c_D_keyHere_31 : cT 117 31 = o_inc 34 1 1 := rfl
theorem c_D_keyHere_34 : cT 117 34 = o_goto 13 := rfl
theorem c_D_keyHere_37 : cT 117 37 = o_ci 39 (-1000000005) := rfl
theorem c_D_keyHere_39 : cT 117 39 = o_iret .int := rfl
theorem c_D_numberHere_0 : cT 118 0 = o_ci 1 0 := rfl
theorem c_D_numberHere_1 : cT 118 1 = o_is 2 1 := rfl
theorem c_D_numberHere_2 : cT 118 2 = o_al 3 0 := rfl
theorem c_D_numberHere_3 : cT 118 3 = o_gf 6 7 7 := rfl
theorem c_D_numberHere_6 : cT 118 6 = o_is 7 2 := rfl
theorem c_D_numberHere_7 : cT 118 7 = o_il 8 2 := rfl
theorem c_D_numberHere_8 : cT 118 8 = o_al 9 0 := rfl
theorem c_D_numberHere_9 : cT 118 9 = o_gf 12 7 8 := rfl
theorem c_D_numberHere_12 : cT 118 12 = o_icge 15 38 := rfl
theorem c_D_numberHere_15 : cT 118 15 = o_il 16 1 := rfl
theorem c_D_numberHere_16 : cT 118 16 = o_ci 18 10 := rfl
theorem c_D_numberHere_18 : cT 118 18 = o_imul 19 := rfl
theorem c_D_numberHere_19 : cT 118 19 = o_al 20 0 := rfl
theorem c_D_numberHere_20 : cT 118 20 = o_gf 23 7 0 := rfl
theorem c_D_numberHere_23 : cT 118 23 = o_il 24 2 := rfl
theorem c_D_numberHere_24 : cT 118 24 = o_ca 27 105 2 2 false (some 5) := rfl
theorem c_D_numberHere_27 : cT 118 27 = o_iadd 28 := rfl
theorem c_D_numberHere_28 : cT 118 28 = o_ci 30 48 := rfl
theorem c_D_numberHere_30 : cT 118 30 = o_isub 31 := rfl
theorem c_D_numberHere_31 : cT 118 31 = o_is 32 1 := rfl
theorem c_D_numberHere_32 : cT 118 32 = o_inc 35 2 1 := rfl
theorem c_D_numberHere_35 : cT 118 35 = o_goto 7 := rfl
theorem c_D_numberHere_38 : cT 118 38 = o_il 39 1 := rfl
theorem c_D_numberHere_39 : cT 118 39 = o_iret .int := rfl
theorem c_D_emit_0 : cT 119 0 = o_al 1 0 := rfl
theorem c_D_emit_1 : cT 119 1 = o_gf 4 7 2 := rfl
theorem c_D_emit_4 : cT 119 4 = o_iflt 7 19 := rfl
theorem c_D_emit_7 : cT 119 7 = o_al 8 0 := rfl
theorem c_D_emit_8 : cT 119 8 = o_gf 11 7 2 := rfl
theorem c_D_emit_11 : cT 119 11 = o_al 12 0 := rfl
theorem c_D_emit_12 : cT 119 12 = o_gf 15 7 1 := rfl
theorem c_D_emit_15 : cT 119 15 = o_len 16 := rfl
theorem c_D_emit_16 : cT 119 16 = o_iclt 19 20 := rfl
theorem c_D_emit_19 : cT 119 19 = o_vret := rfl
theorem c_D_emit_20 : cT 119 20 = o_al 21 0 := rfl
theorem c_D_emit_21 : cT 119 21 = o_gf 24 7 1 := rfl
theorem c_D_emit_24 : cT 119 24 = o_al 25 0 := rfl
theorem c_D_emit_25 : cT 119 25 = o_gf 28 7 2 := rfl
theorem c_D_emit_28 : cT 119 28 = o_il 29 1 := rfl
theorem c_D_emit_29 : cT 119 29 = o_ias 30 := rfl
theorem c_D_emit_30 : cT 119 30 = o_al 31 0 := rfl
theorem c_D_emit_31 : cT 119 31 = o_dup 32 := rfl
theorem c_D_emit_32 : cT 119 32 = o_gf 35 7 2 := rfl
theorem c_D_emit_35 : cT 119 35 = o_ci 36 1 := rfl
theorem c_D_emit_36 : cT 119 36 = o_iadd 37 := rfl
theorem c_D_emit_37 : cT 119 37 = o_pf 40 7 2 0 := rfl
theorem c_D_emit_40 : cT 119 40 = o_vret := rfl
theorem c_D_emitLeaf_0 : cT 120 0 = o_al 1 0 := rfl
theorem c_D_emitLeaf_1 : cT 120 1 = o_dup 2 := rfl
theorem c_D_emitLeaf_2 : cT 120 2 = o_gf 5 7 3 := rfl
theorem c_D_emitLeaf_5 : cT 120 5 = o_ci 6 1 := rfl
theorem c_D_emitLeaf_6 : cT 120 6 = o_iadd 7 := rfl
theorem c_D_emitLeaf_7 : cT 120 7 = o_pf 10 7 3 0 := rfl
theorem c_D_emitLeaf_10 : cT 120 10 = o_al 11 0 := rfl
theorem c_D_emitLeaf_11 : cT 120 11 = o_il 12 1 := rfl
theorem c_D_emitLeaf_12 : cT 120 12 = o_ca 15 119 2 2 false (some 7) := rfl
theorem c_D_emitLeaf_15 : cT 120 15 = o_al 16 0 := rfl
theorem c_D_emitLeaf_16 : cT 120 16 = o_ca 19 107 1 3 false (some 7) := rfl
theorem c_D_emitLeaf_19 : cT 120 19 = o_vret := rfl
theorem c_D_namesOf_0 : cT 121 0 = o_il 1 0 := rfl
theorem c_D_namesOf_1 : cT 121 1 = o_sw 44 [(0, 32), (1, 35), (2, 38), (3, 41)] := rfl
theorem c_D_namesOf_32 : cT 121 32 = o_cv 34 (.ref 1000005) := rfl
theorem c_D_namesOf_34 : cT 121 34 = o_aret := rfl
theorem c_D_namesOf_35 : cT 121 35 = o_cv 37 (.ref 1000006) := rfl
theorem c_D_namesOf_37 : cT 121 37 = o_aret := rfl
theorem c_D_namesOf_38 : cT 121 38 = o_cv 40 (.ref 1000007) := rfl
theorem c_D_namesOf_40 : cT 121 40 = o_aret := rfl
theorem c_D_namesOf_41 : cT 121 41 = o_cv 43 (.ref 1000008) := rfl
theorem c_D_namesOf_43 : cT 121 43 = o_aret := rfl
theorem c_D_namesOf_44 : cT 121 44 = o_cv 46 (.ref 1000009) := rfl
theorem c_D_namesOf_46 : cT 121 46 = o_aret := rfl
theorem c_D_nameHere_0 : cT 127 0 = o_al 1 0 := rfl
theorem c_D_nameHere_1 : cT 127 1 = o_gf 4 7 8 := rfl
theorem c_D_nameHere_4 : cT 127 4 = o_al 5 0 := rfl
theorem c_D_nameHere_5 : cT 127 5 = o_gf 8 7 7 := rfl
theorem c_D_nameHere_8 : cT 127 8 = o_isub 9 := rfl
theorem c_D_nameHere_9 : cT 127 9 = o_ci 10 1 := rfl
theorem c_D_nameHere_10 : cT 127 10 = o_icne 13 38 := rfl
theorem c_D_nameHere_13 : cT 127 13 = o_al 14 0 := rfl
theorem c_D_nameHere_14 : cT 127 14 = o_gf 17 7 4 := rfl
theorem c_D_nameHere_17 : cT 127 17 = o_ca 20 121 1 1 false none := rfl
theorem c_D_nameHere_20 : cT 127 20 = o_al 21 0 := rfl
theorem c_D_nameHere_21 : cT 127 21 = o_gf 24 7 0 := rfl
theorem c_D_nameHere_24 : cT 127 24 = o_al 25 0 := rfl
theorem c_D_nameHere_25 : cT 127 25 = o_gf 28 7 7 := rfl
theorem c_D_nameHere_28 : cT 127 28 = o_ca 31 105 2 2 false (some 5) := rfl
theorem c_D_nameHere_31 : cT 127 31 = o_i2c 32 := rfl
theorem c_D_nameHere_32 : cT 127 32 = o_ca 35 126 2 2 false (some 100) := rfl
theorem c_D_nameHere_35 : cT 127 35 = o_goto 39 := rfl
theorem c_D_nameHere_38 : cT 127 38 = o_ci 39 (-1) := rfl
theorem c_D_nameHere_39 : cT 127 39 = o_is 40 1 := rfl
theorem c_D_nameHere_40 : cT 127 40 = o_il 41 1 := rfl
theorem c_D_nameHere_41 : cT 127 41 = o_ifge 44 49 := rfl
theorem c_D_nameHere_44 : cT 127 44 = o_ci 46 (-1000000005) := rfl
theorem c_D_nameHere_46 : cT 127 46 = o_goto 50 := rfl
theorem c_D_nameHere_49 : cT 127 49 = o_il 50 1 := rfl
theorem c_D_nameHere_50 : cT 127 50 = o_iret .int := rfl
theorem c_D_isSign_0 : cT 128 0 = o_al 1 0 := rfl
theorem c_D_isSign_1 : cT 128 1 = o_gf 4 7 6 := rfl
theorem c_D_isSign_4 : cT 128 4 = o_ci 5 2 := rfl
theorem c_D_isSign_5 : cT 128 5 = o_icne 8 27 := rfl
theorem c_D_isSign_8 : cT 128 8 = o_al 9 0 := rfl
theorem c_D_isSign_9 : cT 128 9 = o_gf 12 7 0 := rfl
theorem c_D_isSign_12 : cT 128 12 = o_al 13 0 := rfl
theorem c_D_isSign_13 : cT 128 13 = o_gf 16 7 7 := rfl
theorem c_D_isSign_16 : cT 128 16 = o_ca 19 105 2 2 false (some 5) := rfl
theorem c_D_isSign_19 : cT 128 19 = o_il 20 1 := rfl
theorem c_D_isSign_20 : cT 128 20 = o_icne 23 27 := rfl
theorem c_D_isSign_23 : cT 128 23 = o_ci 24 1 := rfl
theorem c_D_isSign_24 : cT 128 24 = o_goto 28 := rfl
theorem c_D_isSign_27 : cT 128 27 = o_ci 28 0 := rfl
theorem c_D_isSign_28 : cT 128 28 = o_iret .boolean := rfl
theorem c_D_refuse_0 : cT 129 0 = o_al 1 0 := rfl
theorem c_D_refuse_1 : cT 129 1 = o_gf 4 7 5 := rfl
theorem c_D_refuse_4 : cT 129 4 = o_ci 5 (-1) := rfl
theorem c_D_refuse_5 : cT 129 5 = o_icne 8 16 := rfl
theorem c_D_refuse_8 : cT 129 8 = o_al 9 0 := rfl
theorem c_D_refuse_9 : cT 129 9 = o_al 10 0 := rfl
theorem c_D_refuse_10 : cT 129 10 = o_gf 13 7 7 := rfl
theorem c_D_refuse_13 : cT 129 13 = o_pf 16 7 5 0 := rfl
theorem c_D_refuse_16 : cT 129 16 = o_vret := rfl
theorem c_D_readPart_0 : cT 130 0 = o_al 1 0 := rfl
theorem c_D_readPart_1 : cT 130 1 = o_gf 4 7 6 := rfl
theorem c_D_readPart_4 : cT 130 4 = o_ci 5 4 := rfl
theorem c_D_readPart_5 : cT 130 5 = o_icne 8 32 := rfl
theorem c_D_readPart_8 : cT 130 8 = o_al 9 0 := rfl
theorem c_D_readPart_9 : cT 130 9 = o_gf 12 7 8 := rfl
theorem c_D_readPart_12 : cT 130 12 = o_al 13 0 := rfl
theorem c_D_readPart_13 : cT 130 13 = o_gf 16 7 7 := rfl
theorem c_D_readPart_16 : cT 130 16 = o_isub 17 := rfl
theorem c_D_readPart_17 : cT 130 17 = o_ci 18 4 := rfl
theorem c_D_readPart_18 : cT 130 18 = o_icgt 21 32 := rfl
theorem c_D_readPart_21 : cT 130 21 = o_al 22 0 := rfl
theorem c_D_readPart_22 : cT 130 22 = o_al 23 0 := rfl
theorem c_D_readPart_23 : cT 130 23 = o_ca 26 118 1 3 false (some 7) := rfl
theorem c_D_readPart_26 : cT 130 26 = o_ca 29 120 2 2 false (some 7) := rfl
theorem c_D_readPart_29 : cT 130 29 = o_goto 153 := rfl
theorem c_D_readPart_32 : cT 130 32 = o_al 33 0 := rfl
theorem c_D_readPart_33 : cT 130 33 = o_gf 36 7 6 := rfl
theorem c_D_readPart_36 : cT 130 36 = o_ci 37 3 := rfl
theorem c_D_readPart_37 : cT 130 37 = o_icne 40 62 := rfl
theorem c_D_readPart_40 : cT 130 40 = o_al 41 0 := rfl
theorem c_D_readPart_41 : cT 130 41 = o_ca 44 127 1 2 false (some 7) := rfl
theorem c_D_readPart_44 : cT 130 44 = o_ci 46 (-1000000005) := rfl
theorem c_D_readPart_46 : cT 130 46 = o_iceq 49 62 := rfl
theorem c_D_readPart_49 : cT 130 49 = o_al 50 0 := rfl
theorem c_D_readPart_50 : cT 130 50 = o_ci 51 (-1) := rfl
theorem c_D_readPart_51 : cT 130 51 = o_al 52 0 := rfl
theorem c_D_readPart_52 : cT 130 52 = o_ca 55 127 1 2 false (some 7) := rfl
theorem c_D_readPart_55 : cT 130 55 = o_isub 56 := rfl
theorem c_D_readPart_56 : cT 130 56 = o_ca 59 120 2 2 false (some 7) := rfl
theorem c_D_readPart_59 : cT 130 59 = o_goto 153 := rfl
theorem c_D_readPart_62 : cT 130 62 = o_al 63 0 := rfl
theorem c_D_readPart_63 : cT 130 63 = o_ci 65 33 := rfl
theorem c_D_readPart_65 : cT 130 65 = o_ca 68 128 2 2 false (some 7) := rfl
theorem c_D_readPart_68 : cT 130 68 = o_ifeq 71 98 := rfl
theorem c_D_readPart_71 : cT 130 71 = o_il 72 2 := rfl
theorem c_D_readPart_72 : cT 130 72 = o_ci 74 8 := rfl
theorem c_D_readPart_74 : cT 130 74 = o_icge 77 98 := rfl
theorem c_D_readPart_77 : cT 130 77 = o_al 78 0 := rfl
theorem c_D_readPart_78 : cT 130 78 = o_ca 81 107 1 3 false (some 7) := rfl
theorem c_D_readPart_81 : cT 130 81 = o_al 82 0 := rfl
theorem c_D_readPart_82 : cT 130 82 = o_il 83 1 := rfl
theorem c_D_readPart_83 : cT 130 83 = o_il 84 2 := rfl
theorem c_D_readPart_84 : cT 130 84 = o_ci 85 1 := rfl
theorem c_D_readPart_85 : cT 130 85 = o_iadd 86 := rfl
theorem c_D_readPart_86 : cT 130 86 = o_ca 89 130 3 3 true (some 7) := rfl
theorem c_D_readPart_89 : cT 130 89 = o_al 90 0 := rfl
theorem c_D_readPart_90 : cT 130 90 = o_ci 92 (-33) := rfl
theorem c_D_readPart_92 : cT 130 92 = o_ca 95 119 2 2 false (some 7) := rfl
theorem c_D_readPart_95 : cT 130 95 = o_goto 153 := rfl
theorem c_D_readPart_98 : cT 130 98 = o_al 99 0 := rfl
theorem c_D_readPart_99 : cT 130 99 = o_ci 101 40 := rfl
theorem c_D_readPart_101 : cT 130 101 = o_ca 104 128 2 2 false (some 7) := rfl
theorem c_D_readPart_104 : cT 130 104 = o_ifeq 107 149 := rfl
theorem c_D_readPart_107 : cT 130 107 = o_il 108 1 := rfl
theorem c_D_readPart_108 : cT 130 108 = o_ci 110 8 := rfl
theorem c_D_readPart_110 : cT 130 110 = o_icge 113 149 := rfl
theorem c_D_readPart_113 : cT 130 113 = o_al 114 0 := rfl
theorem c_D_readPart_114 : cT 130 114 = o_ca 117 107 1 3 false (some 7) := rfl
theorem c_D_readPart_117 : cT 130 117 = o_al 118 0 := rfl
theorem c_D_readPart_118 : cT 130 118 = o_ci 119 0 := rfl
theorem c_D_readPart_119 : cT 130 119 = o_il 120 1 := rfl
theorem c_D_readPart_120 : cT 130 120 = o_ci 121 1 := rfl
theorem c_D_readPart_121 : cT 130 121 = o_iadd 122 := rfl
theorem c_D_readPart_122 : cT 130 122 = o_il 123 2 := rfl
theorem c_D_readPart_123 : cT 130 123 = o_ca 126 133 4 7 true (some 7) := rfl
theorem c_D_readPart_126 : cT 130 126 = o_al 127 0 := rfl
theorem c_D_readPart_127 : cT 130 127 = o_ci 129 41 := rfl
theorem c_D_readPart_129 : cT 130 129 = o_ca 132 128 2 2 false (some 7) := rfl
theorem c_D_readPart_132 : cT 130 132 = o_ifeq 135 142 := rfl
theorem c_D_readPart_135 : cT 130 135 = o_al 136 0 := rfl
theorem c_D_readPart_136 : cT 130 136 = o_ca 139 107 1 3 false (some 7) := rfl
theorem c_D_readPart_139 : cT 130 139 = o_goto 153 := rfl
theorem c_D_readPart_142 : cT 130 142 = o_al 143 0 := rfl
theorem c_D_readPart_143 : cT 130 143 = o_ca 146 129 1 1 false (some 7) := rfl
theorem c_D_readPart_146 : cT 130 146 = o_goto 153 := rfl
theorem c_D_readPart_149 : cT 130 149 = o_al 150 0 := rfl
theorem c_D_readPart_150 : cT 130 150 = o_ca 153 129 1 1 false (some 7) := rfl
theorem c_D_readPart_153 : cT 130 153 = o_vret := rfl
theorem c_D_signsOf_0 : cT 131 0 = o_il 1 0 := rfl
theorem c_D_signsOf_1 : cT 131 1 = o_sw 44 [(0, 32), (1, 35), (2, 38), (3, 41)] := rfl
theorem c_D_signsOf_32 : cT 131 32 = o_cv 34 (.ref 1000010) := rfl
theorem c_D_signsOf_34 : cT 131 34 = o_aret := rfl
theorem c_D_signsOf_35 : cT 131 35 = o_cv 37 (.ref 1000011) := rfl
theorem c_D_signsOf_37 : cT 131 37 = o_aret := rfl
theorem c_D_signsOf_38 : cT 131 38 = o_cv 40 (.ref 1000012) := rfl
theorem c_D_signsOf_40 : cT 131 40 = o_aret := rfl
theorem c_D_signsOf_41 : cT 131 41 = o_cv 43 (.ref 1000013) := rfl
theorem c_D_signsOf_43 : cT 131 43 = o_aret := rfl
theorem c_D_signsOf_44 : cT 131 44 = o_cv 46 (.ref 1000014) := rfl
theorem c_D_signsOf_46 : cT 131 46 = o_aret := rfl
theorem c_D_signIsOf_0 : cT 132 0 = o_al 1 0 := rfl
theorem c_D_signIsOf_1 : cT 132 1 = o_gf 4 7 6 := rfl
theorem c_D_signIsOf_4 : cT 132 4 = o_ci 5 2 := rfl
theorem c_D_signIsOf_5 : cT 132 5 = o_icne 8 34 := rfl
theorem c_D_signIsOf_8 : cT 132 8 = o_il 9 1 := rfl
theorem c_D_signIsOf_9 : cT 132 9 = o_ca 12 131 1 1 false none := rfl
theorem c_D_signIsOf_12 : cT 132 12 = o_al 13 0 := rfl
theorem c_D_signIsOf_13 : cT 132 13 = o_gf 16 7 0 := rfl
theorem c_D_signIsOf_16 : cT 132 16 = o_al 17 0 := rfl
theorem c_D_signIsOf_17 : cT 132 17 = o_gf 20 7 7 := rfl
theorem c_D_signIsOf_20 : cT 132 20 = o_ca 23 105 2 2 false (some 5) := rfl
theorem c_D_signIsOf_23 : cT 132 23 = o_i2c 24 := rfl
theorem c_D_signIsOf_24 : cT 132 24 = o_ca 27 126 2 2 false (some 100) := rfl
theorem c_D_signIsOf_27 : cT 132 27 = o_iflt 30 34 := rfl
theorem c_D_signIsOf_30 : cT 132 30 = o_ci 31 1 := rfl
theorem c_D_signIsOf_31 : cT 132 31 = o_goto 35 := rfl
theorem c_D_signIsOf_34 : cT 132 34 = o_ci 35 0 := rfl
theorem c_D_signIsOf_35 : cT 132 35 = o_iret .boolean := rfl
theorem c_D_readLevel_0 : cT 133 0 = o_il 1 1 := rfl
theorem c_D_readLevel_1 : cT 133 1 = o_ci 2 5 := rfl
theorem c_D_readLevel_2 : cT 133 2 = o_iclt 5 12 := rfl
theorem c_D_readLevel_5 : cT 133 5 = o_al 6 0 := rfl
theorem c_D_readLevel_6 : cT 133 6 = o_il 7 2 := rfl
theorem c_D_readLevel_7 : cT 133 7 = o_il 8 3 := rfl
theorem c_D_readLevel_8 : cT 133 8 = o_ca 11 130 3 3 false (some 7) := rfl
theorem c_D_readLevel_11 : cT 133 11 = o_vret := rfl
theorem c_D_readLevel_12 : cT 133 12 = o_al 13 0 := rfl
theorem c_D_readLevel_13 : cT 133 13 = o_il 14 1 := rfl
theorem c_D_readLevel_14 : cT 133 14 = o_ci 15 1 := rfl
theorem c_D_readLevel_15 : cT 133 15 = o_iadd 16 := rfl
theorem c_D_readLevel_16 : cT 133 16 = o_il 17 2 := rfl
theorem c_D_readLevel_17 : cT 133 17 = o_il 18 3 := rfl
theorem c_D_readLevel_18 : cT 133 18 = o_ca 21 133 4 7 true (some 7) := rfl
theorem c_D_readLevel_21 : cT 133 21 = o_il 22 1 := rfl
theorem c_D_readLevel_22 : cT 133 22 = o_ci 23 2 := rfl
theorem c_D_readLevel_23 : cT 133 23 = o_icne 26 30 := rfl
theorem c_D_readLevel_26 : cT 133 26 = o_ci 27 1 := rfl
theorem c_D_readLevel_27 : cT 133 27 = o_goto 32 := rfl
theorem c_D_readLevel_30 : cT 133 30 = o_ci 32 96 := rfl
theorem c_D_readLevel_32 : cT 133 32 = o_is 34 4 := rfl
theorem c_D_readLevel_34 : cT 133 34 = o_ci 35 0 := rfl
theorem c_D_readLevel_35 : cT 133 35 = o_is 37 5 := rfl
theorem c_D_readLevel_37 : cT 133 37 = o_il 39 5 := rfl
theorem c_D_readLevel_39 : cT 133 39 = o_il 41 4 := rfl
theorem c_D_readLevel_41 : cT 133 41 = o_icge 44 99 := rfl
theorem c_D_readLevel_44 : cT 133 44 = o_al 45 0 := rfl
theorem c_D_readLevel_45 : cT 133 45 = o_gf 48 7 5 := rfl
theorem c_D_readLevel_48 : cT 133 48 = o_ci 49 (-1) := rfl
theorem c_D_readLevel_49 : cT 133 49 = o_icne 52 99 := rfl
theorem c_D_readLevel_52 : cT 133 52 = o_al 53 0 := rfl
theorem c_D_readLevel_53 : cT 133 53 = o_il 54 1 := rfl
theorem c_D_readLevel_54 : cT 133 54 = o_ca 57 132 2 2 false (some 7) := rfl
theorem c_D_readLevel_57 : cT 133 57 = o_ifeq 60 99 := rfl
theorem c_D_readLevel_60 : cT 133 60 = o_al 61 0 := rfl
theorem c_D_readLevel_61 : cT 133 61 = o_gf 64 7 0 := rfl
theorem c_D_readLevel_64 : cT 133 64 = o_al 65 0 := rfl
theorem c_D_readLevel_65 : cT 133 65 = o_gf 68 7 7 := rfl
theorem c_D_readLevel_68 : cT 133 68 = o_ca 71 105 2 2 false (some 5) := rfl
theorem c_D_readLevel_71 : cT 133 71 = o_is 73 6 := rfl
theorem c_D_readLevel_73 : cT 133 73 = o_al 74 0 := rfl
theorem c_D_readLevel_74 : cT 133 74 = o_ca 77 107 1 3 false (some 7) := rfl
theorem c_D_readLevel_77 : cT 133 77 = o_al 78 0 := rfl
theorem c_D_readLevel_78 : cT 133 78 = o_il 79 1 := rfl
theorem c_D_readLevel_79 : cT 133 79 = o_ci 80 1 := rfl
theorem c_D_readLevel_80 : cT 133 80 = o_iadd 81 := rfl
theorem c_D_readLevel_81 : cT 133 81 = o_il 82 2 := rfl
theorem c_D_readLevel_82 : cT 133 82 = o_il 83 3 := rfl
theorem c_D_readLevel_83 : cT 133 83 = o_ca 86 133 4 7 true (some 7) := rfl
theorem c_D_readLevel_86 : cT 133 86 = o_al 87 0 := rfl
theorem c_D_readLevel_87 : cT 133 87 = o_il 89 6 := rfl
theorem c_D_readLevel_89 : cT 133 89 = o_ineg 90 := rfl
theorem c_D_readLevel_90 : cT 133 90 = o_ca 93 119 2 2 false (some 7) := rfl
theorem c_D_readLevel_93 : cT 133 93 = o_inc 96 5 1 := rfl
theorem c_D_readLevel_96 : cT 133 96 = o_goto 37 := rfl
theorem c_D_readLevel_99 : cT 133 99 = o_vret := rfl
theorem c_D_readTape_0 : cT 134 0 = o_al 1 0 := rfl
theorem c_D_readTape_1 : cT 134 1 = o_ci 2 0 := rfl
theorem c_D_readTape_2 : cT 134 2 = o_pf 5 7 2 0 := rfl
theorem c_D_readTape_5 : cT 134 5 = o_al 6 0 := rfl
theorem c_D_readTape_6 : cT 134 6 = o_ci 7 0 := rfl
theorem c_D_readTape_7 : cT 134 7 = o_pf 10 7 3 0 := rfl
theorem c_D_readTape_10 : cT 134 10 = o_al 11 0 := rfl
theorem c_D_readTape_11 : cT 134 11 = o_ci 12 (-1) := rfl
theorem c_D_readTape_12 : cT 134 12 = o_pf 15 7 5 0 := rfl
theorem c_D_readTape_15 : cT 134 15 = o_al 16 0 := rfl
theorem c_D_readTape_16 : cT 134 16 = o_ci 17 0 := rfl
theorem c_D_readTape_17 : cT 134 17 = o_pf 20 7 6 0 := rfl
theorem c_D_readTape_20 : cT 134 20 = o_al 21 0 := rfl
theorem c_D_readTape_21 : cT 134 21 = o_ci 22 0 := rfl
theorem c_D_readTape_22 : cT 134 22 = o_pf 25 7 8 0 := rfl
theorem c_D_readTape_25 : cT 134 25 = o_al 26 0 := rfl
theorem c_D_readTape_26 : cT 134 26 = o_ca 29 107 1 3 false (some 7) := rfl
theorem c_D_readTape_29 : cT 134 29 = o_al 30 0 := rfl
theorem c_D_readTape_30 : cT 134 30 = o_al 31 0 := rfl
theorem c_D_readTape_31 : cT 134 31 = o_ca 34 117 1 2 false (some 7) := rfl
theorem c_D_readTape_34 : cT 134 34 = o_pf 37 7 4 0 := rfl
theorem c_D_readTape_37 : cT 134 37 = o_al 38 0 := rfl
theorem c_D_readTape_38 : cT 134 38 = o_gf 41 7 4 := rfl
theorem c_D_readTape_41 : cT 134 41 = o_ci 43 (-1000000005) := rfl
theorem c_D_readTape_43 : cT 134 43 = o_icne 46 51 := rfl
theorem c_D_readTape_46 : cT 134 46 = o_al 47 0 := rfl
theorem c_D_readTape_47 : cT 134 47 = o_gf 50 7 7 := rfl
theorem c_D_readTape_50 : cT 134 50 = o_iret .int := rfl
theorem c_D_readTape_51 : cT 134 51 = o_al 52 0 := rfl
theorem c_D_readTape_52 : cT 134 52 = o_ca 55 107 1 3 false (some 7) := rfl
theorem c_D_readTape_55 : cT 134 55 = o_al 56 0 := rfl
theorem c_D_readTape_56 : cT 134 56 = o_ci 57 0 := rfl
theorem c_D_readTape_57 : cT 134 57 = o_ci 58 0 := rfl
theorem c_D_readTape_58 : cT 134 58 = o_ci 59 0 := rfl
theorem c_D_readTape_59 : cT 134 59 = o_ca 62 133 4 7 false (some 7) := rfl
theorem c_D_readTape_62 : cT 134 62 = o_al 63 0 := rfl
theorem c_D_readTape_63 : cT 134 63 = o_gf 66 7 6 := rfl
theorem c_D_readTape_66 : cT 134 66 = o_ci 67 1 := rfl
theorem c_D_readTape_67 : cT 134 67 = o_iceq 70 74 := rfl
theorem c_D_readTape_70 : cT 134 70 = o_al 71 0 := rfl
theorem c_D_readTape_71 : cT 134 71 = o_ca 74 129 1 1 false (some 7) := rfl
theorem c_D_readTape_74 : cT 134 74 = o_al 75 0 := rfl
theorem c_D_readTape_75 : cT 134 75 = o_gf 78 7 5 := rfl
theorem c_D_readTape_78 : cT 134 78 = o_iret .int := rfl
theorem c_T_init_0 : cT 136 0 = o_al 1 0 := rfl
theorem c_T_init_1 : cT 136 1 = o_oin 4 := rfl
theorem c_T_init_4 : cT 136 4 = o_al 5 0 := rfl
theorem c_T_init_5 : cT 136 5 = o_il 6 1 := rfl
theorem c_T_init_6 : cT 136 6 = o_pf 9 6 0 0 := rfl
theorem c_T_init_9 : cT 136 9 = o_al 10 0 := rfl
theorem c_T_init_10 : cT 136 10 = o_il 11 2 := rfl
theorem c_T_init_11 : cT 136 11 = o_pf 14 6 1 0 := rfl
theorem c_T_init_14 : cT 136 14 = o_al 15 0 := rfl
theorem c_T_init_15 : cT 136 15 = o_il 16 3 := rfl
theorem c_T_init_16 : cT 136 16 = o_pf 19 6 2 0 := rfl
theorem c_T_init_19 : cT 136 19 = o_al 20 0 := rfl
theorem c_T_init_20 : cT 136 20 = o_il 22 4 := rfl
theorem c_T_init_22 : cT 136 22 = o_pf 25 6 3 0 := rfl
theorem c_T_init_25 : cT 136 25 = o_al 26 0 := rfl
theorem c_T_init_26 : cT 136 26 = o_al 28 5 := rfl
theorem c_T_init_28 : cT 136 28 = o_pf 31 6 4 2 := rfl
theorem c_T_init_31 : cT 136 31 = o_vret := rfl
theorem c_D_made_0 : cT 137 0 = o_new 3 6 5 [.int 0, .int 0, .int 0, .int 0, .null] := rfl
theorem c_D_made_3 : cT 137 3 = o_dup 4 := rfl
theorem c_D_made_4 : cT 137 4 = o_al 5 0 := rfl
theorem c_D_made_5 : cT 137 5 = o_gf 8 7 4 := rfl
theorem c_D_made_8 : cT 137 8 = o_il 9 1 := rfl
theorem c_D_made_9 : cT 137 9 = o_il 10 2 := rfl
theorem c_D_made_10 : cT 137 10 = o_al 11 0 := rfl
theorem c_D_made_11 : cT 137 11 = o_gf 14 7 3 := rfl
theorem c_D_made_14 : cT 137 14 = o_al 15 0 := rfl
theorem c_D_made_15 : cT 137 15 = o_gf 18 7 1 := rfl
theorem c_D_made_18 : cT 137 18 = o_ci 19 0 := rfl
theorem c_D_made_19 : cT 137 19 = o_al 20 0 := rfl
theorem c_D_made_20 : cT 137 20 = o_gf 23 7 2 := rfl
theorem c_D_made_23 : cT 137 23 = o_ca 26 0 2 2 false none := rfl
theorem c_D_made_26 : cT 137 26 = o_ca 29 135 2 3 false none := rfl
theorem c_D_made_29 : cT 137 29 = o_ca 32 136 6 6 false (some 6) := rfl
theorem c_D_made_32 : cT 137 32 = o_aret := rfl
theorem c_L_enact_0 : cT 138 0 = o_al 1 0 := rfl
theorem c_L_enact_1 : cT 138 1 = o_gf 4 1 1 := rfl
theorem c_L_enact_4 : cT 138 4 = o_iflt 7 19 := rfl
theorem c_L_enact_7 : cT 138 7 = o_al 8 0 := rfl
theorem c_L_enact_8 : cT 138 8 = o_gf 11 1 1 := rfl
theorem c_L_enact_11 : cT 138 11 = o_al 12 0 := rfl
theorem c_L_enact_12 : cT 138 12 = o_gf 15 1 0 := rfl
theorem c_L_enact_15 : cT 138 15 = o_len 16 := rfl
theorem c_L_enact_16 : cT 138 16 = o_iclt 19 22 := rfl
theorem c_L_enact_19 : cT 138 19 = o_ci 21 (-1000000003) := rfl
theorem c_L_enact_21 : cT 138 21 = o_iret .int := rfl
theorem c_L_enact_22 : cT 138 22 = o_al 23 0 := rfl
theorem c_L_enact_23 : cT 138 23 = o_gf 26 1 0 := rfl
theorem c_L_enact_26 : cT 138 26 = o_al 27 0 := rfl
theorem c_L_enact_27 : cT 138 27 = o_gf 30 1 1 := rfl
theorem c_L_enact_30 : cT 138 30 = o_al 31 1 := rfl
theorem c_L_enact_31 : cT 138 31 = o_aas 32 4 6 := rfl
theorem c_L_enact_32 : cT 138 32 = o_al 33 0 := rfl
theorem c_L_enact_33 : cT 138 33 = o_dup 34 := rfl
theorem c_L_enact_34 : cT 138 34 = o_gf 37 1 1 := rfl
theorem c_L_enact_37 : cT 138 37 = o_ci 38 1 := rfl
theorem c_L_enact_38 : cT 138 38 = o_iadd 39 := rfl
theorem c_L_enact_39 : cT 138 39 = o_pf 42 1 1 0 := rfl
theorem c_L_enact_42 : cT 138 42 = o_al 43 0 := rfl
theorem c_L_enact_43 : cT 138 43 = o_gf 46 1 1 := rfl
theorem c_L_enact_46 : cT 138 46 = o_ci 47 1 := rfl
theorem c_L_enact_47 : cT 138 47 = o_isub 48 := rfl
theorem c_L_enact_48 : cT 138 48 = o_iret .int := rfl
theorem c_B_lastDayHeld_0 : cT 165 0 = o_al 1 0 := rfl
theorem c_B_lastDayHeld_1 : cT 165 1 = o_gf 4 0 1 := rfl
theorem c_B_lastDayHeld_4 : cT 165 4 = o_il 5 1 := rfl
theorem c_B_lastDayHeld_5 : cT 165 5 = o_ci 6 3 := rfl
theorem c_B_lastDayHeld_6 : cT 165 6 = o_ca 9 22 3 4 false (some 2) := rfl
theorem c_B_lastDayHeld_9 : cT 165 9 = o_al 10 0 := rfl
theorem c_B_lastDayHeld_10 : cT 165 10 = o_gf 13 0 1 := rfl
theorem c_B_lastDayHeld_13 : cT 165 13 = o_il 14 1 := rfl
theorem c_B_lastDayHeld_14 : cT 165 14 = o_ci 15 2 := rfl
theorem c_B_lastDayHeld_15 : cT 165 15 = o_ca 18 22 3 4 false (some 2) := rfl
theorem c_B_lastDayHeld_18 : cT 165 18 = o_iadd 19 := rfl
theorem c_B_lastDayHeld_19 : cT 165 19 = o_ci 20 1 := rfl
theorem c_B_lastDayHeld_20 : cT 165 20 = o_isub 21 := rfl
theorem c_B_lastDayHeld_21 : cT 165 21 = o_iret .int := rfl
theorem c_B_membersFor_0 : cT 177 0 = o_ci 1 0 := rfl
theorem c_B_membersFor_1 : cT 177 1 = o_is 3 4 := rfl
theorem c_B_membersFor_3 : cT 177 3 = o_ci 4 0 := rfl
theorem c_B_membersFor_4 : cT 177 4 = o_is 6 5 := rfl
theorem c_B_membersFor_6 : cT 177 6 = o_il 8 5 := rfl
theorem c_B_membersFor_8 : cT 177 8 = o_al 9 0 := rfl
theorem c_B_membersFor_9 : cT 177 9 = o_gf 12 0 2 := rfl
theorem c_B_membersFor_12 : cT 177 12 = o_gf 15 2 3 := rfl
theorem c_B_membersFor_15 : cT 177 15 = o_icge 18 111 := rfl
theorem c_B_membersFor_18 : cT 177 18 = o_al 19 0 := rfl
theorem c_B_membersFor_19 : cT 177 19 = o_gf 22 0 2 := rfl
theorem c_B_membersFor_22 : cT 177 22 = o_il 24 5 := rfl
theorem c_B_membersFor_24 : cT 177 24 = o_ci 25 1 := rfl
theorem c_B_membersFor_25 : cT 177 25 = o_ca 28 22 3 4 false (some 2) := rfl
theorem c_B_membersFor_28 : cT 177 28 = o_il 29 2 := rfl
theorem c_B_membersFor_29 : cT 177 29 = o_ishr 30 := rfl
theorem c_B_membersFor_30 : cT 177 30 = o_ci 31 1 := rfl
theorem c_B_membersFor_31 : cT 177 31 = o_iand 32 := rfl
theorem c_B_membersFor_32 : cT 177 32 = o_ci 33 1 := rfl
theorem c_B_membersFor_33 : cT 177 33 = o_icne 36 40 := rfl
theorem c_B_membersFor_36 : cT 177 36 = o_ci 37 1 := rfl
theorem c_B_membersFor_37 : cT 177 37 = o_goto 41 := rfl
theorem c_B_membersFor_40 : cT 177 40 = o_ci 41 0 := rfl
theorem c_B_membersFor_41 : cT 177 41 = o_is 43 6 := rfl
theorem c_B_membersFor_43 : cT 177 43 = o_al 44 0 := rfl
theorem c_B_membersFor_44 : cT 177 44 = o_gf 47 0 2 := rfl
theorem c_B_membersFor_47 : cT 177 47 = o_il 49 5 := rfl
theorem c_B_membersFor_49 : cT 177 49 = o_ci 50 0 := rfl
theorem c_B_membersFor_50 : cT 177 50 = o_ca 53 22 3 4 false (some 2) := rfl
theorem c_B_membersFor_53 : cT 177 53 = o_il 54 3 := rfl
theorem c_B_membersFor_54 : cT 177 54 = o_ci 56 7 := rfl
theorem c_B_membersFor_56 : cT 177 56 = o_irem 57 := rfl
theorem c_B_membersFor_57 : cT 177 57 = o_ishr 58 := rfl
theorem c_B_membersFor_58 : cT 177 58 = o_ci 59 1 := rfl
theorem c_B_membersFor_59 : cT 177 59 = o_iand 60 := rfl
theorem c_B_membersFor_60 : cT 177 60 = o_ci 61 1 := rfl
theorem c_B_membersFor_61 : cT 177 61 = o_icne 64 68 := rfl
theorem c_B_membersFor_64 : cT 177 64 = o_ci 65 1 := rfl
theorem c_B_membersFor_65 : cT 177 65 = o_goto 69 := rfl
theorem c_B_membersFor_68 : cT 177 68 = o_ci 69 0 := rfl
theorem c_B_membersFor_69 : cT 177 69 = o_is 71 7 := rfl
theorem c_B_membersFor_71 : cT 177 71 = o_il 73 6 := rfl
theorem c_B_membersFor_73 : cT 177 73 = o_ifeq 76 105 := rfl
theorem c_B_membersFor_76 : cT 177 76 = o_il 78 7 := rfl
theorem c_B_membersFor_78 : cT 177 78 = o_ifne 81 105 := rfl
theorem c_B_membersFor_81 : cT 177 81 = o_al 82 0 := rfl
theorem c_B_membersFor_82 : cT 177 82 = o_gf 85 0 2 := rfl
theorem c_B_membersFor_85 : cT 177 85 = o_il 87 5 := rfl
theorem c_B_membersFor_87 : cT 177 87 = o_ci 88 2 := rfl
theorem c_B_membersFor_88 : cT 177 88 = o_ca 91 22 3 4 false (some 2) := rfl
theorem c_B_membersFor_91 : cT 177 91 = o_il 92 1 := rfl
theorem c_B_membersFor_92 : cT 177 92 = o_iand 93 := rfl
theorem c_B_membersFor_93 : cT 177 93 = o_ifne 96 105 := rfl
theorem c_B_membersFor_96 : cT 177 96 = o_il 98 4 := rfl
theorem c_B_membersFor_98 : cT 177 98 = o_ci 99 1 := rfl
theorem c_B_membersFor_99 : cT 177 99 = o_il 101 5 := rfl
theorem c_B_membersFor_101 : cT 177 101 = o_ishl 102 := rfl
theorem c_B_membersFor_102 : cT 177 102 = o_ior 103 := rfl
theorem c_B_membersFor_103 : cT 177 103 = o_is 105 4 := rfl
theorem c_B_membersFor_105 : cT 177 105 = o_inc 108 5 1 := rfl
theorem c_B_membersFor_108 : cT 177 108 = o_goto 6 := rfl
theorem c_B_membersFor_111 : cT 177 111 = o_il 113 4 := rfl
theorem c_B_membersFor_113 : cT 177 113 = o_iret .int := rfl
theorem c_B_boardFor_0 : cT 178 0 = o_al 1 0 := rfl
theorem c_B_boardFor_1 : cT 178 1 = o_il 2 1 := rfl
theorem c_B_boardFor_2 : cT 178 2 = o_il 3 2 := rfl
theorem c_B_boardFor_3 : cT 178 3 = o_il 4 3 := rfl
theorem c_B_boardFor_4 : cT 178 4 = o_ca 7 177 4 8 false (some 0) := rfl
theorem c_B_boardFor_7 : cT 178 7 = o_is 9 4 := rfl
theorem c_B_boardFor_9 : cT 178 9 = o_ci 11 (-1000000005) := rfl
theorem c_B_boardFor_11 : cT 178 11 = o_is 13 5 := rfl
theorem c_B_boardFor_13 : cT 178 13 = o_ci 15 2147483647 := rfl
theorem c_B_boardFor_15 : cT 178 15 = o_is 17 6 := rfl
theorem c_B_boardFor_17 : cT 178 17 = o_ci 18 0 := rfl
theorem c_B_boardFor_18 : cT 178 18 = o_is 20 7 := rfl
theorem c_B_boardFor_20 : cT 178 20 = o_il 22 7 := rfl
theorem c_B_boardFor_22 : cT 178 22 = o_al 23 0 := rfl
theorem c_B_boardFor_23 : cT 178 23 = o_gf 26 0 2 := rfl
theorem c_B_boardFor_26 : cT 178 26 = o_gf 29 2 3 := rfl
theorem c_B_boardFor_29 : cT 178 29 = o_icge 32 176 := rfl
theorem c_B_boardFor_32 : cT 178 32 = o_il 34 7 := rfl
theorem c_B_boardFor_34 : cT 178 34 = o_ci 35 1 := rfl
theorem c_B_boardFor_35 : cT 178 35 = o_iadd 36 := rfl
theorem c_B_boardFor_36 : cT 178 36 = o_is 38 8 := rfl
theorem c_B_boardFor_38 : cT 178 38 = o_il 40 8 := rfl
theorem c_B_boardFor_40 : cT 178 40 = o_al 41 0 := rfl
theorem c_B_boardFor_41 : cT 178 41 = o_gf 44 0 2 := rfl
theorem c_B_boardFor_44 : cT 178 44 = o_gf 47 2 3 := rfl
theorem c_B_boardFor_47 : cT 178 47 = o_icge 50 170 := rfl
theorem c_B_boardFor_50 : cT 178 50 = o_il 52 8 := rfl
theorem c_B_boardFor_52 : cT 178 52 = o_ci 53 1 := rfl
theorem c_B_boardFor_53 : cT 178 53 = o_iadd 54 := rfl
theorem c_B_boardFor_54 : cT 178 54 = o_is 56 9 := rfl
theorem c_B_boardFor_56 : cT 178 56 = o_il 58 9 := rfl
theorem c_B_boardFor_58 : cT 178 58 = o_al 59 0 := rfl
theorem c_B_boardFor_59 : cT 178 59 = o_gf 62 0 2 := rfl
theorem c_B_boardFor_62 : cT 178 62 = o_gf 65 2 3 := rfl
theorem c_B_boardFor_65 : cT 178 65 = o_icge 68 164 := rfl
theorem c_B_boardFor_68 : cT 178 68 = o_ci 69 1 := rfl
theorem c_B_boardFor_69 : cT 178 69 = o_il 71 7 := rfl
theorem c_B_boardFor_71 : cT 178 71 = o_ishl 72 := rfl
theorem c_B_boardFor_72 : cT 178 72 = o_ci 73 1 := rfl
theorem c_B_boardFor_73 : cT 178 73 = o_il 75 8 := rfl
theorem c_B_boardFor_75 : cT 178 75 = o_ishl 76 := rfl
theorem c_B_boardFor_76 : cT 178 76 = o_ior 77 := rfl
theorem c_B_boardFor_77 : cT 178 77 = o_ci 78 1 := rfl
theorem c_B_boardFor_78 : cT 178 78 = o_il 80 9 := rfl
theorem c_B_boardFor_80 : cT 178 80 = o_ishl 81 := rfl
theorem c_B_boardFor_81 : cT 178 81 = o_ior 82 := rfl
theorem c_B_boardFor_82 : cT 178 82 = o_is 84 10 := rfl
theorem c_B_boardFor_84 : cT 178 84 = o_al 85 0 := rfl
theorem c_B_boardFor_85 : cT 178 85 = o_gf 88 0 2 := rfl
theorem c_B_boardFor_88 : cT 178 88 = o_il 90 7 := rfl
theorem c_B_boardFor_90 : cT 178 90 = o_ci 91 3 := rfl
theorem c_B_boardFor_91 : cT 178 91 = o_ca 94 22 3 4 false (some 2) := rfl
theorem c_B_boardFor_94 : cT 178 94 = o_al 95 0 := rfl
theorem c_B_boardFor_95 : cT 178 95 = o_gf 98 0 2 := rfl
theorem c_B_boardFor_98 : cT 178 98 = o_il 100 8 := rfl
theorem c_B_boardFor_100 : cT 178 100 = o_ci 101 3 := rfl
theorem c_B_boardFor_101 : cT 178 101 = o_ca 104 22 3 4 false (some 2) := rfl
theorem c_B_boardFor_104 : cT 178 104 = o_iadd 105 := rfl
theorem c_B_boardFor_105 : cT 178 105 = o_al 106 0 := rfl
theorem c_B_boardFor_106 : cT 178 106 = o_gf 109 0 2 := rfl
theorem c_B_boardFor_109 : cT 178 109 = o_il 111 9 := rfl
theorem c_B_boardFor_111 : cT 178 111 = o_ci 112 3 := rfl
theorem c_B_boardFor_112 : cT 178 112 = o_ca 115 22 3 4 false (some 2) := rfl
theorem c_B_boardFor_115 : cT 178 115 = o_iadd 116 := rfl
theorem c_B_boardFor_116 : cT 178 116 = o_is 118 11 := rfl
theorem c_B_boardFor_118 : cT 178 118 = o_il 120 10 := rfl
theorem c_B_boardFor_120 : cT 178 120 = o_il 122 4 := rfl
theorem c_B_boardFor_122 : cT 178 122 = o_ci 123 (-1) := rfl
theorem c_B_boardFor_123 : cT 178 123 = o_ixor 124 := rfl
theorem c_B_boardFor_124 : cT 178 124 = o_iand 125 := rfl
theorem c_B_boardFor_125 : cT 178 125 = o_ifne 128 158 := rfl
theorem c_B_boardFor_128 : cT 178 128 = o_il 130 11 := rfl
theorem c_B_boardFor_130 : cT 178 130 = o_il 132 6 := rfl
theorem c_B_boardFor_132 : cT 178 132 = o_iclt 135 138 := rfl
theorem c_B_boardFor_135 : cT 178 135 = o_goto 158 := rfl
theorem c_B_boardFor_138 : cT 178 138 = o_il 140 11 := rfl
theorem c_B_boardFor_140 : cT 178 140 = o_is 142 6 := rfl
theorem c_B_boardFor_142 : cT 178 142 = o_il 144 7 := rfl
theorem c_B_boardFor_144 : cT 178 144 = o_ci 146 100 := rfl
theorem c_B_boardFor_146 : cT 178 146 = o_imul 147 := rfl
theorem c_B_boardFor_147 : cT 178 147 = o_il 149 8 := rfl
theorem c_B_boardFor_149 : cT 178 149 = o_ci 151 10 := rfl
theorem c_B_boardFor_151 : cT 178 151 = o_imul 152 := rfl
theorem c_B_boardFor_152 : cT 178 152 = o_iadd 153 := rfl
theorem c_B_boardFor_153 : cT 178 153 = o_il 155 9 := rfl
theorem c_B_boardFor_155 : cT 178 155 = o_iadd 156 := rfl
theorem c_B_boardFor_156 : cT 178 156 = o_is 158 5 := rfl
theorem c_B_boardFor_158 : cT 178 158 = o_inc 161 9 1 := rfl
theorem c_B_boardFor_161 : cT 178 161 = o_goto 56 := rfl
theorem c_B_boardFor_164 : cT 178 164 = o_inc 167 8 1 := rfl
theorem c_B_boardFor_167 : cT 178 167 = o_goto 38 := rfl
theorem c_B_boardFor_170 : cT 178 170 = o_inc 173 7 1 := rfl
theorem c_B_boardFor_173 : cT 178 173 = o_goto 20 := rfl
theorem c_B_boardFor_176 : cT 178 176 = o_il 178 5 := rfl
theorem c_B_boardFor_178 : cT 178 178 = o_iret .int := rfl
theorem c_B_hasReport_0 : cT 190 0 = o_ci 1 0 := rfl
theorem c_B_hasReport_1 : cT 190 1 = o_is 2 2 := rfl
theorem c_B_hasReport_2 : cT 190 2 = o_il 3 2 := rfl
theorem c_B_hasReport_3 : cT 190 3 = o_al 4 0 := rfl
theorem c_B_hasReport_4 : cT 190 4 = o_gf 7 0 1 := rfl
theorem c_B_hasReport_7 : cT 190 7 = o_gf 10 2 3 := rfl
theorem c_B_hasReport_10 : cT 190 10 = o_icge 13 64 := rfl
theorem c_B_hasReport_13 : cT 190 13 = o_al 14 0 := rfl
theorem c_B_hasReport_14 : cT 190 14 = o_gf 17 0 1 := rfl
theorem c_B_hasReport_17 : cT 190 17 = o_il 18 2 := rfl
theorem c_B_hasReport_18 : cT 190 18 = o_ci 19 0 := rfl
theorem c_B_hasReport_19 : cT 190 19 = o_ca 22 22 3 4 false (some 2) := rfl
theorem c_B_hasReport_22 : cT 190 22 = o_ci 23 1 := rfl
theorem c_B_hasReport_23 : cT 190 23 = o_ca 26 164 2 4 false none := rfl
theorem c_B_hasReport_26 : cT 190 26 = o_is 27 3 := rfl
theorem c_B_hasReport_27 : cT 190 27 = o_il 28 3 := rfl
theorem c_B_hasReport_28 : cT 190 28 = o_ifeq 31 58 := rfl
theorem c_B_hasReport_31 : cT 190 31 = o_al 32 0 := rfl
theorem c_B_hasReport_32 : cT 190 32 = o_gf 35 0 1 := rfl
theorem c_B_hasReport_35 : cT 190 35 = o_il 36 2 := rfl
theorem c_B_hasReport_36 : cT 190 36 = o_ci 37 1 := rfl
theorem c_B_hasReport_37 : cT 190 37 = o_ca 40 22 3 4 false (some 2) := rfl
theorem c_B_hasReport_40 : cT 190 40 = o_il 41 1 := rfl
theorem c_B_hasReport_41 : cT 190 41 = o_icne 44 58 := rfl
theorem c_B_hasReport_44 : cT 190 44 = o_al 45 0 := rfl
theorem c_B_hasReport_45 : cT 190 45 = o_il 46 2 := rfl
theorem c_B_hasReport_46 : cT 190 46 = o_ca 49 165 2 2 false (some 0) := rfl
theorem c_B_hasReport_49 : cT 190 49 = o_al 50 0 := rfl
theorem c_B_hasReport_50 : cT 190 50 = o_gf 53 0 8 := rfl
theorem c_B_hasReport_53 : cT 190 53 = o_iclt 56 58 := rfl
theorem c_B_hasReport_56 : cT 190 56 = o_ci 57 1 := rfl
theorem c_B_hasReport_57 : cT 190 57 = o_iret .boolean := rfl
theorem c_B_hasReport_58 : cT 190 58 = o_inc 61 2 1 := rfl
theorem c_B_hasReport_61 : cT 190 61 = o_goto 2 := rfl
theorem c_B_hasReport_64 : cT 190 64 = o_ci 65 0 := rfl
theorem c_B_hasReport_65 : cT 190 65 = o_iret .boolean := rfl
theorem c_B_hasNotice_0 : cT 191 0 = o_al 1 0 := rfl
theorem c_B_hasNotice_1 : cT 191 1 = o_gf 4 0 7 := rfl
theorem c_B_hasNotice_4 : cT 191 4 = o_al 5 0 := rfl
theorem c_B_hasNotice_5 : cT 191 5 = o_gf 8 0 0 := rfl
theorem c_B_hasNotice_8 : cT 191 8 = o_il 9 1 := rfl
theorem c_B_hasNotice_9 : cT 191 9 = o_ci 10 0 := rfl
theorem c_B_hasNotice_10 : cT 191 10 = o_ca 13 22 3 4 false (some 2) := rfl
theorem c_B_hasNotice_13 : cT 191 13 = o_ci 14 1 := rfl
theorem c_B_hasNotice_14 : cT 191 14 = o_al 15 0 := rfl
theorem c_B_hasNotice_15 : cT 191 15 = o_gf 18 0 8 := rfl
theorem c_B_hasNotice_18 : cT 191 18 = o_al 19 0 := rfl
theorem c_B_hasNotice_19 : cT 191 19 = o_gf 22 0 0 := rfl
theorem c_B_hasNotice_22 : cT 191 22 = o_il 23 1 := rfl
theorem c_B_hasNotice_23 : cT 191 23 = o_ci 24 4 := rfl
theorem c_B_hasNotice_24 : cT 191 24 = o_ca 27 22 3 4 false (some 2) := rfl
theorem c_B_hasNotice_27 : cT 191 27 = o_ci 28 0 := rfl
theorem c_B_hasNotice_28 : cT 191 28 = o_ci 29 0 := rfl
theorem c_B_hasNotice_29 : cT 191 29 = o_ci 30 0 := rfl
theorem c_B_hasNotice_30 : cT 191 30 = o_ca 33 85 8 9 false (some 1) := rfl
theorem c_B_hasNotice_33 : cT 191 33 = o_is 34 2 := rfl
theorem c_B_hasNotice_34 : cT 191 34 = o_ci 35 0 := rfl
theorem c_B_hasNotice_35 : cT 191 35 = o_is 36 3 := rfl
theorem c_B_hasNotice_36 : cT 191 36 = o_il 37 3 := rfl
theorem c_B_hasNotice_37 : cT 191 37 = o_al 38 0 := rfl
theorem c_B_hasNotice_38 : cT 191 38 = o_gf 41 0 1 := rfl
theorem c_B_hasNotice_41 : cT 191 41 = o_gf 44 2 3 := rfl
theorem c_B_hasNotice_44 : cT 191 44 = o_icge 47 130 := rfl
theorem c_B_hasNotice_47 : cT 191 47 = o_al 48 0 := rfl
theorem c_B_hasNotice_48 : cT 191 48 = o_gf 51 0 1 := rfl
theorem c_B_hasNotice_51 : cT 191 51 = o_il 52 3 := rfl
theorem c_B_hasNotice_52 : cT 191 52 = o_ci 53 0 := rfl
theorem c_B_hasNotice_53 : cT 191 53 = o_ca 56 22 3 4 false (some 2) := rfl
theorem c_B_hasNotice_56 : cT 191 56 = o_ci 57 3 := rfl
theorem c_B_hasNotice_57 : cT 191 57 = o_ca 60 164 2 4 false none := rfl
theorem c_B_hasNotice_60 : cT 191 60 = o_ifeq 63 83 := rfl
theorem c_B_hasNotice_63 : cT 191 63 = o_al 64 0 := rfl
theorem c_B_hasNotice_64 : cT 191 64 = o_gf 67 0 1 := rfl
theorem c_B_hasNotice_67 : cT 191 67 = o_il 68 3 := rfl
theorem c_B_hasNotice_68 : cT 191 68 = o_ci 69 2 := rfl
theorem c_B_hasNotice_69 : cT 191 69 = o_ca 72 22 3 4 false (some 2) := rfl
theorem c_B_hasNotice_72 : cT 191 72 = o_al 73 0 := rfl
theorem c_B_hasNotice_73 : cT 191 73 = o_gf 76 0 8 := rfl
theorem c_B_hasNotice_76 : cT 191 76 = o_icne 79 83 := rfl
theorem c_B_hasNotice_79 : cT 191 79 = o_ci 80 1 := rfl
theorem c_B_hasNotice_80 : cT 191 80 = o_goto 84 := rfl
theorem c_B_hasNotice_83 : cT 191 83 = o_ci 84 0 := rfl
theorem c_B_hasNotice_84 : cT 191 84 = o_is 86 4 := rfl
theorem c_B_hasNotice_86 : cT 191 86 = o_il 88 4 := rfl
theorem c_B_hasNotice_88 : cT 191 88 = o_ifeq 91 124 := rfl
theorem c_B_hasNotice_91 : cT 191 91 = o_al 92 0 := rfl
theorem c_B_hasNotice_92 : cT 191 92 = o_gf 95 0 1 := rfl
theorem c_B_hasNotice_95 : cT 191 95 = o_il 96 3 := rfl
theorem c_B_hasNotice_96 : cT 191 96 = o_ci 97 1 := rfl
theorem c_B_hasNotice_97 : cT 191 97 = o_ca 100 22 3 4 false (some 2) := rfl
theorem c_B_hasNotice_100 : cT 191 100 = o_il 101 1 := rfl
theorem c_B_hasNotice_101 : cT 191 101 = o_icne 104 124 := rfl
theorem c_B_hasNotice_104 : cT 191 104 = o_al 105 0 := rfl
theorem c_B_hasNotice_105 : cT 191 105 = o_gf 108 0 8 := rfl
theorem c_B_hasNotice_108 : cT 191 108 = o_al 109 0 := rfl
theorem c_B_hasNotice_109 : cT 191 109 = o_gf 112 0 1 := rfl
theorem c_B_hasNotice_112 : cT 191 112 = o_il 113 3 := rfl
theorem c_B_hasNotice_113 : cT 191 113 = o_ci 114 3 := rfl
theorem c_B_hasNotice_114 : cT 191 114 = o_ca 117 22 3 4 false (some 2) := rfl
theorem c_B_hasNotice_117 : cT 191 117 = o_isub 118 := rfl
theorem c_B_hasNotice_118 : cT 191 118 = o_il 119 2 := rfl
theorem c_B_hasNotice_119 : cT 191 119 = o_iclt 122 124 := rfl
theorem c_B_hasNotice_122 : cT 191 122 = o_ci 123 1 := rfl
theorem c_B_hasNotice_123 : cT 191 123 = o_iret .boolean := rfl
theorem c_B_hasNotice_124 : cT 191 124 = o_inc 127 3 1 := rfl
theorem c_B_hasNotice_127 : cT 191 127 = o_goto 36 := rfl
theorem c_B_hasNotice_130 : cT 191 130 = o_ci 131 0 := rfl
theorem c_B_hasNotice_131 : cT 191 131 = o_iret .boolean := rfl
theorem c_B_causeToday_0 : cT 192 0 = o_al 1 0 := rfl
theorem c_B_causeToday_1 : cT 192 1 = o_il 2 1 := rfl
theorem c_B_causeToday_2 : cT 192 2 = o_al 3 0 := rfl
theorem c_B_causeToday_3 : cT 192 3 = o_gf 6 0 8 := rfl
theorem c_B_causeToday_6 : cT 192 6 = o_ca 9 86 3 4 false (some 0) := rfl
theorem c_B_causeToday_9 : cT 192 9 = o_ifne 12 14 := rfl
theorem c_B_causeToday_12 : cT 192 12 = o_ci 13 1 := rfl
theorem c_B_causeToday_13 : cT 192 13 = o_iret .int := rfl
theorem c_B_causeToday_14 : cT 192 14 = o_al 15 0 := rfl
theorem c_B_causeToday_15 : cT 192 15 = o_il 16 1 := rfl
theorem c_B_causeToday_16 : cT 192 16 = o_ca 19 190 2 4 false (some 0) := rfl
theorem c_B_causeToday_19 : cT 192 19 = o_ifne 22 24 := rfl
theorem c_B_causeToday_22 : cT 192 22 = o_ci 23 2 := rfl
theorem c_B_causeToday_23 : cT 192 23 = o_iret .int := rfl
theorem c_B_causeToday_24 : cT 192 24 = o_al 25 0 := rfl
theorem c_B_causeToday_25 : cT 192 25 = o_il 26 1 := rfl
theorem c_B_causeToday_26 : cT 192 26 = o_ca 29 191 2 5 false (some 0) := rfl
theorem c_B_causeToday_29 : cT 192 29 = o_ifeq 32 36 := rfl
theorem c_B_causeToday_32 : cT 192 32 = o_ci 33 0 := rfl
theorem c_B_causeToday_33 : cT 192 33 = o_goto 37 := rfl
theorem c_B_causeToday_36 : cT 192 36 = o_ci 37 3 := rfl
theorem c_B_causeToday_37 : cT 192 37 = o_iret .int := rfl
theorem c_B_timesPutOffBy_0 : cT 198 0 = o_al 1 0 := rfl
theorem c_B_timesPutOffBy_1 : cT 198 1 = o_gf 4 0 5 := rfl
theorem c_B_timesPutOffBy_4 : cT 198 4 = o_il 5 1 := rfl
theorem c_B_timesPutOffBy_5 : cT 198 5 = o_ci 6 0 := rfl
theorem c_B_timesPutOffBy_6 : cT 198 6 = o_ca 9 22 3 4 false (some 2) := rfl
theorem c_B_timesPutOffBy_9 : cT 198 9 = o_iret .int := rfl
theorem c_B_canUnwind_0 : cT 203 0 = o_al 1 0 := rfl
theorem c_B_canUnwind_1 : cT 203 1 = o_gf 4 0 3 := rfl
theorem c_B_canUnwind_4 : cT 203 4 = o_il 5 1 := rfl
theorem c_B_canUnwind_5 : cT 203 5 = o_ci 6 0 := rfl
theorem c_B_canUnwind_6 : cT 203 6 = o_ca 9 22 3 4 false (some 2) := rfl
theorem c_B_canUnwind_9 : cT 203 9 = o_is 10 2 := rfl
theorem c_B_canUnwind_10 : cT 203 10 = o_al 11 0 := rfl
theorem c_B_canUnwind_11 : cT 203 11 = o_gf 14 0 3 := rfl
theorem c_B_canUnwind_14 : cT 203 14 = o_il 15 1 := rfl
theorem c_B_canUnwind_15 : cT 203 15 = o_ci 16 2 := rfl
theorem c_B_canUnwind_16 : cT 203 16 = o_ca 19 22 3 4 false (some 2) := rfl
theorem c_B_canUnwind_19 : cT 203 19 = o_ci 20 2 := rfl
theorem c_B_canUnwind_20 : cT 203 20 = o_icne 23 32 := rfl
theorem c_B_canUnwind_23 : cT 203 23 = o_al 24 0 := rfl
theorem c_B_canUnwind_24 : cT 203 24 = o_il 25 2 := rfl
theorem c_B_canUnwind_25 : cT 203 25 = o_ca 28 41 2 2 false (some 0) := rfl
theorem c_B_canUnwind_28 : cT 203 28 = o_ci 29 1 := rfl
theorem c_B_canUnwind_29 : cT 203 29 = o_iceq 32 34 := rfl
theorem c_B_canUnwind_32 : cT 203 32 = o_ci 33 0 := rfl
theorem c_B_canUnwind_33 : cT 203 33 = o_iret .boolean := rfl
theorem c_B_canUnwind_34 : cT 203 34 = o_il 35 1 := rfl
theorem c_B_canUnwind_35 : cT 203 35 = o_ci 36 1 := rfl
theorem c_B_canUnwind_36 : cT 203 36 = o_iadd 37 := rfl
theorem c_B_canUnwind_37 : cT 203 37 = o_is 38 3 := rfl
theorem c_B_canUnwind_38 : cT 203 38 = o_il 39 3 := rfl
theorem c_B_canUnwind_39 : cT 203 39 = o_al 40 0 := rfl
theorem c_B_canUnwind_40 : cT 203 40 = o_gf 43 0 3 := rfl
theorem c_B_canUnwind_43 : cT 203 43 = o_gf 46 2 3 := rfl
theorem c_B_canUnwind_46 : cT 203 46 = o_icge 49 83 := rfl
theorem c_B_canUnwind_49 : cT 203 49 = o_al 50 0 := rfl
theorem c_B_canUnwind_50 : cT 203 50 = o_gf 53 0 3 := rfl
theorem c_B_canUnwind_53 : cT 203 53 = o_il 54 3 := rfl
theorem c_B_canUnwind_54 : cT 203 54 = o_ci 55 0 := rfl
theorem c_B_canUnwind_55 : cT 203 55 = o_ca 58 22 3 4 false (some 2) := rfl
theorem c_B_canUnwind_58 : cT 203 58 = o_il 59 2 := rfl
theorem c_B_canUnwind_59 : cT 203 59 = o_icne 62 77 := rfl
theorem c_B_canUnwind_62 : cT 203 62 = o_al 63 0 := rfl
theorem c_B_canUnwind_63 : cT 203 63 = o_gf 66 0 3 := rfl
theorem c_B_canUnwind_66 : cT 203 66 = o_il 67 3 := rfl
theorem c_B_canUnwind_67 : cT 203 67 = o_ci 68 2 := rfl
theorem c_B_canUnwind_68 : cT 203 68 = o_ca 71 22 3 4 false (some 2) := rfl
theorem c_B_canUnwind_71 : cT 203 71 = o_ci 72 2 := rfl
theorem c_B_canUnwind_72 : cT 203 72 = o_icne 75 77 := rfl
theorem c_B_canUnwind_75 : cT 203 75 = o_ci 76 0 := rfl
theorem c_B_canUnwind_76 : cT 203 76 = o_iret .boolean := rfl
theorem c_B_canUnwind_77 : cT 203 77 = o_inc 80 3 1 := rfl
theorem c_B_canUnwind_80 : cT 203 80 = o_goto 38 := rfl
theorem c_B_canUnwind_83 : cT 203 83 = o_ci 84 1 := rfl
theorem c_B_canUnwind_84 : cT 203 84 = o_iret .boolean := rfl
theorem c_B_unwindRule_0 : cT 204 0 = o_al 1 0 := rfl
theorem c_B_unwindRule_1 : cT 204 1 = o_gf 4 0 0 := rfl
theorem c_B_unwindRule_4 : cT 204 4 = o_al 5 0 := rfl
theorem c_B_unwindRule_5 : cT 204 5 = o_gf 8 0 3 := rfl
theorem c_B_unwindRule_8 : cT 204 8 = o_il 9 1 := rfl
theorem c_B_unwindRule_9 : cT 204 9 = o_ci 10 0 := rfl
theorem c_B_unwindRule_10 : cT 204 10 = o_ca 13 22 3 4 false (some 2) := rfl
theorem c_B_unwindRule_13 : cT 204 13 = o_ci 14 0 := rfl
theorem c_B_unwindRule_14 : cT 204 14 = o_ca 17 22 3 4 false (some 2) := rfl
theorem c_B_unwindRule_17 : cT 204 17 = o_is 18 2 := rfl
theorem c_B_unwindRule_18 : cT 204 18 = o_al 19 0 := rfl
theorem c_B_unwindRule_19 : cT 204 19 = o_gf 22 0 7 := rfl
theorem c_B_unwindRule_22 : cT 204 22 = o_il 23 2 := rfl
theorem c_B_unwindRule_23 : cT 204 23 = o_ci 24 4 := rfl
theorem c_B_unwindRule_24 : cT 204 24 = o_al 25 0 := rfl
theorem c_B_unwindRule_25 : cT 204 25 = o_gf 28 0 8 := rfl
theorem c_B_unwindRule_28 : cT 204 28 = o_al 29 0 := rfl
theorem c_B_unwindRule_29 : cT 204 29 = o_gf 32 0 8 := rfl
theorem c_B_unwindRule_32 : cT 204 32 = o_al 33 0 := rfl
theorem c_B_unwindRule_33 : cT 204 33 = o_gf 36 0 3 := rfl
theorem c_B_unwindRule_36 : cT 204 36 = o_il 37 1 := rfl
theorem c_B_unwindRule_37 : cT 204 37 = o_ci 38 1 := rfl
theorem c_B_unwindRule_38 : cT 204 38 = o_ca 41 22 3 4 false (some 2) := rfl
theorem c_B_unwindRule_41 : cT 204 41 = o_isub 42 := rfl
theorem c_B_unwindRule_42 : cT 204 42 = o_ci 43 0 := rfl
theorem c_B_unwindRule_43 : cT 204 43 = o_ci 44 0 := rfl
theorem c_B_unwindRule_44 : cT 204 44 = o_ci 45 0 := rfl
theorem c_B_unwindRule_45 : cT 204 45 = o_ca 48 85 8 9 false (some 1) := rfl
theorem c_B_unwindRule_48 : cT 204 48 = o_iret .int := rfl
theorem c_I_reopenSpan_0 : cT 205 0 = o_al 1 0 := rfl
theorem c_I_reopenSpan_1 : cT 205 1 = o_il 2 1 := rfl
theorem c_I_reopenSpan_2 : cT 205 2 = o_ca 5 46 2 3 false (some 8) := rfl
theorem c_I_reopenSpan_5 : cT 205 5 = o_is 6 2 := rfl
theorem c_I_reopenSpan_6 : cT 205 6 = o_al 7 0 := rfl
theorem c_I_reopenSpan_7 : cT 205 7 = o_gf 10 8 1 := rfl
theorem c_I_reopenSpan_10 : cT 205 10 = o_il 11 2 := rfl
theorem c_I_reopenSpan_11 : cT 205 11 = o_ca 14 21 2 2 false (some 2) := rfl
theorem c_I_reopenSpan_14 : cT 205 14 = o_ifeq 17 28 := rfl
theorem c_I_reopenSpan_17 : cT 205 17 = o_al 18 0 := rfl
theorem c_I_reopenSpan_18 : cT 205 18 = o_gf 21 8 1 := rfl
theorem c_I_reopenSpan_21 : cT 205 21 = o_il 22 2 := rfl
theorem c_I_reopenSpan_22 : cT 205 22 = o_ci 23 2 := rfl
theorem c_I_reopenSpan_23 : cT 205 23 = o_ci 25 2147483647 := rfl
theorem c_I_reopenSpan_25 : cT 205 25 = o_ca 28 13 4 5 false (some 2) := rfl
theorem c_I_reopenSpan_28 : cT 205 28 = o_vret := rfl
theorem c_B_undo_0 : cT 206 0 = o_al 1 0 := rfl
theorem c_B_undo_1 : cT 206 1 = o_gf 4 0 3 := rfl
theorem c_B_undo_4 : cT 206 4 = o_il 5 1 := rfl
theorem c_B_undo_5 : cT 206 5 = o_ci 6 0 := rfl
theorem c_B_undo_6 : cT 206 6 = o_ca 9 22 3 4 false (some 2) := rfl
theorem c_B_undo_9 : cT 206 9 = o_is 10 3 := rfl
theorem c_B_undo_10 : cT 206 10 = o_al 11 0 := rfl
theorem c_B_undo_11 : cT 206 11 = o_gf 14 0 3 := rfl
theorem c_B_undo_14 : cT 206 14 = o_il 15 1 := rfl
theorem c_B_undo_15 : cT 206 15 = o_ci 16 2 := rfl
theorem c_B_undo_16 : cT 206 16 = o_ci 17 3 := rfl
theorem c_B_undo_17 : cT 206 17 = o_ca 20 13 4 5 false (some 2) := rfl
theorem c_B_undo_20 : cT 206 20 = o_al 21 0 := rfl
theorem c_B_undo_21 : cT 206 21 = o_gf 24 0 0 := rfl
theorem c_B_undo_24 : cT 206 24 = o_il 25 3 := rfl
theorem c_B_undo_25 : cT 206 25 = o_ci 26 3 := rfl
theorem c_B_undo_26 : cT 206 26 = o_ci 27 0 := rfl
theorem c_B_undo_27 : cT 206 27 = o_ca 30 13 4 5 false (some 2) := rfl
theorem c_B_undo_30 : cT 206 30 = o_il 31 2 := rfl
theorem c_B_undo_31 : cT 206 31 = o_ifeq 34 45 := rfl
theorem c_B_undo_34 : cT 206 34 = o_al 35 0 := rfl
theorem c_B_undo_35 : cT 206 35 = o_gf 38 0 6 := rfl
theorem c_B_undo_38 : cT 206 38 = o_il 39 3 := rfl
theorem c_B_undo_39 : cT 206 39 = o_ca 42 205 2 3 false (some 8) := rfl
theorem c_B_undo_42 : cT 206 42 = o_goto 57 := rfl
theorem c_B_undo_45 : cT 206 45 = o_al 46 0 := rfl
theorem c_B_undo_46 : cT 206 46 = o_gf 49 0 6 := rfl
theorem c_B_undo_49 : cT 206 49 = o_il 50 3 := rfl
theorem c_B_undo_50 : cT 206 50 = o_al 51 0 := rfl
theorem c_B_undo_51 : cT 206 51 = o_gf 54 0 8 := rfl
theorem c_B_undo_54 : cT 206 54 = o_ca 57 15 3 3 false (some 8) := rfl
theorem c_B_undo_57 : cT 206 57 = o_vret := rfl
theorem c_B_hearingsToday_0 : cT 209 0 = o_ci 1 0 := rfl
theorem c_B_hearingsToday_1 : cT 209 1 = o_is 2 1 := rfl
theorem c_B_hearingsToday_2 : cT 209 2 = o_ci 3 0 := rfl
theorem c_B_hearingsToday_3 : cT 209 3 = o_is 4 2 := rfl
theorem c_B_hearingsToday_4 : cT 209 4 = o_il 5 2 := rfl
theorem c_B_hearingsToday_5 : cT 209 5 = o_al 6 0 := rfl
theorem c_B_hearingsToday_6 : cT 209 6 = o_gf 9 0 3 := rfl
theorem c_B_hearingsToday_9 : cT 209 9 = o_gf 12 2 3 := rfl
theorem c_B_hearingsToday_12 : cT 209 12 = o_icge 15 55 := rfl
theorem c_B_hearingsToday_15 : cT 209 15 = o_al 16 0 := rfl
theorem c_B_hearingsToday_16 : cT 209 16 = o_gf 19 0 3 := rfl
theorem c_B_hearingsToday_19 : cT 209 19 = o_il 20 2 := rfl
theorem c_B_hearingsToday_20 : cT 209 20 = o_ci 21 1 := rfl
theorem c_B_hearingsToday_21 : cT 209 21 = o_ca 24 22 3 4 false (some 2) := rfl
theorem c_B_hearingsToday_24 : cT 209 24 = o_al 25 0 := rfl
theorem c_B_hearingsToday_25 : cT 209 25 = o_gf 28 0 8 := rfl
theorem c_B_hearingsToday_28 : cT 209 28 = o_icne 31 49 := rfl
theorem c_B_hearingsToday_31 : cT 209 31 = o_al 32 0 := rfl
theorem c_B_hearingsToday_32 : cT 209 32 = o_gf 35 0 3 := rfl
theorem c_B_hearingsToday_35 : cT 209 35 = o_il 36 2 := rfl
theorem c_B_hearingsToday_36 : cT 209 36 = o_ci 37 2 := rfl
theorem c_B_hearingsToday_37 : cT 209 37 = o_ca 40 22 3 4 false (some 2) := rfl
theorem c_B_hearingsToday_40 : cT 209 40 = o_ifne 43 49 := rfl
theorem c_B_hearingsToday_43 : cT 209 43 = o_il 44 1 := rfl
theorem c_B_hearingsToday_44 : cT 209 44 = o_ci 45 1 := rfl
theorem c_B_hearingsToday_45 : cT 209 45 = o_il 46 2 := rfl
theorem c_B_hearingsToday_46 : cT 209 46 = o_ishl 47 := rfl
theorem c_B_hearingsToday_47 : cT 209 47 = o_ior 48 := rfl
theorem c_B_hearingsToday_48 : cT 209 48 = o_is 49 1 := rfl
theorem c_B_hearingsToday_49 : cT 209 49 = o_inc 52 2 1 := rfl
theorem c_B_hearingsToday_52 : cT 209 52 = o_goto 4 := rfl
theorem c_B_hearingsToday_55 : cT 209 55 = o_il 56 1 := rfl
theorem c_B_hearingsToday_56 : cT 209 56 = o_iret .int := rfl
theorem c_B_putOff_0 : cT 210 0 = o_al 1 0 := rfl
theorem c_B_putOff_1 : cT 210 1 = o_gf 4 0 0 := rfl
theorem c_B_putOff_4 : cT 210 4 = o_al 5 0 := rfl
theorem c_B_putOff_5 : cT 210 5 = o_gf 8 0 3 := rfl
theorem c_B_putOff_8 : cT 210 8 = o_il 9 1 := rfl
theorem c_B_putOff_9 : cT 210 9 = o_ci 10 0 := rfl
theorem c_B_putOff_10 : cT 210 10 = o_ca 13 22 3 4 false (some 2) := rfl
theorem c_B_putOff_13 : cT 210 13 = o_ci 14 0 := rfl
theorem c_B_putOff_14 : cT 210 14 = o_ca 17 22 3 4 false (some 2) := rfl
theorem c_B_putOff_17 : cT 210 17 = o_is 18 3 := rfl
theorem c_B_putOff_18 : cT 210 18 = o_al 19 0 := rfl
theorem c_B_putOff_19 : cT 210 19 = o_gf 22 0 3 := rfl
theorem c_B_putOff_22 : cT 210 22 = o_il 23 1 := rfl
theorem c_B_putOff_23 : cT 210 23 = o_ci 24 1 := rfl
theorem c_B_putOff_24 : cT 210 24 = o_al 25 0 := rfl
theorem c_B_putOff_25 : cT 210 25 = o_gf 28 0 8 := rfl
theorem c_B_putOff_28 : cT 210 28 = o_al 29 0 := rfl
theorem c_B_putOff_29 : cT 210 29 = o_gf 32 0 7 := rfl
theorem c_B_putOff_32 : cT 210 32 = o_il 33 3 := rfl
theorem c_B_putOff_33 : cT 210 33 = o_ci 34 3 := rfl
theorem c_B_putOff_34 : cT 210 34 = o_al 35 0 := rfl
theorem c_B_putOff_35 : cT 210 35 = o_gf 38 0 8 := rfl
theorem c_B_putOff_38 : cT 210 38 = o_il 39 2 := rfl
theorem c_B_putOff_39 : cT 210 39 = o_ci 40 0 := rfl
theorem c_B_putOff_40 : cT 210 40 = o_ci 41 0 := rfl
theorem c_B_putOff_41 : cT 210 41 = o_ci 42 0 := rfl
theorem c_B_putOff_42 : cT 210 42 = o_ca 45 85 8 9 false (some 1) := rfl
theorem c_B_putOff_45 : cT 210 45 = o_iadd 46 := rfl
theorem c_B_putOff_46 : cT 210 46 = o_ca 49 13 4 5 false (some 2) := rfl
theorem c_B_putOff_49 : cT 210 49 = o_al 50 0 := rfl
theorem c_B_putOff_50 : cT 210 50 = o_gf 53 0 3 := rfl
theorem c_B_putOff_53 : cT 210 53 = o_il 54 1 := rfl
theorem c_B_putOff_54 : cT 210 54 = o_ci 55 3 := rfl
theorem c_B_putOff_55 : cT 210 55 = o_al 56 0 := rfl
theorem c_B_putOff_56 : cT 210 56 = o_gf 59 0 3 := rfl
theorem c_B_putOff_59 : cT 210 59 = o_il 60 1 := rfl
theorem c_B_putOff_60 : cT 210 60 = o_ci 61 3 := rfl
theorem c_B_putOff_61 : cT 210 61 = o_ca 64 22 3 4 false (some 2) := rfl
theorem c_B_putOff_64 : cT 210 64 = o_ci 65 1 := rfl
theorem c_B_putOff_65 : cT 210 65 = o_iadd 66 := rfl
theorem c_B_putOff_66 : cT 210 66 = o_ca 69 13 4 5 false (some 2) := rfl
theorem c_B_putOff_69 : cT 210 69 = o_al 70 0 := rfl
theorem c_B_putOff_70 : cT 210 70 = o_gf 73 0 3 := rfl
theorem c_B_putOff_73 : cT 210 73 = o_il 74 1 := rfl
theorem c_B_putOff_74 : cT 210 74 = o_ci 75 4 := rfl
theorem c_B_putOff_75 : cT 210 75 = o_il 76 2 := rfl
theorem c_B_putOff_76 : cT 210 76 = o_ca 79 13 4 5 false (some 2) := rfl
theorem c_B_putOff_79 : cT 210 79 = o_al 80 0 := rfl
theorem c_B_putOff_80 : cT 210 80 = o_gf 83 0 5 := rfl
theorem c_B_putOff_83 : cT 210 83 = o_il 84 2 := rfl
theorem c_B_putOff_84 : cT 210 84 = o_ci 85 0 := rfl
theorem c_B_putOff_85 : cT 210 85 = o_al 86 0 := rfl
theorem c_B_putOff_86 : cT 210 86 = o_gf 89 0 5 := rfl
theorem c_B_putOff_89 : cT 210 89 = o_il 90 2 := rfl
theorem c_B_putOff_90 : cT 210 90 = o_ci 91 0 := rfl
theorem c_B_putOff_91 : cT 210 91 = o_ca 94 22 3 4 false (some 2) := rfl
theorem c_B_putOff_94 : cT 210 94 = o_ci 95 1 := rfl
theorem c_B_putOff_95 : cT 210 95 = o_iadd 96 := rfl
theorem c_B_putOff_96 : cT 210 96 = o_ca 99 13 4 5 false (some 2) := rfl
theorem c_B_putOff_99 : cT 210 99 = o_vret := rfl
theorem c_B_sift_0 : cT 211 0 = o_ci 1 0 := rfl
theorem c_B_sift_1 : cT 211 1 = o_is 2 3 := rfl
theorem c_B_sift_2 : cT 211 2 = o_ci 3 0 := rfl
theorem c_B_sift_3 : cT 211 3 = o_is 5 4 := rfl
theorem c_B_sift_5 : cT 211 5 = o_il 7 4 := rfl
theorem c_B_sift_7 : cT 211 7 = o_al 8 0 := rfl
theorem c_B_sift_8 : cT 211 8 = o_gf 11 0 3 := rfl
theorem c_B_sift_11 : cT 211 11 = o_gf 14 2 3 := rfl
theorem c_B_sift_14 : cT 211 14 = o_icge 17 113 := rfl
theorem c_B_sift_17 : cT 211 17 = o_al 18 0 := rfl
theorem c_B_sift_18 : cT 211 18 = o_gf 21 0 3 := rfl
theorem c_B_sift_21 : cT 211 21 = o_il 23 4 := rfl
theorem c_B_sift_23 : cT 211 23 = o_ci 24 0 := rfl
theorem c_B_sift_24 : cT 211 24 = o_ca 27 22 3 4 false (some 2) := rfl
theorem c_B_sift_27 : cT 211 27 = o_is 29 5 := rfl
theorem c_B_sift_29 : cT 211 29 = o_al 30 0 := rfl
theorem c_B_sift_30 : cT 211 30 = o_il 32 5 := rfl
theorem c_B_sift_32 : cT 211 32 = o_ca 35 41 2 2 false (some 0) := rfl
theorem c_B_sift_35 : cT 211 35 = o_ifne 38 56 := rfl
theorem c_B_sift_38 : cT 211 38 = o_al 39 0 := rfl
theorem c_B_sift_39 : cT 211 39 = o_gf 42 0 0 := rfl
theorem c_B_sift_42 : cT 211 42 = o_il 44 5 := rfl
theorem c_B_sift_44 : cT 211 44 = o_ci 45 1 := rfl
theorem c_B_sift_45 : cT 211 45 = o_ca 48 22 3 4 false (some 2) := rfl
theorem c_B_sift_48 : cT 211 48 = o_il 49 2 := rfl
theorem c_B_sift_49 : cT 211 49 = o_icne 52 56 := rfl
theorem c_B_sift_52 : cT 211 52 = o_ci 53 1 := rfl
theorem c_B_sift_53 : cT 211 53 = o_goto 57 := rfl
theorem c_B_sift_56 : cT 211 56 = o_ci 57 0 := rfl
theorem c_B_sift_57 : cT 211 57 = o_is 59 6 := rfl
theorem c_B_sift_59 : cT 211 59 = o_il 60 1 := rfl
theorem c_B_sift_60 : cT 211 60 = o_il 62 4 := rfl
theorem c_B_sift_62 : cT 211 62 = o_ishr 63 := rfl
theorem c_B_sift_63 : cT 211 63 = o_ci 64 1 := rfl
theorem c_B_sift_64 : cT 211 64 = o_iand 65 := rfl
theorem c_B_sift_65 : cT 211 65 = o_ifeq 68 107 := rfl
theorem c_B_sift_68 : cT 211 68 = o_il 70 6 := rfl
theorem c_B_sift_70 : cT 211 70 = o_ifne 73 76 := rfl
theorem c_B_sift_73 : cT 211 73 = o_goto 107 := rfl
theorem c_B_sift_76 : cT 211 76 = o_al 77 0 := rfl
theorem c_B_sift_77 : cT 211 77 = o_il 79 5 := rfl
theorem c_B_sift_79 : cT 211 79 = o_ca 82 192 2 2 false (some 0) := rfl
theorem c_B_sift_82 : cT 211 82 = o_is 84 7 := rfl
theorem c_B_sift_84 : cT 211 84 = o_il 86 7 := rfl
theorem c_B_sift_86 : cT 211 86 = o_ifne 89 99 := rfl
theorem c_B_sift_89 : cT 211 89 = o_il 90 3 := rfl
theorem c_B_sift_90 : cT 211 90 = o_ci 91 1 := rfl
theorem c_B_sift_91 : cT 211 91 = o_il 93 4 := rfl
theorem c_B_sift_93 : cT 211 93 = o_ishl 94 := rfl
theorem c_B_sift_94 : cT 211 94 = o_ior 95 := rfl
theorem c_B_sift_95 : cT 211 95 = o_is 96 3 := rfl
theorem c_B_sift_96 : cT 211 96 = o_goto 107 := rfl
theorem c_B_sift_99 : cT 211 99 = o_al 100 0 := rfl
theorem c_B_sift_100 : cT 211 100 = o_il 102 4 := rfl
theorem c_B_sift_102 : cT 211 102 = o_il 104 7 := rfl
theorem c_B_sift_104 : cT 211 104 = o_ca 107 210 3 4 false (some 0) := rfl
theorem c_B_sift_107 : cT 211 107 = o_inc 110 4 1 := rfl
theorem c_B_sift_110 : cT 211 110 = o_goto 5 := rfl
theorem c_B_sift_113 : cT 211 113 = o_il 114 3 := rfl
theorem c_B_sift_114 : cT 211 114 = o_iret .int := rfl
theorem c_B_casesOn_0 : cT 212 0 = o_ci 1 0 := rfl
theorem c_B_casesOn_1 : cT 212 1 = o_is 2 2 := rfl
theorem c_B_casesOn_2 : cT 212 2 = o_ci 3 0 := rfl
theorem c_B_casesOn_3 : cT 212 3 = o_is 4 3 := rfl
theorem c_B_casesOn_4 : cT 212 4 = o_il 5 3 := rfl
theorem c_B_casesOn_5 : cT 212 5 = o_al 6 0 := rfl
theorem c_B_casesOn_6 : cT 212 6 = o_gf 9 0 3 := rfl
theorem c_B_casesOn_9 : cT 212 9 = o_gf 12 2 3 := rfl
theorem c_B_casesOn_12 : cT 212 12 = o_icge 15 44 := rfl
theorem c_B_casesOn_15 : cT 212 15 = o_il 16 1 := rfl
theorem c_B_casesOn_16 : cT 212 16 = o_il 17 3 := rfl
theorem c_B_casesOn_17 : cT 212 17 = o_ishr 18 := rfl
theorem c_B_casesOn_18 : cT 212 18 = o_ci 19 1 := rfl
theorem c_B_casesOn_19 : cT 212 19 = o_iand 20 := rfl
theorem c_B_casesOn_20 : cT 212 20 = o_ci 21 1 := rfl
theorem c_B_casesOn_21 : cT 212 21 = o_icne 24 38 := rfl
theorem c_B_casesOn_24 : cT 212 24 = o_il 25 2 := rfl
theorem c_B_casesOn_25 : cT 212 25 = o_ci 26 1 := rfl
theorem c_B_casesOn_26 : cT 212 26 = o_al 27 0 := rfl
theorem c_B_casesOn_27 : cT 212 27 = o_gf 30 0 3 := rfl
theorem c_B_casesOn_30 : cT 212 30 = o_il 31 3 := rfl
theorem c_B_casesOn_31 : cT 212 31 = o_ci 32 0 := rfl
theorem c_B_casesOn_32 : cT 212 32 = o_ca 35 22 3 4 false (some 2) := rfl
theorem c_B_casesOn_35 : cT 212 35 = o_ishl 36 := rfl
theorem c_B_casesOn_36 : cT 212 36 = o_ior 37 := rfl
theorem c_B_casesOn_37 : cT 212 37 = o_is 38 2 := rfl
theorem c_B_casesOn_38 : cT 212 38 = o_inc 41 3 1 := rfl
theorem c_B_casesOn_41 : cT 212 41 = o_goto 4 := rfl
theorem c_B_casesOn_44 : cT 212 44 = o_il 45 2 := rfl
theorem c_B_casesOn_45 : cT 212 45 = o_iret .int := rfl
theorem c_B_putAllOff_0 : cT 213 0 = o_ci 1 0 := rfl
theorem c_B_putAllOff_1 : cT 213 1 = o_is 2 2 := rfl
theorem c_B_putAllOff_2 : cT 213 2 = o_il 3 2 := rfl
theorem c_B_putAllOff_3 : cT 213 3 = o_al 4 0 := rfl
theorem c_B_putAllOff_4 : cT 213 4 = o_gf 7 0 3 := rfl
theorem c_B_putAllOff_7 : cT 213 7 = o_gf 10 2 3 := rfl
theorem c_B_putAllOff_10 : cT 213 10 = o_icge 13 34 := rfl
theorem c_B_putAllOff_13 : cT 213 13 = o_il 14 1 := rfl
theorem c_B_putAllOff_14 : cT 213 14 = o_il 15 2 := rfl
theorem c_B_putAllOff_15 : cT 213 15 = o_ishr 16 := rfl
theorem c_B_putAllOff_16 : cT 213 16 = o_ci 17 1 := rfl
theorem c_B_putAllOff_17 : cT 213 17 = o_iand 18 := rfl
theorem c_B_putAllOff_18 : cT 213 18 = o_ci 19 1 := rfl
theorem c_B_putAllOff_19 : cT 213 19 = o_icne 22 28 := rfl
theorem c_B_putAllOff_22 : cT 213 22 = o_al 23 0 := rfl
theorem c_B_putAllOff_23 : cT 213 23 = o_il 24 2 := rfl
theorem c_B_putAllOff_24 : cT 213 24 = o_ci 25 4 := rfl
theorem c_B_putAllOff_25 : cT 213 25 = o_ca 28 210 3 4 false (some 0) := rfl
theorem c_B_putAllOff_28 : cT 213 28 = o_inc 31 2 1 := rfl
theorem c_B_putAllOff_31 : cT 213 31 = o_goto 2 := rfl
theorem c_B_putAllOff_34 : cT 213 34 = o_vret := rfl
theorem c_B_addTurn_0 : cT 214 0 = o_al 1 0 := rfl
theorem c_B_addTurn_1 : cT 214 1 = o_gf 4 0 2 := rfl
theorem c_B_addTurn_4 : cT 214 4 = o_il 5 1 := rfl
theorem c_B_addTurn_5 : cT 214 5 = o_ci 6 3 := rfl
theorem c_B_addTurn_6 : cT 214 6 = o_al 7 0 := rfl
theorem c_B_addTurn_7 : cT 214 7 = o_gf 10 0 2 := rfl
theorem c_B_addTurn_10 : cT 214 10 = o_il 11 1 := rfl
theorem c_B_addTurn_11 : cT 214 11 = o_ci 12 3 := rfl
theorem c_B_addTurn_12 : cT 214 12 = o_ca 15 22 3 4 false (some 2) := rfl
theorem c_B_addTurn_15 : cT 214 15 = o_ci 16 1 := rfl
theorem c_B_addTurn_16 : cT 214 16 = o_iadd 17 := rfl
theorem c_B_addTurn_17 : cT 214 17 = o_ca 20 13 4 5 false (some 2) := rfl
theorem c_B_addTurn_20 : cT 214 20 = o_vret := rfl
theorem c_B_takeTurns_0 : cT 215 0 = o_al 1 0 := rfl
theorem c_B_takeTurns_1 : cT 215 1 = o_il 2 1 := rfl
theorem c_B_takeTurns_2 : cT 215 2 = o_ci 4 100 := rfl
theorem c_B_takeTurns_4 : cT 215 4 = o_idiv 5 := rfl
theorem c_B_takeTurns_5 : cT 215 5 = o_ca 8 214 2 2 false (some 0) := rfl
theorem c_B_takeTurns_8 : cT 215 8 = o_al 9 0 := rfl
theorem c_B_takeTurns_9 : cT 215 9 = o_il 10 1 := rfl
theorem c_B_takeTurns_10 : cT 215 10 = o_ci 12 10 := rfl
theorem c_B_takeTurns_12 : cT 215 12 = o_idiv 13 := rfl
theorem c_B_takeTurns_13 : cT 215 13 = o_ci 15 10 := rfl
theorem c_B_takeTurns_15 : cT 215 15 = o_irem 16 := rfl
theorem c_B_takeTurns_16 : cT 215 16 = o_ca 19 214 2 2 false (some 0) := rfl
theorem c_B_takeTurns_19 : cT 215 19 = o_al 20 0 := rfl
theorem c_B_takeTurns_20 : cT 215 20 = o_il 21 1 := rfl
theorem c_B_takeTurns_21 : cT 215 21 = o_ci 23 10 := rfl
theorem c_B_takeTurns_23 : cT 215 23 = o_irem 24 := rfl
theorem c_B_takeTurns_24 : cT 215 24 = o_ca 27 214 2 2 false (some 0) := rfl
theorem c_B_takeTurns_27 : cT 215 27 = o_vret := rfl
theorem c_B_hearOne_0 : cT 216 0 = o_al 1 0 := rfl
theorem c_B_hearOne_1 : cT 216 1 = o_gf 4 0 3 := rfl
theorem c_B_hearOne_4 : cT 216 4 = o_il 5 1 := rfl
theorem c_B_hearOne_5 : cT 216 5 = o_ci 6 0 := rfl
theorem c_B_hearOne_6 : cT 216 6 = o_ca 9 22 3 4 false (some 2) := rfl
theorem c_B_hearOne_9 : cT 216 9 = o_is 10 2 := rfl
theorem c_B_hearOne_10 : cT 216 10 = o_al 11 0 := rfl
theorem c_B_hearOne_11 : cT 216 11 = o_gf 14 0 0 := rfl
theorem c_B_hearOne_14 : cT 216 14 = o_il 15 2 := rfl
theorem c_B_hearOne_15 : cT 216 15 = o_ci 16 5 := rfl
theorem c_B_hearOne_16 : cT 216 16 = o_ca 19 22 3 4 false (some 2) := rfl
theorem c_B_hearOne_19 : cT 216 19 = o_is 20 3 := rfl
theorem c_B_hearOne_20 : cT 216 20 = o_al 21 0 := rfl
theorem c_B_hearOne_21 : cT 216 21 = o_gf 24 0 7 := rfl
theorem c_B_hearOne_24 : cT 216 24 = o_al 25 0 := rfl
theorem c_B_hearOne_25 : cT 216 25 = o_gf 28 0 0 := rfl
theorem c_B_hearOne_28 : cT 216 28 = o_il 29 2 := rfl
theorem c_B_hearOne_29 : cT 216 29 = o_ci 30 0 := rfl
theorem c_B_hearOne_30 : cT 216 30 = o_ca 33 22 3 4 false (some 2) := rfl
theorem c_B_hearOne_33 : cT 216 33 = o_ci 34 2 := rfl
theorem c_B_hearOne_34 : cT 216 34 = o_al 35 0 := rfl
theorem c_B_hearOne_35 : cT 216 35 = o_gf 38 0 8 := rfl
theorem c_B_hearOne_38 : cT 216 38 = o_al 39 0 := rfl
theorem c_B_hearOne_39 : cT 216 39 = o_il 40 2 := rfl
theorem c_B_hearOne_40 : cT 216 40 = o_ci 41 0 := rfl
theorem c_B_hearOne_41 : cT 216 41 = o_ca 44 26 3 4 false (some 0) := rfl
theorem c_B_hearOne_44 : cT 216 44 = o_il 45 3 := rfl
theorem c_B_hearOne_45 : cT 216 45 = o_al 46 0 := rfl
theorem c_B_hearOne_46 : cT 216 46 = o_gf 49 0 6 := rfl
theorem c_B_hearOne_49 : cT 216 49 = o_il 50 2 := rfl
theorem c_B_hearOne_50 : cT 216 50 = o_al 51 0 := rfl
theorem c_B_hearOne_51 : cT 216 51 = o_gf 54 0 8 := rfl
theorem c_B_hearOne_54 : cT 216 54 = o_ca 57 70 3 5 false (some 8) := rfl
theorem c_B_hearOne_57 : cT 216 57 = o_al 58 0 := rfl
theorem c_B_hearOne_58 : cT 216 58 = o_gf 61 0 6 := rfl
theorem c_B_hearOne_61 : cT 216 61 = o_il 62 2 := rfl
theorem c_B_hearOne_62 : cT 216 62 = o_al 63 0 := rfl
theorem c_B_hearOne_63 : cT 216 63 = o_gf 66 0 8 := rfl
theorem c_B_hearOne_66 : cT 216 66 = o_ca 69 60 3 5 false (some 8) := rfl
theorem c_B_hearOne_69 : cT 216 69 = o_ca 72 85 8 9 false (some 1) := rfl
theorem c_B_hearOne_72 : cT 216 72 = o_is 74 4 := rfl
theorem c_B_hearOne_74 : cT 216 74 = o_al 75 0 := rfl
theorem c_B_hearOne_75 : cT 216 75 = o_gf 78 0 0 := rfl
theorem c_B_hearOne_78 : cT 216 78 = o_il 79 2 := rfl
theorem c_B_hearOne_79 : cT 216 79 = o_ci 80 5 := rfl
theorem c_B_hearOne_80 : cT 216 80 = o_il 81 3 := rfl
theorem c_B_hearOne_81 : cT 216 81 = o_ci 82 1 := rfl
theorem c_B_hearOne_82 : cT 216 82 = o_iadd 83 := rfl
theorem c_B_hearOne_83 : cT 216 83 = o_ca 86 13 4 5 false (some 2) := rfl
theorem c_B_hearOne_86 : cT 216 86 = o_al 87 0 := rfl
theorem c_B_hearOne_87 : cT 216 87 = o_gf 90 0 3 := rfl
theorem c_B_hearOne_90 : cT 216 90 = o_il 91 1 := rfl
theorem c_B_hearOne_91 : cT 216 91 = o_ci 92 2 := rfl
theorem c_B_hearOne_92 : cT 216 92 = o_il 94 4 := rfl
theorem c_B_hearOne_94 : cT 216 94 = o_ifne 97 101 := rfl
theorem c_B_hearOne_97 : cT 216 97 = o_ci 98 1 := rfl
theorem c_B_hearOne_98 : cT 216 98 = o_goto 102 := rfl
theorem c_B_hearOne_101 : cT 216 101 = o_ci 102 2 := rfl
theorem c_B_hearOne_102 : cT 216 102 = o_ca 105 13 4 5 false (some 2) := rfl
theorem c_B_hearOne_105 : cT 216 105 = o_il 107 4 := rfl
theorem c_B_hearOne_107 : cT 216 107 = o_ifeq 110 116 := rfl
theorem c_B_hearOne_110 : cT 216 110 = o_al 111 0 := rfl
theorem c_B_hearOne_111 : cT 216 111 = o_il 112 2 := rfl
theorem c_B_hearOne_112 : cT 216 112 = o_ci 113 1 := rfl
theorem c_B_hearOne_113 : cT 216 113 = o_ca 116 55 3 3 false (some 0) := rfl
theorem c_B_hearOne_116 : cT 216 116 = o_vret := rfl
theorem c_B_hearAll_0 : cT 217 0 = o_ci 1 0 := rfl
theorem c_B_hearAll_1 : cT 217 1 = o_is 2 2 := rfl
theorem c_B_hearAll_2 : cT 217 2 = o_il 3 2 := rfl
theorem c_B_hearAll_3 : cT 217 3 = o_al 4 0 := rfl
theorem c_B_hearAll_4 : cT 217 4 = o_gf 7 0 3 := rfl
theorem c_B_hearAll_7 : cT 217 7 = o_gf 10 2 3 := rfl
theorem c_B_hearAll_10 : cT 217 10 = o_icge 13 33 := rfl
theorem c_B_hearAll_13 : cT 217 13 = o_il 14 1 := rfl
theorem c_B_hearAll_14 : cT 217 14 = o_il 15 2 := rfl
theorem c_B_hearAll_15 : cT 217 15 = o_ishr 16 := rfl
theorem c_B_hearAll_16 : cT 217 16 = o_ci 17 1 := rfl
theorem c_B_hearAll_17 : cT 217 17 = o_iand 18 := rfl
theorem c_B_hearAll_18 : cT 217 18 = o_ci 19 1 := rfl
theorem c_B_hearAll_19 : cT 217 19 = o_icne 22 27 := rfl
theorem c_B_hearAll_22 : cT 217 22 = o_al 23 0 := rfl
theorem c_B_hearAll_23 : cT 217 23 = o_il 24 2 := rfl
theorem c_B_hearAll_24 : cT 217 24 = o_ca 27 216 2 5 false (some 0) := rfl
theorem c_B_hearAll_27 : cT 217 27 = o_inc 30 2 1 := rfl
theorem c_B_hearAll_30 : cT 217 30 = o_goto 2 := rfl
theorem c_B_hearAll_33 : cT 217 33 = o_vret := rfl
theorem c_B_voidLeft_0 : cT 218 0 = o_ci 1 0 := rfl
theorem c_B_voidLeft_1 : cT 218 1 = o_is 2 2 := rfl
theorem c_B_voidLeft_2 : cT 218 2 = o_il 3 2 := rfl
theorem c_B_voidLeft_3 : cT 218 3 = o_al 4 0 := rfl
theorem c_B_voidLeft_4 : cT 218 4 = o_gf 7 0 3 := rfl
theorem c_B_voidLeft_7 : cT 218 7 = o_gf 10 2 3 := rfl
theorem c_B_voidLeft_10 : cT 218 10 = o_icge 13 76 := rfl
theorem c_B_voidLeft_13 : cT 218 13 = o_il 14 1 := rfl
theorem c_B_voidLeft_14 : cT 218 14 = o_il 15 2 := rfl
theorem c_B_voidLeft_15 : cT 218 15 = o_ishr 16 := rfl
theorem c_B_voidLeft_16 : cT 218 16 = o_ci 17 1 := rfl
theorem c_B_voidLeft_17 : cT 218 17 = o_iand 18 := rfl
theorem c_B_voidLeft_18 : cT 218 18 = o_ci 19 1 := rfl
theorem c_B_voidLeft_19 : cT 218 19 = o_icne 22 38 := rfl
theorem c_B_voidLeft_22 : cT 218 22 = o_al 23 0 := rfl
theorem c_B_voidLeft_23 : cT 218 23 = o_gf 26 0 3 := rfl
theorem c_B_voidLeft_26 : cT 218 26 = o_il 27 2 := rfl
theorem c_B_voidLeft_27 : cT 218 27 = o_ci 28 2 := rfl
theorem c_B_voidLeft_28 : cT 218 28 = o_ca 31 22 3 4 false (some 2) := rfl
theorem c_B_voidLeft_31 : cT 218 31 = o_ifne 34 38 := rfl
theorem c_B_voidLeft_34 : cT 218 34 = o_ci 35 1 := rfl
theorem c_B_voidLeft_35 : cT 218 35 = o_goto 39 := rfl
theorem c_B_voidLeft_38 : cT 218 38 = o_ci 39 0 := rfl
theorem c_B_voidLeft_39 : cT 218 39 = o_is 40 3 := rfl
theorem c_B_voidLeft_40 : cT 218 40 = o_il 41 3 := rfl
theorem c_B_voidLeft_41 : cT 218 41 = o_ifeq 44 70 := rfl
theorem c_B_voidLeft_44 : cT 218 44 = o_al 45 0 := rfl
theorem c_B_voidLeft_45 : cT 218 45 = o_al 46 0 := rfl
theorem c_B_voidLeft_46 : cT 218 46 = o_gf 49 0 3 := rfl
theorem c_B_voidLeft_49 : cT 218 49 = o_il 50 2 := rfl
theorem c_B_voidLeft_50 : cT 218 50 = o_ci 51 0 := rfl
theorem c_B_voidLeft_51 : cT 218 51 = o_ca 54 22 3 4 false (some 2) := rfl
theorem c_B_voidLeft_54 : cT 218 54 = o_ca 57 41 2 2 false (some 0) := rfl
theorem c_B_voidLeft_57 : cT 218 57 = o_ifeq 60 70 := rfl
theorem c_B_voidLeft_60 : cT 218 60 = o_al 61 0 := rfl
theorem c_B_voidLeft_61 : cT 218 61 = o_gf 64 0 3 := rfl
theorem c_B_voidLeft_64 : cT 218 64 = o_il 65 2 := rfl
theorem c_B_voidLeft_65 : cT 218 65 = o_ci 66 2 := rfl
theorem c_B_voidLeft_66 : cT 218 66 = o_ci 67 3 := rfl
theorem c_B_voidLeft_67 : cT 218 67 = o_ca 70 13 4 5 false (some 2) := rfl
theorem c_B_voidLeft_70 : cT 218 70 = o_inc 73 2 1 := rfl
theorem c_B_voidLeft_73 : cT 218 73 = o_goto 2 := rfl
theorem c_B_voidLeft_76 : cT 218 76 = o_vret := rfl
theorem c_B_passDay_0 : cT 219 0 = o_al 1 0 := rfl
theorem c_B_passDay_1 : cT 219 1 = o_ca 4 209 1 3 false (some 0) := rfl
theorem c_B_passDay_4 : cT 219 4 = o_is 5 1 := rfl
theorem c_B_passDay_5 : cT 219 5 = o_ci 6 0 := rfl
theorem c_B_passDay_6 : cT 219 6 = o_is 7 2 := rfl
theorem c_B_passDay_7 : cT 219 7 = o_il 8 1 := rfl
theorem c_B_passDay_8 : cT 219 8 = o_ifeq 11 79 := rfl
theorem c_B_passDay_11 : cT 219 11 = o_il 12 2 := rfl
theorem c_B_passDay_12 : cT 219 12 = o_ci 14 6 := rfl
theorem c_B_passDay_14 : cT 219 14 = o_icge 17 79 := rfl
theorem c_B_passDay_17 : cT 219 17 = o_al 18 0 := rfl
theorem c_B_passDay_18 : cT 219 18 = o_il 19 1 := rfl
theorem c_B_passDay_19 : cT 219 19 = o_il 20 2 := rfl
theorem c_B_passDay_20 : cT 219 20 = o_ca 23 211 3 8 false (some 0) := rfl
theorem c_B_passDay_23 : cT 219 23 = o_is 24 3 := rfl
theorem c_B_passDay_24 : cT 219 24 = o_il 25 3 := rfl
theorem c_B_passDay_25 : cT 219 25 = o_ifne 28 31 := rfl
theorem c_B_passDay_28 : cT 219 28 = o_goto 73 := rfl
theorem c_B_passDay_31 : cT 219 31 = o_al 32 0 := rfl
theorem c_B_passDay_32 : cT 219 32 = o_al 33 0 := rfl
theorem c_B_passDay_33 : cT 219 33 = o_il 34 3 := rfl
theorem c_B_passDay_34 : cT 219 34 = o_ca 37 212 2 4 false (some 0) := rfl
theorem c_B_passDay_37 : cT 219 37 = o_il 38 2 := rfl
theorem c_B_passDay_38 : cT 219 38 = o_al 39 0 := rfl
theorem c_B_passDay_39 : cT 219 39 = o_gf 42 0 8 := rfl
theorem c_B_passDay_42 : cT 219 42 = o_ca 45 178 4 12 false (some 0) := rfl
theorem c_B_passDay_45 : cT 219 45 = o_is 47 4 := rfl
theorem c_B_passDay_47 : cT 219 47 = o_il 49 4 := rfl
theorem c_B_passDay_49 : cT 219 49 = o_ci 51 (-1000000005) := rfl
theorem c_B_passDay_51 : cT 219 51 = o_icne 54 62 := rfl
theorem c_B_passDay_54 : cT 219 54 = o_al 55 0 := rfl
theorem c_B_passDay_55 : cT 219 55 = o_il 56 3 := rfl
theorem c_B_passDay_56 : cT 219 56 = o_ca 59 213 2 3 false (some 0) := rfl
theorem c_B_passDay_59 : cT 219 59 = o_goto 73 := rfl
theorem c_B_passDay_62 : cT 219 62 = o_al 63 0 := rfl
theorem c_B_passDay_63 : cT 219 63 = o_il 65 4 := rfl
theorem c_B_passDay_65 : cT 219 65 = o_ca 68 215 2 2 false (some 0) := rfl
theorem c_B_passDay_68 : cT 219 68 = o_al 69 0 := rfl
theorem c_B_passDay_69 : cT 219 69 = o_il 70 3 := rfl
theorem c_B_passDay_70 : cT 219 70 = o_ca 73 217 2 3 false (some 0) := rfl
theorem c_B_passDay_73 : cT 219 73 = o_inc 76 2 1 := rfl
theorem c_B_passDay_76 : cT 219 76 = o_goto 7 := rfl
theorem c_B_passDay_79 : cT 219 79 = o_al 80 0 := rfl
theorem c_B_passDay_80 : cT 219 80 = o_il 81 1 := rfl
theorem c_B_passDay_81 : cT 219 81 = o_ca 84 218 2 4 false (some 0) := rfl
theorem c_B_passDay_84 : cT 219 84 = o_al 85 0 := rfl
theorem c_B_passDay_85 : cT 219 85 = o_dup 86 := rfl
theorem c_B_passDay_86 : cT 219 86 = o_gf 89 0 8 := rfl
theorem c_B_passDay_89 : cT 219 89 = o_ci 90 1 := rfl
theorem c_B_passDay_90 : cT 219 90 = o_iadd 91 := rfl
theorem c_B_passDay_91 : cT 219 91 = o_pf 94 0 8 0 := rfl
theorem c_B_passDay_94 : cT 219 94 = o_vret := rfl
theorem c_B_areLike_0 : cT 229 0 = o_al 1 0 := rfl
theorem c_B_areLike_1 : cT 229 1 = o_gf 4 0 0 := rfl
theorem c_B_areLike_4 : cT 229 4 = o_il 5 1 := rfl
theorem c_B_areLike_5 : cT 229 5 = o_ci 6 2 := rfl
theorem c_B_areLike_6 : cT 229 6 = o_ca 9 22 3 4 false (some 2) := rfl
theorem c_B_areLike_9 : cT 229 9 = o_al 10 0 := rfl
theorem c_B_areLike_10 : cT 229 10 = o_gf 13 0 0 := rfl
theorem c_B_areLike_13 : cT 229 13 = o_il 14 2 := rfl
theorem c_B_areLike_14 : cT 229 14 = o_ci 15 2 := rfl
theorem c_B_areLike_15 : cT 229 15 = o_ca 18 22 3 4 false (some 2) := rfl
theorem c_B_areLike_18 : cT 229 18 = o_ixor 19 := rfl
theorem c_B_areLike_19 : cT 229 19 = o_ca 22 24 1 1 false none := rfl
theorem c_B_areLike_22 : cT 229 22 = o_is 23 3 := rfl
theorem c_B_areLike_23 : cT 229 23 = o_il 24 1 := rfl
theorem c_B_areLike_24 : cT 229 24 = o_il 25 2 := rfl
theorem c_B_areLike_25 : cT 229 25 = o_iceq 28 58 := rfl
theorem c_B_areLike_28 : cT 229 28 = o_il 29 3 := rfl
theorem c_B_areLike_29 : cT 229 29 = o_ci 30 1 := rfl
theorem c_B_areLike_30 : cT 229 30 = o_icgt 33 58 := rfl
theorem c_B_areLike_33 : cT 229 33 = o_al 34 0 := rfl
theorem c_B_areLike_34 : cT 229 34 = o_gf 37 0 0 := rfl
theorem c_B_areLike_37 : cT 229 37 = o_il 38 1 := rfl
theorem c_B_areLike_38 : cT 229 38 = o_ci 39 0 := rfl
theorem c_B_areLike_39 : cT 229 39 = o_ca 42 22 3 4 false (some 2) := rfl
theorem c_B_areLike_42 : cT 229 42 = o_al 43 0 := rfl
theorem c_B_areLike_43 : cT 229 43 = o_gf 46 0 0 := rfl
theorem c_B_areLike_46 : cT 229 46 = o_il 47 2 := rfl
theorem c_B_areLike_47 : cT 229 47 = o_ci 48 0 := rfl
theorem c_B_areLike_48 : cT 229 48 = o_ca 51 22 3 4 false (some 2) := rfl
theorem c_B_areLike_51 : cT 229 51 = o_icne 54 58 := rfl
theorem c_B_areLike_54 : cT 229 54 = o_ci 55 1 := rfl
theorem c_B_areLike_55 : cT 229 55 = o_goto 59 := rfl
theorem c_B_areLike_58 : cT 229 58 = o_ci 59 0 := rfl
theorem c_B_areLike_59 : cT 229 59 = o_iret .boolean := rfl
theorem c_B_hearingsOfLike_0 : cT 230 0 = o_ci 1 0 := rfl
theorem c_B_hearingsOfLike_1 : cT 230 1 = o_is 2 3 := rfl
theorem c_B_hearingsOfLike_2 : cT 230 2 = o_ci 3 0 := rfl
theorem c_B_hearingsOfLike_3 : cT 230 3 = o_is 5 4 := rfl
theorem c_B_hearingsOfLike_5 : cT 230 5 = o_il 7 4 := rfl
theorem c_B_hearingsOfLike_7 : cT 230 7 = o_al 8 0 := rfl
theorem c_B_hearingsOfLike_8 : cT 230 8 = o_gf 11 0 3 := rfl
theorem c_B_hearingsOfLike_11 : cT 230 11 = o_gf 14 2 3 := rfl
theorem c_B_hearingsOfLike_14 : cT 230 14 = o_icge 17 70 := rfl
theorem c_B_hearingsOfLike_17 : cT 230 17 = o_al 18 0 := rfl
theorem c_B_hearingsOfLike_18 : cT 230 18 = o_gf 21 0 3 := rfl
theorem c_B_hearingsOfLike_21 : cT 230 21 = o_il 23 4 := rfl
theorem c_B_hearingsOfLike_23 : cT 230 23 = o_ci 24 2 := rfl
theorem c_B_hearingsOfLike_24 : cT 230 24 = o_ca 27 22 3 4 false (some 2) := rfl
theorem c_B_hearingsOfLike_27 : cT 230 27 = o_il 28 2 := rfl
theorem c_B_hearingsOfLike_28 : cT 230 28 = o_icne 31 35 := rfl
theorem c_B_hearingsOfLike_31 : cT 230 31 = o_ci 32 1 := rfl
theorem c_B_hearingsOfLike_32 : cT 230 32 = o_goto 36 := rfl
theorem c_B_hearingsOfLike_35 : cT 230 35 = o_ci 36 0 := rfl
theorem c_B_hearingsOfLike_36 : cT 230 36 = o_is 38 5 := rfl
theorem c_B_hearingsOfLike_38 : cT 230 38 = o_il 40 5 := rfl
theorem c_B_hearingsOfLike_40 : cT 230 40 = o_ifeq 43 64 := rfl
theorem c_B_hearingsOfLike_43 : cT 230 43 = o_al 44 0 := rfl
theorem c_B_hearingsOfLike_44 : cT 230 44 = o_il 45 1 := rfl
theorem c_B_hearingsOfLike_45 : cT 230 45 = o_al 46 0 := rfl
theorem c_B_hearingsOfLike_46 : cT 230 46 = o_gf 49 0 3 := rfl
theorem c_B_hearingsOfLike_49 : cT 230 49 = o_il 51 4 := rfl
theorem c_B_hearingsOfLike_51 : cT 230 51 = o_ci 52 0 := rfl
theorem c_B_hearingsOfLike_52 : cT 230 52 = o_ca 55 22 3 4 false (some 2) := rfl
theorem c_B_hearingsOfLike_55 : cT 230 55 = o_ca 58 229 3 4 false (some 0) := rfl
theorem c_B_hearingsOfLike_58 : cT 230 58 = o_ifeq 61 64 := rfl
theorem c_B_hearingsOfLike_61 : cT 230 61 = o_inc 64 3 1 := rfl
theorem c_B_hearingsOfLike_64 : cT 230 64 = o_inc 67 4 1 := rfl
theorem c_B_hearingsOfLike_67 : cT 230 67 = o_goto 5 := rfl
theorem c_B_hearingsOfLike_70 : cT 230 70 = o_il 71 3 := rfl
theorem c_B_hearingsOfLike_71 : cT 230 71 = o_iret .int := rfl
theorem c_B_drawOne_0 : cT 239 0 = o_al 1 0 := rfl
theorem c_B_drawOne_1 : cT 239 1 = o_ci 4 25173 := rfl
theorem c_B_drawOne_4 : cT 239 4 = o_al 5 0 := rfl
theorem c_B_drawOne_5 : cT 239 5 = o_gf 8 0 9 := rfl
theorem c_B_drawOne_8 : cT 239 8 = o_imul 9 := rfl
theorem c_B_drawOne_9 : cT 239 9 = o_ci 12 13849 := rfl
theorem c_B_drawOne_12 : cT 239 12 = o_iadd 13 := rfl
theorem c_B_drawOne_13 : cT 239 13 = o_ci 15 65536 := rfl
theorem c_B_drawOne_15 : cT 239 15 = o_irem 16 := rfl
theorem c_B_drawOne_16 : cT 239 16 = o_pf 19 0 9 0 := rfl
theorem c_B_drawOne_19 : cT 239 19 = o_al 20 0 := rfl
theorem c_B_drawOne_20 : cT 239 20 = o_gf 23 0 2 := rfl
theorem c_B_drawOne_23 : cT 239 23 = o_gf 26 2 3 := rfl
theorem c_B_drawOne_26 : cT 239 26 = o_il 27 1 := rfl
theorem c_B_drawOne_27 : cT 239 27 = o_ca 30 24 1 1 false none := rfl
theorem c_B_drawOne_30 : cT 239 30 = o_isub 31 := rfl
theorem c_B_drawOne_31 : cT 239 31 = o_is 32 2 := rfl
theorem c_B_drawOne_32 : cT 239 32 = o_il 33 2 := rfl
theorem c_B_drawOne_33 : cT 239 33 = o_ifgt 36 40 := rfl
theorem c_B_drawOne_36 : cT 239 36 = o_ci 37 0 := rfl
theorem c_B_drawOne_37 : cT 239 37 = o_goto 46 := rfl
theorem c_B_drawOne_40 : cT 239 40 = o_al 41 0 := rfl
theorem c_B_drawOne_41 : cT 239 41 = o_gf 44 0 9 := rfl
theorem c_B_drawOne_44 : cT 239 44 = o_il 45 2 := rfl
theorem c_B_drawOne_45 : cT 239 45 = o_irem 46 := rfl
theorem c_B_drawOne_46 : cT 239 46 = o_is 47 3 := rfl
theorem c_B_drawOne_47 : cT 239 47 = o_ci 48 0 := rfl
theorem c_B_drawOne_48 : cT 239 48 = o_is 50 4 := rfl
theorem c_B_drawOne_50 : cT 239 50 = o_il 52 4 := rfl
theorem c_B_drawOne_52 : cT 239 52 = o_al 53 0 := rfl
theorem c_B_drawOne_53 : cT 239 53 = o_gf 56 0 2 := rfl
theorem c_B_drawOne_56 : cT 239 56 = o_gf 59 2 3 := rfl
theorem c_B_drawOne_59 : cT 239 59 = o_icge 62 93 := rfl
theorem c_B_drawOne_62 : cT 239 62 = o_il 63 1 := rfl
theorem c_B_drawOne_63 : cT 239 63 = o_il 65 4 := rfl
theorem c_B_drawOne_65 : cT 239 65 = o_ishr 66 := rfl
theorem c_B_drawOne_66 : cT 239 66 = o_ci 67 1 := rfl
theorem c_B_drawOne_67 : cT 239 67 = o_iand 68 := rfl
theorem c_B_drawOne_68 : cT 239 68 = o_ci 69 1 := rfl
theorem c_B_drawOne_69 : cT 239 69 = o_icne 72 75 := rfl
theorem c_B_drawOne_72 : cT 239 72 = o_goto 87 := rfl
theorem c_B_drawOne_75 : cT 239 75 = o_il 76 3 := rfl
theorem c_B_drawOne_76 : cT 239 76 = o_ifne 79 84 := rfl
theorem c_B_drawOne_79 : cT 239 79 = o_ci 80 1 := rfl
theorem c_B_drawOne_80 : cT 239 80 = o_il 82 4 := rfl
theorem c_B_drawOne_82 : cT 239 82 = o_ishl 83 := rfl
theorem c_B_drawOne_83 : cT 239 83 = o_iret .int := rfl
theorem c_B_drawOne_84 : cT 239 84 = o_inc 87 3 (-1) := rfl
theorem c_B_drawOne_87 : cT 239 87 = o_inc 90 4 1 := rfl
theorem c_B_drawOne_90 : cT 239 90 = o_goto 50 := rfl
theorem c_B_drawOne_93 : cT 239 93 = o_ci 94 0 := rfl
theorem c_B_drawOne_94 : cT 239 94 = o_iret .int := rfl
theorem c_B_drawThree_0 : cT 240 0 = o_ci 1 0 := rfl
theorem c_B_drawThree_1 : cT 240 1 = o_is 2 2 := rfl
theorem c_B_drawThree_2 : cT 240 2 = o_ci 3 0 := rfl
theorem c_B_drawThree_3 : cT 240 3 = o_is 4 3 := rfl
theorem c_B_drawThree_4 : cT 240 4 = o_il 5 3 := rfl
theorem c_B_drawThree_5 : cT 240 5 = o_ci 6 3 := rfl
theorem c_B_drawThree_6 : cT 240 6 = o_icge 9 25 := rfl
theorem c_B_drawThree_9 : cT 240 9 = o_il 10 2 := rfl
theorem c_B_drawThree_10 : cT 240 10 = o_al 11 0 := rfl
theorem c_B_drawThree_11 : cT 240 11 = o_il 12 1 := rfl
theorem c_B_drawThree_12 : cT 240 12 = o_il 13 2 := rfl
theorem c_B_drawThree_13 : cT 240 13 = o_ior 14 := rfl
theorem c_B_drawThree_14 : cT 240 14 = o_ca 17 239 2 5 false (some 0) := rfl
theorem c_B_drawThree_17 : cT 240 17 = o_ior 18 := rfl
theorem c_B_drawThree_18 : cT 240 18 = o_is 19 2 := rfl
theorem c_B_drawThree_19 : cT 240 19 = o_inc 22 3 1 := rfl
theorem c_B_drawThree_22 : cT 240 22 = o_goto 4 := rfl
theorem c_B_drawThree_25 : cT 240 25 = o_il 26 2 := rfl
theorem c_B_drawThree_26 : cT 240 26 = o_iret .int := rfl
theorem c_S_become_0 : cT 246 0 = o_al 1 0 := rfl
theorem c_S_become_1 : cT 246 1 = o_il 2 1 := rfl
theorem c_S_become_2 : cT 246 2 = o_pf 5 3 1 0 := rfl
theorem c_S_become_5 : cT 246 5 = o_al 6 0 := rfl
theorem c_S_become_6 : cT 246 6 = o_il 7 2 := rfl
theorem c_S_become_7 : cT 246 7 = o_pf 10 3 2 0 := rfl
theorem c_S_become_10 : cT 246 10 = o_al 11 0 := rfl
theorem c_S_become_11 : cT 246 11 = o_gf 14 3 0 := rfl
theorem c_S_become_14 : cT 246 14 = o_cl 15 0 := rfl
theorem c_S_become_15 : cT 246 15 = o_ca 18 245 2 5 false none := rfl
theorem c_S_become_18 : cT 246 18 = o_vret := rfl
theorem c_S_has_0 : cT 250 0 = o_il 1 1 := rfl
theorem c_S_has_1 : cT 250 1 = o_iflt 4 25 := rfl
theorem c_S_has_4 : cT 250 4 = o_il 5 1 := rfl
theorem c_S_has_5 : cT 250 5 = o_al 6 0 := rfl
theorem c_S_has_6 : cT 250 6 = o_gf 9 3 2 := rfl
theorem c_S_has_9 : cT 250 9 = o_icge 12 25 := rfl
theorem c_S_has_12 : cT 250 12 = o_il 13 1 := rfl
theorem c_S_has_13 : cT 250 13 = o_al 14 0 := rfl
theorem c_S_has_14 : cT 250 14 = o_gf 17 3 0 := rfl
theorem c_S_has_17 : cT 250 17 = o_len 18 := rfl
theorem c_S_has_18 : cT 250 18 = o_icge 21 25 := rfl
theorem c_S_has_21 : cT 250 21 = o_ci 22 1 := rfl
theorem c_S_has_22 : cT 250 22 = o_goto 26 := rfl
theorem c_S_has_25 : cT 250 25 = o_ci 26 0 := rfl
theorem c_S_has_26 : cT 250 26 = o_iret .boolean := rfl
theorem c_S_narrowed_0 : cT 251 0 = o_al 1 0 := rfl
theorem c_S_narrowed_1 : cT 251 1 = o_gf 4 3 1 := rfl
theorem c_S_narrowed_4 : cT 251 4 = o_ifne 7 12 := rfl
theorem c_S_narrowed_7 : cT 251 7 = o_ll 8 1 := rfl
theorem c_S_narrowed_8 : cT 251 8 = o_l2i 9 := rfl
theorem c_S_narrowed_9 : cT 251 9 = o_i2b 10 := rfl
theorem c_S_narrowed_10 : cT 251 10 = o_i2l 11 := rfl
theorem c_S_narrowed_11 : cT 251 11 = o_lret := rfl
theorem c_S_narrowed_12 : cT 251 12 = o_al 13 0 := rfl
theorem c_S_narrowed_13 : cT 251 13 = o_gf 16 3 1 := rfl
theorem c_S_narrowed_16 : cT 251 16 = o_ci 17 1 := rfl
theorem c_S_narrowed_17 : cT 251 17 = o_icne 20 27 := rfl
theorem c_S_narrowed_20 : cT 251 20 = o_ll 21 1 := rfl
theorem c_S_narrowed_21 : cT 251 21 = o_l2i 22 := rfl
theorem c_S_narrowed_22 : cT 251 22 = o_i2s 23 := rfl
theorem c_S_narrowed_23 : cT 251 23 = o_i2l 24 := rfl
theorem c_S_narrowed_24 : cT 251 24 = o_goto 28 := rfl
theorem c_S_narrowed_27 : cT 251 27 = o_ll 28 1 := rfl
theorem c_S_narrowed_28 : cT 251 28 = o_lret := rfl
theorem c_S_raise_0 : cT 252 0 = o_al 1 0 := rfl
theorem c_S_raise_1 : cT 252 1 = o_il 2 1 := rfl
theorem c_S_raise_2 : cT 252 2 = o_ca 5 250 2 2 false (some 3) := rfl
theorem c_S_raise_5 : cT 252 5 = o_ifne 8 10 := rfl
theorem c_S_raise_8 : cT 252 8 = o_cl 9 0 := rfl
theorem c_S_raise_9 : cT 252 9 = o_lret := rfl
theorem c_S_raise_10 : cT 252 10 = o_al 11 0 := rfl
theorem c_S_raise_11 : cT 252 11 = o_gf 14 3 0 := rfl
theorem c_S_raise_14 : cT 252 14 = o_il 15 1 := rfl
theorem c_S_raise_15 : cT 252 15 = o_al 16 0 := rfl
theorem c_S_raise_16 : cT 252 16 = o_al 17 0 := rfl
theorem c_S_raise_17 : cT 252 17 = o_gf 20 3 0 := rfl
theorem c_S_raise_20 : cT 252 20 = o_il 21 1 := rfl
theorem c_S_raise_21 : cT 252 21 = o_lal 22 := rfl
theorem c_S_raise_22 : cT 252 22 = o_il 23 2 := rfl
theorem c_S_raise_23 : cT 252 23 = o_i2l 24 := rfl
theorem c_S_raise_24 : cT 252 24 = o_ladd 25 := rfl
theorem c_S_raise_25 : cT 252 25 = o_ca 28 251 2 3 false (some 3) := rfl
theorem c_S_raise_28 : cT 252 28 = o_las 29 := rfl
theorem c_S_raise_29 : cT 252 29 = o_al 30 0 := rfl
theorem c_S_raise_30 : cT 252 30 = o_gf 33 3 0 := rfl
theorem c_S_raise_33 : cT 252 33 = o_il 34 1 := rfl
theorem c_S_raise_34 : cT 252 34 = o_lal 35 := rfl
theorem c_S_raise_35 : cT 252 35 = o_lret := rfl
theorem c_S_hasRow_0 : cT 255 0 = o_il 1 1 := rfl
theorem c_S_hasRow_1 : cT 255 1 = o_iflt 4 42 := rfl
theorem c_S_hasRow_4 : cT 255 4 = o_il 5 2 := rfl
theorem c_S_hasRow_5 : cT 255 5 = o_iflt 8 42 := rfl
theorem c_S_hasRow_8 : cT 255 8 = o_il 9 1 := rfl
theorem c_S_hasRow_9 : cT 255 9 = o_al 10 0 := rfl
theorem c_S_hasRow_10 : cT 255 10 = o_gf 13 3 2 := rfl
theorem c_S_hasRow_13 : cT 255 13 = o_icgt 16 42 := rfl
theorem c_S_hasRow_16 : cT 255 16 = o_il 17 2 := rfl
theorem c_S_hasRow_17 : cT 255 17 = o_al 18 0 := rfl
theorem c_S_hasRow_18 : cT 255 18 = o_gf 21 3 2 := rfl
theorem c_S_hasRow_21 : cT 255 21 = o_il 22 1 := rfl
theorem c_S_hasRow_22 : cT 255 22 = o_isub 23 := rfl
theorem c_S_hasRow_23 : cT 255 23 = o_icgt 26 42 := rfl
theorem c_S_hasRow_26 : cT 255 26 = o_al 27 0 := rfl
theorem c_S_hasRow_27 : cT 255 27 = o_gf 30 3 2 := rfl
theorem c_S_hasRow_30 : cT 255 30 = o_al 31 0 := rfl
theorem c_S_hasRow_31 : cT 255 31 = o_gf 34 3 0 := rfl
theorem c_S_hasRow_34 : cT 255 34 = o_len 35 := rfl
theorem c_S_hasRow_35 : cT 255 35 = o_icgt 38 42 := rfl
theorem c_S_hasRow_38 : cT 255 38 = o_ci 39 1 := rfl
theorem c_S_hasRow_39 : cT 255 39 = o_goto 43 := rfl
theorem c_S_hasRow_42 : cT 255 42 = o_ci 43 0 := rfl
theorem c_S_hasRow_43 : cT 255 43 = o_iret .boolean := rfl
theorem c_S_holds_0 : cT 258 0 = o_al 1 0 := rfl
theorem c_S_holds_1 : cT 258 1 = o_il 2 1 := rfl
theorem c_S_holds_2 : cT 258 2 = o_ca 5 250 2 2 false (some 3) := rfl
theorem c_S_holds_5 : cT 258 5 = o_ifeq 8 28 := rfl
theorem c_S_holds_8 : cT 258 8 = o_al 9 0 := rfl
theorem c_S_holds_9 : cT 258 9 = o_gf 12 3 0 := rfl
theorem c_S_holds_12 : cT 258 12 = o_il 13 1 := rfl
theorem c_S_holds_13 : cT 258 13 = o_lal 14 := rfl
theorem c_S_holds_14 : cT 258 14 = o_al 15 0 := rfl
theorem c_S_holds_15 : cT 258 15 = o_il 16 2 := rfl
theorem c_S_holds_16 : cT 258 16 = o_i2l 17 := rfl
theorem c_S_holds_17 : cT 258 17 = o_ca 20 251 2 3 false (some 3) := rfl
theorem c_S_holds_20 : cT 258 20 = o_lcmp 21 := rfl
theorem c_S_holds_21 : cT 258 21 = o_ifne 24 28 := rfl
theorem c_S_holds_24 : cT 258 24 = o_ci 25 1 := rfl
theorem c_S_holds_25 : cT 258 25 = o_goto 29 := rfl
theorem c_S_holds_28 : cT 258 28 = o_ci 29 0 := rfl
theorem c_S_holds_29 : cT 258 29 = o_iret .boolean := rfl
theorem c_R_become_0 : cT 263 0 = o_al 1 0 := rfl
theorem c_R_become_1 : cT 263 1 = o_al 2 1 := rfl
theorem c_R_become_2 : cT 263 2 = o_gf 5 2 3 := rfl
theorem c_R_become_5 : cT 263 5 = o_pf 8 2 3 0 := rfl
theorem c_R_become_8 : cT 263 8 = o_al 9 1 := rfl
theorem c_R_become_9 : cT 263 9 = o_gf 12 2 2 := rfl
theorem c_R_become_12 : cT 263 12 = o_ci 13 0 := rfl
theorem c_R_become_13 : cT 263 13 = o_al 14 0 := rfl
theorem c_R_become_14 : cT 263 14 = o_gf 17 2 2 := rfl
theorem c_R_become_17 : cT 263 17 = o_ci 18 0 := rfl
theorem c_R_become_18 : cT 263 18 = o_al 19 0 := rfl
theorem c_R_become_19 : cT 263 19 = o_gf 22 2 2 := rfl
theorem c_R_become_22 : cT 263 22 = o_len 23 := rfl
theorem c_R_become_23 : cT 263 23 = o_al 24 1 := rfl
theorem c_R_become_24 : cT 263 24 = o_gf 27 2 2 := rfl
theorem c_R_become_27 : cT 263 27 = o_len 28 := rfl
theorem c_R_become_28 : cT 263 28 = o_ca 31 58 2 2 false none := rfl
theorem c_R_become_31 : cT 263 31 = o_cpy 34 := rfl
theorem c_R_become_34 : cT 263 34 = o_vret := rfl
theorem c_I_become_0 : cT 264 0 = o_al 1 0 := rfl
theorem c_I_become_1 : cT 264 1 = o_gf 4 8 0 := rfl
theorem c_I_become_4 : cT 264 4 = o_al 5 1 := rfl
theorem c_I_become_5 : cT 264 5 = o_gf 8 8 0 := rfl
theorem c_I_become_8 : cT 264 8 = o_ca 11 263 2 2 false (some 2) := rfl
theorem c_I_become_11 : cT 264 11 = o_al 12 0 := rfl
theorem c_I_become_12 : cT 264 12 = o_gf 15 8 1 := rfl
theorem c_I_become_15 : cT 264 15 = o_al 16 1 := rfl
theorem c_I_become_16 : cT 264 16 = o_gf 19 8 1 := rfl
theorem c_I_become_19 : cT 264 19 = o_ca 22 263 2 2 false (some 2) := rfl
theorem c_I_become_22 : cT 264 22 = o_al 23 0 := rfl
theorem c_I_become_23 : cT 264 23 = o_gf 26 8 2 := rfl
theorem c_I_become_26 : cT 264 26 = o_al 27 1 := rfl
theorem c_I_become_27 : cT 264 27 = o_gf 30 8 2 := rfl
theorem c_I_become_30 : cT 264 30 = o_ca 33 263 2 2 false (some 2) := rfl
theorem c_I_become_33 : cT 264 33 = o_al 34 0 := rfl
theorem c_I_become_34 : cT 264 34 = o_gf 37 8 3 := rfl
theorem c_I_become_37 : cT 264 37 = o_al 38 1 := rfl
theorem c_I_become_38 : cT 264 38 = o_gf 41 8 3 := rfl
theorem c_I_become_41 : cT 264 41 = o_ca 44 263 2 2 false (some 2) := rfl
theorem c_I_become_44 : cT 264 44 = o_vret := rfl
theorem c_L_become_0 : cT 265 0 = o_al 1 0 := rfl
theorem c_L_become_1 : cT 265 1 = o_al 2 1 := rfl
theorem c_L_become_2 : cT 265 2 = o_gf 5 1 1 := rfl
theorem c_L_become_5 : cT 265 5 = o_pf 8 1 1 0 := rfl
theorem c_L_become_8 : cT 265 8 = o_ci 9 0 := rfl
theorem c_L_become_9 : cT 265 9 = o_is 10 2 := rfl
theorem c_L_become_10 : cT 265 10 = o_il 11 2 := rfl
theorem c_L_become_11 : cT 265 11 = o_al 12 0 := rfl
theorem c_L_become_12 : cT 265 12 = o_gf 15 1 0 := rfl
theorem c_L_become_15 : cT 265 15 = o_len 16 := rfl
theorem c_L_become_16 : cT 265 16 = o_icge 19 46 := rfl
theorem c_L_become_19 : cT 265 19 = o_il 20 2 := rfl
theorem c_L_become_20 : cT 265 20 = o_al 21 1 := rfl
theorem c_L_become_21 : cT 265 21 = o_gf 24 1 0 := rfl
theorem c_L_become_24 : cT 265 24 = o_len 25 := rfl
theorem c_L_become_25 : cT 265 25 = o_icge 28 46 := rfl
theorem c_L_become_28 : cT 265 28 = o_al 29 0 := rfl
theorem c_L_become_29 : cT 265 29 = o_gf 32 1 0 := rfl
theorem c_L_become_32 : cT 265 32 = o_il 33 2 := rfl
theorem c_L_become_33 : cT 265 33 = o_al 34 1 := rfl
theorem c_L_become_34 : cT 265 34 = o_gf 37 1 0 := rfl
theorem c_L_become_37 : cT 265 37 = o_il 38 2 := rfl
theorem c_L_become_38 : cT 265 38 = o_aal 39 4 := rfl
theorem c_L_become_39 : cT 265 39 = o_aas 40 4 6 := rfl
theorem c_L_become_40 : cT 265 40 = o_inc 43 2 1 := rfl
theorem c_L_become_43 : cT 265 43 = o_goto 10 := rfl
theorem c_L_become_46 : cT 265 46 = o_vret := rfl
theorem c_B_become_0 : cT 266 0 = o_al 1 0 := rfl
theorem c_B_become_1 : cT 266 1 = o_gf 4 0 0 := rfl
theorem c_B_become_4 : cT 266 4 = o_al 5 1 := rfl
theorem c_B_become_5 : cT 266 5 = o_gf 8 0 0 := rfl
theorem c_B_become_8 : cT 266 8 = o_ca 11 263 2 2 false (some 2) := rfl
theorem c_B_become_11 : cT 266 11 = o_al 12 0 := rfl
theorem c_B_become_12 : cT 266 12 = o_gf 15 0 1 := rfl
theorem c_B_become_15 : cT 266 15 = o_al 16 1 := rfl
theorem c_B_become_16 : cT 266 16 = o_gf 19 0 1 := rfl
theorem c_B_become_19 : cT 266 19 = o_ca 22 263 2 2 false (some 2) := rfl
theorem c_B_become_22 : cT 266 22 = o_al 23 0 := rfl
theorem c_B_become_23 : cT 266 23 = o_gf 26 0 2 := rfl
theorem c_B_become_26 : cT 266 26 = o_al 27 1 := rfl
theorem c_B_become_27 : cT 266 27 = o_gf 30 0 2 := rfl
theorem c_B_become_30 : cT 266 30 = o_ca 33 263 2 2 false (some 2) := rfl
theorem c_B_become_33 : cT 266 33 = o_al 34 0 := rfl
theorem c_B_become_34 : cT 266 34 = o_gf 37 0 3 := rfl
theorem c_B_become_37 : cT 266 37 = o_al 38 1 := rfl
theorem c_B_become_38 : cT 266 38 = o_gf 41 0 3 := rfl
theorem c_B_become_41 : cT 266 41 = o_ca 44 263 2 2 false (some 2) := rfl
theorem c_B_become_44 : cT 266 44 = o_al 45 0 := rfl
theorem c_B_become_45 : cT 266 45 = o_gf 48 0 4 := rfl
theorem c_B_become_48 : cT 266 48 = o_al 49 1 := rfl
theorem c_B_become_49 : cT 266 49 = o_gf 52 0 4 := rfl
theorem c_B_become_52 : cT 266 52 = o_ca 55 263 2 2 false (some 2) := rfl
theorem c_B_become_55 : cT 266 55 = o_al 56 0 := rfl
theorem c_B_become_56 : cT 266 56 = o_gf 59 0 5 := rfl
theorem c_B_become_59 : cT 266 59 = o_al 60 1 := rfl
theorem c_B_become_60 : cT 266 60 = o_gf 63 0 5 := rfl
theorem c_B_become_63 : cT 266 63 = o_ca 66 263 2 2 false (some 2) := rfl
theorem c_B_become_66 : cT 266 66 = o_al 67 0 := rfl
theorem c_B_become_67 : cT 266 67 = o_gf 70 0 6 := rfl
theorem c_B_become_70 : cT 266 70 = o_al 71 1 := rfl
theorem c_B_become_71 : cT 266 71 = o_gf 74 0 6 := rfl
theorem c_B_become_74 : cT 266 74 = o_ca 77 264 2 2 false (some 8) := rfl
theorem c_B_become_77 : cT 266 77 = o_al 78 0 := rfl
theorem c_B_become_78 : cT 266 78 = o_gf 81 0 7 := rfl
theorem c_B_become_81 : cT 266 81 = o_al 82 1 := rfl
theorem c_B_become_82 : cT 266 82 = o_gf 85 0 7 := rfl
theorem c_B_become_85 : cT 266 85 = o_ca 88 265 2 3 false (some 1) := rfl
theorem c_B_become_88 : cT 266 88 = o_al 89 0 := rfl
theorem c_B_become_89 : cT 266 89 = o_al 90 1 := rfl
theorem c_B_become_90 : cT 266 90 = o_gf 93 0 8 := rfl
theorem c_B_become_93 : cT 266 93 = o_pf 96 0 8 0 := rfl
theorem c_B_become_96 : cT 266 96 = o_al 97 0 := rfl
theorem c_B_become_97 : cT 266 97 = o_al 98 1 := rfl
theorem c_B_become_98 : cT 266 98 = o_gf 101 0 9 := rfl
theorem c_B_become_101 : cT 266 101 = o_pf 104 0 9 0 := rfl
theorem c_B_become_104 : cT 266 104 = o_al 105 0 := rfl
theorem c_B_become_105 : cT 266 105 = o_al 106 1 := rfl
theorem c_B_become_106 : cT 266 106 = o_gf 109 0 10 := rfl
theorem c_B_become_109 : cT 266 109 = o_pf 112 0 10 0 := rfl
theorem c_B_become_112 : cT 266 112 = o_al 113 0 := rfl
theorem c_B_become_113 : cT 266 113 = o_al 114 1 := rfl
theorem c_B_become_114 : cT 266 114 = o_gf 117 0 11 := rfl
theorem c_B_become_117 : cT 266 117 = o_pf 120 0 11 0 := rfl
theorem c_B_become_120 : cT 266 120 = o_vret := rfl
theorem c_B_servedByAll_0 : cT 267 0 = o_ci 1 0 := rfl
theorem c_B_servedByAll_1 : cT 267 1 = o_is 2 1 := rfl
theorem c_B_servedByAll_2 : cT 267 2 = o_ci 3 0 := rfl
theorem c_B_servedByAll_3 : cT 267 3 = o_is 4 2 := rfl
theorem c_B_servedByAll_4 : cT 267 4 = o_il 5 2 := rfl
theorem c_B_servedByAll_5 : cT 267 5 = o_al 6 0 := rfl
theorem c_B_servedByAll_6 : cT 267 6 = o_gf 9 0 0 := rfl
theorem c_B_servedByAll_9 : cT 267 9 = o_gf 12 2 3 := rfl
theorem c_B_servedByAll_12 : cT 267 12 = o_icge 15 36 := rfl
theorem c_B_servedByAll_15 : cT 267 15 = o_il 16 1 := rfl
theorem c_B_servedByAll_16 : cT 267 16 = o_al 17 0 := rfl
theorem c_B_servedByAll_17 : cT 267 17 = o_gf 20 0 6 := rfl
theorem c_B_servedByAll_20 : cT 267 20 = o_il 21 2 := rfl
theorem c_B_servedByAll_21 : cT 267 21 = o_al 22 0 := rfl
theorem c_B_servedByAll_22 : cT 267 22 = o_gf 25 0 8 := rfl
theorem c_B_servedByAll_25 : cT 267 25 = o_ca 28 60 3 5 false (some 8) := rfl
theorem c_B_servedByAll_28 : cT 267 28 = o_iadd 29 := rfl
theorem c_B_servedByAll_29 : cT 267 29 = o_is 30 1 := rfl
theorem c_B_servedByAll_30 : cT 267 30 = o_inc 33 2 1 := rfl
theorem c_B_servedByAll_33 : cT 267 33 = o_goto 4 := rfl
theorem c_B_servedByAll_36 : cT 267 36 = o_il 37 1 := rfl
theorem c_B_servedByAll_37 : cT 267 37 = o_iret .int := rfl
theorem c_B_casesThatAre_0 : cT 269 0 = o_ci 1 0 := rfl
theorem c_B_casesThatAre_1 : cT 269 1 = o_is 2 2 := rfl
theorem c_B_casesThatAre_2 : cT 269 2 = o_ci 3 0 := rfl
theorem c_B_casesThatAre_3 : cT 269 3 = o_is 4 3 := rfl
theorem c_B_casesThatAre_4 : cT 269 4 = o_il 5 3 := rfl
theorem c_B_casesThatAre_5 : cT 269 5 = o_al 6 0 := rfl
theorem c_B_casesThatAre_6 : cT 269 6 = o_gf 9 0 0 := rfl
theorem c_B_casesThatAre_9 : cT 269 9 = o_gf 12 2 3 := rfl
theorem c_B_casesThatAre_12 : cT 269 12 = o_icge 15 33 := rfl
theorem c_B_casesThatAre_15 : cT 269 15 = o_al 16 0 := rfl
theorem c_B_casesThatAre_16 : cT 269 16 = o_il 17 3 := rfl
theorem c_B_casesThatAre_17 : cT 269 17 = o_ca 20 41 2 2 false (some 0) := rfl
theorem c_B_casesThatAre_20 : cT 269 20 = o_il 21 1 := rfl
theorem c_B_casesThatAre_21 : cT 269 21 = o_icne 24 27 := rfl
theorem c_B_casesThatAre_24 : cT 269 24 = o_inc 27 2 1 := rfl
theorem c_B_casesThatAre_27 : cT 269 27 = o_inc 30 3 1 := rfl
theorem c_B_casesThatAre_30 : cT 269 30 = o_goto 4 := rfl
theorem c_B_casesThatAre_33 : cT 269 33 = o_il 34 2 := rfl
theorem c_B_casesThatAre_34 : cT 269 34 = o_iret .int := rfl
theorem c_B_hearingsSet_0 : cT 278 0 = o_ci 1 0 := rfl
theorem c_B_hearingsSet_1 : cT 278 1 = o_is 2 1 := rfl
theorem c_B_hearingsSet_2 : cT 278 2 = o_ci 3 0 := rfl
theorem c_B_hearingsSet_3 : cT 278 3 = o_is 4 2 := rfl
theorem c_B_hearingsSet_4 : cT 278 4 = o_il 5 2 := rfl
theorem c_B_hearingsSet_5 : cT 278 5 = o_al 6 0 := rfl
theorem c_B_hearingsSet_6 : cT 278 6 = o_gf 9 0 3 := rfl
theorem c_B_hearingsSet_9 : cT 278 9 = o_gf 12 2 3 := rfl
theorem c_B_hearingsSet_12 : cT 278 12 = o_icge 15 36 := rfl
theorem c_B_hearingsSet_15 : cT 278 15 = o_al 16 0 := rfl
theorem c_B_hearingsSet_16 : cT 278 16 = o_gf 19 0 3 := rfl
theorem c_B_hearingsSet_19 : cT 278 19 = o_il 20 2 := rfl
theorem c_B_hearingsSet_20 : cT 278 20 = o_ci 21 2 := rfl
theorem c_B_hearingsSet_21 : cT 278 21 = o_ca 24 22 3 4 false (some 2) := rfl
theorem c_B_hearingsSet_24 : cT 278 24 = o_ifne 27 30 := rfl
theorem c_B_hearingsSet_27 : cT 278 27 = o_inc 30 1 1 := rfl
theorem c_B_hearingsSet_30 : cT 278 30 = o_inc 33 2 1 := rfl
theorem c_B_hearingsSet_33 : cT 278 33 = o_goto 4 := rfl
theorem c_B_hearingsSet_36 : cT 278 36 = o_il 37 1 := rfl
theorem c_B_hearingsSet_37 : cT 278 37 = o_iret .int := rfl
