/-! the class's constructors -/
def zc : Cel := (fun _ => 0, fun _ => 0, fun _ => 0, fun _ => none)
section INITS
variable {d b s : Nat} {h : Nat → va_E} {r q : List va_E} {gs : List Value}
def kkL (u : Nat) : List va_E := [.inr (4, [.ref (u + 1), .int 0]), marr 0 96]
theorem K_init_ok (hb : b < 100000) : mres cT 3 d 0 (ment 1 [.ref b]) [] (lh h b s [.inr (4, [.null, .int 0])]) = some (none, lh h b (s + 96) (kkL b)) := by
  simp only [ment, mfl, List.length, List.replicate, List.cons_append, List.nil_append, Nat.reduceAdd, Nat.reduceSub]
  rw [r_al0 c_K_init_0, r_oin c_K_init_1 (by decide), g_arr (K := 96) c_K_init_4 c_K_init_5 c_K_init_7 c_K_init_9 (by decide) (by decide) (by simp) (by simp; omega), r_vret c_K_init_12]
  rfl
def ppL (u : Nat) : List va_E := [.inr (5, [.ref (u + 1), .int 0]), marr 1 96]
theorem P_init_ok (hb : b < 100000) : mres cT 6 d 0 (ment 1 [.ref b]) [] (lh h b s [.inr (5, [.null, .int 0])]) = some (none, lh h b (s + 96) (ppL b)) := by
  simp only [ment, mfl, List.length, List.replicate, List.cons_append, List.nil_append, Nat.reduceAdd, Nat.reduceSub]
  rw [r_al0 c_P_init_0, r_oin c_P_init_1 (by decide), g_arr (K := 96) c_P_init_4 c_P_init_5 c_P_init_7 c_P_init_9 (by decide) (by decide) (by simp) (by simp; omega), r_vret c_P_init_12]
  rfl
def shL (u : Nat) : List va_E := [.inr (3, [.ref (u + 1), .int (-1), .int 0]), marr 2 24]
theorem S_init_ok (hb : b < 100000) : mres cT 8 d 0 (ment 1 [.ref b]) [] (lh h b s [.inr (3, [.null, .int 0, .int 0])]) = some (none, lh h b (s + 24) (shL b)) := by
  simp only [ment, mfl, List.length, List.replicate, List.cons_append, List.nil_append, Nat.reduceAdd, Nat.reduceSub]
  rw [r_al0 c_S_init_0, r_oin c_S_init_1 (by decide), g_arr (K := 24) c_S_init_4 c_S_init_5 c_S_init_7 c_S_init_9 (by decide) (by decide) (by simp) (by simp; omega), r_al0 c_S_init_12, r_ci c_S_init_13, g_pfi c_S_init_14 (by simp), r_vret c_S_init_17]
  rfl
def ddL (t u : Nat) : List va_E := [.inr (7, [.ref t, .ref (u + 1), .int 0, .int 0, .int 0, .int 0, .int 0, .int 0, .int 0]), marr 0 96]
theorem D_init_ok {t : Nat} (hb : b < 100000) : mres cT 7 d 0 (ment 2 [.ref b, .ref t]) [] (lh h b s [.inr (7, [.null, .null, .int 0, .int 0, .int 0, .int 0, .int 0, .int 0, .int 0])]) = some (none, lh h b (s + 96) (ddL t b)) := by
  simp only [ment, mfl, List.length, List.replicate, List.cons_append, List.nil_append, Nat.reduceAdd, Nat.reduceSub]
  rw [r_al0 c_D_init_0, r_oin c_D_init_1 (by decide), g_arr (K := 96) c_D_init_4 c_D_init_5 c_D_init_7 c_D_init_9 (by decide) (by decide) (by simp) (by simp; omega), r_al0 c_D_init_12, r_al1 c_D_init_13, g_pf c_D_init_14 (by simp), r_vret c_D_init_17]
  rfl
def llL (u : Nat) : List va_E := [.inr (1, [.ref (u + 1), .int 0, .ref (u + 2)]), marr 4 16] ++ kkL (u + 2)
theorem L_init_ok (hb : b < 10000) : mres cT 4 d 0 (ment 1 [.ref b]) [] (lh h b s [.inr (1, [.null, .int 0, .null])]) = some (none, lh h b (s + 114) (llL b)) := by
  simp only [ment, mfl, List.length, List.replicate, List.cons_append, List.nil_append, Nat.reduceAdd, Nat.reduceSub]
  rw [r_al0 c_L_init_0, r_oin c_L_init_1 (by decide), g_arr (K := 16) c_L_init_4 c_L_init_5 c_L_init_7 c_L_init_10 (by decide) (by decide) (by simp) (by simp; omega), g_obj (B := 100000) (c := 96) (sub := kkL) c_L_init_13 c_L_init_14 c_L_init_17 c_L_init_18 c_L_init_21 (by decide) (by decide) (by simp) (by simp; omega) (fun h b s hb => K_init_ok hb), r_vret c_L_init_24]
  rfl
def iiL (u : Nat) : List va_E := [.inr (8, [.ref (u + 1), .ref (u + 3), .ref (u + 5), .ref (u + 7)])] ++ (rwL 24 3 (u + 1) ++ (rwL 30 3 (u + 3) ++ (rwL 20 3 (u + 5) ++ rwL 40 4 (u + 7))))
theorem I_init_ok (hb : b < 10000) : mres cT 2 d 0 (ment 1 [.ref b]) [] (lh h b s [.inr (8, [.null, .null, .null, .null])]) = some (none, lh h b (s + 398) (iiL b)) := by
  simp only [ment, mfl, List.length, List.replicate, List.cons_append, List.nil_append, Nat.reduceAdd, Nat.reduceSub]
  rw [r_al0 c_I_init_0, r_oin c_I_init_1 (by decide),
    g_row (lim := 24) (wid := 3) c_I_init_4 c_I_init_5 c_I_init_8 c_I_init_9 c_I_init_11 c_I_init_12 c_I_init_15 rfl rfl (by decide) (by decide) (by simp) (by simp; omega),
    g_row (lim := 30) (wid := 3) c_I_init_18 c_I_init_19 c_I_init_22 c_I_init_23 c_I_init_25 c_I_init_26 c_I_init_29 rfl rfl (by decide) (by decide) (by simp) (by simp [rwL]; omega),
    g_row (lim := 20) (wid := 3) c_I_init_32 c_I_init_33 c_I_init_36 c_I_init_37 c_I_init_39 c_I_init_40 c_I_init_43 rfl rfl (by decide) (by decide) (by simp) (by simp [rwL]; omega),
    g_row (lim := 40) (wid := 4) c_I_init_46 c_I_init_47 c_I_init_50 c_I_init_51 c_I_init_53 c_I_init_54 c_I_init_57 rfl rfl (by decide) (by decide) (by simp) (by simp [rwL]; omega), r_vret c_I_init_60]
  rfl
def bkL (b : Nat) : List va_E := [shB b 0 zc, shB b 1 zc, shB b 2 zc, shB b 3 zc, shB b 4 zc, shB b 5 zc, shB b 6 zc, shB b 7 zc, shB b 8 zc, shB b 9 zc, shB b 10 zc, shB b 11 zc, shB b 12 zc, shB b 13 zc, shB b 14 zc, shB b 15 zc, shB b 16 zc, shB b 17 zc, shB b 18 zc, shB b 19 zc, shB b 20 zc, shB b 21 zc, shB b 22 zc, shB b 23 zc, shB b 24 zc, shB b 25 zc]
theorem B_init_ok (hb : b < 1000) : mres cT 5 d 0 (ment 1 [.ref b]) [] (lh h b s [.inr (0, [.null, .null, .null, .null, .null, .null, .null, .null, .int 0, .int 0, .int 0, .int 0])]) = some (none, lh h b (s + 990) (bkL b)) := by
  simp only [ment, mfl, List.length, List.replicate, List.cons_append, List.nil_append, Nat.reduceAdd, Nat.reduceSub]
  rw [r_al0 c_B_init_0, r_oin c_B_init_1 (by decide),
    g_row (lim := 12) (wid := 6) c_B_init_4 c_B_init_5 c_B_init_8 c_B_init_9 c_B_init_11 c_B_init_13 c_B_init_16 rfl rfl (by decide) (by decide) (by simp) (by simp; omega),
    g_row (lim := 40) (wid := 4) c_B_init_19 c_B_init_20 c_B_init_23 c_B_init_24 c_B_init_26 c_B_init_27 c_B_init_30 rfl rfl (by decide) (by decide) (by simp) (by simp [rwL]; omega),
    g_row (lim := 9) (wid := 4) c_B_init_33 c_B_init_34 c_B_init_37 c_B_init_38 c_B_init_40 c_B_init_41 c_B_init_44 rfl rfl (by decide) (by decide) (by simp) (by simp [rwL]; omega),
    g_row (lim := 30) (wid := 5) c_B_init_47 c_B_init_48 c_B_init_51 c_B_init_52 c_B_init_54 c_B_init_55 c_B_init_58 rfl rfl (by decide) (by decide) (by simp) (by simp [rwL]; omega),
    g_row (lim := 8) (wid := 3) c_B_init_61 c_B_init_62 c_B_init_65 c_B_init_66 c_B_init_68 c_B_init_69 c_B_init_72 rfl rfl (by decide) (by decide) (by simp) (by simp [rwL]; omega),
    g_row (lim := 5) (wid := 1) c_B_init_75 c_B_init_76 c_B_init_79 c_B_init_80 c_B_init_81 c_B_init_82 c_B_init_85 rfl rfl (by decide) (by decide) (by simp) (by simp [rwL]; omega),
    g_obj (B := 10000) (c := 398) (sub := iiL) c_B_init_88 c_B_init_89 c_B_init_92 c_B_init_93 c_B_init_96 (by decide) (by decide) (by simp) (by simp [rwL]; omega) (fun h b s hb => I_init_ok hb),
    g_obj (B := 10000) (c := 114) (sub := llL) c_B_init_99 c_B_init_100 c_B_init_103 c_B_init_104 c_B_init_107 (by decide) (by decide) (by simp) (by simp [rwL, iiL]; omega) (fun h b s hb => L_init_ok hb), r_vret c_B_init_110]
  have e : s + 4 + 12 * 6 + 4 + 40 * 4 + 4 + 9 * 4 + 4 + 30 * 5 + 4 + 8 * 3 + 4 + 5 * 1 + 4 + 398 + 3 + 114 = s + 990 := by omega
  rw [e]
  rfl
end INITS
