/-! the class's constructors -/
def zc : Cel := (fun _ => 0, fun _ => 0, fun _ => 0, fun _ => none)
section INITS
variable {d b s : Nat} {h : Nat → va_E} {r q : List va_E} {gs : List Value}
def kkL (u : Nat) : List va_E := [.inr (4, [.ref (u + 1), .int 0]), marr 0 96]
theorem K_init_ok (hb : b < 100000) : mres cT 3 d 0 (ment 1 [.ref b]) [] (lh h b s [.inr (4, [.null, .int 0])]) = some (none, lh h b (s + 96) (kkL b)) := by
  simp only [ment, mfl, List.length, List.replicate, List.cons_append, List.nil_append, Nat.reduceAdd, Nat.reduceSub]
  rw [r_al0 c_K_init_0, r_oin c_K_init_1 (by decide), g_arr (K := 96) c_K_init_4 c_K_init_5 c_K_init_7 c_K_init_9 (by decide) (by decide) (by simp) (by simp; omega), r_vret c_K_init_12]
  rfl
def ppL (u : Nat) : List va_E := [.inr (5, [.ref (u + 1), .int 0]), marr 1 96]
theorem P_init_ok (hb : b < 100000) : mres cT 6 d 0 (ment 1 [.ref b]) [] (lh h b s [.inr (5, [.null, .int 0])]) = some (none, lh h b (s + 96) (ppL b)) := by
  simp only [ment, mfl, List.length, List.replicate, List.cons_append, List.nil_append, Nat.reduceAdd, Nat.reduceSub]
  rw [r_al0 c_P_init_0, r_oin c_P_init_1 (by decide), g_arr (K := 96) c_P_init_4 c_P_init_5 c_P_init_7 c_P_init_9 (by decide) (by decide) (by simp) (by simp; omega), r_vret c_P_init_12]
  rfl
def ssL (u : Nat) : List va_E := [.inr (3, [.ref (u + 1), .int (-1), .int 0]), marr 2 24]
theorem S_init_ok (hb : b < 100000) : mres cT 8 d 0 (ment 1 [.ref b]) [] (lh h b s [.inr (3, [.null, .int 0, .int 0])]) = some (none, lh h b (s + 24) (ssL b)) := by
  simp only [ment, mfl, List.length, List.replicate, List.cons_append, List.nil_append, Nat.reduceAdd, Nat.reduceSub]
  rw [r_al0 c_S_init_0, r_oin c_S_init_1 (by decide), g_arr (K := 24) c_S_init_4 c_S_init_5 c_S_init_7 c_S_init_9 (by decide) (by decide) (by simp) (by simp; omega), r_al0 c_S_init_12, r_ci c_S_init_13, g_pfi c_S_init_14 (by simp), r_vret c_S_init_17]
  rfl
def ddL (t u : Nat) : List va_E := [.inr (7, [.ref t, .ref (u + 1), .int 0, .int 0, .int 0, .int 0, .int 0, .int 0, .int 0]), marr 0 96]
theorem D_init_ok {t : Nat} (hb : b < 100000) : mres cT 7 d 0 (ment 2 [.ref b, .ref t]) [] (lh h b s [.inr (7, [.null, .null, .int 0, .int 0, .int 0, .int 0, .int 0, .int 0, .int 0])]) = some (none, lh h b (s + 96) (ddL t b)) := by
  simp only [ment, mfl, List.length, List.replicate, List.cons_append, List.nil_append, Nat.reduceAdd, Nat.reduceSub]
  rw [r_al0 c_D_init_0, r_oin c_D_init_1 (by decide), g_arr (K := 96) c_D_init_4 c_D_init_5 c_D_init_7 c_D_init_9 (by decide) (by decide) (by simp) (by simp; omega), r_al0 c_D_init_12, r_al1 c_D_init_13, g_pf c_D_init_14 (by simp), r_vret c_D_init_17]
  rfl
def llL (u : Nat) : List va_E := [.inr (1, [.ref (u + 1), .int 0, .ref (u + 2)]), marr 4 16] ++ kkL (u + 2)
theorem L_init_ok (hb : b < 10000) : mres cT 4 d 0 (ment 1 [.ref b]) [] (lh h b s [.inr (1, [.null, .int 0, .null])]) = some (none, lh h b (s + 114) (llL b)) := by
  simp only [ment, mfl, List.length, List.replicate, List.cons_append, List.nil_append, Nat.reduceAdd, Nat.reduceSub]
  rw [r_al0 c_L_init_0, r_oin c_L_init_1 (by decide), g_arr (K := 16) c_L_init_4 c_L_init_5 c_L_init_7 c_L_init_10 (by decide) (by decide) (by simp) (by simp; omega), g_obj (B := 100000) (c := 96) (sub := kkL) c_L_init_13 c_L_init_14 c_L_init_17 c_L_init_18 c_L_init_21 (by decide) (by decide) (by simp) (by simp; omega) (fun h b s hb => K_init_ok hb), r_vret c_L_init_24]
  rfl
def iiL (u : Nat) : List va_E := [.inr (8, [.ref (u + 1), .ref (u + 3), .ref (u + 5), .ref (u + 7)])] ++ (rwL 24 3 (u + 1) ++ (rwL 30 3 (u + 3) ++ (rwL 20 3 (u + 5) ++ rwL 40 4 (u + 7))))
theorem I_init_ok (hb : b < 10000) : mres cT 2 d 0 (ment 1 [.ref b]) [] (lh h b s [.inr (8, [.null, .null, .null, .null])]) = some (none, lh h b (s + 398) (iiL b)) := by
  simp only [ment, mfl, List.length, List.replicate, List.cons_append, List.nil_append, Nat.reduceAdd, Nat.reduceSub]
  rw [r_al0 c_I_init_0, r_oin c_I_init_1 (by decide),
    g_row (lim := 24) (wid := 3) c_I_init_4 c_I_init_5 c_I_init_8 c_I_init_9 c_I_init_11 c_I_init_12 c_I_init_15 rfl rfl (by decide) (by decide) (by simp) (by simp; omega),
    g_row (lim := 30) (wid := 3) c_I_init_18 c_I_init_19 c_I_init_22 c_I_init_23 c_I_init_25 c_I_init_26 c_I_init_29 rfl rfl (by decide) (by decide) (by simp) (by simp [rwL]; omega),
    g_row (lim := 20) (wid := 3) c_I_init_32 c_I_init_33 c_I_init_36 c_I_init_37 c_I_init_39 c_I_init_40 c_I_init_43 rfl rfl (by decide) (by decide) (by simp) (by simp [rwL]; omega),
    g_row (lim := 40) (wid := 4) c_I_init_46 c_I_init_47 c_I_init_50 c_I_init_51 c_I_init_53 c_I_init_54 c_I_init_57 rfl rfl (by decide) (by decide) (by simp) (by simp [rwL]; omega), r_vret c_I_init_60]
  rfl
def bkL (b : Nat) : List va_E := [shB b 0 zc, shB b 1 zc, shB b 2 zc, shB b 3 zc, shB b 4 zc, shB b 5 zc, shB b 6 zc, shB b 7 zc, shB b 8 zc, shB b 9 zc, shB b 10 zc, shB b 11 zc, shB b 12 zc, shB b 13 zc, shB b 14 zc, shB b 15 zc, shB b 16 zc, shB b 17 zc, shB b 18 zc, shB b 19 zc, shB b 20 zc, shB b 21 zc, shB b 22 zc, shB b 23 zc, shB b 24 zc, shB b 25 zc]
theorem B_init_ok (hb : b < 1000) : mres cT 5 d 0 (ment 1 [.ref b]) [] (lh h b s [.inr (0, [.null, .null, .null, .null, .null, .null, .null, .null, .int 0, .int 0, .int 0, .int 0])]) = some (none, lh h b (s + 990) (bkL b)) := by
  simp only [ment, mfl, List.length, List.replicate, List.cons_append, List.nil_append, Nat.reduceAdd, Nat.reduceSub]
  rw [r_al0 c_B_init_0, r_oin c_B_init_1 (by decide),
    g_row (lim := 12) (wid := 6) c_B_init_4 c_B_init_5 c_B_init_8 c_B_init_9 c_B_init_11 c_B_init_13 c_B_init_16 rfl rfl (by decide) (by decide) (by simp) (by simp; omega),
    g_row (lim := 40) (wid := 4) c_B_init_19 c_B_init_20 c_B_init_23 c_B_init_24 c_B_init_26 c_B_init_27 c_B_init_30 rfl rfl (by decide) (by decide) (by simp) (by simp [rwL]; omega),
    g_row (lim := 9) (wid := 4) c_B_init_33 c_B_init_34 c_B_init_37 c_B_init_38 c_B_init_40 c_B_init_41 c_B_init_44 rfl rfl (by decide) (by decide) (by simp) (by simp [rwL]; omega),
    g_row (lim := 30) (wid := 5) c_B_init_47 c_B_init_48 c_B_init_51 c_B_init_52 c_B_init_54 c_B_init_55 c_B_init_58 rfl rfl (by decide) (by decide) (by simp) (by simp [rwL]; omega),
    g_row (lim := 8) (wid := 3) c_B_init_61 c_B_init_62 c_B_init_65 c_B_init_66 c_B_init_68 c_B_init_69 c_B_init_72 rfl rfl (by decide) (by decide) (by simp) (by simp [rwL]; omega),
    g_row (lim := 5) (wid := 1) c_B_init_75 c_B_init_76 c_B_init_79 c_B_init_80 c_B_init_81 c_B_init_82 c_B_init_85 rfl rfl (by decide) (by decide) (by simp) (by simp [rwL]; omega),
    g_obj (B := 10000) (c := 398) (sub := iiL) c_B_init_88 c_B_init_89 c_B_init_92 c_B_init_93 c_B_init_96 (by decide) (by decide) (by simp) (by simp [rwL]; omega) (fun h b s hb => I_init_ok hb),
    g_obj (B := 10000) (c := 114) (sub := llL) c_B_init_99 c_B_init_100 c_B_init_103 c_B_init_104 c_B_init_107 (by decide) (by decide) (by simp) (by simp [rwL, iiL]; omega) (fun h b s hb => L_init_ok hb), r_vret c_B_init_110]
  have e : s + 4 + 12 * 6 + 4 + 40 * 4 + 4 + 9 * 4 + 4 + 30 * 5 + 4 + 8 * 3 + 4 + 5 * 1 + 4 + 398 + 3 + 114 = s + 990 := by omega
  rw [e]
  rfl
/-- the reader is made over the tape -/
theorem g_rdr {t : Nat} (hg : gs[4]? = some (.ref t)) (hk : 5 < gs.length) (hb : 0 + 1 + r.length < 100000) : mres cT 9 d 48 [.ref 0] [] (lh h 0 s (.inr (9, gs) :: r)) = mres cT 9 d 63 [.ref 0] [] (lh h 0 (s + 9 + 96) (.inr (9, gs.set 5 (.ref (0 + 1 + r.length))) :: (r ++ ddL t (0 + 1 + r.length)))) := by
  have e0 : ∀ s e, (lh h 0 s ((.inr (9, gs) :: r) ++ [e])).2.2 0 = .inr (9, gs) := fun s e => lh_0
  have eg : mfld (.inr (9, gs)) 9 4 = some (.ref t) := by rw [mfld, if_pos rfl, hg]
  rw [r_al0 c_X_init_48, r_new c_X_init_49 (by rw [lh_n]; omega), lh_new, lh_n, r_dupr c_X_init_52, r_al0 c_X_init_53, r_gf c_X_init_54, e0, eg, Option.bind_some, r_cv2 c_X_init_57 ⟨by simp [mwt, Value.category], by simp [mwt, Value.category]⟩ (by rw [lh_z]; simp [misc]), lh_g1, D_init_ok hb, Option.bind_some, ← lh_g1]
  exact g_pf c_X_init_60 hk
/-- a sheet is made and put into their row -/
theorem g_sh {M p0 p1 p2 p3 p4 p5 p6 a i : Nat} {x : Int32} {ls : mL} {f : Nat → Option Nat} (h0 : cT M p0 = o_dup p1) (h1 : cT M p1 = o_ci p2 x) (h2 : cT M p2 = o_new p3 3 3 [.null, .int 0, .int 0]) (h3 : cT M p3 = o_dup p4) (h4 : cT M p4 = o_ca p5 8 1 1 false (some 3)) (h5 : cT M p5 = o_aas p6 3 3) (hx : x = nI i) (hi : i < 4) (hb : a + 1 + q.length < 10000) {c0 : Nat} :
    mres cT M d p0 ls [.ref a, .ref c0] (lh h a s (.inl (3, 4, .inr (.inr (.inr (.inr f)))) :: q)) = mres cT M d p6 ls [.ref a, .ref c0] (lh h a (s + 3 + 24) (.inl (3, 4, .inr (.inr (.inr (.inr (va_up f i (some (a + 1 + q.length))))))) :: (q ++ ssL (a + 1 + q.length)))) := by
  have e0 : ∀ s es, (lh h a s (.inl (3, 4, .inr (.inr (.inr (.inr f)))) :: es)).2.2 a = .inl (3, 4, .inr (.inr (.inr (.inr f)))) := fun s es => lh_0
  have em : misc ((lh h a (s + 3 + 24) ((.inl (3, 4, .inr (.inr (.inr (.inr f)))) :: q) ++ ssL (a + 1 + q.length))).2.2 (a + 1 + q.length)) 3 = true := by
    rw [lh_g1, ssL, lh_0]; simp [misc]
  have eq : mqs (.inl (3, 4, .inr (.inr (.inr (.inr f))))) 3 (nI i) (some (a + 1 + q.length)) = some (.inl (3, 4, .inr (.inr (.inr (.inr (va_up f i (some (a + 1 + q.length)))))))) := by
    rw [mqs, if_pos ⟨rfl, nI_in hi (by omega)⟩, nI_clamp (by omega)]
  rw [r_dupr h0, r_ci h1, r_new h2 (by rw [lh_n]; omega), lh_new, lh_n, r_dupr h3, r_cv1 h4 ⟨by simp [mwt, Value.category], by simp [mwt, Value.category]⟩ (by rw [lh_z]; simp [misc]), lh_g1, S_init_ok (by omega), Option.bind_some, ← lh_g1]
  show mres cT M d p5 ls [.ref (a + 1 + q.length), .int x, .ref a, .ref a, .ref c0] _ = _
  rw [r_aas h5 em]
  show ((mqs ((lh h a (s + 3 + 24) (.inl (3, 4, .inr (.inr (.inr (.inr f)))) :: (q ++ ssL (a + 1 + q.length)))).2.2 a) 3 x (some (a + 1 + q.length))).bind _) = _
  rw [e0, hx, eq, Option.bind_some]
  exact congrArg _ lh_set
def s83 : Nat → Option Nat := va_up (va_up (va_up (va_up (fun _ => none) 0 (some 84)) 1 (some 86)) 2 (some 88)) 3 (some 90)
def xxL : List va_E := [shp 0 zc] ++ (bkL 1 ++ (bkL 27 ++ (bkL 53 ++ (ppL 79 ++ (ddL 79 81 ++ ([.inl (3, 4, .inr (.inr (.inr (.inr s83))))] ++ (ssL 84 ++ (ssL 86 ++ (ssL 88 ++ (ssL 90 ++ [marr 0 60]))))))))))
theorem bk_len {b : Nat} : (bkL b).length = 26 := rfl
theorem X_init_ok : mres cT 9 d 0 (ment 1 [.ref 0]) [] (lh h 0 s [.inr (9, [.null, .null, .null, .int 0, .null, .null, .null, .null, .int 0])]) = some (none, lh h 0 (s + 3381) xxL) := by
  have B1 : ∀ h b s, b < 1000 → mres cT 5 d 0 (ment 1 [.ref b]) [] (lh h b s [.inr (0, [.null, .null, .null, .null, .null, .null, .null, .null, .int 0, .int 0, .int 0, .int 0])]) = some (none, lh h b (s + 990) (bkL b)) := fun h b s hb => B_init_ok hb
  simp only [ment, mfl, List.length, List.replicate, List.cons_append, List.nil_append, Nat.reduceAdd, Nat.reduceSub]
  rw [r_al0 c_X_init_0, r_oin c_X_init_1 (by decide),
    g_obj (B := 1000) (c := 990) (sub := bkL) c_X_init_4 c_X_init_5 c_X_init_8 c_X_init_9 c_X_init_12 (by decide) (by decide) (by simp) (by simp) B1,
    g_obj (B := 1000) (c := 990) (sub := bkL) c_X_init_15 c_X_init_16 c_X_init_19 c_X_init_20 c_X_init_23 (by decide) (by decide) (by simp) (by simp [bk_len]) B1,
    g_obj (B := 1000) (c := 990) (sub := bkL) c_X_init_26 c_X_init_27 c_X_init_30 c_X_init_31 c_X_init_34 (by decide) (by decide) (by simp) (by simp [bk_len]) B1,
    g_obj (B := 100000) (c := 96) (sub := ppL) c_X_init_37 c_X_init_38 c_X_init_41 c_X_init_42 c_X_init_45 (by decide) (by decide) (by simp) (by simp [bk_len]) (fun h b s hb => P_init_ok hb),
    g_rdr (t := 79) (by simp [bk_len]) (by simp) (by simp [bk_len, ppL])]
  simp only [List.nil_append, List.length_nil, Nat.reduceAdd, bk_len, List.length_append, List.set_cons_succ, List.set_cons_zero]
  show mres cT 9 d 63 [.ref 0] [] (lh h 0 (s + 12 + 990 + 12 + 990 + 12 + 990 + 2 + 96 + 9 + 96) (.inr (9, [.ref 1, .ref 27, .ref 53, .int 0, .ref 79, .ref 81, .null, .null, .int 0]) :: (bkL 1 ++ bkL 27 ++ bkL 53 ++ ppL 79 ++ ddL 79 81))) = _
  have hl : (bkL 1 ++ bkL 27 ++ bkL 53 ++ ppL 79 ++ ddL 79 81).length = 82 := rfl
  have hx : xxL = .inr (9, [.ref 1, .ref 27, .ref 53, .int 0, .ref 79, .ref 81, .ref 83, .ref 92, .int 0]) :: ((bkL 1 ++ bkL 27 ++ bkL 53 ++ ppL 79 ++ ddL 79 81) ++ (.inl (3, 4, .inr (.inr (.inr (.inr s83)))) :: (ssL 84 ++ ssL 86 ++ ssL 88 ++ ssL 90)) ++ [marr 0 60]) := rfl
  rw [hx]
  generalize bkL 1 ++ bkL 27 ++ bkL 53 ++ ppL 79 ++ ddL 79 81 = r5 at hl ⊢
  have e83 : 0 + 1 + r5.length = 83 := by omega
  have ez : ¬ (4 : Int32) < 0 ∧ (4 : Int32).toNatClampNeg = 4 := by decide
  rw [r_al0 c_X_init_63, r_ci c_X_init_64, r_na c_X_init_65 ⟨by rw [lh_n]; omega, ez.1, by rw [ez.2]; decide⟩, ez.2, lh_new, lh_n, lh_g1, e83]
  show mres cT 9 d 68 [.ref 0] [.ref 83, .ref 0] (lh _ 83 _ (.inl (3, 4, .inr (.inr (.inr (.inr (fun _ => none))))) :: [])) = _
  rw [g_sh (i := 0) c_X_init_68 c_X_init_69 c_X_init_70 c_X_init_73 c_X_init_74 c_X_init_77 rfl (by decide) (by simp),
    g_sh (i := 1) c_X_init_78 c_X_init_79 c_X_init_80 c_X_init_83 c_X_init_84 c_X_init_87 rfl (by decide) (by simp [ssL]),
    g_sh (i := 2) c_X_init_88 c_X_init_89 c_X_init_90 c_X_init_93 c_X_init_94 c_X_init_97 rfl (by decide) (by simp [ssL]),
    g_sh (i := 3) c_X_init_98 c_X_init_99 c_X_init_100 c_X_init_103 c_X_init_104 c_X_init_107 rfl (by decide) (by simp [ssL])]
  show mres cT 9 d 108 [.ref 0] [.ref 83, .ref 0] (lh _ 83 _ (.inl (3, 4, .inr (.inr (.inr (.inr s83)))) :: (ssL 84 ++ ssL 86 ++ ssL 88 ++ ssL 90))) = _
  rw [← e83, ← lh_g1]
  show mres cT 9 d 108 [.ref 0] [.ref (0 + 1 + r5.length), .ref 0] (lh h 0 _ (.inr (9, [.ref 1, .ref 27, .ref 53, .int 0, .ref 79, .ref 81, .null, .null, .int 0]) :: (r5 ++ (.inl (3, 4, .inr (.inr (.inr (.inr s83)))) :: (ssL 84 ++ ssL 86 ++ ssL 88 ++ ssL 90))))) = _
  have l2 : (r5 ++ (.inl (3, 4, .inr (.inr (.inr (.inr s83)))) :: (ssL 84 ++ ssL 86 ++ ssL 88 ++ ssL 90))).length = 91 := by
    rw [List.length_append, hl]; rfl
  rw [g_pf c_X_init_108 (by simp), g_arr (K := 60) c_X_init_111 c_X_init_112 c_X_init_114 c_X_init_116 (by decide) (by decide) (by simp) (by rw [l2]; decide), l2, e83, r_vret c_X_init_119]
  have e : s + 12 + 990 + 12 + 990 + 12 + 990 + 2 + 96 + 9 + 96 + 4 + 3 + 24 + 3 + 24 + 3 + 24 + 3 + 24 + 60 = s + 3381 := by omega
  rw [e]
  rfl
end INITS
