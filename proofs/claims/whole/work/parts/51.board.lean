/-! the books: boards -/
section BOARD
variable {E : EE} {S : SS} {d b n : Nat} {pe pr dy : Int32}
def mfG (f : Nat → Int32) (pe pr dm : Int32) (i : Nat) (s : Int32) : Int32 :=
  if f (i * 4 + 1) >>> (pr &&& 31) &&& 1 = 1 then if f (i * 4) >>> (dm &&& 31) &&& 1 = 1 then s else if f (i * 4 + 2) &&& pe = 0 then s ||| 1 <<< (nI i &&& 31) else s else s
def mfS (f : Nat → Int32) (n : Nat) (pe pr dy : Int32) : Int32 := rfor (mfG f pe pr (dy - dy / 7 * 7)) 0 n 0
theorem B_membersFor_ok (hE : okE E) (hb : bkb b) (hn : iF S (b + 5) 3 = nI n) (hn2 : n ≤ 9) : mres cT 177 d 0 (ment 8 [.ref b, .int pe, .int pr, .int dy]) [] (hs E S) = some (some (.int (mfS (iA S (b + 6)) n pe pr dy)), hs E S) := by
  have o0 := o_B hE hb
  have h7 : ¬ (7 : Int32) = 0 := by decide
  have lp : ∀ m i s w6 w7, i + m = n → mres cT 177 d 6 [.ref b, .int pe, .int pr, .int dy, .int s, .int (nI i), w6, w7] [] (hs E S) = some (some (.int (rfor (mfG (iA S (b + 6)) pe pr (dy - dy / 7 * 7)) i m s)), hs E S) := by
    intro m
    induction m with
    | zero =>
      intro i s w6 w7 hi
      have h1 : nI n ≤ nI i := nI_le (by omega) (by omega)
      simp only [r_il5 c_B_membersFor_6, r_al0 c_B_membersFor_8, r_gfSr c_B_membersFor_9 o0 rfl, r_gfR3 c_B_membersFor_12 (w_1 hE hb), r_gfR3 c_B_membersFor_12 (w_3 hE hb), r_gfR3 c_B_membersFor_12 (w_5 hE hb), r_gfR3 c_B_membersFor_12 (w_7 hE hb), r_gfR3 c_B_membersFor_12 (w_9 hE hb), r_gfR3 c_B_membersFor_12 (w_11 hE hb), r_gfR3 c_B_membersFor_12 (w_14 hE hb), r_gfR3 c_B_membersFor_12 (w_16 hE hb), r_gfR3 c_B_membersFor_12 (w_18 hE hb), r_gfR3 c_B_membersFor_12 (w_20 hE hb), r_icge c_B_membersFor_15, r_il4 c_B_membersFor_111, r_iret c_B_membersFor_113, ↓reduceIte, hs_h, Option.bind_some, mfix_i, mfix_r, mfix_n, mfix_a, Option.toList_some, Option.toList_none, List.cons_append, List.nil_append, List.singleton_append, hn, h1, if_true, rfor]
    | succ m ih =>
      intro i s w6 w7 hi
      have h1 : ¬ nI n ≤ nI i := nI_ge (by omega) (by omega)
      have hi2 : i < 9 := by omega
      have ih := fun s w6 w7 => ih (i + 1) s w6 w7 (by omega)
      simp only [r_il5 c_B_membersFor_6, r_al0 c_B_membersFor_8, r_gfSr c_B_membersFor_9 o0 rfl, r_gfR3 c_B_membersFor_12 (w_1 hE hb), r_gfR3 c_B_membersFor_12 (w_3 hE hb), r_gfR3 c_B_membersFor_12 (w_5 hE hb), r_gfR3 c_B_membersFor_12 (w_7 hE hb), r_gfR3 c_B_membersFor_12 (w_9 hE hb), r_gfR3 c_B_membersFor_12 (w_11 hE hb), r_gfR3 c_B_membersFor_12 (w_14 hE hb), r_gfR3 c_B_membersFor_12 (w_16 hE hb), r_gfR3 c_B_membersFor_12 (w_18 hE hb), r_gfR3 c_B_membersFor_12 (w_20 hE hb), r_icge c_B_membersFor_15, ↓reduceIte, hs_h, Option.bind_some, mfix_i, mfix_r, mfix_n, mfix_a, Option.toList_some, Option.toList_none, List.cons_append, List.nil_append, List.singleton_append, hn, h1]
      simp only [rfor, mfG]
      by_cases a1 : iA S (b + 6) (i * 4 + 1) >>> (pr &&& 31) &&& 1 = 1
      · by_cases a2 : iA S (b + 6) (i * 4) >>> ((dy - dy / 7 * 7) &&& 31) &&& 1 = 1
        · simp only [r_al0 c_B_membersFor_18, r_gfSr c_B_membersFor_19 o0 rfl, r_il5 c_B_membersFor_22, r_ci c_B_membersFor_24, r_cv3 c_B_membersFor_25, r_il2 c_B_membersFor_28, r_ishr c_B_membersFor_29, r_ci c_B_membersFor_30, r_iand c_B_membersFor_31, r_ci c_B_membersFor_32, r_icne c_B_membersFor_33, r_ci c_B_membersFor_36, r_goto c_B_membersFor_37, r_ci c_B_membersFor_40, r_is6 c_B_membersFor_41, r_al0 c_B_membersFor_43, r_gfSr c_B_membersFor_44 o0 rfl, r_il5 c_B_membersFor_47, r_ci c_B_membersFor_49, r_cv3 c_B_membersFor_50, r_il3 c_B_membersFor_53, r_ci c_B_membersFor_54, r_irem c_B_membersFor_56 h7, r_ishr c_B_membersFor_57, r_ci c_B_membersFor_58, r_iand c_B_membersFor_59, r_ci c_B_membersFor_60, r_icne c_B_membersFor_61, r_ci c_B_membersFor_64, r_goto c_B_membersFor_65, r_ci c_B_membersFor_68, r_is7 c_B_membersFor_69, r_il6 c_B_membersFor_71, r_ifeq c_B_membersFor_73, r_il7 c_B_membersFor_76, r_ifne c_B_membersFor_78, r_al0 c_B_membersFor_81, r_gfSr c_B_membersFor_82 o0 rfl, r_il5 c_B_membersFor_85, r_ci c_B_membersFor_87, r_cv3 c_B_membersFor_88, r_il1 c_B_membersFor_91, r_iand c_B_membersFor_92, r_ifne c_B_membersFor_93, r_il4 c_B_membersFor_96, r_ci c_B_membersFor_98, r_il5 c_B_membersFor_99, r_ishl c_B_membersFor_101, r_ior c_B_membersFor_102, r_is4 c_B_membersFor_103, r_inc5 c_B_membersFor_105, r_goto c_B_membersFor_108, ↓reduceIte, hs_h, Option.bind_some, mfix_i, mfix_r, mfix_n, mfix_a, Option.toList_some, Option.toList_none, List.cons_append, List.nil_append, List.singleton_append, mwt, Value.category, Nat.reduceAdd, Nat.reduceLeDiff, true_and, and_true, and_self, at_5 hE hb, misc_w (w_5 hE hb), ra0 hi2 (show 0 < 4 by decide) (show 9 * 4 ≤ 1000 by decide), ra1 hi2 (show 1 < 4 by decide) (show 9 * 4 ≤ 1000 by decide), a1, a2, one_nz, if_true, if_false, nI_1, ih]
        · simp only [r_al0 c_B_membersFor_18, r_gfSr c_B_membersFor_19 o0 rfl, r_il5 c_B_membersFor_22, r_ci c_B_membersFor_24, r_cv3 c_B_membersFor_25, r_il2 c_B_membersFor_28, r_ishr c_B_membersFor_29, r_ci c_B_membersFor_30, r_iand c_B_membersFor_31, r_ci c_B_membersFor_32, r_icne c_B_membersFor_33, r_ci c_B_membersFor_36, r_goto c_B_membersFor_37, r_ci c_B_membersFor_40, r_is6 c_B_membersFor_41, r_al0 c_B_membersFor_43, r_gfSr c_B_membersFor_44 o0 rfl, r_il5 c_B_membersFor_47, r_ci c_B_membersFor_49, r_cv3 c_B_membersFor_50, r_il3 c_B_membersFor_53, r_ci c_B_membersFor_54, r_irem c_B_membersFor_56 h7, r_ishr c_B_membersFor_57, r_ci c_B_membersFor_58, r_iand c_B_membersFor_59, r_ci c_B_membersFor_60, r_icne c_B_membersFor_61, r_ci c_B_membersFor_64, r_goto c_B_membersFor_65, r_ci c_B_membersFor_68, r_is7 c_B_membersFor_69, r_il6 c_B_membersFor_71, r_ifeq c_B_membersFor_73, r_il7 c_B_membersFor_76, r_ifne c_B_membersFor_78, r_al0 c_B_membersFor_81, r_gfSr c_B_membersFor_82 o0 rfl, r_il5 c_B_membersFor_85, r_ci c_B_membersFor_87, r_cv3 c_B_membersFor_88, r_il1 c_B_membersFor_91, r_iand c_B_membersFor_92, r_ifne c_B_membersFor_93, r_il4 c_B_membersFor_96, r_ci c_B_membersFor_98, r_il5 c_B_membersFor_99, r_ishl c_B_membersFor_101, r_ior c_B_membersFor_102, r_is4 c_B_membersFor_103, r_inc5 c_B_membersFor_105, r_goto c_B_membersFor_108, ↓reduceIte, hs_h, Option.bind_some, mfix_i, mfix_r, mfix_n, mfix_a, Option.toList_some, Option.toList_none, List.cons_append, List.nil_append, List.singleton_append, mwt, Value.category, Nat.reduceAdd, Nat.reduceLeDiff, true_and, and_true, and_self, at_5 hE hb, misc_w (w_5 hE hb), ra0 hi2 (show 0 < 4 by decide) (show 9 * 4 ≤ 1000 by decide), ra1 hi2 (show 1 < 4 by decide) (show 9 * 4 ≤ 1000 by decide), ra2 hi2 (show 2 < 4 by decide) (show 9 * 4 ≤ 1000 by decide), a1, a2, one_nz, if_true, if_false, nI_1]
          split
          · exact ih _ _ _
          · exact ih _ _ _
      · simp only [r_al0 c_B_membersFor_18, r_gfSr c_B_membersFor_19 o0 rfl, r_il5 c_B_membersFor_22, r_ci c_B_membersFor_24, r_cv3 c_B_membersFor_25, r_il2 c_B_membersFor_28, r_ishr c_B_membersFor_29, r_ci c_B_membersFor_30, r_iand c_B_membersFor_31, r_ci c_B_membersFor_32, r_icne c_B_membersFor_33, r_ci c_B_membersFor_36, r_goto c_B_membersFor_37, r_ci c_B_membersFor_40, r_is6 c_B_membersFor_41, r_al0 c_B_membersFor_43, r_gfSr c_B_membersFor_44 o0 rfl, r_il5 c_B_membersFor_47, r_ci c_B_membersFor_49, r_cv3 c_B_membersFor_50, r_il3 c_B_membersFor_53, r_ci c_B_membersFor_54, r_irem c_B_membersFor_56 h7, r_ishr c_B_membersFor_57, r_ci c_B_membersFor_58, r_iand c_B_membersFor_59, r_ci c_B_membersFor_60, r_icne c_B_membersFor_61, r_ci c_B_membersFor_64, r_goto c_B_membersFor_65, r_ci c_B_membersFor_68, r_is7 c_B_membersFor_69, r_il6 c_B_membersFor_71, r_ifeq c_B_membersFor_73, r_il7 c_B_membersFor_76, r_ifne c_B_membersFor_78, r_al0 c_B_membersFor_81, r_gfSr c_B_membersFor_82 o0 rfl, r_il5 c_B_membersFor_85, r_ci c_B_membersFor_87, r_cv3 c_B_membersFor_88, r_il1 c_B_membersFor_91, r_iand c_B_membersFor_92, r_ifne c_B_membersFor_93, r_il4 c_B_membersFor_96, r_ci c_B_membersFor_98, r_il5 c_B_membersFor_99, r_ishl c_B_membersFor_101, r_ior c_B_membersFor_102, r_is4 c_B_membersFor_103, r_inc5 c_B_membersFor_105, r_goto c_B_membersFor_108, ↓reduceIte, hs_h, Option.bind_some, mfix_i, mfix_r, mfix_n, mfix_a, Option.toList_some, Option.toList_none, List.cons_append, List.nil_append, List.singleton_append, mwt, Value.category, Nat.reduceAdd, Nat.reduceLeDiff, true_and, and_true, and_self, at_5 hE hb, misc_w (w_5 hE hb), ra0 hi2 (show 0 < 4 by decide) (show 9 * 4 ≤ 1000 by decide), ra1 hi2 (show 1 < 4 by decide) (show 9 * 4 ≤ 1000 by decide), a1, if_true, if_false, nI_1, ih, ite_self]
  simp only [ment, mfl, List.length, List.replicate, List.cons_append, List.nil_append, Nat.reduceAdd, Nat.reduceSub]
  simp only [r_ci c_B_membersFor_0, r_is4 c_B_membersFor_1, r_ci c_B_membersFor_3, r_is5 c_B_membersFor_4, ↓reduceIte, hs_h, Option.bind_some, mfix_i, mfix_r, mfix_n, mfix_a, Option.toList_some, Option.toList_none, List.cons_append, List.nil_append, List.singleton_append]
  exact lp n 0 0 _ _ (by omega)
def boG (f : Nat → Int32) (ab : Int32) (i j k : Nat) (s : Int32 × Int32) : Int32 × Int32 :=
  if (1 <<< (nI i &&& 31) ||| 1 <<< (nI j &&& 31) ||| 1 <<< (nI k &&& 31)) &&& (ab ^^^ -1) = 0 then
    if f (i * 4 + 3) + f (j * 4 + 3) + f (k * 4 + 3) < s.2 then (nI i * 100 + nI j * 10 + nI k, f (i * 4 + 3) + f (j * 4 + 3) + f (k * 4 + 3)) else s else s
def bo2 (f : Nat → Int32) (n : Nat) (ab : Int32) (i j : Nat) (s : Int32 × Int32) : Int32 × Int32 := rfor (boG f ab i j) (j + 1) (n - (j + 1)) s
def bo3 (f : Nat → Int32) (n : Nat) (ab : Int32) (i : Nat) (s : Int32 × Int32) : Int32 × Int32 := rfor (bo2 f n ab i) (i + 1) (n - (i + 1)) s
def boS (f : Nat → Int32) (n : Nat) (ab : Int32) : Int32 := (rfor (bo3 f n ab) 0 n (-1000000005, 2147483647)).1
theorem B_boardFor_ok (hE : okE E) (hb : bkb b) (hn : iF S (b + 5) 3 = nI n) (hn2 : n ≤ 9) : mres cT 178 d 0 (ment 12 [.ref b, .int pe, .int pr, .int dy]) [] (hs E S) = some (some (.int (boS (iA S (b + 6)) n (mfS (iA S (b + 6)) n pe pr dy))), hs E S) := by
  have o0 := o_B hE hb
  have m0 := misc_o (S := S) o0
  have l3 : ∀ (ab : Int32) (i j : Nat), i < 9 → j < 9 → ∀ m k x y u v, k + m = n → ∃ u' v', mres cT 178 d 56 [.ref b, .int pe, .int pr, .int dy, .int ab, .int x, .int y, .int (nI i), .int (nI j), .int (nI k), u, v] [] (hs E S) = mres cT 178 d 164 [.ref b, .int pe, .int pr, .int dy, .int ab, .int (rfor (boG (iA S (b + 6)) ab i j) k m (x, y)).1, .int (rfor (boG (iA S (b + 6)) ab i j) k m (x, y)).2, .int (nI i), .int (nI j), .int (nI n), u', v'] [] (hs E S) := by
    intro ab i j hi hj m
    induction m with
    | zero =>
      intro k x y u v hk
      have h1 : nI n ≤ nI k := nI_le (by omega) (by omega)
      refine ⟨u, v, ?_⟩
      simp only [r_il9 c_B_boardFor_56, r_al0 c_B_boardFor_58, r_gfSr c_B_boardFor_59 o0 rfl, r_gfR3 c_B_boardFor_62 (w_1 hE hb), r_gfR3 c_B_boardFor_62 (w_3 hE hb), r_gfR3 c_B_boardFor_62 (w_5 hE hb), r_gfR3 c_B_boardFor_62 (w_7 hE hb), r_gfR3 c_B_boardFor_62 (w_9 hE hb), r_gfR3 c_B_boardFor_62 (w_11 hE hb), r_gfR3 c_B_boardFor_62 (w_14 hE hb), r_gfR3 c_B_boardFor_62 (w_16 hE hb), r_gfR3 c_B_boardFor_62 (w_18 hE hb), r_gfR3 c_B_boardFor_62 (w_20 hE hb), r_icge c_B_boardFor_65, ↓reduceIte, hs_h, Option.bind_some, mfix_i, mfix_r, mfix_n, mfix_a, Option.toList_some, Option.toList_none, List.cons_append, List.nil_append, List.singleton_append, hn, h1, if_true, rfor]
      rw [show k = n by omega]
    | succ m ih =>
      intro k x y u v hk
      have h1 : ¬ nI n ≤ nI k := nI_ge (by omega) (by omega)
      have hk2 : k < 9 := by omega
      have ih := fun x y u v => ih (k + 1) x y u v (by omega)
      simp only [r_il9 c_B_boardFor_56, r_al0 c_B_boardFor_58, r_gfSr c_B_boardFor_59 o0 rfl, r_gfR3 c_B_boardFor_62 (w_1 hE hb), r_gfR3 c_B_boardFor_62 (w_3 hE hb), r_gfR3 c_B_boardFor_62 (w_5 hE hb), r_gfR3 c_B_boardFor_62 (w_7 hE hb), r_gfR3 c_B_boardFor_62 (w_9 hE hb), r_gfR3 c_B_boardFor_62 (w_11 hE hb), r_gfR3 c_B_boardFor_62 (w_14 hE hb), r_gfR3 c_B_boardFor_62 (w_16 hE hb), r_gfR3 c_B_boardFor_62 (w_18 hE hb), r_gfR3 c_B_boardFor_62 (w_20 hE hb), r_icge c_B_boardFor_65, ↓reduceIte, hs_h, Option.bind_some, mfix_i, mfix_r, mfix_n, mfix_a, Option.toList_some, Option.toList_none, List.cons_append, List.nil_append, List.singleton_append, hn, h1]
      simp only [r_ci c_B_boardFor_68, r_il7 c_B_boardFor_69, r_ishl c_B_boardFor_71, r_ci c_B_boardFor_72, r_il8 c_B_boardFor_73, r_ishl c_B_boardFor_75, r_ior c_B_boardFor_76, r_ci c_B_boardFor_77, r_il9 c_B_boardFor_78, r_ishl c_B_boardFor_80, r_ior c_B_boardFor_81, r_is10 c_B_boardFor_82, r_al0 c_B_boardFor_84, r_gfSr c_B_boardFor_85 o0 rfl, r_il7 c_B_boardFor_88, r_ci c_B_boardFor_90, r_cv3 c_B_boardFor_91, r_al0 c_B_boardFor_94, r_gfSr c_B_boardFor_95 o0 rfl, r_il8 c_B_boardFor_98, r_ci c_B_boardFor_100, r_cv3 c_B_boardFor_101, r_iadd c_B_boardFor_104, r_al0 c_B_boardFor_105, r_gfSr c_B_boardFor_106 o0 rfl, r_il9 c_B_boardFor_109, r_ci c_B_boardFor_111, r_cv3 c_B_boardFor_112, r_iadd c_B_boardFor_115, r_is11 c_B_boardFor_116, r_il10 c_B_boardFor_118, r_il4 c_B_boardFor_120, r_ci c_B_boardFor_122, r_ixor c_B_boardFor_123, r_iand c_B_boardFor_124, r_ifne c_B_boardFor_125, r_il11 c_B_boardFor_128, r_il6 c_B_boardFor_130, r_iclt c_B_boardFor_132, r_goto c_B_boardFor_135, r_il11 c_B_boardFor_138, r_is6 c_B_boardFor_140, r_il7 c_B_boardFor_142, r_ci c_B_boardFor_144, r_imul c_B_boardFor_146, r_il8 c_B_boardFor_147, r_ci c_B_boardFor_149, r_imul c_B_boardFor_151, r_iadd c_B_boardFor_152, r_il9 c_B_boardFor_153, r_iadd c_B_boardFor_155, r_is5 c_B_boardFor_156, r_inc9 c_B_boardFor_158, r_goto c_B_boardFor_161, ↓reduceIte, hs_h, Option.bind_some, mfix_i, mfix_r, mfix_n, mfix_a, Option.toList_some, Option.toList_none, List.cons_append, List.nil_append, List.singleton_append, mwt, Value.category, Nat.reduceAdd, Nat.reduceLeDiff, true_and, and_true, and_self, at_5 hE hb, misc_w (w_5 hE hb), ra3 hi (show 3 < 4 by decide) (show 9 * 4 ≤ 1000 by decide), ra3 hj (show 3 < 4 by decide) (show 9 * 4 ≤ 1000 by decide), ra3 hk2 (show 3 < 4 by decide) (show 9 * 4 ≤ 1000 by decide), nI_1, rfor, boG]
      split
      · split
        · exact ih _ _ _ _
        · exact ih _ _ _ _
      · exact ih _ _ _ _
  have l2 : ∀ (ab : Int32) (i : Nat), i < 9 → ∀ m j x y w u v, j + m = n → ∃ w' u' v', mres cT 178 d 38 [.ref b, .int pe, .int pr, .int dy, .int ab, .int x, .int y, .int (nI i), .int (nI j), w, u, v] [] (hs E S) = mres cT 178 d 170 [.ref b, .int pe, .int pr, .int dy, .int ab, .int (rfor (bo2 (iA S (b + 6)) n ab i) j m (x, y)).1, .int (rfor (bo2 (iA S (b + 6)) n ab i) j m (x, y)).2, .int (nI i), .int (nI n), w', u', v'] [] (hs E S) := by
    intro ab i hi m
    induction m with
    | zero =>
      intro j x y w u v hj
      have h1 : nI n ≤ nI j := nI_le (by omega) (by omega)
      refine ⟨w, u, v, ?_⟩
      simp only [r_il8 c_B_boardFor_38, r_al0 c_B_boardFor_40, r_gfSr c_B_boardFor_41 o0 rfl, r_gfR3 c_B_boardFor_44 (w_1 hE hb), r_gfR3 c_B_boardFor_44 (w_3 hE hb), r_gfR3 c_B_boardFor_44 (w_5 hE hb), r_gfR3 c_B_boardFor_44 (w_7 hE hb), r_gfR3 c_B_boardFor_44 (w_9 hE hb), r_gfR3 c_B_boardFor_44 (w_11 hE hb), r_gfR3 c_B_boardFor_44 (w_14 hE hb), r_gfR3 c_B_boardFor_44 (w_16 hE hb), r_gfR3 c_B_boardFor_44 (w_18 hE hb), r_gfR3 c_B_boardFor_44 (w_20 hE hb), r_icge c_B_boardFor_47, ↓reduceIte, hs_h, Option.bind_some, mfix_i, mfix_r, mfix_n, mfix_a, Option.toList_some, Option.toList_none, List.cons_append, List.nil_append, List.singleton_append, hn, h1, if_true, rfor]
      rw [show j = n by omega]
    | succ m ih =>
      intro j x y w u v hj
      have h1 : ¬ nI n ≤ nI j := nI_ge (by omega) (by omega)
      obtain ⟨u2, v2, r2⟩ := l3 ab i j hi (by omega) (n - (j + 1)) (j + 1) x y u v (by omega)
      obtain ⟨w3, u3, v3, r3⟩ := ih (j + 1) (bo2 (iA S (b + 6)) n ab i j (x, y)).1 (bo2 (iA S (b + 6)) n ab i j (x, y)).2 (.int (nI n)) u2 v2 (by omega)
      refine ⟨w3, u3, v3, ?_⟩
      simp only [r_il8 c_B_boardFor_38, r_al0 c_B_boardFor_40, r_gfSr c_B_boardFor_41 o0 rfl, r_gfR3 c_B_boardFor_44 (w_1 hE hb), r_gfR3 c_B_boardFor_44 (w_3 hE hb), r_gfR3 c_B_boardFor_44 (w_5 hE hb), r_gfR3 c_B_boardFor_44 (w_7 hE hb), r_gfR3 c_B_boardFor_44 (w_9 hE hb), r_gfR3 c_B_boardFor_44 (w_11 hE hb), r_gfR3 c_B_boardFor_44 (w_14 hE hb), r_gfR3 c_B_boardFor_44 (w_16 hE hb), r_gfR3 c_B_boardFor_44 (w_18 hE hb), r_gfR3 c_B_boardFor_44 (w_20 hE hb), r_icge c_B_boardFor_47, ↓reduceIte, hs_h, Option.bind_some, mfix_i, mfix_r, mfix_n, mfix_a, Option.toList_some, Option.toList_none, List.cons_append, List.nil_append, List.singleton_append, hn, h1]
      simp only [r_il8 c_B_boardFor_50, r_ci c_B_boardFor_52, r_iadd c_B_boardFor_53, r_is9 c_B_boardFor_54, ↓reduceIte, hs_h, Option.bind_some, mfix_i, mfix_r, mfix_n, mfix_a, Option.toList_some, Option.toList_none, List.cons_append, List.nil_append, List.singleton_append, nI_1, r2]
      simp only [r_inc8 c_B_boardFor_164, r_goto c_B_boardFor_167, ↓reduceIte, hs_h, Option.bind_some, mfix_i, mfix_r, mfix_n, mfix_a, Option.toList_some, Option.toList_none, List.cons_append, List.nil_append, List.singleton_append, nI_1, rfor]
      exact r3
  have l1 : ∀ (ab : Int32) m i x y p w u v, i + m = n → mres cT 178 d 20 [.ref b, .int pe, .int pr, .int dy, .int ab, .int x, .int y, .int (nI i), p, w, u, v] [] (hs E S) = some (some (.int (rfor (bo3 (iA S (b + 6)) n ab) i m (x, y)).1), hs E S) := by
    intro ab m
    induction m with
    | zero =>
      intro i x y p w u v hi
      have h1 : nI n ≤ nI i := nI_le (by omega) (by omega)
      simp only [r_il7 c_B_boardFor_20, r_al0 c_B_boardFor_22, r_gfSr c_B_boardFor_23 o0 rfl, r_gfR3 c_B_boardFor_26 (w_1 hE hb), r_gfR3 c_B_boardFor_26 (w_3 hE hb), r_gfR3 c_B_boardFor_26 (w_5 hE hb), r_gfR3 c_B_boardFor_26 (w_7 hE hb), r_gfR3 c_B_boardFor_26 (w_9 hE hb), r_gfR3 c_B_boardFor_26 (w_11 hE hb), r_gfR3 c_B_boardFor_26 (w_14 hE hb), r_gfR3 c_B_boardFor_26 (w_16 hE hb), r_gfR3 c_B_boardFor_26 (w_18 hE hb), r_gfR3 c_B_boardFor_26 (w_20 hE hb), r_icge c_B_boardFor_29, r_il5 c_B_boardFor_176, r_iret c_B_boardFor_178, ↓reduceIte, hs_h, Option.bind_some, mfix_i, mfix_r, mfix_n, mfix_a, Option.toList_some, Option.toList_none, List.cons_append, List.nil_append, List.singleton_append, hn, h1, if_true, rfor]
    | succ m ih =>
      intro i x y p w u v hi
      have h1 : ¬ nI n ≤ nI i := nI_ge (by omega) (by omega)
      obtain ⟨w2, u2, v2, r2⟩ := l2 ab i (by omega) (n - (i + 1)) (i + 1) x y w u v (by omega)
      have r3 := ih (i + 1) (bo3 (iA S (b + 6)) n ab i (x, y)).1 (bo3 (iA S (b + 6)) n ab i (x, y)).2 (.int (nI n)) w2 u2 v2 (by omega)
      simp only [r_il7 c_B_boardFor_20, r_al0 c_B_boardFor_22, r_gfSr c_B_boardFor_23 o0 rfl, r_gfR3 c_B_boardFor_26 (w_1 hE hb), r_gfR3 c_B_boardFor_26 (w_3 hE hb), r_gfR3 c_B_boardFor_26 (w_5 hE hb), r_gfR3 c_B_boardFor_26 (w_7 hE hb), r_gfR3 c_B_boardFor_26 (w_9 hE hb), r_gfR3 c_B_boardFor_26 (w_11 hE hb), r_gfR3 c_B_boardFor_26 (w_14 hE hb), r_gfR3 c_B_boardFor_26 (w_16 hE hb), r_gfR3 c_B_boardFor_26 (w_18 hE hb), r_gfR3 c_B_boardFor_26 (w_20 hE hb), r_icge c_B_boardFor_29, ↓reduceIte, hs_h, Option.bind_some, mfix_i, mfix_r, mfix_n, mfix_a, Option.toList_some, Option.toList_none, List.cons_append, List.nil_append, List.singleton_append, hn, h1]
      simp only [r_il7 c_B_boardFor_32, r_ci c_B_boardFor_34, r_iadd c_B_boardFor_35, r_is8 c_B_boardFor_36, ↓reduceIte, hs_h, Option.bind_some, mfix_i, mfix_r, mfix_n, mfix_a, Option.toList_some, Option.toList_none, List.cons_append, List.nil_append, List.singleton_append, nI_1, r2]
      simp only [r_inc7 c_B_boardFor_170, r_goto c_B_boardFor_173, ↓reduceIte, hs_h, Option.bind_some, mfix_i, mfix_r, mfix_n, mfix_a, Option.toList_some, Option.toList_none, List.cons_append, List.nil_append, List.singleton_append, nI_1, rfor]
      exact r3
  simp only [ment, mfl, List.length, List.replicate, List.cons_append, List.nil_append, Nat.reduceAdd, Nat.reduceSub]
  simp only [r_al0 c_B_boardFor_0, r_il1 c_B_boardFor_1, r_il2 c_B_boardFor_2, r_il3 c_B_boardFor_3, r_cv4 c_B_boardFor_4, r_is4 c_B_boardFor_7, r_ci c_B_boardFor_9, r_is5 c_B_boardFor_11, r_ci c_B_boardFor_13, r_is6 c_B_boardFor_15, r_ci c_B_boardFor_17, r_is7 c_B_boardFor_18, ↓reduceIte, hs_h, Option.bind_some, mfix_i, mfix_r, mfix_n, mfix_a, Option.toList_some, Option.toList_none, List.cons_append, List.nil_append, List.singleton_append, mwt, Value.category, Nat.reduceAdd, Nat.reduceLeDiff, true_and, and_true, and_self, m0, B_membersFor_ok hE hb hn hn2]
  exact l1 _ n 0 _ _ _ _ _ _ (by omega)
end BOARD
