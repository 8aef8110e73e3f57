/-! the model: boards -/
section MBOARD
variable {E : EE} {R S S1 : SS} {b d k n i j td B : Nat} {z t hc pk : Nat → Nat} {c pe pr dy x y : Int32} {f A : Nat → Int32}
def hsS (x y : Int32) : Int32 := if x >>> (y &&& 31) &&& 1 = 1 then 1 else 0
theorem M_has_ok {H : mH} : mres cT 181 d 0 (ment 2 [.int x, .int y]) [] H = some (some (.int (hsS x y)), H) := by
  simp only [ment, mfl, List.length, List.replicate, List.cons_append, List.nil_append, Nat.reduceAdd, Nat.reduceSub]
  simp only [r_il0 c_M_has_0, r_il1 c_M_has_1, r_ishr c_M_has_2, r_ci c_M_has_3, r_iand c_M_has_4, r_ci c_M_has_5, r_icne c_M_has_6, r_ci c_M_has_9, r_goto c_M_has_10, r_ci c_M_has_13, r_zret c_M_has_14, ↓reduceIte, hs_h, Option.bind_some, mfix_i, mfix_r, mfix_n, mfix_a, Option.toList_some, Option.toList_none, List.cons_append, List.nil_append, List.singleton_append, mz0, mz1, ite_out, hsS]
theorem M_turns_ok (hE : okE E) (hi : i < 9) : mres cT 180 d 0 (ment 2 [.ref 93, .int (nI i)]) [] (hs E S) = some (some (.int (iA S 94 (634 + 4 * i + 3))), hs E S) := by
  have o10 := o_M hE
  simp only [ment, mfl, List.length, List.replicate, List.cons_append, List.nil_append, Nat.reduceAdd, Nat.reduceSub]
  simp only [r_al0 c_M_turns_0, r_gfSr c_M_turns_1 o10 rfl, r_ci c_M_turns_4, r_ci c_M_turns_7, r_il1 c_M_turns_8, r_imul c_M_turns_9, r_iadd c_M_turns_10, r_ci c_M_turns_11, r_iadd c_M_turns_12, r_ial c_M_turns_13, r_iret c_M_turns_14, ↓reduceIte, hs_h, Option.bind_some, mfix_i, mfix_r, mfix_n, mfix_a, Option.toList_some, Option.toList_none, List.cons_append, List.nil_append, List.singleton_append, km2, km3, km4, km6, km104, km24, ka20, ka92, ka164, ka254, ka314, ka474, ka634, ka670, ka850, ka890, ka914, ka12, kr2, kr3, kr4, kr5, nI_1, nI_add, mia_94 hE (show 634 + 4 * i + 3 < 2578 by omega)]
def myM (f : Nat → Int32) (pe pr dm : Int32) (i : Nat) : Int32 := if hsS (f (634 + 4 * i + 1)) pr = 0 then 0 else if hsS (f (634 + 4 * i)) dm = 0 then if f (634 + 4 * i + 2) &&& pe = 0 then 1 else 0 else 0
theorem M_mayGo_ok (hE : okE E) (hi : i < 9) : mres cT 182 d 0 (ment 6 [.ref 93, .int (nI i), .int pe, .int pr, .int dy]) [] (hs E S) = some (some (.int (myM (iA S 94) pe pr (dy - dy / 7 * 7) i)), hs E S) := by
  have o10 := o_M hE
  have h7 : ¬ (7 : Int32) = 0 := by decide
  simp only [ment, mfl, List.length, List.replicate, List.cons_append, List.nil_append, Nat.reduceAdd, Nat.reduceSub, myM]
  simp only [r_ci c_M_mayGo_0, r_ci c_M_mayGo_3, r_il1 c_M_mayGo_4, r_imul c_M_mayGo_5, r_iadd c_M_mayGo_6, r_is5 c_M_mayGo_7, r_al0 c_M_mayGo_9, r_gfSr c_M_mayGo_10 o10 rfl, r_il5 c_M_mayGo_13, r_ci c_M_mayGo_15, r_iadd c_M_mayGo_16, r_ial c_M_mayGo_17, r_il3 c_M_mayGo_18, r_ca2 c_M_mayGo_19, r_ifeq c_M_mayGo_22, r_al0 c_M_mayGo_25, r_gfSr c_M_mayGo_26 o10 rfl, r_il5 c_M_mayGo_29, r_ial c_M_mayGo_31, r_il4 c_M_mayGo_32, r_ci c_M_mayGo_34, r_irem c_M_mayGo_36 h7, r_ca2 c_M_mayGo_37, r_ifne c_M_mayGo_40, r_al0 c_M_mayGo_43, r_gfSr c_M_mayGo_44 o10 rfl, r_il5 c_M_mayGo_47, r_ci c_M_mayGo_49, r_iadd c_M_mayGo_50, r_ial c_M_mayGo_51, r_il2 c_M_mayGo_52, r_iand c_M_mayGo_53, r_ifne c_M_mayGo_54, r_ci c_M_mayGo_57, r_goto c_M_mayGo_58, r_ci c_M_mayGo_61, r_zret c_M_mayGo_62, ↓reduceIte, hs_h, Option.bind_some, mfix_i, mfix_r, mfix_n, mfix_a, Option.toList_some, Option.toList_none, List.cons_append, List.nil_append, List.singleton_append, mwt, Value.category, Nat.reduceAdd, Nat.reduceLeDiff, true_and, and_true, and_self, km2, km3, km4, km6, km104, km24, ka20, ka92, ka164, ka254, ka314, ka474, ka634, ka670, ka850, ka890, ka914, ka12, kr2, kr3, kr4, kr5, nI_1, nI_add, mia_94 hE (show 634 + 4 * i < 2578 by omega), mia_94 hE (show 634 + 4 * i + 1 < 2578 by omega), mia_94 hE (show 634 + 4 * i + 2 < 2578 by omega), M_has_ok, mz0, mz1, ite_out]
theorem my01 {m : Int32} : myM f pe pr m i = 0 ∨ myM f pe pr m i = 1 := by
  rw [myM]; repeat' split
  all_goals simp
def mvB (f : Nat → Int32) (pe pr m : Int32) (i j k : Nat) : Prop := myM f pe pr m i = 1 ∧ myM f pe pr m j = 1 ∧ myM f pe pr m k = 1
def suM (f : Nat → Int32) (i j k : Nat) : Int32 := f (634 + 4 * i + 3) + f (634 + 4 * j + 3) + f (634 + 4 * k + 3)
def moG (f : Nat → Int32) (pe pr m : Int32) (i j k : Nat) (s : Int32 × Int32) : Int32 × Int32 :=
  if myM f pe pr m i = 0 then s else if myM f pe pr m j = 0 then s else if myM f pe pr m k = 0 then s else if s.1 < 0 then (100 * nI i + 10 * nI j + nI k, suM f i j k) else if s.2 ≤ suM f i j k then s else (100 * nI i + 10 * nI j + nI k, suM f i j k)
def mo2 (f : Nat → Int32) (n : Nat) (pe pr m : Int32) (i j : Nat) (s : Int32 × Int32) : Int32 × Int32 := rfor (moG f pe pr m i j) (j + 1) (n - (j + 1)) s
def mo3 (f : Nat → Int32) (n : Nat) (pe pr m : Int32) (i : Nat) (s : Int32 × Int32) : Int32 × Int32 := rfor (mo2 f n pe pr m i) (i + 1) (n - (i + 1)) s
def moS (f : Nat → Int32) (n : Nat) (pe pr dy : Int32) : Int32 := (rfor (mo3 f n pe pr (dy - dy / 7 * 7)) 0 n (-1, 0)).1
theorem M_boardFor_ok (hE : okE E) (hn : iA S 94 9 = nI n) (hn2 : n ≤ 9) : mres cT 183 d 0 (ment 11 [.ref 93, .int pe, .int pr, .int dy]) [] (hs E S) = some (some (.int (moS (iA S 94) n pe pr dy)), hs E S) := by
  have o10 := o_M hE
  have m10 := m_M hE
  have l3 : ∀ (i j : Nat), i < 9 → j < 9 → ∀ m k x y u v, k + m = n → ∃ u' v', mres cT 183 d 45 [.ref 93, .int pe, .int pr, .int dy, .int x, .int y, .int (nI i), .int (nI j), .int (nI k), u, v] [] (hs E S) = mres cT 183 d 165 [.ref 93, .int pe, .int pr, .int dy, .int (rfor (moG (iA S 94) pe pr (dy - dy / 7 * 7) i j) k m (x, y)).1, .int (rfor (moG (iA S 94) pe pr (dy - dy / 7 * 7) i j) k m (x, y)).2, .int (nI i), .int (nI j), .int (nI n), u', v'] [] (hs E S) := by
    intro i j hi hj m
    induction m with
    | zero =>
      intro k x y u v hk
      have h1 : nI n ≤ nI k := nI_le (by omega) (by omega)
      refine ⟨u, v, ?_⟩
      simp only [r_il8 c_M_boardFor_45, r_al0 c_M_boardFor_47, r_gfSr c_M_boardFor_48 o10 rfl, r_ci c_M_boardFor_51, r_ial c_M_boardFor_53, r_icge c_M_boardFor_54, ↓reduceIte, hs_h, Option.bind_some, mfix_i, mfix_r, mfix_n, mfix_a, Option.toList_some, Option.toList_none, List.cons_append, List.nil_append, List.singleton_append, mn9 hE, hn, h1, if_true, rfor]
      rw [show k = n by omega]
    | succ m ih =>
      intro k x y u v hk
      have h1 : ¬ nI n ≤ nI k := nI_ge (by omega) (by omega)
      have hk2 : k < 9 := by omega
      have ih := fun x y u v => ih (k + 1) x y u v (by omega)
      simp only [r_il8 c_M_boardFor_45, r_al0 c_M_boardFor_47, r_gfSr c_M_boardFor_48 o10 rfl, r_ci c_M_boardFor_51, r_ial c_M_boardFor_53, r_icge c_M_boardFor_54, ↓reduceIte, hs_h, Option.bind_some, mfix_i, mfix_r, mfix_n, mfix_a, Option.toList_some, Option.toList_none, List.cons_append, List.nil_append, List.singleton_append, mn9 hE, hn, h1, if_false]
      rw [rfor, moG]
      by_cases a1 : myM (iA S 94) pe pr (dy - dy / 7 * 7) i = 0
      · simp only [r_al0 c_M_boardFor_57, r_il6 c_M_boardFor_58, r_cv2 c_M_boardFor_60, r_al0 c_M_boardFor_63, r_il7 c_M_boardFor_64, r_cv2 c_M_boardFor_66, r_iadd c_M_boardFor_69, r_al0 c_M_boardFor_70, r_il8 c_M_boardFor_71, r_cv2 c_M_boardFor_73, r_iadd c_M_boardFor_76, r_is9 c_M_boardFor_77, r_al0 c_M_boardFor_79, r_il6 c_M_boardFor_80, r_il1 c_M_boardFor_82, r_il2 c_M_boardFor_83, r_il3 c_M_boardFor_84, r_cv5 c_M_boardFor_85, r_ifeq c_M_boardFor_88, r_al0 c_M_boardFor_91, r_il7 c_M_boardFor_92, r_il1 c_M_boardFor_94, r_il2 c_M_boardFor_95, r_il3 c_M_boardFor_96, r_cv5 c_M_boardFor_97, r_ifeq c_M_boardFor_100, r_al0 c_M_boardFor_103, r_il8 c_M_boardFor_104, r_il1 c_M_boardFor_106, r_il2 c_M_boardFor_107, r_il3 c_M_boardFor_108, r_cv5 c_M_boardFor_109, r_ifeq c_M_boardFor_112, r_ci c_M_boardFor_115, r_goto c_M_boardFor_116, r_ci c_M_boardFor_119, r_is10 c_M_boardFor_120, r_il10 c_M_boardFor_122, r_ifeq c_M_boardFor_124, r_il4 c_M_boardFor_127, r_iflt c_M_boardFor_129, r_il9 c_M_boardFor_132, r_il5 c_M_boardFor_134, r_icge c_M_boardFor_136, r_ci c_M_boardFor_139, r_il6 c_M_boardFor_141, r_imul c_M_boardFor_143, r_ci c_M_boardFor_144, r_il7 c_M_boardFor_146, r_imul c_M_boardFor_148, r_iadd c_M_boardFor_149, r_il8 c_M_boardFor_150, r_iadd c_M_boardFor_152, r_is4 c_M_boardFor_153, r_il9 c_M_boardFor_155, r_is5 c_M_boardFor_157, r_inc8 c_M_boardFor_159, r_goto c_M_boardFor_162, ↓reduceIte, hs_h, Option.bind_some, mfix_i, mfix_r, mfix_n, mfix_a, Option.toList_some, Option.toList_none, List.cons_append, List.nil_append, List.singleton_append, mwt, Value.category, Nat.reduceAdd, Nat.reduceLeDiff, true_and, and_true, and_self, km2, km3, km4, km6, km104, km24, ka20, ka92, ka164, ka254, ka314, ka474, ka634, ka670, ka850, ka890, ka914, ka12, kr2, kr3, kr4, kr5, nI_1, nI_add, m10, M_turns_ok hE hi, M_turns_ok hE hj, M_turns_ok hE hk2, M_mayGo_ok hE hi, a1, if_true]
        exact ih _ _ _ _
      · by_cases a2 : myM (iA S 94) pe pr (dy - dy / 7 * 7) j = 0
        · simp only [r_al0 c_M_boardFor_57, r_il6 c_M_boardFor_58, r_cv2 c_M_boardFor_60, r_al0 c_M_boardFor_63, r_il7 c_M_boardFor_64, r_cv2 c_M_boardFor_66, r_iadd c_M_boardFor_69, r_al0 c_M_boardFor_70, r_il8 c_M_boardFor_71, r_cv2 c_M_boardFor_73, r_iadd c_M_boardFor_76, r_is9 c_M_boardFor_77, r_al0 c_M_boardFor_79, r_il6 c_M_boardFor_80, r_il1 c_M_boardFor_82, r_il2 c_M_boardFor_83, r_il3 c_M_boardFor_84, r_cv5 c_M_boardFor_85, r_ifeq c_M_boardFor_88, r_al0 c_M_boardFor_91, r_il7 c_M_boardFor_92, r_il1 c_M_boardFor_94, r_il2 c_M_boardFor_95, r_il3 c_M_boardFor_96, r_cv5 c_M_boardFor_97, r_ifeq c_M_boardFor_100, r_al0 c_M_boardFor_103, r_il8 c_M_boardFor_104, r_il1 c_M_boardFor_106, r_il2 c_M_boardFor_107, r_il3 c_M_boardFor_108, r_cv5 c_M_boardFor_109, r_ifeq c_M_boardFor_112, r_ci c_M_boardFor_115, r_goto c_M_boardFor_116, r_ci c_M_boardFor_119, r_is10 c_M_boardFor_120, r_il10 c_M_boardFor_122, r_ifeq c_M_boardFor_124, r_il4 c_M_boardFor_127, r_iflt c_M_boardFor_129, r_il9 c_M_boardFor_132, r_il5 c_M_boardFor_134, r_icge c_M_boardFor_136, r_ci c_M_boardFor_139, r_il6 c_M_boardFor_141, r_imul c_M_boardFor_143, r_ci c_M_boardFor_144, r_il7 c_M_boardFor_146, r_imul c_M_boardFor_148, r_iadd c_M_boardFor_149, r_il8 c_M_boardFor_150, r_iadd c_M_boardFor_152, r_is4 c_M_boardFor_153, r_il9 c_M_boardFor_155, r_is5 c_M_boardFor_157, r_inc8 c_M_boardFor_159, r_goto c_M_boardFor_162, ↓reduceIte, hs_h, Option.bind_some, mfix_i, mfix_r, mfix_n, mfix_a, Option.toList_some, Option.toList_none, List.cons_append, List.nil_append, List.singleton_append, mwt, Value.category, Nat.reduceAdd, Nat.reduceLeDiff, true_and, and_true, and_self, km2, km3, km4, km6, km104, km24, ka20, ka92, ka164, ka254, ka314, ka474, ka634, ka670, ka850, ka890, ka914, ka12, kr2, kr3, kr4, kr5, nI_1, nI_add, m10, M_turns_ok hE hi, M_turns_ok hE hj, M_turns_ok hE hk2, M_mayGo_ok hE hi, M_mayGo_ok hE hj, a1, a2, if_true, if_false]
          exact ih _ _ _ _
        · by_cases a3 : myM (iA S 94) pe pr (dy - dy / 7 * 7) k = 0
          · simp only [r_al0 c_M_boardFor_57, r_il6 c_M_boardFor_58, r_cv2 c_M_boardFor_60, r_al0 c_M_boardFor_63, r_il7 c_M_boardFor_64, r_cv2 c_M_boardFor_66, r_iadd c_M_boardFor_69, r_al0 c_M_boardFor_70, r_il8 c_M_boardFor_71, r_cv2 c_M_boardFor_73, r_iadd c_M_boardFor_76, r_is9 c_M_boardFor_77, r_al0 c_M_boardFor_79, r_il6 c_M_boardFor_80, r_il1 c_M_boardFor_82, r_il2 c_M_boardFor_83, r_il3 c_M_boardFor_84, r_cv5 c_M_boardFor_85, r_ifeq c_M_boardFor_88, r_al0 c_M_boardFor_91, r_il7 c_M_boardFor_92, r_il1 c_M_boardFor_94, r_il2 c_M_boardFor_95, r_il3 c_M_boardFor_96, r_cv5 c_M_boardFor_97, r_ifeq c_M_boardFor_100, r_al0 c_M_boardFor_103, r_il8 c_M_boardFor_104, r_il1 c_M_boardFor_106, r_il2 c_M_boardFor_107, r_il3 c_M_boardFor_108, r_cv5 c_M_boardFor_109, r_ifeq c_M_boardFor_112, r_ci c_M_boardFor_115, r_goto c_M_boardFor_116, r_ci c_M_boardFor_119, r_is10 c_M_boardFor_120, r_il10 c_M_boardFor_122, r_ifeq c_M_boardFor_124, r_il4 c_M_boardFor_127, r_iflt c_M_boardFor_129, r_il9 c_M_boardFor_132, r_il5 c_M_boardFor_134, r_icge c_M_boardFor_136, r_ci c_M_boardFor_139, r_il6 c_M_boardFor_141, r_imul c_M_boardFor_143, r_ci c_M_boardFor_144, r_il7 c_M_boardFor_146, r_imul c_M_boardFor_148, r_iadd c_M_boardFor_149, r_il8 c_M_boardFor_150, r_iadd c_M_boardFor_152, r_is4 c_M_boardFor_153, r_il9 c_M_boardFor_155, r_is5 c_M_boardFor_157, r_inc8 c_M_boardFor_159, r_goto c_M_boardFor_162, ↓reduceIte, hs_h, Option.bind_some, mfix_i, mfix_r, mfix_n, mfix_a, Option.toList_some, Option.toList_none, List.cons_append, List.nil_append, List.singleton_append, mwt, Value.category, Nat.reduceAdd, Nat.reduceLeDiff, true_and, and_true, and_self, km2, km3, km4, km6, km104, km24, ka20, ka92, ka164, ka254, ka314, ka474, ka634, ka670, ka850, ka890, ka914, ka12, kr2, kr3, kr4, kr5, nI_1, nI_add, m10, M_turns_ok hE hi, M_turns_ok hE hj, M_turns_ok hE hk2, M_mayGo_ok hE hi, M_mayGo_ok hE hj, M_mayGo_ok hE hk2, a1, a2, a3, if_true, if_false]
            exact ih _ _ _ _
          · by_cases a4 : x < 0
            · simp only [r_al0 c_M_boardFor_57, r_il6 c_M_boardFor_58, r_cv2 c_M_boardFor_60, r_al0 c_M_boardFor_63, r_il7 c_M_boardFor_64, r_cv2 c_M_boardFor_66, r_iadd c_M_boardFor_69, r_al0 c_M_boardFor_70, r_il8 c_M_boardFor_71, r_cv2 c_M_boardFor_73, r_iadd c_M_boardFor_76, r_is9 c_M_boardFor_77, r_al0 c_M_boardFor_79, r_il6 c_M_boardFor_80, r_il1 c_M_boardFor_82, r_il2 c_M_boardFor_83, r_il3 c_M_boardFor_84, r_cv5 c_M_boardFor_85, r_ifeq c_M_boardFor_88, r_al0 c_M_boardFor_91, r_il7 c_M_boardFor_92, r_il1 c_M_boardFor_94, r_il2 c_M_boardFor_95, r_il3 c_M_boardFor_96, r_cv5 c_M_boardFor_97, r_ifeq c_M_boardFor_100, r_al0 c_M_boardFor_103, r_il8 c_M_boardFor_104, r_il1 c_M_boardFor_106, r_il2 c_M_boardFor_107, r_il3 c_M_boardFor_108, r_cv5 c_M_boardFor_109, r_ifeq c_M_boardFor_112, r_ci c_M_boardFor_115, r_goto c_M_boardFor_116, r_ci c_M_boardFor_119, r_is10 c_M_boardFor_120, r_il10 c_M_boardFor_122, r_ifeq c_M_boardFor_124, r_il4 c_M_boardFor_127, r_iflt c_M_boardFor_129, r_il9 c_M_boardFor_132, r_il5 c_M_boardFor_134, r_icge c_M_boardFor_136, r_ci c_M_boardFor_139, r_il6 c_M_boardFor_141, r_imul c_M_boardFor_143, r_ci c_M_boardFor_144, r_il7 c_M_boardFor_146, r_imul c_M_boardFor_148, r_iadd c_M_boardFor_149, r_il8 c_M_boardFor_150, r_iadd c_M_boardFor_152, r_is4 c_M_boardFor_153, r_il9 c_M_boardFor_155, r_is5 c_M_boardFor_157, r_inc8 c_M_boardFor_159, r_goto c_M_boardFor_162, ↓reduceIte, hs_h, Option.bind_some, mfix_i, mfix_r, mfix_n, mfix_a, Option.toList_some, Option.toList_none, List.cons_append, List.nil_append, List.singleton_append, mwt, Value.category, Nat.reduceAdd, Nat.reduceLeDiff, true_and, and_true, and_self, nI_1, m10, M_turns_ok hE hi, M_turns_ok hE hj, M_turns_ok hE hk2, M_mayGo_ok hE hi, M_mayGo_ok hE hj, M_mayGo_ok hE hk2, a1, a2, a3, a4, one_nz, if_true, if_false]
              exact ih _ _ _ _
            · by_cases a5 : y ≤ suM (iA S 94) i j k
              · have a5' : y ≤ iA S 94 (634 + 4 * i + 3) + iA S 94 (634 + 4 * j + 3) + iA S 94 (634 + 4 * k + 3) := a5
                simp only [r_al0 c_M_boardFor_57, r_il6 c_M_boardFor_58, r_cv2 c_M_boardFor_60, r_al0 c_M_boardFor_63, r_il7 c_M_boardFor_64, r_cv2 c_M_boardFor_66, r_iadd c_M_boardFor_69, r_al0 c_M_boardFor_70, r_il8 c_M_boardFor_71, r_cv2 c_M_boardFor_73, r_iadd c_M_boardFor_76, r_is9 c_M_boardFor_77, r_al0 c_M_boardFor_79, r_il6 c_M_boardFor_80, r_il1 c_M_boardFor_82, r_il2 c_M_boardFor_83, r_il3 c_M_boardFor_84, r_cv5 c_M_boardFor_85, r_ifeq c_M_boardFor_88, r_al0 c_M_boardFor_91, r_il7 c_M_boardFor_92, r_il1 c_M_boardFor_94, r_il2 c_M_boardFor_95, r_il3 c_M_boardFor_96, r_cv5 c_M_boardFor_97, r_ifeq c_M_boardFor_100, r_al0 c_M_boardFor_103, r_il8 c_M_boardFor_104, r_il1 c_M_boardFor_106, r_il2 c_M_boardFor_107, r_il3 c_M_boardFor_108, r_cv5 c_M_boardFor_109, r_ifeq c_M_boardFor_112, r_ci c_M_boardFor_115, r_goto c_M_boardFor_116, r_ci c_M_boardFor_119, r_is10 c_M_boardFor_120, r_il10 c_M_boardFor_122, r_ifeq c_M_boardFor_124, r_il4 c_M_boardFor_127, r_iflt c_M_boardFor_129, r_il9 c_M_boardFor_132, r_il5 c_M_boardFor_134, r_icge c_M_boardFor_136, r_ci c_M_boardFor_139, r_il6 c_M_boardFor_141, r_imul c_M_boardFor_143, r_ci c_M_boardFor_144, r_il7 c_M_boardFor_146, r_imul c_M_boardFor_148, r_iadd c_M_boardFor_149, r_il8 c_M_boardFor_150, r_iadd c_M_boardFor_152, r_is4 c_M_boardFor_153, r_il9 c_M_boardFor_155, r_is5 c_M_boardFor_157, r_inc8 c_M_boardFor_159, r_goto c_M_boardFor_162, ↓reduceIte, hs_h, Option.bind_some, mfix_i, mfix_r, mfix_n, mfix_a, Option.toList_some, Option.toList_none, List.cons_append, List.nil_append, List.singleton_append, mwt, Value.category, Nat.reduceAdd, Nat.reduceLeDiff, true_and, and_true, and_self, nI_1, m10, M_turns_ok hE hi, M_turns_ok hE hj, M_turns_ok hE hk2, M_mayGo_ok hE hi, M_mayGo_ok hE hj, M_mayGo_ok hE hk2, a1, a2, a3, a4, a5, a5', one_nz, if_true, if_false]
                exact ih _ _ _ _
              · have a5' : ¬ y ≤ iA S 94 (634 + 4 * i + 3) + iA S 94 (634 + 4 * j + 3) + iA S 94 (634 + 4 * k + 3) := a5
                simp only [r_al0 c_M_boardFor_57, r_il6 c_M_boardFor_58, r_cv2 c_M_boardFor_60, r_al0 c_M_boardFor_63, r_il7 c_M_boardFor_64, r_cv2 c_M_boardFor_66, r_iadd c_M_boardFor_69, r_al0 c_M_boardFor_70, r_il8 c_M_boardFor_71, r_cv2 c_M_boardFor_73, r_iadd c_M_boardFor_76, r_is9 c_M_boardFor_77, r_al0 c_M_boardFor_79, r_il6 c_M_boardFor_80, r_il1 c_M_boardFor_82, r_il2 c_M_boardFor_83, r_il3 c_M_boardFor_84, r_cv5 c_M_boardFor_85, r_ifeq c_M_boardFor_88, r_al0 c_M_boardFor_91, r_il7 c_M_boardFor_92, r_il1 c_M_boardFor_94, r_il2 c_M_boardFor_95, r_il3 c_M_boardFor_96, r_cv5 c_M_boardFor_97, r_ifeq c_M_boardFor_100, r_al0 c_M_boardFor_103, r_il8 c_M_boardFor_104, r_il1 c_M_boardFor_106, r_il2 c_M_boardFor_107, r_il3 c_M_boardFor_108, r_cv5 c_M_boardFor_109, r_ifeq c_M_boardFor_112, r_ci c_M_boardFor_115, r_goto c_M_boardFor_116, r_ci c_M_boardFor_119, r_is10 c_M_boardFor_120, r_il10 c_M_boardFor_122, r_ifeq c_M_boardFor_124, r_il4 c_M_boardFor_127, r_iflt c_M_boardFor_129, r_il9 c_M_boardFor_132, r_il5 c_M_boardFor_134, r_icge c_M_boardFor_136, r_ci c_M_boardFor_139, r_il6 c_M_boardFor_141, r_imul c_M_boardFor_143, r_ci c_M_boardFor_144, r_il7 c_M_boardFor_146, r_imul c_M_boardFor_148, r_iadd c_M_boardFor_149, r_il8 c_M_boardFor_150, r_iadd c_M_boardFor_152, r_is4 c_M_boardFor_153, r_il9 c_M_boardFor_155, r_is5 c_M_boardFor_157, r_inc8 c_M_boardFor_159, r_goto c_M_boardFor_162, ↓reduceIte, hs_h, Option.bind_some, mfix_i, mfix_r, mfix_n, mfix_a, Option.toList_some, Option.toList_none, List.cons_append, List.nil_append, List.singleton_append, mwt, Value.category, Nat.reduceAdd, Nat.reduceLeDiff, true_and, and_true, and_self, nI_1, m10, M_turns_ok hE hi, M_turns_ok hE hj, M_turns_ok hE hk2, M_mayGo_ok hE hi, M_mayGo_ok hE hj, M_mayGo_ok hE hk2, a1, a2, a3, a4, a5, a5', one_nz, if_true, if_false]
                exact ih _ _ _ _
  have l2 : ∀ (i : Nat), i < 9 → ∀ m j x y w u v, j + m = n → ∃ w' u' v', mres cT 183 d 27 [.ref 93, .int pe, .int pr, .int dy, .int x, .int y, .int (nI i), .int (nI j), w, u, v] [] (hs E S) = mres cT 183 d 171 [.ref 93, .int pe, .int pr, .int dy, .int (rfor (mo2 (iA S 94) n pe pr (dy - dy / 7 * 7) i) j m (x, y)).1, .int (rfor (mo2 (iA S 94) n pe pr (dy - dy / 7 * 7) i) j m (x, y)).2, .int (nI i), .int (nI n), w', u', v'] [] (hs E S) := by
    intro i hi m
    induction m with
    | zero =>
      intro j x y w u v hj
      have h1 : nI n ≤ nI j := nI_le (by omega) (by omega)
      refine ⟨w, u, v, ?_⟩
      simp only [r_il7 c_M_boardFor_27, r_al0 c_M_boardFor_29, r_gfSr c_M_boardFor_30 o10 rfl, r_ci c_M_boardFor_33, r_ial c_M_boardFor_35, r_icge c_M_boardFor_36, ↓reduceIte, hs_h, Option.bind_some, mfix_i, mfix_r, mfix_n, mfix_a, Option.toList_some, Option.toList_none, List.cons_append, List.nil_append, List.singleton_append, mn9 hE, hn, h1, if_true, rfor]
      rw [show j = n by omega]
    | succ m ih =>
      intro j x y w u v hj
      have h1 : ¬ nI n ≤ nI j := nI_ge (by omega) (by omega)
      obtain ⟨u2, v2, r2⟩ := l3 i j hi (by omega) (n - (j + 1)) (j + 1) x y u v (by omega)
      obtain ⟨w3, u3, v3, r3⟩ := ih (j + 1) (mo2 (iA S 94) n pe pr (dy - dy / 7 * 7) i j (x, y)).1 (mo2 (iA S 94) n pe pr (dy - dy / 7 * 7) i j (x, y)).2 (.int (nI n)) u2 v2 (by omega)
      refine ⟨w3, u3, v3, ?_⟩
      simp only [r_il7 c_M_boardFor_27, r_al0 c_M_boardFor_29, r_gfSr c_M_boardFor_30 o10 rfl, r_ci c_M_boardFor_33, r_ial c_M_boardFor_35, r_icge c_M_boardFor_36, ↓reduceIte, hs_h, Option.bind_some, mfix_i, mfix_r, mfix_n, mfix_a, Option.toList_some, Option.toList_none, List.cons_append, List.nil_append, List.singleton_append, mn9 hE, hn, h1, if_false]
      simp only [r_il7 c_M_boardFor_39, r_ci c_M_boardFor_41, r_iadd c_M_boardFor_42, r_is8 c_M_boardFor_43, ↓reduceIte, hs_h, Option.bind_some, mfix_i, mfix_r, mfix_n, mfix_a, Option.toList_some, Option.toList_none, List.cons_append, List.nil_append, List.singleton_append, nI_1, r2]
      simp only [r_inc7 c_M_boardFor_165, r_goto c_M_boardFor_168, ↓reduceIte, hs_h, Option.bind_some, mfix_i, mfix_r, mfix_n, mfix_a, Option.toList_some, Option.toList_none, List.cons_append, List.nil_append, List.singleton_append, nI_1, rfor]
      exact r3
  have l1 : ∀ m i x y p w u v, i + m = n → mres cT 183 d 9 [.ref 93, .int pe, .int pr, .int dy, .int x, .int y, .int (nI i), p, w, u, v] [] (hs E S) = some (some (.int (rfor (mo3 (iA S 94) n pe pr (dy - dy / 7 * 7)) i m (x, y)).1), hs E S) := by
    intro m
    induction m with
    | zero =>
      intro i x y p w u v hi
      have h1 : nI n ≤ nI i := nI_le (by omega) (by omega)
      simp only [r_il6 c_M_boardFor_9, r_al0 c_M_boardFor_11, r_gfSr c_M_boardFor_12 o10 rfl, r_ci c_M_boardFor_15, r_ial c_M_boardFor_17, r_icge c_M_boardFor_18, r_il4 c_M_boardFor_177, r_iret c_M_boardFor_179, ↓reduceIte, hs_h, Option.bind_some, mfix_i, mfix_r, mfix_n, mfix_a, Option.toList_some, Option.toList_none, List.cons_append, List.nil_append, List.singleton_append, mn9 hE, hn, h1, if_true, rfor]
    | succ m ih =>
      intro i x y p w u v hi
      have h1 : ¬ nI n ≤ nI i := nI_ge (by omega) (by omega)
      obtain ⟨w2, u2, v2, r2⟩ := l2 i (by omega) (n - (i + 1)) (i + 1) x y w u v (by omega)
      have r3 := ih (i + 1) (mo3 (iA S 94) n pe pr (dy - dy / 7 * 7) i (x, y)).1 (mo3 (iA S 94) n pe pr (dy - dy / 7 * 7) i (x, y)).2 (.int (nI n)) w2 u2 v2 (by omega)
      simp only [r_il6 c_M_boardFor_9, r_al0 c_M_boardFor_11, r_gfSr c_M_boardFor_12 o10 rfl, r_ci c_M_boardFor_15, r_ial c_M_boardFor_17, r_icge c_M_boardFor_18, ↓reduceIte, hs_h, Option.bind_some, mfix_i, mfix_r, mfix_n, mfix_a, Option.toList_some, Option.toList_none, List.cons_append, List.nil_append, List.singleton_append, mn9 hE, hn, h1, if_false]
      simp only [r_il6 c_M_boardFor_21, r_ci c_M_boardFor_23, r_iadd c_M_boardFor_24, r_is7 c_M_boardFor_25, ↓reduceIte, hs_h, Option.bind_some, mfix_i, mfix_r, mfix_n, mfix_a, Option.toList_some, Option.toList_none, List.cons_append, List.nil_append, List.singleton_append, nI_1, r2]
      simp only [r_inc6 c_M_boardFor_171, r_goto c_M_boardFor_174, ↓reduceIte, hs_h, Option.bind_some, mfix_i, mfix_r, mfix_n, mfix_a, Option.toList_some, Option.toList_none, List.cons_append, List.nil_append, List.singleton_append, nI_1, rfor]
      exact r3
  have lq := fun p w u v => l1 n 0 (-1) 0 p w u v (by omega)
  rw [nI_0] at lq
  simp only [ment, mfl, List.length, List.replicate, List.cons_append, List.nil_append, Nat.reduceAdd, Nat.reduceSub, moS]
  simp only [r_ci c_M_boardFor_0, r_is4 c_M_boardFor_1, r_ci c_M_boardFor_3, r_is5 c_M_boardFor_4, r_ci c_M_boardFor_6, r_is6 c_M_boardFor_7, ↓reduceIte, hs_h, Option.bind_some, mfix_i, mfix_r, mfix_n, mfix_a, Option.toList_some, Option.toList_none, List.cons_append, List.nil_append, List.singleton_append, lq]
/-- may a member go, by the books -/
def mgS (A : Nat → Int32) (pe pr dm : Int32) (i : Nat) : Bool := decide (A (i * 4 + 1) >>> (pr &&& 31) &&& 1 = 1 ∧ ¬ A (i * 4) >>> (dm &&& 31) &&& 1 = 1 ∧ A (i * 4 + 2) &&& pe = 0)
theorem mf_bits (hn : n ≤ 9) (dm : Int32) : ∀ j, j ≤ n → ∀ i, i < 32 → btI (rfor (mfG A pe pr dm) 0 j 0) i = decide (i < j ∧ mgS A pe pr dm i = true)
  | 0, _, i, _ => by rw [decide_eq_false (by omega)]; exact bt_0
  | j + 1, hj, i, hi => by
    have ih := mf_bits hn dm j (by omega) i hi
    rw [rfor_last, Nat.zero_add, mfG]
    have keep : mgS A pe pr dm j = false → decide (i < j ∧ mgS A pe pr dm i = true) = decide (i < j + 1 ∧ mgS A pe pr dm i = true) := fun e => by
      rw [decide_eq_decide]
      constructor
      · intro h; exact ⟨by omega, h.2⟩
      · intro h
        refine ⟨?_, h.2⟩
        by_cases q : i = j
        · subst q; rw [e] at h; exact absurd h.2 (by decide)
        · omega
    by_cases a1 : A (j * 4 + 1) >>> (pr &&& 31) &&& 1 = 1
    · rw [if_pos a1]
      by_cases a2 : A (j * 4) >>> (dm &&& 31) &&& 1 = 1
      · rw [if_pos a2, ih, keep (decide_eq_false (fun h => h.2.1 a2))]
      · rw [if_neg a2]
        by_cases a3 : A (j * 4 + 2) &&& pe = 0
        · rw [if_pos a3, bt_or, ih, bt_sh (by omega)]
          have e : mgS A pe pr dm j = true := decide_eq_true ⟨a1, a2, a3⟩
          by_cases q : j = i
          · subst q
            rw [decide_eq_true rfl, Bool.or_true, decide_eq_true ⟨by omega, e⟩]
          · rw [decide_eq_false q, Bool.or_false, decide_eq_decide]
            constructor
            · intro h; exact ⟨by omega, h.2⟩
            · intro h; exact ⟨by omega, h.2⟩
        · rw [if_neg a3, ih, keep (decide_eq_false (fun h => a3 h.2.2))]
    · rw [if_neg a1, ih, keep (decide_eq_false (fun h => a1 h.1))]
theorem three_iff {ab : Int32} (hi : i < 9) (hj : j < 9) (hk : k < 9) : (1 <<< (nI i &&& 31) ||| 1 <<< (nI j &&& 31) ||| 1 <<< (nI k &&& 31)) &&& (ab ^^^ -1) = 0 ↔ btI ab i = true ∧ btI ab j = true ∧ btI ab k = true := by
  have bx : ∀ q, q < 32 → btI (ab ^^^ -1) q = !btI ab q := fun q hq => by
    have h1 : btI (-1) q = true := by
      have : ∀ q : Fin 32, btI (-1) q.1 = true := by decide +kernel
      exact this ⟨q, hq⟩
    have h2 : btI (ab ^^^ -1) q = (btI ab q ^^ btI (-1) q) := by
      show (ab ^^^ -1).toBitVec.getLsbD q = _
      rw [Int32.toBitVec_xor, BitVec.getLsbD_xor]
      rfl
    rw [h2, h1, Bool.xor_true]
  constructor
  · intro h
    have hz : ∀ q, q < 32 → (btI (1 <<< (nI i &&& 31) ||| 1 <<< (nI j &&& 31) ||| 1 <<< (nI k &&& 31)) q && !btI ab q) = false := fun q hq => by
      rw [← bx q hq, ← bt_and, h, bt_0]
    simp only [bt_or, bt_sh (show i < 31 by omega), bt_sh (show j < 31 by omega), bt_sh (show k < 31 by omega)] at hz
    have z1 := hz i (by omega)
    have z2 := hz j (by omega)
    have z3 := hz k (by omega)
    simp only [decide_true, Bool.true_or, Bool.or_true, Bool.true_and, Bool.not_eq_false'] at z1 z2 z3
    exact ⟨z1, z2, z3⟩
  · rintro ⟨h1, h2, h3⟩
    apply bt_ext
    intro q hq
    rw [bt_0, bt_and, bx q hq, bt_or, bt_or, bt_sh (by omega), bt_sh (by omega), bt_sh (by omega)]
    by_cases q1 : i = q
    · subst q1; rw [h1]; simp
    · by_cases q2 : j = q
      · subst q2; rw [h2]; simp
      · by_cases q3 : k = q
        · subst q3; rw [h3]; simp
        · simp [q1, q2, q3]
def rbR (c m : Int32 × Int32) : Prop := (c.1 = -1000000005 ∧ c.2 = 2147483647 ∧ m.1 = -1) ∨ (c = m ∧ ∃ v : Nat, v < 1000 ∧ c.1 = nI v)
theorem bo_eq (h : k634 A n B f) (hn : n ≤ 9) (hB : B < 100000000) : moS f n pe pr dy = (if boS A n (mfS A n pe pr dy) = -1000000005 then -1 else boS A n (mfS A n pe pr dy)) := by
  have fa : ∀ i, i < n → ∀ c, c < 4 → f (634 + 4 * i + c) = A (i * 4 + c) := fun i hi => (h i hi).1
  have my : ∀ i, i < n → (myM f pe pr (dy - dy / 7 * 7) i = 0 ↔ btI (mfS A n pe pr dy) i = false) := fun i hi => by
    have f0 : f (634 + 4 * i) = A (i * 4) := fa i hi 0 (by omega)
    rw [mfS, mf_bits hn _ n (Nat.le_refl n) i (by omega), myM, fa i hi 1 (by omega), f0, fa i hi 2 (by omega), hsS, hsS]
    by_cases a1 : A (i * 4 + 1) >>> (pr &&& 31) &&& 1 = 1
    · rw [if_pos a1, if_neg (by decide)]
      by_cases a2 : A (i * 4) >>> ((dy - dy / 7 * 7) &&& 31) &&& 1 = 1
      · rw [if_pos a2, if_neg (by decide)]
        exact ⟨fun _ => decide_eq_false (fun q => (of_decide_eq_true q.2).2.1 a2), fun _ => rfl⟩
      · rw [if_neg a2, if_pos rfl]
        by_cases a3 : A (i * 4 + 2) &&& pe = 0
        · rw [if_pos a3]
          refine ⟨fun q => absurd q (by decide), fun q => ?_⟩
          rw [decide_eq_true ⟨hi, decide_eq_true ⟨a1, a2, a3⟩⟩] at q
          cases q
        · rw [if_neg a3]
          exact ⟨fun _ => decide_eq_false (fun q => a3 (of_decide_eq_true q.2).2.2), fun _ => rfl⟩
    · rw [if_neg a1, if_pos rfl]
      exact ⟨fun _ => decide_eq_false (fun q => a1 (of_decide_eq_true q.2).1), fun _ => rfl⟩
  have key : rbR (rfor (bo3 A n (mfS A n pe pr dy)) 0 n (-1000000005, 2147483647)) (rfor (mo3 f n pe pr (dy - dy / 7 * 7)) 0 n (-1, 0)) := by
    refine rfor_rel n 0 _ _ (fun i s s' _ hi hs => ?_) (Or.inl ⟨rfl, rfl, rfl⟩)
    refine rfor_rel _ _ _ _ (fun j s s' _ hj hs => ?_) hs
    refine rfor_rel _ _ _ _ (fun k s s' _ hk hs => ?_) hs
    have hi : i < n := by omega
    have hj : j < n := by omega
    have hk : k < n := by omega
    obtain ⟨w1, b1, e1⟩ := (h i hi).2
    obtain ⟨w2, b2, e2⟩ := (h j hj).2
    obtain ⟨w3, b3, e3⟩ := (h k hk).2
    have es : suM f i j k = nI (w1 + w2 + w3) := by
      rw [suM, fa i hi 3 (by omega), fa j hj 3 (by omega), fa k hk 3 (by omega), e1, e2, e3, nI_add, nI_add]
    have ec : A (i * 4 + 3) + A (j * 4 + 3) + A (k * 4 + 3) = nI (w1 + w2 + w3) := by rw [e1, e2, e3, nI_add, nI_add]
    have ev : 100 * nI i + 10 * nI j + nI k = nI (i * 100 + j * 10 + k) := by
      show nI 100 * nI i + nI 10 * nI j + nI k = _
      rw [pk_mul, pk_mul, nI_add, nI_add]
      exact congrArg nI (by omega)
    have ew : nI i * 100 + nI j * 10 + nI k = nI (i * 100 + j * 10 + k) := by
      show nI i * nI 100 + nI j * nI 10 + nI k = _
      rw [pk_mul, pk_mul, nI_add, nI_add]
    rw [boG, moG, es, ec, ev, ew]
    by_cases q1 : myM f pe pr (dy - dy / 7 * 7) i = 0
    · rw [if_pos q1, if_neg (fun h => by rw [three_iff (by omega) (by omega) (by omega)] at h; rw [(my i hi).mp q1] at h; exact absurd h.1 (by decide))]
      exact hs
    · rw [if_neg q1]
      by_cases q2 : myM f pe pr (dy - dy / 7 * 7) j = 0
      · rw [if_pos q2, if_neg (fun h => by rw [three_iff (by omega) (by omega) (by omega)] at h; rw [(my j hj).mp q2] at h; exact absurd h.2.1 (by decide))]
        exact hs
      · rw [if_neg q2]
        by_cases q3 : myM f pe pr (dy - dy / 7 * 7) k = 0
        · rw [if_pos q3, if_neg (fun h => by rw [three_iff (by omega) (by omega) (by omega)] at h; rw [(my k hk).mp q3] at h; exact absurd h.2.2 (by decide))]
          exact hs
        · rw [if_neg q3, if_pos ((three_iff (by omega) (by omega) (by omega)).mpr ⟨Bool.of_not_eq_false (fun h => q1 ((my i hi).mpr h)), Bool.of_not_eq_false (fun h => q2 ((my j hj).mpr h)), Bool.of_not_eq_false (fun h => q3 ((my k hk).mpr h))⟩)]
          rcases hs with ⟨c1, c2, c3⟩ | ⟨c1, v, c2, c3⟩
          · have l1 : nI (w1 + w2 + w3) < 2147483647 := nI_lt (b := 2147483647) (by omega) (by decide)
            have l2 : (-1 : Int32) < 0 := by decide
            rw [c2, c3, if_pos l1, if_pos l2]
            exact Or.inr ⟨rfl, _, by omega, rfl⟩
          · rw [← c1, c3, if_neg (nI_pos (by omega))]
            by_cases q4 : s.2 ≤ nI (w1 + w2 + w3)
            · rw [if_pos q4, if_neg (Int32.not_lt.mpr q4)]
              exact Or.inr ⟨rfl, v, c2, c3⟩
            · rw [if_neg q4, if_pos (Int32.not_le.mp q4)]
              exact Or.inr ⟨rfl, _, by omega, rfl⟩
  rw [moS, boS]
  rcases key with ⟨c1, c2, c3⟩ | ⟨c1, v, c2, c3⟩
  · rw [c1, c3, if_pos rfl]
  · rw [← c1, c3, if_neg (fun e => by
      have h0 := nI_pos (n := v) (by omega)
      rw [e] at h0
      exact h0 (by decide))]
end MBOARD
