/-! the model: days that count, days served -/
section MSERVED
variable {E : EE} {S : SS} {d k j n ng q a m : Nat} {c v x y D : Int32} {f g : Nat → Int32} {z : Nat → Nat}
def insP (v : Int32) : Nat → (Nat → Int32) → (Nat → Int32)
  | 0, g => upd g 0 v
  | k + 1, g => if v < g k then insP v k (upd g (k + 1) (g k)) else upd g (k + 1) v
/-- the points stand so -/
def ptS (S : SS) (g : Nat → Int32) (m : Nat) : SS := sF (sA S 102 g) 93 12 (nI m)
theorem pt_f : iF (ptS S g m) 93 12 = nI m := iF_sF
theorem pt_a : iA (ptS S g m) 102 = g := by rw [ptS, iA_sF, iA_sA]
theorem pt_94 : iA (ptS S g m) 94 = iA S 94 := by rw [ptS, iA_sF, iA_sA_ne (by omega)]
theorem pt_A {g' : Nat → Int32} : sA (ptS S g m) 102 g' = ptS S g' m := by
  funext q
  by_cases e : q = 102
  · subst e
    simp only [ptS, sF, sA, va_up, if_true, if_false, show ¬ (102 = 93) by omega]
  · by_cases e2 : q = 93
    · subst e2
      simp only [ptS, sF, sA, va_up, if_true, if_false, e]
    · simp only [ptS, sF, sA, va_up, e, e2, if_false]
theorem pt_F {m' : Nat} : sF (ptS S g m) 93 12 (nI m') = ptS S g m' := sF_sF
theorem pt_pt {g' : Nat → Int32} {m' : Nat} : ptS (ptS S g m) g' m' = ptS S g' m' := by
  rw [ptS, pt_A, pt_F]
theorem M_point_ok (hE : okE E) (hm : m < 102) : mres cT 62 d 0 (ment 5 [.ref 93, .int x, .int y]) [] (hs E (ptS S g m)) = some (none, hs E (ptS S (insP (if y < x then y else x) m g) (m + 1))) := by
  have o10 := o_M hE
  have hi := i_102 hE
  have lp : ∀ (v : Int32) (k : Nat) (g : Nat → Int32), k ≤ m → mres cT 62 d 12 [.ref 93, .int x, .int y, .int v, .int (nI k)] [] (hs E (ptS S g m)) = some (none, hs E (ptS S (insP v k g) (m + 1))) := by
    intro v k
    induction k with
    | zero =>
      intro g hk
      have h0 : nI 0 ≤ 0 := by decide
      simp only [r_il4 c_M_point_12, r_ifle c_M_point_14, r_al0 c_M_point_52, r_gfSr c_M_point_53 o10 rfl, r_il4 c_M_point_56, r_il3 c_M_point_58, r_ias c_M_point_59, r_al0 c_M_point_60, r_dupi c_M_point_61, r_dupr c_M_point_61, r_gfS0 c_M_point_62 o10 rfl, r_ci c_M_point_65, r_iadd c_M_point_66, r_pfS c_M_point_67 o10 rfl, r_vret c_M_point_70, ↓reduceIte, hs_h, Option.bind_some, mfix_i, mfix_r, mfix_n, mfix_a, Option.toList_some, Option.toList_none, List.cons_append, List.nil_append, List.singleton_append, h0, if_true, mis_I hi (show 0 < 102 by omega) (by decide), hs_I hi, pt_a, pt_A, pt_f, pt_F, nI_1, insP]
    | succ k ih =>
      intro g hk
      have h0 : ¬ nI (k + 1) ≤ 0 := nI_nle (by omega) (by omega)
      have ih := fun g => ih g (by omega)
      simp only [r_il4 c_M_point_12, r_ifle c_M_point_14, ↓reduceIte, hs_h, Option.bind_some, mfix_i, mfix_r, mfix_n, mfix_a, Option.toList_some, Option.toList_none, List.cons_append, List.nil_append, List.singleton_append, h0, if_false]
      rw [insP]
      by_cases q : v < g k
      · have q' : ¬ g k ≤ v := Int32.not_le.mpr q
        rw [if_pos q]
        simp only [r_al0 c_M_point_17, r_gfSr c_M_point_18 o10 rfl, r_il4 c_M_point_21, r_ci c_M_point_23, r_isub c_M_point_24, r_ial c_M_point_25, r_il3 c_M_point_26, r_icle c_M_point_27, r_al0 c_M_point_30, r_gfSr c_M_point_31 o10 rfl, r_il4 c_M_point_34, r_al0 c_M_point_36, r_gfSr c_M_point_37 o10 rfl, r_il4 c_M_point_40, r_ci c_M_point_42, r_isub c_M_point_43, r_ial c_M_point_44, r_ias c_M_point_45, r_inc4 c_M_point_46, r_goto c_M_point_49, ↓reduceIte, hs_h, Option.bind_some, mfix_i, mfix_r, mfix_n, mfix_a, Option.toList_some, Option.toList_none, List.cons_append, List.nil_append, List.singleton_append, nI_pm, mia_I hi (show k < 102 by omega) (by decide), mis_I hi (show k + 1 < 102 by omega) (by decide), hs_I hi, pt_a, pt_A, q', if_false, pk_m1, ih]
      · have q' : g k ≤ v := Int32.not_lt.mp q
        rw [if_neg q]
        simp only [r_al0 c_M_point_17, r_gfSr c_M_point_18 o10 rfl, r_il4 c_M_point_21, r_ci c_M_point_23, r_isub c_M_point_24, r_ial c_M_point_25, r_il3 c_M_point_26, r_icle c_M_point_27, r_al0 c_M_point_52, r_gfSr c_M_point_53 o10 rfl, r_il4 c_M_point_56, r_il3 c_M_point_58, r_ias c_M_point_59, r_al0 c_M_point_60, r_dupi c_M_point_61, r_dupr c_M_point_61, r_gfS0 c_M_point_62 o10 rfl, r_ci c_M_point_65, r_iadd c_M_point_66, r_pfS c_M_point_67 o10 rfl, r_vret c_M_point_70, ↓reduceIte, hs_h, Option.bind_some, mfix_i, mfix_r, mfix_n, mfix_a, Option.toList_some, Option.toList_none, List.cons_append, List.nil_append, List.singleton_append, nI_pm, mia_I hi (show k < 102 by omega) (by decide), mis_I hi (show k + 1 < 102 by omega) (by decide), hs_I hi, pt_a, pt_A, pt_f, pt_F, q', if_true, nI_1]
  have lq := fun v => lp v m g (Nat.le_refl m)
  simp only [ment, mfl, List.length, List.replicate, List.cons_append, List.nil_append, Nat.reduceAdd, Nat.reduceSub]
  simp only [r_il1 c_M_point_0, r_il2 c_M_point_1, r_ca2 c_M_point_2, r_is3 c_M_point_5, r_al0 c_M_point_6, r_gfS0 c_M_point_7 o10 rfl, r_is4 c_M_point_10, ↓reduceIte, hs_h, Option.bind_some, mfix_i, mfix_r, mfix_n, mfix_a, Option.toList_some, Option.toList_none, List.cons_append, List.nil_append, List.singleton_append, mwt, Value.category, Nat.reduceAdd, Nat.reduceLeDiff, true_and, and_true, and_self, JM_min_ok, pt_f, lq]
def c1M (f : Nat → Int32) (c D : Int32) (i : Nat) (s : Int32) : Int32 := if s = 0 then if f (164 + 3 * i) = c then if D < f (164 + 3 * i + 1) then 0 else if f (164 + 3 * i + 2) < 0 then 1 else if f (164 + 3 * i + 2) ≤ D then 0 else 1 else 0 else 1
def c2M (f : Nat → Int32) (c D : Int32) (i : Nat) (s : Int32) : Int32 := if s = 0 then 0 else if f (254 + 3 * i) = c then if D < f (254 + 3 * i + 1) then 1 else if D < f (254 + 3 * i + 2) then 0 else 1 else 1
def coM (f : Nat → Int32) (n ng : Nat) (c D : Int32) : Int32 := rfor (c2M f c D) 0 ng (rfor (c1M f c D) 0 n 0)
theorem c1_01 {i : Nat} {s : Int32} (h : s = 0 ∨ s = 1) : c1M f c D i s = 0 ∨ c1M f c D i s = 1 := by
  rw [c1M]; repeat' split
  all_goals simp
theorem c2_01 {i : Nat} {s : Int32} (h : s = 0 ∨ s = 1) : c2M f c D i s = 0 ∨ c2M f c D i s = 1 := by
  rw [c2M]; repeat' split
  all_goals simp
theorem co_01 : coM f n ng c D = 0 ∨ coM f n ng c D = 1 := rfor_keep (P := fun s : Int32 => s = 0 ∨ s = 1) (fun _ _ => c2_01) _ _ _ (rfor_keep (P := fun s : Int32 => s = 0 ∨ s = 1) (fun _ _ => c1_01) _ _ _ (Or.inl rfl))
theorem M_counts_ok (hE : okE E) (hn : iA S 94 4 = nI n) (hn2 : n ≤ 30) (hg : iA S 94 5 = nI ng) (hg2 : ng ≤ 20) : mres cT 63 d 0 (ment 6 [.ref 93, .int c, .int D]) [] (hs E S) = some (some (.int (coM (iA S 94) n ng c D)), hs E S) := by
  have o10 := o_M hE
  have l1 : ∀ m i x w, i + m = n → ∃ w', mres cT 63 d 5 [.ref 93, .int c, .int D, .int x, .int (nI i), w] [] (hs E S) = mres cT 63 d 96 [.ref 93, .int c, .int D, .int (rfor (c1M (iA S 94) c D) i m x), .int (nI n), w'] [] (hs E S) := by
    intro m
    induction m with
    | zero =>
      intro i x w hi
      have h1 : nI n ≤ nI i := nI_le (by omega) (by omega)
      refine ⟨w, ?_⟩
      simp only [r_il4 c_M_counts_5, r_al0 c_M_counts_7, r_gfSr c_M_counts_8 o10 rfl, r_ci c_M_counts_11, r_ial c_M_counts_12, r_icge c_M_counts_13, ↓reduceIte, hs_h, Option.bind_some, mfix_i, mfix_r, mfix_n, mfix_a, Option.toList_some, Option.toList_none, List.cons_append, List.nil_append, List.singleton_append, mn4 hE, hn, h1, if_true, rfor]
      rw [show i = n by omega]
    | succ m ih =>
      intro i x w hi
      have h1 : ¬ nI n ≤ nI i := nI_ge (by omega) (by omega)
      have ih := fun x w => ih (i + 1) x w (by omega)
      simp only [r_il4 c_M_counts_5, r_al0 c_M_counts_7, r_gfSr c_M_counts_8 o10 rfl, r_ci c_M_counts_11, r_ial c_M_counts_12, r_icge c_M_counts_13, ↓reduceIte, hs_h, Option.bind_some, mfix_i, mfix_r, mfix_n, mfix_a, Option.toList_some, Option.toList_none, List.cons_append, List.nil_append, List.singleton_append, mn4 hE, hn, h1, if_false]
      rw [rfor, c1M]
      by_cases q0 : x = 0
      · by_cases q1 : iA S 94 (164 + 3 * i) = c
        · by_cases q2 : D < iA S 94 (164 + 3 * i + 1)
          · simp only [r_al0 c_M_counts_16, r_gfSr c_M_counts_17 o10 rfl, r_ci c_M_counts_20, r_ci c_M_counts_23, r_il4 c_M_counts_24, r_imul c_M_counts_26, r_iadd c_M_counts_27, r_ci c_M_counts_28, r_iadd c_M_counts_29, r_ial c_M_counts_30, r_is5 c_M_counts_31, r_il3 c_M_counts_33, r_ifne c_M_counts_34, r_al0 c_M_counts_37, r_gfSr c_M_counts_38 o10 rfl, r_ci c_M_counts_41, r_ci c_M_counts_44, r_il4 c_M_counts_45, r_imul c_M_counts_47, r_iadd c_M_counts_48, r_ial c_M_counts_49, r_il1 c_M_counts_50, r_icne c_M_counts_51, r_al0 c_M_counts_54, r_gfSr c_M_counts_55 o10 rfl, r_ci c_M_counts_58, r_ci c_M_counts_61, r_il4 c_M_counts_62, r_imul c_M_counts_64, r_iadd c_M_counts_65, r_ci c_M_counts_66, r_iadd c_M_counts_67, r_ial c_M_counts_68, r_il2 c_M_counts_69, r_icgt c_M_counts_70, r_il5 c_M_counts_73, r_iflt c_M_counts_75, r_il2 c_M_counts_78, r_il5 c_M_counts_79, r_icge c_M_counts_81, r_ci c_M_counts_84, r_goto c_M_counts_85, r_ci c_M_counts_88, r_is3 c_M_counts_89, r_inc4 c_M_counts_90, r_goto c_M_counts_93, ↓reduceIte, hs_h, Option.bind_some, mfix_i, mfix_r, mfix_n, mfix_a, Option.toList_some, Option.toList_none, List.cons_append, List.nil_append, List.singleton_append, km2, km3, km4, km6, km104, km24, ka20, ka92, ka164, ka254, ka314, ka474, ka634, ka670, ka850, ka890, ka914, ka12, kr2, kr3, kr4, kr5, nI_1, nI_add, mia_94 hE (show 164 + 3 * i < 2578 by omega), mia_94 hE (show 164 + 3 * i + 1 < 2578 by omega), mia_94 hE (show 164 + 3 * i + 2 < 2578 by omega), q0, q1, q2, if_true, if_false]
            exact ih _ _
          · by_cases q3 : iA S 94 (164 + 3 * i + 2) < 0
            · simp only [r_al0 c_M_counts_16, r_gfSr c_M_counts_17 o10 rfl, r_ci c_M_counts_20, r_ci c_M_counts_23, r_il4 c_M_counts_24, r_imul c_M_counts_26, r_iadd c_M_counts_27, r_ci c_M_counts_28, r_iadd c_M_counts_29, r_ial c_M_counts_30, r_is5 c_M_counts_31, r_il3 c_M_counts_33, r_ifne c_M_counts_34, r_al0 c_M_counts_37, r_gfSr c_M_counts_38 o10 rfl, r_ci c_M_counts_41, r_ci c_M_counts_44, r_il4 c_M_counts_45, r_imul c_M_counts_47, r_iadd c_M_counts_48, r_ial c_M_counts_49, r_il1 c_M_counts_50, r_icne c_M_counts_51, r_al0 c_M_counts_54, r_gfSr c_M_counts_55 o10 rfl, r_ci c_M_counts_58, r_ci c_M_counts_61, r_il4 c_M_counts_62, r_imul c_M_counts_64, r_iadd c_M_counts_65, r_ci c_M_counts_66, r_iadd c_M_counts_67, r_ial c_M_counts_68, r_il2 c_M_counts_69, r_icgt c_M_counts_70, r_il5 c_M_counts_73, r_iflt c_M_counts_75, r_il2 c_M_counts_78, r_il5 c_M_counts_79, r_icge c_M_counts_81, r_ci c_M_counts_84, r_goto c_M_counts_85, r_ci c_M_counts_88, r_is3 c_M_counts_89, r_inc4 c_M_counts_90, r_goto c_M_counts_93, ↓reduceIte, hs_h, Option.bind_some, mfix_i, mfix_r, mfix_n, mfix_a, Option.toList_some, Option.toList_none, List.cons_append, List.nil_append, List.singleton_append, km2, km3, km4, km6, km104, km24, ka20, ka92, ka164, ka254, ka314, ka474, ka634, ka670, ka850, ka890, ka914, ka12, kr2, kr3, kr4, kr5, nI_1, nI_add, mia_94 hE (show 164 + 3 * i < 2578 by omega), mia_94 hE (show 164 + 3 * i + 1 < 2578 by omega), mia_94 hE (show 164 + 3 * i + 2 < 2578 by omega), q0, q1, q2, q3, if_true, if_false]
              exact ih _ _
            · by_cases q4 : iA S 94 (164 + 3 * i + 2) ≤ D
              · simp only [r_al0 c_M_counts_16, r_gfSr c_M_counts_17 o10 rfl, r_ci c_M_counts_20, r_ci c_M_counts_23, r_il4 c_M_counts_24, r_imul c_M_counts_26, r_iadd c_M_counts_27, r_ci c_M_counts_28, r_iadd c_M_counts_29, r_ial c_M_counts_30, r_is5 c_M_counts_31, r_il3 c_M_counts_33, r_ifne c_M_counts_34, r_al0 c_M_counts_37, r_gfSr c_M_counts_38 o10 rfl, r_ci c_M_counts_41, r_ci c_M_counts_44, r_il4 c_M_counts_45, r_imul c_M_counts_47, r_iadd c_M_counts_48, r_ial c_M_counts_49, r_il1 c_M_counts_50, r_icne c_M_counts_51, r_al0 c_M_counts_54, r_gfSr c_M_counts_55 o10 rfl, r_ci c_M_counts_58, r_ci c_M_counts_61, r_il4 c_M_counts_62, r_imul c_M_counts_64, r_iadd c_M_counts_65, r_ci c_M_counts_66, r_iadd c_M_counts_67, r_ial c_M_counts_68, r_il2 c_M_counts_69, r_icgt c_M_counts_70, r_il5 c_M_counts_73, r_iflt c_M_counts_75, r_il2 c_M_counts_78, r_il5 c_M_counts_79, r_icge c_M_counts_81, r_ci c_M_counts_84, r_goto c_M_counts_85, r_ci c_M_counts_88, r_is3 c_M_counts_89, r_inc4 c_M_counts_90, r_goto c_M_counts_93, ↓reduceIte, hs_h, Option.bind_some, mfix_i, mfix_r, mfix_n, mfix_a, Option.toList_some, Option.toList_none, List.cons_append, List.nil_append, List.singleton_append, km2, km3, km4, km6, km104, km24, ka20, ka92, ka164, ka254, ka314, ka474, ka634, ka670, ka850, ka890, ka914, ka12, kr2, kr3, kr4, kr5, nI_1, nI_add, mia_94 hE (show 164 + 3 * i < 2578 by omega), mia_94 hE (show 164 + 3 * i + 1 < 2578 by omega), mia_94 hE (show 164 + 3 * i + 2 < 2578 by omega), q0, q1, q2, q3, q4, if_true, if_false]
                exact ih _ _
              · simp only [r_al0 c_M_counts_16, r_gfSr c_M_counts_17 o10 rfl, r_ci c_M_counts_20, r_ci c_M_counts_23, r_il4 c_M_counts_24, r_imul c_M_counts_26, r_iadd c_M_counts_27, r_ci c_M_counts_28, r_iadd c_M_counts_29, r_ial c_M_counts_30, r_is5 c_M_counts_31, r_il3 c_M_counts_33, r_ifne c_M_counts_34, r_al0 c_M_counts_37, r_gfSr c_M_counts_38 o10 rfl, r_ci c_M_counts_41, r_ci c_M_counts_44, r_il4 c_M_counts_45, r_imul c_M_counts_47, r_iadd c_M_counts_48, r_ial c_M_counts_49, r_il1 c_M_counts_50, r_icne c_M_counts_51, r_al0 c_M_counts_54, r_gfSr c_M_counts_55 o10 rfl, r_ci c_M_counts_58, r_ci c_M_counts_61, r_il4 c_M_counts_62, r_imul c_M_counts_64, r_iadd c_M_counts_65, r_ci c_M_counts_66, r_iadd c_M_counts_67, r_ial c_M_counts_68, r_il2 c_M_counts_69, r_icgt c_M_counts_70, r_il5 c_M_counts_73, r_iflt c_M_counts_75, r_il2 c_M_counts_78, r_il5 c_M_counts_79, r_icge c_M_counts_81, r_ci c_M_counts_84, r_goto c_M_counts_85, r_ci c_M_counts_88, r_is3 c_M_counts_89, r_inc4 c_M_counts_90, r_goto c_M_counts_93, ↓reduceIte, hs_h, Option.bind_some, mfix_i, mfix_r, mfix_n, mfix_a, Option.toList_some, Option.toList_none, List.cons_append, List.nil_append, List.singleton_append, km2, km3, km4, km6, km104, km24, ka20, ka92, ka164, ka254, ka314, ka474, ka634, ka670, ka850, ka890, ka914, ka12, kr2, kr3, kr4, kr5, nI_1, nI_add, mia_94 hE (show 164 + 3 * i < 2578 by omega), mia_94 hE (show 164 + 3 * i + 1 < 2578 by omega), mia_94 hE (show 164 + 3 * i + 2 < 2578 by omega), q0, q1, q2, q3, q4, if_true, if_false]
                exact ih _ _
        · simp only [r_al0 c_M_counts_16, r_gfSr c_M_counts_17 o10 rfl, r_ci c_M_counts_20, r_ci c_M_counts_23, r_il4 c_M_counts_24, r_imul c_M_counts_26, r_iadd c_M_counts_27, r_ci c_M_counts_28, r_iadd c_M_counts_29, r_ial c_M_counts_30, r_is5 c_M_counts_31, r_il3 c_M_counts_33, r_ifne c_M_counts_34, r_al0 c_M_counts_37, r_gfSr c_M_counts_38 o10 rfl, r_ci c_M_counts_41, r_ci c_M_counts_44, r_il4 c_M_counts_45, r_imul c_M_counts_47, r_iadd c_M_counts_48, r_ial c_M_counts_49, r_il1 c_M_counts_50, r_icne c_M_counts_51, r_al0 c_M_counts_54, r_gfSr c_M_counts_55 o10 rfl, r_ci c_M_counts_58, r_ci c_M_counts_61, r_il4 c_M_counts_62, r_imul c_M_counts_64, r_iadd c_M_counts_65, r_ci c_M_counts_66, r_iadd c_M_counts_67, r_ial c_M_counts_68, r_il2 c_M_counts_69, r_icgt c_M_counts_70, r_il5 c_M_counts_73, r_iflt c_M_counts_75, r_il2 c_M_counts_78, r_il5 c_M_counts_79, r_icge c_M_counts_81, r_ci c_M_counts_84, r_goto c_M_counts_85, r_ci c_M_counts_88, r_is3 c_M_counts_89, r_inc4 c_M_counts_90, r_goto c_M_counts_93, ↓reduceIte, hs_h, Option.bind_some, mfix_i, mfix_r, mfix_n, mfix_a, Option.toList_some, Option.toList_none, List.cons_append, List.nil_append, List.singleton_append, km2, km3, km4, km6, km104, km24, ka20, ka92, ka164, ka254, ka314, ka474, ka634, ka670, ka850, ka890, ka914, ka12, kr2, kr3, kr4, kr5, nI_1, nI_add, mia_94 hE (show 164 + 3 * i < 2578 by omega), mia_94 hE (show 164 + 3 * i + 2 < 2578 by omega), q0, q1, if_true, if_false]
          exact ih _ _
      · simp only [r_al0 c_M_counts_16, r_gfSr c_M_counts_17 o10 rfl, r_ci c_M_counts_20, r_ci c_M_counts_23, r_il4 c_M_counts_24, r_imul c_M_counts_26, r_iadd c_M_counts_27, r_ci c_M_counts_28, r_iadd c_M_counts_29, r_ial c_M_counts_30, r_is5 c_M_counts_31, r_il3 c_M_counts_33, r_ifne c_M_counts_34, r_al0 c_M_counts_37, r_gfSr c_M_counts_38 o10 rfl, r_ci c_M_counts_41, r_ci c_M_counts_44, r_il4 c_M_counts_45, r_imul c_M_counts_47, r_iadd c_M_counts_48, r_ial c_M_counts_49, r_il1 c_M_counts_50, r_icne c_M_counts_51, r_al0 c_M_counts_54, r_gfSr c_M_counts_55 o10 rfl, r_ci c_M_counts_58, r_ci c_M_counts_61, r_il4 c_M_counts_62, r_imul c_M_counts_64, r_iadd c_M_counts_65, r_ci c_M_counts_66, r_iadd c_M_counts_67, r_ial c_M_counts_68, r_il2 c_M_counts_69, r_icgt c_M_counts_70, r_il5 c_M_counts_73, r_iflt c_M_counts_75, r_il2 c_M_counts_78, r_il5 c_M_counts_79, r_icge c_M_counts_81, r_ci c_M_counts_84, r_goto c_M_counts_85, r_ci c_M_counts_88, r_is3 c_M_counts_89, r_inc4 c_M_counts_90, r_goto c_M_counts_93, ↓reduceIte, hs_h, Option.bind_some, mfix_i, mfix_r, mfix_n, mfix_a, Option.toList_some, Option.toList_none, List.cons_append, List.nil_append, List.singleton_append, km2, km3, km4, km6, km104, km24, ka20, ka92, ka164, ka254, ka314, ka474, ka634, ka670, ka850, ka890, ka914, ka12, kr2, kr3, kr4, kr5, nI_1, nI_add, mia_94 hE (show 164 + 3 * i + 2 < 2578 by omega), q0, if_false]
        exact ih _ _
  have l2 : ∀ m i x w, (x = 0 ∨ x = 1) → i + m = ng → mres cT 63 d 99 [.ref 93, .int c, .int D, .int x, .int (nI i), w] [] (hs E S) = some (some (.int (rfor (c2M (iA S 94) c D) i m x)), hs E S) := by
    intro m
    induction m with
    | zero =>
      intro i x w hx hi
      have h1 : nI ng ≤ nI i := nI_le (by omega) (by omega)
      have hz : narrow .boolean (.int x) = .int x := by rcases hx with rfl | rfl <;> decide
      simp only [r_il4 c_M_counts_99, r_al0 c_M_counts_101, r_gfSr c_M_counts_102 o10 rfl, r_ci c_M_counts_105, r_ial c_M_counts_106, r_icge c_M_counts_107, r_il3 c_M_counts_181, r_zret c_M_counts_182, ↓reduceIte, hs_h, Option.bind_some, mfix_i, mfix_r, mfix_n, mfix_a, Option.toList_some, Option.toList_none, List.cons_append, List.nil_append, List.singleton_append, mn5 hE, hg, h1, if_true, rfor, hz]
    | succ m ih =>
      intro i x w hx hi
      have h1 : ¬ nI ng ≤ nI i := nI_ge (by omega) (by omega)
      have hx2 := c2_01 (f := iA S 94) (c := c) (D := D) (i := i) hx
      simp only [r_il4 c_M_counts_99, r_al0 c_M_counts_101, r_gfSr c_M_counts_102 o10 rfl, r_ci c_M_counts_105, r_ial c_M_counts_106, r_icge c_M_counts_107, ↓reduceIte, hs_h, Option.bind_some, mfix_i, mfix_r, mfix_n, mfix_a, Option.toList_some, Option.toList_none, List.cons_append, List.nil_append, List.singleton_append, mn5 hE, hg, h1, if_false]
      rw [rfor]
      have ih := fun w => ih (i + 1) (c2M (iA S 94) c D i x) w hx2 (by omega)
      rw [c2M] at ih ⊢
      by_cases q0 : x = 0
      · simp only [q0, if_true] at ih
        simp only [r_il3 c_M_counts_110, r_ifeq c_M_counts_111, r_al0 c_M_counts_114, r_gfSr c_M_counts_115 o10 rfl, r_ci c_M_counts_118, r_ci c_M_counts_121, r_il4 c_M_counts_122, r_imul c_M_counts_124, r_iadd c_M_counts_125, r_ial c_M_counts_126, r_il1 c_M_counts_127, r_icne c_M_counts_128, r_il2 c_M_counts_131, r_al0 c_M_counts_132, r_gfSr c_M_counts_133 o10 rfl, r_ci c_M_counts_136, r_ci c_M_counts_139, r_il4 c_M_counts_140, r_imul c_M_counts_142, r_iadd c_M_counts_143, r_ci c_M_counts_144, r_iadd c_M_counts_145, r_ial c_M_counts_146, r_iclt c_M_counts_147, r_il2 c_M_counts_150, r_al0 c_M_counts_151, r_gfSr c_M_counts_152 o10 rfl, r_ci c_M_counts_155, r_ci c_M_counts_158, r_il4 c_M_counts_159, r_imul c_M_counts_161, r_iadd c_M_counts_162, r_ci c_M_counts_163, r_iadd c_M_counts_164, r_ial c_M_counts_165, r_iclt c_M_counts_166, r_ci c_M_counts_169, r_goto c_M_counts_170, r_ci c_M_counts_173, r_is3 c_M_counts_174, r_inc4 c_M_counts_175, r_goto c_M_counts_178, ↓reduceIte, hs_h, Option.bind_some, mfix_i, mfix_r, mfix_n, mfix_a, Option.toList_some, Option.toList_none, List.cons_append, List.nil_append, List.singleton_append, km2, km3, km4, km6, km104, km24, ka20, ka92, ka164, ka254, ka314, ka474, ka634, ka670, ka850, ka890, ka914, ka12, kr2, kr3, kr4, kr5, nI_1, nI_add, q0, if_true, ih]
      · by_cases q1 : iA S 94 (254 + 3 * i) = c
        · by_cases q2 : D < iA S 94 (254 + 3 * i + 1)
          · simp only [q0, q1, q2, if_true, if_false] at ih
            simp only [r_il3 c_M_counts_110, r_ifeq c_M_counts_111, r_al0 c_M_counts_114, r_gfSr c_M_counts_115 o10 rfl, r_ci c_M_counts_118, r_ci c_M_counts_121, r_il4 c_M_counts_122, r_imul c_M_counts_124, r_iadd c_M_counts_125, r_ial c_M_counts_126, r_il1 c_M_counts_127, r_icne c_M_counts_128, r_il2 c_M_counts_131, r_al0 c_M_counts_132, r_gfSr c_M_counts_133 o10 rfl, r_ci c_M_counts_136, r_ci c_M_counts_139, r_il4 c_M_counts_140, r_imul c_M_counts_142, r_iadd c_M_counts_143, r_ci c_M_counts_144, r_iadd c_M_counts_145, r_ial c_M_counts_146, r_iclt c_M_counts_147, r_il2 c_M_counts_150, r_al0 c_M_counts_151, r_gfSr c_M_counts_152 o10 rfl, r_ci c_M_counts_155, r_ci c_M_counts_158, r_il4 c_M_counts_159, r_imul c_M_counts_161, r_iadd c_M_counts_162, r_ci c_M_counts_163, r_iadd c_M_counts_164, r_ial c_M_counts_165, r_iclt c_M_counts_166, r_ci c_M_counts_169, r_goto c_M_counts_170, r_ci c_M_counts_173, r_is3 c_M_counts_174, r_inc4 c_M_counts_175, r_goto c_M_counts_178, ↓reduceIte, hs_h, Option.bind_some, mfix_i, mfix_r, mfix_n, mfix_a, Option.toList_some, Option.toList_none, List.cons_append, List.nil_append, List.singleton_append, km2, km3, km4, km6, km104, km24, ka20, ka92, ka164, ka254, ka314, ka474, ka634, ka670, ka850, ka890, ka914, ka12, kr2, kr3, kr4, kr5, nI_1, nI_add, mia_94 hE (show 254 + 3 * i < 2578 by omega), mia_94 hE (show 254 + 3 * i + 1 < 2578 by omega), mia_94 hE (show 254 + 3 * i + 2 < 2578 by omega), q0, q1, q2, if_true, if_false, ih]
          · by_cases q3 : D < iA S 94 (254 + 3 * i + 2)
            · simp only [q0, q1, q2, q3, if_true, if_false] at ih
              simp only [r_il3 c_M_counts_110, r_ifeq c_M_counts_111, r_al0 c_M_counts_114, r_gfSr c_M_counts_115 o10 rfl, r_ci c_M_counts_118, r_ci c_M_counts_121, r_il4 c_M_counts_122, r_imul c_M_counts_124, r_iadd c_M_counts_125, r_ial c_M_counts_126, r_il1 c_M_counts_127, r_icne c_M_counts_128, r_il2 c_M_counts_131, r_al0 c_M_counts_132, r_gfSr c_M_counts_133 o10 rfl, r_ci c_M_counts_136, r_ci c_M_counts_139, r_il4 c_M_counts_140, r_imul c_M_counts_142, r_iadd c_M_counts_143, r_ci c_M_counts_144, r_iadd c_M_counts_145, r_ial c_M_counts_146, r_iclt c_M_counts_147, r_il2 c_M_counts_150, r_al0 c_M_counts_151, r_gfSr c_M_counts_152 o10 rfl, r_ci c_M_counts_155, r_ci c_M_counts_158, r_il4 c_M_counts_159, r_imul c_M_counts_161, r_iadd c_M_counts_162, r_ci c_M_counts_163, r_iadd c_M_counts_164, r_ial c_M_counts_165, r_iclt c_M_counts_166, r_ci c_M_counts_169, r_goto c_M_counts_170, r_ci c_M_counts_173, r_is3 c_M_counts_174, r_inc4 c_M_counts_175, r_goto c_M_counts_178, ↓reduceIte, hs_h, Option.bind_some, mfix_i, mfix_r, mfix_n, mfix_a, Option.toList_some, Option.toList_none, List.cons_append, List.nil_append, List.singleton_append, km2, km3, km4, km6, km104, km24, ka20, ka92, ka164, ka254, ka314, ka474, ka634, ka670, ka850, ka890, ka914, ka12, kr2, kr3, kr4, kr5, nI_1, nI_add, mia_94 hE (show 254 + 3 * i < 2578 by omega), mia_94 hE (show 254 + 3 * i + 1 < 2578 by omega), mia_94 hE (show 254 + 3 * i + 2 < 2578 by omega), q0, q1, q2, q3, if_true, if_false, ih]
            · simp only [q0, q1, q2, q3, if_true, if_false] at ih
              simp only [r_il3 c_M_counts_110, r_ifeq c_M_counts_111, r_al0 c_M_counts_114, r_gfSr c_M_counts_115 o10 rfl, r_ci c_M_counts_118, r_ci c_M_counts_121, r_il4 c_M_counts_122, r_imul c_M_counts_124, r_iadd c_M_counts_125, r_ial c_M_counts_126, r_il1 c_M_counts_127, r_icne c_M_counts_128, r_il2 c_M_counts_131, r_al0 c_M_counts_132, r_gfSr c_M_counts_133 o10 rfl, r_ci c_M_counts_136, r_ci c_M_counts_139, r_il4 c_M_counts_140, r_imul c_M_counts_142, r_iadd c_M_counts_143, r_ci c_M_counts_144, r_iadd c_M_counts_145, r_ial c_M_counts_146, r_iclt c_M_counts_147, r_il2 c_M_counts_150, r_al0 c_M_counts_151, r_gfSr c_M_counts_152 o10 rfl, r_ci c_M_counts_155, r_ci c_M_counts_158, r_il4 c_M_counts_159, r_imul c_M_counts_161, r_iadd c_M_counts_162, r_ci c_M_counts_163, r_iadd c_M_counts_164, r_ial c_M_counts_165, r_iclt c_M_counts_166, r_ci c_M_counts_169, r_goto c_M_counts_170, r_ci c_M_counts_173, r_is3 c_M_counts_174, r_inc4 c_M_counts_175, r_goto c_M_counts_178, ↓reduceIte, hs_h, Option.bind_some, mfix_i, mfix_r, mfix_n, mfix_a, Option.toList_some, Option.toList_none, List.cons_append, List.nil_append, List.singleton_append, km2, km3, km4, km6, km104, km24, ka20, ka92, ka164, ka254, ka314, ka474, ka634, ka670, ka850, ka890, ka914, ka12, kr2, kr3, kr4, kr5, nI_1, nI_add, mia_94 hE (show 254 + 3 * i < 2578 by omega), mia_94 hE (show 254 + 3 * i + 1 < 2578 by omega), mia_94 hE (show 254 + 3 * i + 2 < 2578 by omega), q0, q1, q2, q3, if_true, if_false, ih]
        · simp only [q0, q1, if_false] at ih
          simp only [r_il3 c_M_counts_110, r_ifeq c_M_counts_111, r_al0 c_M_counts_114, r_gfSr c_M_counts_115 o10 rfl, r_ci c_M_counts_118, r_ci c_M_counts_121, r_il4 c_M_counts_122, r_imul c_M_counts_124, r_iadd c_M_counts_125, r_ial c_M_counts_126, r_il1 c_M_counts_127, r_icne c_M_counts_128, r_il2 c_M_counts_131, r_al0 c_M_counts_132, r_gfSr c_M_counts_133 o10 rfl, r_ci c_M_counts_136, r_ci c_M_counts_139, r_il4 c_M_counts_140, r_imul c_M_counts_142, r_iadd c_M_counts_143, r_ci c_M_counts_144, r_iadd c_M_counts_145, r_ial c_M_counts_146, r_iclt c_M_counts_147, r_il2 c_M_counts_150, r_al0 c_M_counts_151, r_gfSr c_M_counts_152 o10 rfl, r_ci c_M_counts_155, r_ci c_M_counts_158, r_il4 c_M_counts_159, r_imul c_M_counts_161, r_iadd c_M_counts_162, r_ci c_M_counts_163, r_iadd c_M_counts_164, r_ial c_M_counts_165, r_iclt c_M_counts_166, r_ci c_M_counts_169, r_goto c_M_counts_170, r_ci c_M_counts_173, r_is3 c_M_counts_174, r_inc4 c_M_counts_175, r_goto c_M_counts_178, ↓reduceIte, hs_h, Option.bind_some, mfix_i, mfix_r, mfix_n, mfix_a, Option.toList_some, Option.toList_none, List.cons_append, List.nil_append, List.singleton_append, km2, km3, km4, km6, km104, km24, ka20, ka92, ka164, ka254, ka314, ka474, ka634, ka670, ka850, ka890, ka914, ka12, kr2, kr3, kr4, kr5, nI_1, nI_add, mia_94 hE (show 254 + 3 * i < 2578 by omega), q0, q1, if_false, ih]
  obtain ⟨w', hw⟩ := l1 n 0 0 (.retAddr 0) (by omega)
  rw [nI_0] at hw
  have hx := rfor_keep (P := fun s : Int32 => s = 0 ∨ s = 1) (g := c1M (iA S 94) c D) (fun _ _ => c1_01) n 0 0 (Or.inl rfl)
  have l3 := l2 ng 0 _ w' hx (by omega)
  rw [nI_0] at l3
  simp only [ment, mfl, List.length, List.replicate, List.cons_append, List.nil_append, Nat.reduceAdd, Nat.reduceSub]
  simp only [r_ci c_M_counts_0, r_is3 c_M_counts_1, r_ci c_M_counts_2, r_is4 c_M_counts_3, ↓reduceIte, hs_h, Option.bind_some, mfix_i, mfix_r, mfix_n, mfix_a, Option.toList_some, Option.toList_none, List.cons_append, List.nil_append, List.singleton_append, hw]
  simp only [r_ci c_M_counts_96, r_is4 c_M_counts_97, ↓reduceIte, hs_h, Option.bind_some, mfix_i, mfix_r, mfix_n, mfix_a, Option.toList_some, Option.toList_none, List.cons_append, List.nil_append, List.singleton_append, l3, coM]
/-- one point more -/
def ptA (s : (Nat → Int32) × Nat) (x D : Int32) : (Nat → Int32) × Nat := (insP (if D < x then D else x) s.2 s.1, s.2 + 1)
def spM (f : Nat → Int32) (c D : Int32) (i : Nat) (s : (Nat → Int32) × Nat) : (Nat → Int32) × Nat := if f (164 + 3 * i) = c then ptA (ptA s (f (164 + 3 * i + 1)) D) (if 0 ≤ f (164 + 3 * i + 2) then f (164 + 3 * i + 2) else D) D else s
def gaM (f : Nat → Int32) (c D : Int32) (i : Nat) (s : (Nat → Int32) × Nat) : (Nat → Int32) × Nat := if f (254 + 3 * i) = c then ptA (ptA s (f (254 + 3 * i + 1)) D) (f (254 + 3 * i + 2)) D else s
def poM (f : Nat → Int32) (n ng : Nat) (c D : Int32) (g : Nat → Int32) : (Nat → Int32) × Nat := rfor (gaM f c D) 0 ng (rfor (spM f c D) 0 n (ptA (ptA (g, 0) 0 D) D D))
def smM (f : Nat → Int32) (n ng : Nat) (c : Int32) (p : Nat → Int32) (k : Nat) (s : Int32) : Int32 := s + (if p (k + 1) ≤ p k then 0 else if coM f n ng c (p k) = 0 then 0 else p (k + 1) - p k)
def seM (f : Nat → Int32) (n ng : Nat) (c D : Int32) (g : Nat → Int32) : Int32 := rfor (smM f n ng c (poM f n ng c D g).1) 0 ((poM f n ng c D g).2 - 1) 0
theorem M_servedOn_ok (hE : okE E) (hn : iA S 94 4 = nI n) (hn2 : n ≤ 30) (hg : iA S 94 5 = nI ng) (hg2 : ng ≤ 20) : mres cT 64 d 0 (ment 5 [.ref 93, .int c, .int D]) [] (hs E S) = some (some (.int (seM (iA S 94) n ng c D (iA S 102))), hs E (ptS S (poM (iA S 94) n ng c D (iA S 102)).1 (poM (iA S 94) n ng c D (iA S 102)).2)) := by
  have o10 := o_M hE
  have m10 := m_M hE
  have mp : ∀ (d : Nat) (s : (Nat → Int32) × Nat) (x y : Int32), s.2 < 102 → mres cT 62 d 0 (ment 5 [.ref 93, .int x, .int y]) [] (hs E (ptS S s.1 s.2)) = some (none, hs E (ptS S (ptA s x y).1 (ptA s x y).2)) := fun d s x y h => M_point_ok hE h
  have pA2 : ∀ (s : (Nat → Int32) × Nat) (x D : Int32), (ptA s x D).2 = s.2 + 1 := fun _ _ _ => rfl
  have l1 : ∀ m i (s : (Nat → Int32) × Nat) w, s.2 ≤ 2 + 2 * i → i + m = n → ∃ w', mres cT 64 d 19 [.ref 93, .int c, .int D, .int (nI i), w] [] (hs E (ptS S s.1 s.2)) = mres cT 64 d 102 [.ref 93, .int c, .int D, .int (nI n), w'] [] (hs E (ptS S (rfor (spM (iA S 94) c D) i m s).1 (rfor (spM (iA S 94) c D) i m s).2)) := by
    intro m
    induction m with
    | zero =>
      intro i s w hs2 hi
      have h1 : nI n ≤ nI i := nI_le (by omega) (by omega)
      refine ⟨w, ?_⟩
      simp only [r_il3 c_M_servedOn_19, r_al0 c_M_servedOn_20, r_gfSr c_M_servedOn_21 o10 rfl, r_ci c_M_servedOn_24, r_ial c_M_servedOn_25, r_icge c_M_servedOn_26, ↓reduceIte, hs_h, Option.bind_some, mfix_i, mfix_r, mfix_n, mfix_a, Option.toList_some, Option.toList_none, List.cons_append, List.nil_append, List.singleton_append, mn4 hE, pt_94, hn, h1, if_true, rfor]
      rw [show i = n by omega]
    | succ m ih =>
      intro i s w hs2 hi
      have h1 : ¬ nI n ≤ nI i := nI_ge (by omega) (by omega)
      simp only [r_il3 c_M_servedOn_19, r_al0 c_M_servedOn_20, r_gfSr c_M_servedOn_21 o10 rfl, r_ci c_M_servedOn_24, r_ial c_M_servedOn_25, r_icge c_M_servedOn_26, ↓reduceIte, hs_h, Option.bind_some, mfix_i, mfix_r, mfix_n, mfix_a, Option.toList_some, Option.toList_none, List.cons_append, List.nil_append, List.singleton_append, mn4 hE, pt_94, hn, h1, if_false]
      rw [rfor, spM]
      by_cases q1 : iA S 94 (164 + 3 * i) = c
      · have q5 : (ptA s (iA S 94 (164 + 3 * i + 1)) D).2 < 102 := by rw [pA2]; omega
        have ih := fun x w => ih (i + 1) (ptA (ptA s (iA S 94 (164 + 3 * i + 1)) D) x D) w (by rw [pA2, pA2]; omega) (by omega)
        by_cases q2 : 0 ≤ iA S 94 (164 + 3 * i + 2)
        · simp only [r_al0 c_M_servedOn_29, r_gfSr c_M_servedOn_30 o10 rfl, r_ci c_M_servedOn_33, r_ci c_M_servedOn_36, r_il3 c_M_servedOn_37, r_imul c_M_servedOn_38, r_iadd c_M_servedOn_39, r_ial c_M_servedOn_40, r_il1 c_M_servedOn_41, r_icne c_M_servedOn_42, r_al0 c_M_servedOn_45, r_gfSr c_M_servedOn_46 o10 rfl, r_ci c_M_servedOn_49, r_ci c_M_servedOn_52, r_il3 c_M_servedOn_53, r_imul c_M_servedOn_54, r_iadd c_M_servedOn_55, r_ci c_M_servedOn_56, r_iadd c_M_servedOn_57, r_ial c_M_servedOn_58, r_is4 c_M_servedOn_59, r_al0 c_M_servedOn_61, r_al0 c_M_servedOn_62, r_gfSr c_M_servedOn_63 o10 rfl, r_ci c_M_servedOn_66, r_ci c_M_servedOn_69, r_il3 c_M_servedOn_70, r_imul c_M_servedOn_71, r_iadd c_M_servedOn_72, r_ci c_M_servedOn_73, r_iadd c_M_servedOn_74, r_ial c_M_servedOn_75, r_il2 c_M_servedOn_76, r_cv3 c_M_servedOn_77, r_al0 c_M_servedOn_80, r_il4 c_M_servedOn_81, r_ifge c_M_servedOn_83, r_il2 c_M_servedOn_86, r_goto c_M_servedOn_87, r_il4 c_M_servedOn_90, r_il2 c_M_servedOn_92, r_cv3 c_M_servedOn_93, r_inc3 c_M_servedOn_96, r_goto c_M_servedOn_99, ↓reduceIte, hs_h, Option.bind_some, mfix_i, mfix_r, mfix_n, mfix_a, Option.toList_some, Option.toList_none, List.cons_append, List.nil_append, List.singleton_append, mwt, Value.category, Nat.reduceAdd, Nat.reduceLeDiff, true_and, and_true, and_self, m10, km2, km3, km4, km6, km104, km24, ka20, ka92, ka164, ka254, ka314, ka474, ka634, ka670, ka850, ka890, ka914, ka12, kr2, kr3, kr4, kr5, nI_1, nI_add, mia_94 hE (show 164 + 3 * i < 2578 by omega), mia_94 hE (show 164 + 3 * i + 1 < 2578 by omega), mia_94 hE (show 164 + 3 * i + 2 < 2578 by omega), pt_94, q1, q2, if_true, mp _ s _ _ (show s.2 < 102 by omega), mp _ _ _ _ q5]
          exact ih _ _
        · simp only [r_al0 c_M_servedOn_29, r_gfSr c_M_servedOn_30 o10 rfl, r_ci c_M_servedOn_33, r_ci c_M_servedOn_36, r_il3 c_M_servedOn_37, r_imul c_M_servedOn_38, r_iadd c_M_servedOn_39, r_ial c_M_servedOn_40, r_il1 c_M_servedOn_41, r_icne c_M_servedOn_42, r_al0 c_M_servedOn_45, r_gfSr c_M_servedOn_46 o10 rfl, r_ci c_M_servedOn_49, r_ci c_M_servedOn_52, r_il3 c_M_servedOn_53, r_imul c_M_servedOn_54, r_iadd c_M_servedOn_55, r_ci c_M_servedOn_56, r_iadd c_M_servedOn_57, r_ial c_M_servedOn_58, r_is4 c_M_servedOn_59, r_al0 c_M_servedOn_61, r_al0 c_M_servedOn_62, r_gfSr c_M_servedOn_63 o10 rfl, r_ci c_M_servedOn_66, r_ci c_M_servedOn_69, r_il3 c_M_servedOn_70, r_imul c_M_servedOn_71, r_iadd c_M_servedOn_72, r_ci c_M_servedOn_73, r_iadd c_M_servedOn_74, r_ial c_M_servedOn_75, r_il2 c_M_servedOn_76, r_cv3 c_M_servedOn_77, r_al0 c_M_servedOn_80, r_il4 c_M_servedOn_81, r_ifge c_M_servedOn_83, r_il2 c_M_servedOn_86, r_goto c_M_servedOn_87, r_il4 c_M_servedOn_90, r_il2 c_M_servedOn_92, r_cv3 c_M_servedOn_93, r_inc3 c_M_servedOn_96, r_goto c_M_servedOn_99, ↓reduceIte, hs_h, Option.bind_some, mfix_i, mfix_r, mfix_n, mfix_a, Option.toList_some, Option.toList_none, List.cons_append, List.nil_append, List.singleton_append, mwt, Value.category, Nat.reduceAdd, Nat.reduceLeDiff, true_and, and_true, and_self, m10, km2, km3, km4, km6, km104, km24, ka20, ka92, ka164, ka254, ka314, ka474, ka634, ka670, ka850, ka890, ka914, ka12, kr2, kr3, kr4, kr5, nI_1, nI_add, mia_94 hE (show 164 + 3 * i < 2578 by omega), mia_94 hE (show 164 + 3 * i + 1 < 2578 by omega), mia_94 hE (show 164 + 3 * i + 2 < 2578 by omega), pt_94, q1, q2, if_true, if_false, mp _ s _ _ (show s.2 < 102 by omega), mp _ _ _ _ q5]
          exact ih _ _
      · simp only [r_al0 c_M_servedOn_29, r_gfSr c_M_servedOn_30 o10 rfl, r_ci c_M_servedOn_33, r_ci c_M_servedOn_36, r_il3 c_M_servedOn_37, r_imul c_M_servedOn_38, r_iadd c_M_servedOn_39, r_ial c_M_servedOn_40, r_il1 c_M_servedOn_41, r_icne c_M_servedOn_42, r_al0 c_M_servedOn_45, r_gfSr c_M_servedOn_46 o10 rfl, r_ci c_M_servedOn_49, r_ci c_M_servedOn_52, r_il3 c_M_servedOn_53, r_imul c_M_servedOn_54, r_iadd c_M_servedOn_55, r_ci c_M_servedOn_56, r_iadd c_M_servedOn_57, r_ial c_M_servedOn_58, r_is4 c_M_servedOn_59, r_al0 c_M_servedOn_61, r_al0 c_M_servedOn_62, r_gfSr c_M_servedOn_63 o10 rfl, r_ci c_M_servedOn_66, r_ci c_M_servedOn_69, r_il3 c_M_servedOn_70, r_imul c_M_servedOn_71, r_iadd c_M_servedOn_72, r_ci c_M_servedOn_73, r_iadd c_M_servedOn_74, r_ial c_M_servedOn_75, r_il2 c_M_servedOn_76, r_cv3 c_M_servedOn_77, r_al0 c_M_servedOn_80, r_il4 c_M_servedOn_81, r_ifge c_M_servedOn_83, r_il2 c_M_servedOn_86, r_goto c_M_servedOn_87, r_il4 c_M_servedOn_90, r_il2 c_M_servedOn_92, r_cv3 c_M_servedOn_93, r_inc3 c_M_servedOn_96, r_goto c_M_servedOn_99, ↓reduceIte, hs_h, Option.bind_some, mfix_i, mfix_r, mfix_n, mfix_a, Option.toList_some, Option.toList_none, List.cons_append, List.nil_append, List.singleton_append, km2, km3, km4, km6, km104, km24, ka20, ka92, ka164, ka254, ka314, ka474, ka634, ka670, ka850, ka890, ka914, ka12, kr2, kr3, kr4, kr5, nI_1, nI_add, mia_94 hE (show 164 + 3 * i < 2578 by omega), pt_94, q1, if_false]
        exact ih (i + 1) s _ (by omega) (by omega)
  have l2 : ∀ m i (s : (Nat → Int32) × Nat) w, s.2 ≤ 2 + 2 * n + 2 * i → i + m = ng → ∃ w', mres cT 64 d 104 [.ref 93, .int c, .int D, .int (nI i), w] [] (hs E (ptS S s.1 s.2)) = mres cT 64 d 174 [.ref 93, .int c, .int D, .int (nI ng), w'] [] (hs E (ptS S (rfor (gaM (iA S 94) c D) i m s).1 (rfor (gaM (iA S 94) c D) i m s).2)) := by
    intro m
    induction m with
    | zero =>
      intro i s w hs2 hi
      have h1 : nI ng ≤ nI i := nI_le (by omega) (by omega)
      refine ⟨w, ?_⟩
      simp only [r_il3 c_M_servedOn_104, r_al0 c_M_servedOn_105, r_gfSr c_M_servedOn_106 o10 rfl, r_ci c_M_servedOn_109, r_ial c_M_servedOn_110, r_icge c_M_servedOn_111, ↓reduceIte, hs_h, Option.bind_some, mfix_i, mfix_r, mfix_n, mfix_a, Option.toList_some, Option.toList_none, List.cons_append, List.nil_append, List.singleton_append, mn5 hE, pt_94, hg, h1, if_true, rfor]
      rw [show i = ng by omega]
    | succ m ih =>
      intro i s w hs2 hi
      have h1 : ¬ nI ng ≤ nI i := nI_ge (by omega) (by omega)
      simp only [r_il3 c_M_servedOn_104, r_al0 c_M_servedOn_105, r_gfSr c_M_servedOn_106 o10 rfl, r_ci c_M_servedOn_109, r_ial c_M_servedOn_110, r_icge c_M_servedOn_111, ↓reduceIte, hs_h, Option.bind_some, mfix_i, mfix_r, mfix_n, mfix_a, Option.toList_some, Option.toList_none, List.cons_append, List.nil_append, List.singleton_append, mn5 hE, pt_94, hg, h1, if_false]
      rw [rfor, gaM]
      by_cases q1 : iA S 94 (254 + 3 * i) = c
      · have q5 : (ptA s (iA S 94 (254 + 3 * i + 1)) D).2 < 102 := by rw [pA2]; omega
        have ih := fun x w => ih (i + 1) (ptA (ptA s (iA S 94 (254 + 3 * i + 1)) D) x D) w (by rw [pA2, pA2]; omega) (by omega)
        simp only [r_al0 c_M_servedOn_114, r_gfSr c_M_servedOn_115 o10 rfl, r_ci c_M_servedOn_118, r_ci c_M_servedOn_121, r_il3 c_M_servedOn_122, r_imul c_M_servedOn_123, r_iadd c_M_servedOn_124, r_ial c_M_servedOn_125, r_il1 c_M_servedOn_126, r_icne c_M_servedOn_127, r_al0 c_M_servedOn_130, r_al0 c_M_servedOn_131, r_gfSr c_M_servedOn_132 o10 rfl, r_ci c_M_servedOn_135, r_ci c_M_servedOn_138, r_il3 c_M_servedOn_139, r_imul c_M_servedOn_140, r_iadd c_M_servedOn_141, r_ci c_M_servedOn_142, r_iadd c_M_servedOn_143, r_ial c_M_servedOn_144, r_il2 c_M_servedOn_145, r_cv3 c_M_servedOn_146, r_al0 c_M_servedOn_149, r_al0 c_M_servedOn_150, r_gfSr c_M_servedOn_151 o10 rfl, r_ci c_M_servedOn_154, r_ci c_M_servedOn_157, r_il3 c_M_servedOn_158, r_imul c_M_servedOn_159, r_iadd c_M_servedOn_160, r_ci c_M_servedOn_161, r_iadd c_M_servedOn_162, r_ial c_M_servedOn_163, r_il2 c_M_servedOn_164, r_cv3 c_M_servedOn_165, r_inc3 c_M_servedOn_168, r_goto c_M_servedOn_171, ↓reduceIte, hs_h, Option.bind_some, mfix_i, mfix_r, mfix_n, mfix_a, Option.toList_some, Option.toList_none, List.cons_append, List.nil_append, List.singleton_append, mwt, Value.category, Nat.reduceAdd, Nat.reduceLeDiff, true_and, and_true, and_self, m10, km2, km3, km4, km6, km104, km24, ka20, ka92, ka164, ka254, ka314, ka474, ka634, ka670, ka850, ka890, ka914, ka12, kr2, kr3, kr4, kr5, nI_1, nI_add, mia_94 hE (show 254 + 3 * i < 2578 by omega), mia_94 hE (show 254 + 3 * i + 1 < 2578 by omega), mia_94 hE (show 254 + 3 * i + 2 < 2578 by omega), pt_94, q1, if_true, mp _ s _ _ (show s.2 < 102 by omega), mp _ _ _ _ q5]
        exact ih _ _
      · simp only [r_al0 c_M_servedOn_114, r_gfSr c_M_servedOn_115 o10 rfl, r_ci c_M_servedOn_118, r_ci c_M_servedOn_121, r_il3 c_M_servedOn_122, r_imul c_M_servedOn_123, r_iadd c_M_servedOn_124, r_ial c_M_servedOn_125, r_il1 c_M_servedOn_126, r_icne c_M_servedOn_127, r_al0 c_M_servedOn_130, r_al0 c_M_servedOn_131, r_gfSr c_M_servedOn_132 o10 rfl, r_ci c_M_servedOn_135, r_ci c_M_servedOn_138, r_il3 c_M_servedOn_139, r_imul c_M_servedOn_140, r_iadd c_M_servedOn_141, r_ci c_M_servedOn_142, r_iadd c_M_servedOn_143, r_ial c_M_servedOn_144, r_il2 c_M_servedOn_145, r_cv3 c_M_servedOn_146, r_al0 c_M_servedOn_149, r_al0 c_M_servedOn_150, r_gfSr c_M_servedOn_151 o10 rfl, r_ci c_M_servedOn_154, r_ci c_M_servedOn_157, r_il3 c_M_servedOn_158, r_imul c_M_servedOn_159, r_iadd c_M_servedOn_160, r_ci c_M_servedOn_161, r_iadd c_M_servedOn_162, r_ial c_M_servedOn_163, r_il2 c_M_servedOn_164, r_cv3 c_M_servedOn_165, r_inc3 c_M_servedOn_168, r_goto c_M_servedOn_171, ↓reduceIte, hs_h, Option.bind_some, mfix_i, mfix_r, mfix_n, mfix_a, Option.toList_some, Option.toList_none, List.cons_append, List.nil_append, List.singleton_append, km2, km3, km4, km6, km104, km24, ka20, ka92, ka164, ka254, ka314, ka474, ka634, ka670, ka850, ka890, ka914, ka12, kr2, kr3, kr4, kr5, nI_1, nI_add, mia_94 hE (show 254 + 3 * i < 2578 by omega), pt_94, q1, if_false]
        exact ih (i + 1) s _ (by omega) (by omega)
  have l3 : ∀ (P : Nat → Int32) (M : Nat), M ≤ 102 → ∀ m i x, i + m + 1 = M → mres cT 64 d 179 [.ref 93, .int c, .int D, .int x, .int (nI i)] [] (hs E (ptS S P M)) = some (some (.int (rfor (smM (iA S 94) n ng c P) i m x)), hs E (ptS S P M)) := by
    intro P M hM m
    induction m with
    | zero =>
      intro i x hi
      have h1 : nI M ≤ nI (i + 1) := nI_le (by omega) (by omega)
      simp only [r_il4 c_M_servedOn_179, r_ci c_M_servedOn_181, r_iadd c_M_servedOn_182, r_al0 c_M_servedOn_183, r_gfS0 c_M_servedOn_184 o10 rfl, r_icge c_M_servedOn_187, r_il3 c_M_servedOn_254, r_iret c_M_servedOn_255, ↓reduceIte, hs_h, Option.bind_some, mfix_i, mfix_r, mfix_n, mfix_a, Option.toList_some, Option.toList_none, List.cons_append, List.nil_append, List.singleton_append, nI_1, pt_f, h1, if_true, rfor]
    | succ m ih =>
      intro i x hi
      have h1 : ¬ nI M ≤ nI (i + 1) := nI_ge (by omega) (by omega)
      have ih := fun x => ih (i + 1) x (by omega)
      have hc : ∀ d D, mres cT 63 d 0 (ment 6 [.ref 93, .int c, .int D]) [] (hs E (ptS S P M)) = some (some (.int (coM (iA S 94) n ng c D)), hs E (ptS S P M)) := fun d D => by
        rw [M_counts_ok hE (by rw [pt_94]; exact hn) hn2 (by rw [pt_94]; exact hg) hg2, pt_94]
      simp only [r_il4 c_M_servedOn_179, r_ci c_M_servedOn_181, r_iadd c_M_servedOn_182, r_al0 c_M_servedOn_183, r_gfS0 c_M_servedOn_184 o10 rfl, r_icge c_M_servedOn_187, ↓reduceIte, hs_h, Option.bind_some, mfix_i, mfix_r, mfix_n, mfix_a, Option.toList_some, Option.toList_none, List.cons_append, List.nil_append, List.singleton_append, nI_1, pt_f, h1, if_false]
      rw [rfor, smM]
      have hi2 := i_102 hE
      by_cases q1 : P (i + 1) ≤ P i
      · simp only [r_il3 c_M_servedOn_190, r_al0 c_M_servedOn_191, r_gfSr c_M_servedOn_192 o10 rfl, r_il4 c_M_servedOn_195, r_ial c_M_servedOn_197, r_al0 c_M_servedOn_198, r_gfSr c_M_servedOn_199 o10 rfl, r_il4 c_M_servedOn_202, r_ci c_M_servedOn_204, r_iadd c_M_servedOn_205, r_ial c_M_servedOn_206, r_icge c_M_servedOn_207, r_al0 c_M_servedOn_210, r_il1 c_M_servedOn_211, r_al0 c_M_servedOn_212, r_gfSr c_M_servedOn_213 o10 rfl, r_il4 c_M_servedOn_216, r_ial c_M_servedOn_218, r_cv3 c_M_servedOn_219, r_ifeq c_M_servedOn_222, r_al0 c_M_servedOn_225, r_gfSr c_M_servedOn_226 o10 rfl, r_il4 c_M_servedOn_229, r_ci c_M_servedOn_231, r_iadd c_M_servedOn_232, r_ial c_M_servedOn_233, r_al0 c_M_servedOn_234, r_gfSr c_M_servedOn_235 o10 rfl, r_il4 c_M_servedOn_238, r_ial c_M_servedOn_240, r_isub c_M_servedOn_241, r_goto c_M_servedOn_242, r_ci c_M_servedOn_245, r_iadd c_M_servedOn_246, r_is3 c_M_servedOn_247, r_inc4 c_M_servedOn_248, r_goto c_M_servedOn_251, ↓reduceIte, hs_h, Option.bind_some, mfix_i, mfix_r, mfix_n, mfix_a, Option.toList_some, Option.toList_none, List.cons_append, List.nil_append, List.singleton_append, nI_1, mia_I hi2 (show i < 102 by omega) (by decide), mia_I hi2 (show i + 1 < 102 by omega) (by decide), pt_a, q1, if_true, ih]
      · by_cases q2 : coM (iA S 94) n ng c (P i) = 0
        · simp only [r_il3 c_M_servedOn_190, r_al0 c_M_servedOn_191, r_gfSr c_M_servedOn_192 o10 rfl, r_il4 c_M_servedOn_195, r_ial c_M_servedOn_197, r_al0 c_M_servedOn_198, r_gfSr c_M_servedOn_199 o10 rfl, r_il4 c_M_servedOn_202, r_ci c_M_servedOn_204, r_iadd c_M_servedOn_205, r_ial c_M_servedOn_206, r_icge c_M_servedOn_207, r_al0 c_M_servedOn_210, r_il1 c_M_servedOn_211, r_al0 c_M_servedOn_212, r_gfSr c_M_servedOn_213 o10 rfl, r_il4 c_M_servedOn_216, r_ial c_M_servedOn_218, r_cv3 c_M_servedOn_219, r_ifeq c_M_servedOn_222, r_al0 c_M_servedOn_225, r_gfSr c_M_servedOn_226 o10 rfl, r_il4 c_M_servedOn_229, r_ci c_M_servedOn_231, r_iadd c_M_servedOn_232, r_ial c_M_servedOn_233, r_al0 c_M_servedOn_234, r_gfSr c_M_servedOn_235 o10 rfl, r_il4 c_M_servedOn_238, r_ial c_M_servedOn_240, r_isub c_M_servedOn_241, r_goto c_M_servedOn_242, r_ci c_M_servedOn_245, r_iadd c_M_servedOn_246, r_is3 c_M_servedOn_247, r_inc4 c_M_servedOn_248, r_goto c_M_servedOn_251, ↓reduceIte, hs_h, Option.bind_some, mfix_i, mfix_r, mfix_n, mfix_a, Option.toList_some, Option.toList_none, List.cons_append, List.nil_append, List.singleton_append, mwt, Value.category, Nat.reduceAdd, Nat.reduceLeDiff, true_and, and_true, and_self, m10, nI_1, mia_I hi2 (show i < 102 by omega) (by decide), mia_I hi2 (show i + 1 < 102 by omega) (by decide), pt_a, q1, q2, hc, if_true, if_false, ih]
        · simp only [r_il3 c_M_servedOn_190, r_al0 c_M_servedOn_191, r_gfSr c_M_servedOn_192 o10 rfl, r_il4 c_M_servedOn_195, r_ial c_M_servedOn_197, r_al0 c_M_servedOn_198, r_gfSr c_M_servedOn_199 o10 rfl, r_il4 c_M_servedOn_202, r_ci c_M_servedOn_204, r_iadd c_M_servedOn_205, r_ial c_M_servedOn_206, r_icge c_M_servedOn_207, r_al0 c_M_servedOn_210, r_il1 c_M_servedOn_211, r_al0 c_M_servedOn_212, r_gfSr c_M_servedOn_213 o10 rfl, r_il4 c_M_servedOn_216, r_ial c_M_servedOn_218, r_cv3 c_M_servedOn_219, r_ifeq c_M_servedOn_222, r_al0 c_M_servedOn_225, r_gfSr c_M_servedOn_226 o10 rfl, r_il4 c_M_servedOn_229, r_ci c_M_servedOn_231, r_iadd c_M_servedOn_232, r_ial c_M_servedOn_233, r_al0 c_M_servedOn_234, r_gfSr c_M_servedOn_235 o10 rfl, r_il4 c_M_servedOn_238, r_ial c_M_servedOn_240, r_isub c_M_servedOn_241, r_goto c_M_servedOn_242, r_ci c_M_servedOn_245, r_iadd c_M_servedOn_246, r_is3 c_M_servedOn_247, r_inc4 c_M_servedOn_248, r_goto c_M_servedOn_251, ↓reduceIte, hs_h, Option.bind_some, mfix_i, mfix_r, mfix_n, mfix_a, Option.toList_some, Option.toList_none, List.cons_append, List.nil_append, List.singleton_append, mwt, Value.category, Nat.reduceAdd, Nat.reduceLeDiff, true_and, and_true, and_self, m10, nI_1, mia_I hi2 (show i < 102 by omega) (by decide), mia_I hi2 (show i + 1 < 102 by omega) (by decide), pt_a, q1, q2, hc, if_false, ih]
  have b1 : (rfor (spM (iA S 94) c D) 0 n (ptA (ptA (iA S 102, 0) 0 D) D D)).2 ≤ 2 + 2 * n ∧ 2 ≤ (rfor (spM (iA S 94) c D) 0 n (ptA (ptA (iA S 102, 0) 0 D) D D)).2 := by
    have : ∀ m i (s : (Nat → Int32) × Nat), s.2 ≤ (rfor (spM (iA S 94) c D) i m s).2 ∧ (rfor (spM (iA S 94) c D) i m s).2 ≤ s.2 + 2 * m := by
      intro m
      induction m with
      | zero => intro i s; exact ⟨Nat.le_refl _, Nat.le_refl _⟩
      | succ m ih =>
        intro i s
        have := ih (i + 1) (spM (iA S 94) c D i s)
        have h2 : s.2 ≤ (spM (iA S 94) c D i s).2 ∧ (spM (iA S 94) c D i s).2 ≤ s.2 + 2 := by
          rw [spM]; split
          · rw [pA2, pA2]; omega
          · omega
        rw [rfor]
        omega
    have := this n 0 (ptA (ptA (iA S 102, 0) 0 D) D D)
    rw [pA2, pA2] at this
    simp only at this
    omega
  have b2 : (poM (iA S 94) n ng c D (iA S 102)).2 ≤ 102 ∧ 2 ≤ (poM (iA S 94) n ng c D (iA S 102)).2 := by
    have : ∀ m i (s : (Nat → Int32) × Nat), s.2 ≤ (rfor (gaM (iA S 94) c D) i m s).2 ∧ (rfor (gaM (iA S 94) c D) i m s).2 ≤ s.2 + 2 * m := by
      intro m
      induction m with
      | zero => intro i s; exact ⟨Nat.le_refl _, Nat.le_refl _⟩
      | succ m ih =>
        intro i s
        have := ih (i + 1) (gaM (iA S 94) c D i s)
        have h2 : s.2 ≤ (gaM (iA S 94) c D i s).2 ∧ (gaM (iA S 94) c D i s).2 ≤ s.2 + 2 := by
          rw [gaM]; split
          · rw [pA2, pA2]; omega
          · omega
        rw [rfor]
        omega
    have := this ng 0 (rfor (spM (iA S 94) c D) 0 n (ptA (ptA (iA S 102, 0) 0 D) D D))
    rw [poM]
    omega
  have z0 : sF S 93 12 0 = ptS S (iA S 102) 0 := by
    have : sA S 102 (iA S 102) = S := by
      funext q
      by_cases h2 : q = 102
      · subst h2; simp only [sA, va_up, if_true]
      · simp only [sA, va_up, h2, if_false]
    rw [ptS, this, nI_0]
  obtain ⟨w1, e1⟩ := l1 n 0 (ptA (ptA (iA S 102, 0) 0 D) D D) (.retAddr 0) (by rw [pA2, pA2]; simp) (by omega)
  obtain ⟨w2, e2⟩ := l2 ng 0 (rfor (spM (iA S 94) c D) 0 n (ptA (ptA (iA S 102, 0) 0 D) D D)) w1 (by omega) (by omega)
  have e3 := l3 (poM (iA S 94) n ng c D (iA S 102)).1 (poM (iA S 94) n ng c D (iA S 102)).2 b2.1 ((poM (iA S 94) n ng c D (iA S 102)).2 - 1) 0 0 (by omega)
  rw [nI_0] at e1 e2 e3
  have p0 := fun d => mp d (iA S 102, 0) 0 D (show 0 < 102 by omega)
  have p1 := fun d => mp d (ptA (iA S 102, 0) 0 D) D D (by rw [pA2]; show 0 + 1 < 102; omega)
  simp only [ment, mfl, List.length, List.replicate, List.cons_append, List.nil_append, Nat.reduceAdd, Nat.reduceSub]
  simp only [r_al0 c_M_servedOn_0, r_ci c_M_servedOn_1, r_pfS c_M_servedOn_2 o10 rfl, r_al0 c_M_servedOn_5, r_ci c_M_servedOn_6, r_il2 c_M_servedOn_7, r_cv3 c_M_servedOn_8, r_al0 c_M_servedOn_11, r_il2 c_M_servedOn_12, r_il2 c_M_servedOn_13, r_cv3 c_M_servedOn_14, r_ci c_M_servedOn_17, r_is3 c_M_servedOn_18, ↓reduceIte, hs_h, Option.bind_some, mfix_i, mfix_r, mfix_n, mfix_a, Option.toList_some, Option.toList_none, List.cons_append, List.nil_append, List.singleton_append, mwt, Value.category, Nat.reduceAdd, Nat.reduceLeDiff, true_and, and_true, and_self, m10, z0, p0, p1, e1]
  simp only [r_ci c_M_servedOn_102, r_is3 c_M_servedOn_103, ↓reduceIte, hs_h, Option.bind_some, mfix_i, mfix_r, mfix_n, mfix_a, Option.toList_some, Option.toList_none, List.cons_append, List.nil_append, List.singleton_append, e2]
  simp only [r_ci c_M_servedOn_174, r_is3 c_M_servedOn_175, r_ci c_M_servedOn_176, r_is4 c_M_servedOn_177, ↓reduceIte, hs_h, Option.bind_some, mfix_i, mfix_r, mfix_n, mfix_a, Option.toList_some, Option.toList_none, List.cons_append, List.nil_append, List.singleton_append]
  exact e3
end MSERVED
