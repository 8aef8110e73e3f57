/-! texts: the codes worked off -/
section VAL
variable {E : EE} {S : SS} {d b q len : Nat} {x0 x1 x2 x3 : Int32}
def nxD (c : Int32) (k : Nat) : Nat := if c < -4 then if c = -33 then k else k - 1 else k + 1
def depc (f : Nat → Int32) : Nat → Nat
  | 0 => 0
  | i + 1 => nxD (f i) (depc f i)
def okD (c : Int32) (k : Nat) : Prop := if c < -4 then if c = -33 then 1 ≤ k ∧ k ≤ 96 else 2 ≤ k ∧ k ≤ 96 else k < 96
def wfc (f : Nat → Int32) (len : Nat) : Prop := (∀ i, i < len → okD (f i) (depc f i)) ∧ depc f len = 1
def evG (f : Nat → Int32) (x0 x1 x2 x3 : Int32) (i : Nat) (g : Nat → Int32) : Nat → Int32 :=
  if f i < 0 then if f i < -4 then if f i = -33 then upd g (depc f i - 1) (if g (depc f i - 1) = 0 then 1 else 0)
    else upd g (depc f i - 2) (jnS (g (depc f i - 2)) (-(f i)) (g (depc f i - 1)))
    else upd g (depc f i) (nmS (-1 - f i) x0 x1 x2 x3)
  else upd g (depc f i) (f i)
def evL (f : Nat → Int32) (len : Nat) (x0 x1 x2 x3 : Int32) (g : Nat → Int32) : Nat → Int32 := rfor (evG f x0 x1 x2 x3) 0 len g
theorem hp_cg {E : EE} {S S' : SS} {a : Nat} (h : S' a = S a) : hp E S' a = hp E S a := by rw [hp, hp, h]
theorem m33a : ((-33 : Int32) < 0) = True := eq_true (by decide)
theorem m33b : ((-33 : Int32) < -4) = True := eq_true (by decide)
theorem T_value_ok (hE : okE E) (hb : bkb b) (o6 : isO E q 6 [0, 0, 0, 0, q + 3]) (hq : 109 ≤ q) (hQ : hp E S (q + 1) = shI 0 len (S (q + 1))) (hl : len ≤ 96) (hw : wfc (iA S (q + 1)) len) :
    mres cT 83 d 0 (ment 10 [.ref q, .ref (b + 24), .int x0, .int x1, .int x2, .int x3]) [] (hs E S) = some (some (.int (evL (iA S (q + 1)) len x0 x1 x2 x3 (iA S (b + 25)) 0)), hs E (stk S b (evL (iA S (q + 1)) len x0 x1 x2 x3 (iA S (b + 25))) 0)) := by
  have o4 := o_K hE hb
  have m4 : ∀ S, misc (hp E S (b + 24)) 4 = true := fun S => misc_o o4
  have bl := bkb_lt hb
  have hS : ∀ g k, stk S b g k (q + 1) = S (q + 1) := fun g k => stk_o (by omega) (by omega)
  have hQ' : ∀ g k, hp E (stk S b g k) (q + 1) = shI 0 len (stk S b g k (q + 1)) := fun g k => by rw [hp_cg (hS g k), hQ, hS]
  have hA : ∀ g k, iA (stk S b g k) (q + 1) = iA S (q + 1) := fun g k => by rw [iA, hS]
  have lp : ∀ m i g z7 z8 z9, i + m = len → mres cT 83 d 7 [.ref q, .ref (b + 24), .int x0, .int x1, .int x2, .int x3, .int (nI i), z7, z8, z9] [] (hs E (stk S b g (depc (iA S (q + 1)) i))) = some (some (.int (rfor (evG (iA S (q + 1)) x0 x1 x2 x3) i m g 0)), hs E (stk S b (rfor (evG (iA S (q + 1)) x0 x1 x2 x3) i m g) 0)) := by
    intro m
    induction m with
    | zero =>
      intro i g z7 z8 z9 hi
      have h1 : nI len ≤ nI i := nI_le (by omega) (by omega)
      have h2 : depc (iA S (q + 1)) i = 0 + 1 := by rw [show i = len by omega]; exact hw.2
      rw [h2]
      simp only [r_il6 c_T_value_7, r_al0 c_T_value_9, r_gfSr c_T_value_10 o6 rfl, r_len c_T_value_13, r_icge c_T_value_14, r_al1 c_T_value_125, r_cv1 c_T_value_126, r_iret c_T_value_129, ↓reduceIte, hs_h, Option.bind_some, mfix_i, mfix_r, mfix_n, mfix_a, Option.toList_some, Option.toList_none, List.cons_append, List.nil_append, List.singleton_append, mwt, Value.category, Nat.reduceAdd, Nat.reduceLeDiff, true_and, and_true, and_self, m4, mlen_h (hQ' _ _), h1, if_true, rfor, K_pop_ok hE hb (show 0 < 96 by decide)]
    | succ m ih =>
      intro i g z7 z8 z9 hi
      have h1 : ¬ nI len ≤ nI i := nI_ge (by omega) (by omega)
      have hi2 : i < len := by omega
      have hk := hw.1 i hi2
      have ih := fun g z7 z8 z9 => ih (i + 1) g z7 z8 z9 (by omega)
      rw [depc] at ih
      simp only [r_il6 c_T_value_7, r_al0 c_T_value_9, r_gfSr c_T_value_10 o6 rfl, r_len c_T_value_13, r_icge c_T_value_14, ↓reduceIte, hs_h, Option.bind_some, mfix_i, mfix_r, mfix_n, mfix_a, Option.toList_some, Option.toList_none, List.cons_append, List.nil_append, List.singleton_append, mlen_h (hQ' _ _), h1]
      rw [okD] at hk
      rw [nxD] at ih
      rw [rfor, evG]
      by_cases c0 : iA S (q + 1) i < 0
      · by_cases c4 : iA S (q + 1) i < -4
        · by_cases c3 : iA S (q + 1) i = -33
          · rw [if_pos c4, if_pos c3] at hk
            simp only [c4, c3, if_true, m33b] at ih
            obtain ⟨k, e⟩ : ∃ k, depc (iA S (q + 1)) i = k + 1 := ⟨depc (iA S (q + 1)) i - 1, by omega⟩
            rw [e] at hk ih ⊢
            have hk2 : k < 96 := by omega
            by_cases z : g k = 0
            · simp only [r_al0 c_T_value_17, r_gfSr c_T_value_18 o6 rfl, r_il6 c_T_value_21, r_ial c_T_value_23, r_is7 c_T_value_24, r_il7 c_T_value_26, r_iflt c_T_value_28, r_al1 c_T_value_31, r_il7 c_T_value_32, r_cv2 c_T_value_34, r_goto c_T_value_37, r_il7 c_T_value_40, r_ci c_T_value_42, r_iclt c_T_value_44, r_al1 c_T_value_47, r_ci c_T_value_48, r_il7 c_T_value_49, r_isub c_T_value_51, r_il2 c_T_value_52, r_il3 c_T_value_53, r_il4 c_T_value_54, r_il5 c_T_value_56, r_ca5 c_T_value_58, r_cv2 c_T_value_61, r_goto c_T_value_64, r_il7 c_T_value_67, r_ci c_T_value_69, r_icne c_T_value_71, r_al1 c_T_value_74, r_al1 c_T_value_75, r_cv1 c_T_value_76, r_ifne c_T_value_79, r_ci c_T_value_82, r_goto c_T_value_83, r_ci c_T_value_86, r_cv2 c_T_value_87, r_goto c_T_value_90, r_al1 c_T_value_93, r_cv1 c_T_value_94, r_is8 c_T_value_97, r_al1 c_T_value_99, r_cv1 c_T_value_100, r_is9 c_T_value_103, r_al1 c_T_value_105, r_il9 c_T_value_106, r_il7 c_T_value_108, r_ineg c_T_value_110, r_il8 c_T_value_111, r_ca3 c_T_value_113, r_cv2 c_T_value_116, r_inc6 c_T_value_119, r_goto c_T_value_122, ↓reduceIte, hs_h, Option.bind_some, mfix_i, mfix_r, mfix_n, mfix_a, Option.toList_some, Option.toList_none, List.cons_append, List.nil_append, List.singleton_append, mwt, Value.category, Nat.reduceAdd, Nat.reduceLeDiff, true_and, and_true, and_self, m4, mia_h (hQ' _ _) hi2 (show len ≤ 10000 by omega), hA, c0, c4, c3, if_true, if_false, K_pop_ok hE hb hk2, K_push_ok hE hb hk2, z, nI_1, ih, Nat.add_sub_cancel, m33a, m33b]
            · simp only [r_al0 c_T_value_17, r_gfSr c_T_value_18 o6 rfl, r_il6 c_T_value_21, r_ial c_T_value_23, r_is7 c_T_value_24, r_il7 c_T_value_26, r_iflt c_T_value_28, r_al1 c_T_value_31, r_il7 c_T_value_32, r_cv2 c_T_value_34, r_goto c_T_value_37, r_il7 c_T_value_40, r_ci c_T_value_42, r_iclt c_T_value_44, r_al1 c_T_value_47, r_ci c_T_value_48, r_il7 c_T_value_49, r_isub c_T_value_51, r_il2 c_T_value_52, r_il3 c_T_value_53, r_il4 c_T_value_54, r_il5 c_T_value_56, r_ca5 c_T_value_58, r_cv2 c_T_value_61, r_goto c_T_value_64, r_il7 c_T_value_67, r_ci c_T_value_69, r_icne c_T_value_71, r_al1 c_T_value_74, r_al1 c_T_value_75, r_cv1 c_T_value_76, r_ifne c_T_value_79, r_ci c_T_value_82, r_goto c_T_value_83, r_ci c_T_value_86, r_cv2 c_T_value_87, r_goto c_T_value_90, r_al1 c_T_value_93, r_cv1 c_T_value_94, r_is8 c_T_value_97, r_al1 c_T_value_99, r_cv1 c_T_value_100, r_is9 c_T_value_103, r_al1 c_T_value_105, r_il9 c_T_value_106, r_il7 c_T_value_108, r_ineg c_T_value_110, r_il8 c_T_value_111, r_ca3 c_T_value_113, r_cv2 c_T_value_116, r_inc6 c_T_value_119, r_goto c_T_value_122, ↓reduceIte, hs_h, Option.bind_some, mfix_i, mfix_r, mfix_n, mfix_a, Option.toList_some, Option.toList_none, List.cons_append, List.nil_append, List.singleton_append, mwt, Value.category, Nat.reduceAdd, Nat.reduceLeDiff, true_and, and_true, and_self, m4, mia_h (hQ' _ _) hi2 (show len ≤ 10000 by omega), hA, c0, c4, c3, if_true, if_false, K_pop_ok hE hb hk2, K_push_ok hE hb hk2, z, nI_1, ih, Nat.add_sub_cancel, m33a, m33b]
          · rw [if_pos c4, if_neg c3] at hk
            simp only [c4, c3, if_true, if_false] at ih
            obtain ⟨k, e⟩ : ∃ k, depc (iA S (q + 1)) i = k + 1 + 1 := ⟨depc (iA S (q + 1)) i - 2, by omega⟩
            rw [e] at hk ih ⊢
            have hk2 : k < 96 := by omega
            have hk3 : k + 1 < 96 := by omega
            rw [show k + 1 + 1 - 1 = k + 1 by omega] at ih ⊢
            rw [show k + 1 + 1 - 2 = k by omega]
            simp only [r_al0 c_T_value_17, r_gfSr c_T_value_18 o6 rfl, r_il6 c_T_value_21, r_ial c_T_value_23, r_is7 c_T_value_24, r_il7 c_T_value_26, r_iflt c_T_value_28, r_al1 c_T_value_31, r_il7 c_T_value_32, r_cv2 c_T_value_34, r_goto c_T_value_37, r_il7 c_T_value_40, r_ci c_T_value_42, r_iclt c_T_value_44, r_al1 c_T_value_47, r_ci c_T_value_48, r_il7 c_T_value_49, r_isub c_T_value_51, r_il2 c_T_value_52, r_il3 c_T_value_53, r_il4 c_T_value_54, r_il5 c_T_value_56, r_ca5 c_T_value_58, r_cv2 c_T_value_61, r_goto c_T_value_64, r_il7 c_T_value_67, r_ci c_T_value_69, r_icne c_T_value_71, r_al1 c_T_value_74, r_al1 c_T_value_75, r_cv1 c_T_value_76, r_ifne c_T_value_79, r_ci c_T_value_82, r_goto c_T_value_83, r_ci c_T_value_86, r_cv2 c_T_value_87, r_goto c_T_value_90, r_al1 c_T_value_93, r_cv1 c_T_value_94, r_is8 c_T_value_97, r_al1 c_T_value_99, r_cv1 c_T_value_100, r_is9 c_T_value_103, r_al1 c_T_value_105, r_il9 c_T_value_106, r_il7 c_T_value_108, r_ineg c_T_value_110, r_il8 c_T_value_111, r_ca3 c_T_value_113, r_cv2 c_T_value_116, r_inc6 c_T_value_119, r_goto c_T_value_122, ↓reduceIte, hs_h, Option.bind_some, mfix_i, mfix_r, mfix_n, mfix_a, Option.toList_some, Option.toList_none, List.cons_append, List.nil_append, List.singleton_append, mwt, Value.category, Nat.reduceAdd, Nat.reduceLeDiff, true_and, and_true, and_self, m4, mia_h (hQ' _ _) hi2 (show len ≤ 10000 by omega), hA, c0, c4, c3, if_true, if_false, K_pop_ok hE hb hk2, K_pop_ok hE hb hk3, K_push_ok hE hb hk2, T_joined_ok, nI_1, ih]
        · rw [if_neg c4] at hk
          simp only [c4, if_false] at ih
          simp only [r_al0 c_T_value_17, r_gfSr c_T_value_18 o6 rfl, r_il6 c_T_value_21, r_ial c_T_value_23, r_is7 c_T_value_24, r_il7 c_T_value_26, r_iflt c_T_value_28, r_al1 c_T_value_31, r_il7 c_T_value_32, r_cv2 c_T_value_34, r_goto c_T_value_37, r_il7 c_T_value_40, r_ci c_T_value_42, r_iclt c_T_value_44, r_al1 c_T_value_47, r_ci c_T_value_48, r_il7 c_T_value_49, r_isub c_T_value_51, r_il2 c_T_value_52, r_il3 c_T_value_53, r_il4 c_T_value_54, r_il5 c_T_value_56, r_ca5 c_T_value_58, r_cv2 c_T_value_61, r_goto c_T_value_64, r_il7 c_T_value_67, r_ci c_T_value_69, r_icne c_T_value_71, r_al1 c_T_value_74, r_al1 c_T_value_75, r_cv1 c_T_value_76, r_ifne c_T_value_79, r_ci c_T_value_82, r_goto c_T_value_83, r_ci c_T_value_86, r_cv2 c_T_value_87, r_goto c_T_value_90, r_al1 c_T_value_93, r_cv1 c_T_value_94, r_is8 c_T_value_97, r_al1 c_T_value_99, r_cv1 c_T_value_100, r_is9 c_T_value_103, r_al1 c_T_value_105, r_il9 c_T_value_106, r_il7 c_T_value_108, r_ineg c_T_value_110, r_il8 c_T_value_111, r_ca3 c_T_value_113, r_cv2 c_T_value_116, r_inc6 c_T_value_119, r_goto c_T_value_122, ↓reduceIte, hs_h, Option.bind_some, mfix_i, mfix_r, mfix_n, mfix_a, Option.toList_some, Option.toList_none, List.cons_append, List.nil_append, List.singleton_append, mwt, Value.category, Nat.reduceAdd, Nat.reduceLeDiff, true_and, and_true, and_self, m4, mia_h (hQ' _ _) hi2 (show len ≤ 10000 by omega), hA, c0, c4, if_true, if_false, K_push_ok hE hb hk, T_named_ok, nI_1, ih]
      · have c4 : ¬ iA S (q + 1) i < -4 := fun h => c0 (Int32.lt_trans h (by decide))
        rw [if_neg c4] at hk
        simp only [c4, if_false] at ih
        simp only [r_al0 c_T_value_17, r_gfSr c_T_value_18 o6 rfl, r_il6 c_T_value_21, r_ial c_T_value_23, r_is7 c_T_value_24, r_il7 c_T_value_26, r_iflt c_T_value_28, r_al1 c_T_value_31, r_il7 c_T_value_32, r_cv2 c_T_value_34, r_goto c_T_value_37, r_il7 c_T_value_40, r_ci c_T_value_42, r_iclt c_T_value_44, r_al1 c_T_value_47, r_ci c_T_value_48, r_il7 c_T_value_49, r_isub c_T_value_51, r_il2 c_T_value_52, r_il3 c_T_value_53, r_il4 c_T_value_54, r_il5 c_T_value_56, r_ca5 c_T_value_58, r_cv2 c_T_value_61, r_goto c_T_value_64, r_il7 c_T_value_67, r_ci c_T_value_69, r_icne c_T_value_71, r_al1 c_T_value_74, r_al1 c_T_value_75, r_cv1 c_T_value_76, r_ifne c_T_value_79, r_ci c_T_value_82, r_goto c_T_value_83, r_ci c_T_value_86, r_cv2 c_T_value_87, r_goto c_T_value_90, r_al1 c_T_value_93, r_cv1 c_T_value_94, r_is8 c_T_value_97, r_al1 c_T_value_99, r_cv1 c_T_value_100, r_is9 c_T_value_103, r_al1 c_T_value_105, r_il9 c_T_value_106, r_il7 c_T_value_108, r_ineg c_T_value_110, r_il8 c_T_value_111, r_ca3 c_T_value_113, r_cv2 c_T_value_116, r_inc6 c_T_value_119, r_goto c_T_value_122, ↓reduceIte, hs_h, Option.bind_some, mfix_i, mfix_r, mfix_n, mfix_a, Option.toList_some, Option.toList_none, List.cons_append, List.nil_append, List.singleton_append, mwt, Value.category, Nat.reduceAdd, Nat.reduceLeDiff, true_and, and_true, and_self, m4, mia_h (hQ' _ _) hi2 (show len ≤ 10000 by omega), hA, c0, if_true, if_false, K_push_ok hE hb hk, nI_1, ih]
  simp only [ment, mfl, List.length, List.replicate, List.cons_append, List.nil_append, Nat.reduceAdd, Nat.reduceSub]
  simp only [r_al1 c_T_value_0, r_cv1 c_T_value_1, r_ci c_T_value_4, r_is6 c_T_value_5, ↓reduceIte, hs_h, Option.bind_some, mfix_i, mfix_r, mfix_n, mfix_a, Option.toList_some, Option.toList_none, List.cons_append, List.nil_append, List.singleton_append, mwt, Value.category, Nat.reduceAdd, Nat.reduceLeDiff, true_and, and_true, and_self, m4, K_clear_ok hE hb]
  exact lp len 0 _ _ _ _ (by omega)
end VAL
