/-! call: sheet -/
section SHCALL
variable {E : EE} {S : SS} {b d k n m i j p a s q : Nat} {c v w x y l : Int32}
theorem M_sheet_ok (hE : okE E) (hs4 : s < 4) (hw : wiS (nI s) 0 3 = 1) (hv : wiS v (-1) 2 = 1) (hy : v < 0 ∧ y = 0 ∨ ¬ v < 0 ∧ y = w ∧ w ≤ 24 ∧ 0 ≤ w) : ∀ d, mres cT 249 d 0 (ment 5 [.ref 93, .int (nI s), .int v, .int w]) [] (hs E (sbS S (84 + 2 * s) v y)) = some (some (.int y), hs E (shN S s v y)) := fun d => by
  have o10 := o_M hE
  have m10 := m_M hE
  have e99 : iA (sbS S (84 + 2 * s) v y) 99 = iA S 99 := by rw [sbS, iA_sL, iA_sF, iA_sF]
  have e100 : ∀ g, iA (sA (sbS S (84 + 2 * s) v y) 99 g) 100 = iA S 100 := fun g => by rw [iA_sA_ne (by omega), sbS, iA_sL, iA_sF, iA_sF]
  have e101 : iL (sA (sA (sbS S (84 + 2 * s) v y) 99 (upd (iA S 99) s v)) 100 (upd (iA S 100) s y)) 101 = iL S 101 := by
    simp only [iL, sA, va_up, sbS, sL, sF, show (101 : Nat) ≠ 100 by decide, show (101 : Nat) ≠ 99 by decide, show 101 ≠ 84 + 2 * s + 1 by omega, show 101 ≠ 84 + 2 * s by omega, if_false]
  have l0 := M_sheet_lp (S := sA (sA (sbS S (84 + 2 * s) v y) 99 (upd (iA S 99) s v)) 100 (upd (iA S 100) s y)) (d := d) (x := v) (y := w) hE hs4 24 0 (by omega)
  rw [e101, iA_sA, pk_us] at l0
  have f0 : sL (sA (sA (sbS S (84 + 2 * s) v y) 99 (upd (iA S 99) s v)) 100 (upd (iA S 100) s y)) 101 (flM (iL S 101) s 0) = sA (sA (sbS S (84 + 2 * s) v y) 99 (upd (iA S 99) s v)) 100 (upd (iA S 100) s y) := by
    have : flM (iL S 101) s 0 = iL (sA (sA (sbS S (84 + 2 * s) v y) 99 (upd (iA S 99) s v)) 100 (upd (iA S 100) s y)) 101 := by
      rw [e101]; funext j; rw [flM, if_neg (by omega)]
    rw [this, sL_self]
  rw [f0, show nI 0 = 0 by decide] at l0
  rcases hy with ⟨h1, h2⟩ | ⟨h1, h2, h3, h4⟩
  · subst h2
    simp only [ment, mfl, List.length, List.replicate, List.cons_append, List.nil_append, Nat.reduceAdd, Nat.reduceSub]
    simp only [r_il1 c_M_sheet_0, r_ca1 c_M_sheet_1, r_ifeq c_M_sheet_4, r_il2 c_M_sheet_7, r_i2l c_M_sheet_8, r_cl c_M_sheet_9, r_cl c_M_sheet_12, r_ca3 c_M_sheet_15, r_ifeq c_M_sheet_18, r_il2 c_M_sheet_21, r_iflt c_M_sheet_22, r_il3 c_M_sheet_25, r_ci c_M_sheet_26, r_icle c_M_sheet_28, r_ci c_M_sheet_31, r_iret c_M_sheet_33, r_il2 c_M_sheet_34, r_iflt c_M_sheet_35, r_il3 c_M_sheet_38, r_ifge c_M_sheet_39, r_ci c_M_sheet_42, r_iret c_M_sheet_45, r_al0 c_M_sheet_46, r_gfSr c_M_sheet_47 o10 rfl, r_il1 c_M_sheet_50, r_il2 c_M_sheet_51, r_ias c_M_sheet_52, r_al0 c_M_sheet_53, r_gfSr c_M_sheet_54 o10 rfl, r_il1 c_M_sheet_57, r_il2 c_M_sheet_58, r_ifge c_M_sheet_59, r_ci c_M_sheet_62, r_goto c_M_sheet_63, r_il3 c_M_sheet_66, r_ias c_M_sheet_67, r_ci c_M_sheet_68, r_is4 c_M_sheet_69, ↓reduceIte, hs_h, Option.bind_some, mfix_i, mfix_r, mfix_n, mfix_a, Option.toList_some, Option.toList_none, List.cons_append, List.nil_append, List.singleton_append, mwt, Value.category, Nat.reduceAdd, Nat.reduceLeDiff, true_and, and_true, and_self, M_isSheet_ok, hw, hv, one_nz, if_false, if_true, M_within_k (y := -1) (w := 2) (y' := -1) (w' := 2) (by decide) (by decide), h1, show ¬ (0 : Int32) ≤ v from Int32.not_le.2 h1, mis_I (iM99 hE) hs4 (by decide), hs_I (iM99 hE), mis_I (iM100 hE) hs4 (by decide), hs_I (iM100 hE), e99, e100, l0, shN]
  · subst h2
    simp only [ment, mfl, List.length, List.replicate, List.cons_append, List.nil_append, Nat.reduceAdd, Nat.reduceSub]
    simp only [r_il1 c_M_sheet_0, r_ca1 c_M_sheet_1, r_ifeq c_M_sheet_4, r_il2 c_M_sheet_7, r_i2l c_M_sheet_8, r_cl c_M_sheet_9, r_cl c_M_sheet_12, r_ca3 c_M_sheet_15, r_ifeq c_M_sheet_18, r_il2 c_M_sheet_21, r_iflt c_M_sheet_22, r_il3 c_M_sheet_25, r_ci c_M_sheet_26, r_icle c_M_sheet_28, r_ci c_M_sheet_31, r_iret c_M_sheet_33, r_il2 c_M_sheet_34, r_iflt c_M_sheet_35, r_il3 c_M_sheet_38, r_ifge c_M_sheet_39, r_ci c_M_sheet_42, r_iret c_M_sheet_45, r_al0 c_M_sheet_46, r_gfSr c_M_sheet_47 o10 rfl, r_il1 c_M_sheet_50, r_il2 c_M_sheet_51, r_ias c_M_sheet_52, r_al0 c_M_sheet_53, r_gfSr c_M_sheet_54 o10 rfl, r_il1 c_M_sheet_57, r_il2 c_M_sheet_58, r_ifge c_M_sheet_59, r_ci c_M_sheet_62, r_goto c_M_sheet_63, r_il3 c_M_sheet_66, r_ias c_M_sheet_67, r_ci c_M_sheet_68, r_is4 c_M_sheet_69, ↓reduceIte, hs_h, Option.bind_some, mfix_i, mfix_r, mfix_n, mfix_a, Option.toList_some, Option.toList_none, List.cons_append, List.nil_append, List.singleton_append, mwt, Value.category, Nat.reduceAdd, Nat.reduceLeDiff, true_and, and_true, and_self, M_isSheet_ok, hw, hv, one_nz, if_false, if_true, M_within_k (y := -1) (w := 2) (y' := -1) (w' := 2) (by decide) (by decide), h1, h3, h4, show (0 : Int32) ≤ v from Int32.not_lt.1 h1, mis_I (iM99 hE) hs4 (by decide), hs_I (iM99 hE), mis_I (iM100 hE) hs4 (by decide), hs_I (iM100 hE), e99, e100, l0, shN]
end SHCALL
