/-! rows of ints: more of it -/
section ROWS2
variable {E : EE} {S : SS} {d lim wid r k : Nat} {row col v x0 x1 x2 x3 : Int32}
theorem nI_mul_add {i w c : Nat} : nI i * nI w + nI c = nI (i * w + c) := by rw [pk_mul, nI_add]
theorem rwAt_n {f : Nat → Int32} {i c : Nat} (hi : i < lim) (hc : c < wid) (hl : lim * wid ≤ 1000) : rwAt lim wid f (nI i) (nI c) = f (i * wid + c) := by
  have h1 : i * wid + c < lim * wid := by
    have : (i + 1) * wid ≤ lim * wid := Nat.mul_le_mul_right _ hi
    rw [Nat.succ_mul] at this
    omega
  have h2 : wid ≤ lim * wid := Nat.le_mul_of_pos_left _ (by omega)
  rw [rwAt, if_neg, nI_mul_add, nI_clamp (by omega)]
  rw [nI_mul_add]
  rintro (h | h | h | h)
  · exact nI_pos (by omega) h
  · exact nI_ge hc (by omega) h
  · exact nI_pos (by omega) h
  · exact nI_ge h1 (by omega) h
theorem rwPut_n {i c : Nat} (hi : i < lim) (hc : c < wid) (hl : lim * wid ≤ 1000) : rwPut S r lim wid (nI i) (nI c) v = sA S (r + 1) (upd (iA S (r + 1)) (i * wid + c) v) := by
  have h1 : i * wid + c < lim * wid := by
    have : (i + 1) * wid ≤ lim * wid := Nat.mul_le_mul_right _ hi
    rw [Nat.succ_mul] at this
    omega
  have h2 : wid ≤ lim * wid := Nat.le_mul_of_pos_left _ (by omega)
  rw [rwPut, if_neg, nI_mul_add, nI_clamp (by omega)]
  rw [nI_mul_add]
  rintro (h | h | h | h)
  · exact nI_pos (by omega) h
  · exact nI_ge hc (by omega) h
  · exact nI_pos (by omega) h
  · exact nI_ge h1 (by omega) h
theorem rwPut_o {i c : Nat} (hc : wid ≤ c) (hc2 : c < 1000) : rwPut S r lim wid (nI i) (nI c) v = S := by
  rw [rwPut, if_pos]
  exact Or.inr (Or.inl (nI_le hc (by omega)))
theorem sA_sA {a : Nat} {f g : Nat → Int32} : sA (sA S a f) a g = sA S a g := by
  funext q
  by_cases h : q = a
  · subst h; simp [sA, va_up]
  · simp [sA, va_up, h]
theorem iA_sA {a : Nat} {f : Nat → Int32} : iA (sA S a f) a = f := by simp [iA, sA, va_up]
theorem iA_sA_ne {a q : Nat} {f : Nat → Int32} (h : q ≠ a) : iA (sA S a f) q = iA S q := by simp [iA, sA, va_up, h]
theorem iF_sA {a q j : Nat} {f : Nat → Int32} : iF (sA S a f) q j = iF S q j := by
  by_cases h : q = a
  · subst h; simp [iF, sA, va_up]
  · simp [iF, sA, va_up, h]
theorem iA_sF {a j q : Nat} {v : Int32} : iA (sF S a j v) q = iA S q := by
  by_cases h : q = a
  · subst h; simp [iA, sF, va_up]
  · simp [iA, sF, va_up, h]
theorem iF_sF {a j : Nat} {v : Int32} : iF (sF S a j v) a j = v := by simp [iF, sF, va_up, upd]
theorem iF_sF_ne {a j q i : Nat} {v : Int32} (h : q ≠ a ∨ i ≠ j) : iF (sF S a j v) q i = iF S q i := by
  by_cases hq : q = a
  · subst hq
    have : i ≠ j := by rcases h with h | h <;> first | exact absurd rfl h | exact h
    simp [iF, sF, va_up, upd, this]
  · simp [iF, sF, va_up, hq]
/-- a row written whole, from a place on -/
def rowSet (f : Nat → Int32) (p wid : Nat) (xs : List Int32) : Nat → Int32 := fun j => if p ≤ j ∧ j < p + wid then xs.getD (j - p) 0 else f j
theorem R_exchange_ok (hR : isR E lim wid r) : mres cT 38 d 0 (ment 5 [.ref r, .int row, .int col, .int v]) [] (hs E S) = some (some (.int (rwAt lim wid (iA S (r + 1)) row col)), hs E (rwPut S r lim wid row col v)) := by
  obtain ⟨h1, h2⟩ := hR.1 S
  simp only [ment, mfl, List.length, List.replicate, List.cons_append, List.nil_append, Nat.reduceAdd, Nat.reduceSub]
  simp only [r_al0 c_R_exchange_0, r_il1 c_R_exchange_1, r_il2 c_R_exchange_2, r_cv3 c_R_exchange_3, r_is4 c_R_exchange_6, r_al0 c_R_exchange_8, r_il1 c_R_exchange_9, r_il2 c_R_exchange_10, r_il3 c_R_exchange_11, r_cv4 c_R_exchange_12, r_il4 c_R_exchange_15, r_iret c_R_exchange_17, ↓reduceIte, hs_h, Option.bind_some, mfix_i, mfix_r, mfix_n, mfix_a, Option.toList_some, Option.toList_none, List.cons_append, List.nil_append, List.singleton_append, mwt, Value.category, Nat.reduceAdd, Nat.reduceLeDiff, true_and, and_true, and_self, h1, shW, misc, beq_self_eq_true, R_at_ok hR, R_put_ok hR]
theorem row_in {f : Nat → Int32} {p w j t : Nat} {xs : List Int32} (h : j = p + t) (ht : t < w) : rowSet f p w xs j = xs.getD t 0 := by
  rw [rowSet, if_pos ⟨by omega, by omega⟩, h, Nat.add_sub_cancel_left]
theorem row_out {f : Nat → Int32} {p w j : Nat} {xs : List Int32} (h : j < p ∨ p + w ≤ j) : rowSet f p w xs j = f j := by
  rw [rowSet, if_neg (by omega)]
theorem row3 {f : Nat → Int32} {p : Nat} : upd (upd (upd f (p + 0) x0) (p + 1) x1) (p + 2) x2 = rowSet f p 3 [x0, x1, x2, x3] := by
  funext j
  by_cases h0 : j = p + 0
  · rw [row_in h0 (by omega)]; subst h0; simp [upd]
  by_cases h1 : j = p + 1
  · rw [row_in h1 (by omega)]; subst h1; simp [upd]
  by_cases h2 : j = p + 2
  · rw [row_in h2 (by omega)]; subst h2; simp [upd]
  rw [row_out (by omega)]
  simp [upd, h0, h1, h2]
  omega
theorem row4 {f : Nat → Int32} {p : Nat} : upd (upd (upd (upd f (p + 0) x0) (p + 1) x1) (p + 2) x2) (p + 3) x3 = rowSet f p 4 [x0, x1, x2, x3] := by
  funext j
  by_cases h0 : j = p + 0
  · rw [row_in h0 (by omega)]; subst h0; simp [upd]
  by_cases h1 : j = p + 1
  · rw [row_in h1 (by omega)]; subst h1; simp [upd]
  by_cases h2 : j = p + 2
  · rw [row_in h2 (by omega)]; subst h2; simp [upd]
  by_cases h3 : j = p + 3
  · rw [row_in h3 (by omega)]; subst h3; simp [upd]
  rw [row_out (by omega)]
  simp [upd, h0, h1, h2, h3]
  omega
theorem row5 {f : Nat → Int32} {p : Nat} : upd (upd (upd (upd (upd f (p + 0) x0) (p + 1) x1) (p + 2) x2) (p + 3) x3) (p + 4) 0 = rowSet f p 5 [x0, x1, x2, x3] := by
  funext j
  by_cases h4 : j = p + 4
  · rw [row_in h4 (by omega)]; subst h4; simp [upd]
  rw [upd, if_neg h4, row4]
  by_cases h : p ≤ j ∧ j < p + 4
  · rw [row_in (t := j - p) (by omega) (by omega), row_in (t := j - p) (by omega) (by omega)]
  · rw [row_out (by omega), row_out (by omega)]
theorem row6 {f : Nat → Int32} {p : Nat} : upd (upd (upd (upd (upd (upd f (p + 0) x0) (p + 1) x1) (p + 2) x2) (p + 3) x3) (p + 4) 0) (p + 5) 0 = rowSet f p 6 [x0, x1, x2, x3] := by
  funext j
  by_cases h5 : j = p + 5
  · rw [row_in h5 (by omega)]; subst h5; simp [upd]
  rw [upd, if_neg h5, row5]
  by_cases h : p ≤ j ∧ j < p + 5
  · rw [row_in (t := j - p) (by omega) (by omega), row_in (t := j - p) (by omega) (by omega)]
  · rw [row_out (by omega), row_out (by omega)]
theorem pc0 (hi : k < lim) (hc : 0 < wid) (hl : lim * wid ≤ 1000) : rwPut S r lim wid (nI k) 0 v = sA S (r + 1) (upd (iA S (r + 1)) (k * wid + 0) v) := rwPut_n (c := 0) hi hc hl
theorem pc1 (hi : k < lim) (hc : 1 < wid) (hl : lim * wid ≤ 1000) : rwPut S r lim wid (nI k) 1 v = sA S (r + 1) (upd (iA S (r + 1)) (k * wid + 1) v) := rwPut_n (c := 1) hi hc hl
theorem pc2 (hi : k < lim) (hc : 2 < wid) (hl : lim * wid ≤ 1000) : rwPut S r lim wid (nI k) 2 v = sA S (r + 1) (upd (iA S (r + 1)) (k * wid + 2) v) := rwPut_n (c := 2) hi hc hl
theorem pc3 (hi : k < lim) (hc : 3 < wid) (hl : lim * wid ≤ 1000) : rwPut S r lim wid (nI k) 3 v = sA S (r + 1) (upd (iA S (r + 1)) (k * wid + 3) v) := rwPut_n (c := 3) hi hc hl
theorem pc4 (hi : k < lim) (hc : 4 < wid) (hl : lim * wid ≤ 1000) : rwPut S r lim wid (nI k) 4 v = sA S (r + 1) (upd (iA S (r + 1)) (k * wid + 4) v) := rwPut_n (c := 4) hi hc hl
theorem pc5 (hi : k < lim) (hc : 5 < wid) (hl : lim * wid ≤ 1000) : rwPut S r lim wid (nI k) 5 v = sA S (r + 1) (upd (iA S (r + 1)) (k * wid + 5) v) := rwPut_n (c := 5) hi hc hl
theorem po3 (hc : wid ≤ 3) : rwPut S r lim wid (nI k) 3 v = S := rwPut_o (c := 3) hc (by omega)
theorem R_more_ok (hR : isR E lim wid r) (hk : iF S r 3 = nI k) (hk2 : k < lim) (hw : wid = 3 ∨ wid = 4 ∨ wid = 5 ∨ wid = 6) : mres cT 14 d 0 (ment 7 [.ref r, .int x0, .int x1, .int x2, .int x3]) [] (hs E S) = some (some (.int (nI k)), hs E (sA (sF S r 3 (nI (k + 1))) (r + 1) (rowSet (iA S (r + 1)) (k * wid) wid [x0, x1, x2, x3]))) := by
  have h1 := fun S => (hR.1 S).1
  have e34 : (nI 3 ≤ (4 : Int32)) = True := by decide
  have e44 : (nI 4 ≤ (4 : Int32)) = True := by decide
  have e54 : (nI 5 ≤ (4 : Int32)) = False := by decide
  have e55 : (nI 5 ≤ ((4 : Int32) + 1)) = True := by decide
  have e64 : (nI 6 ≤ (4 : Int32)) = False := by decide
  have e65 : (nI 6 ≤ (5 : Int32)) = False := by decide
  have e66 : (nI 6 ≤ ((5 : Int32) + 1)) = True := by decide
  have e5 : (4 : Int32) + 1 = 5 := by decide
  have hl := hR.2.2.1
  rcases hw with rfl | rfl | rfl | rfl
  · simp only [ment, mfl, List.length, List.replicate, List.cons_append, List.nil_append, Nat.reduceAdd, Nat.reduceSub]
    simp only [r_al0 c_R_more_0, r_gf c_R_more_1, r_is5 c_R_more_4, r_al0 c_R_more_6, r_dupi c_R_more_7, r_dupr c_R_more_7, r_gf c_R_more_8, r_ci c_R_more_11, r_iadd c_R_more_12, r_pf c_R_more_13, r_al0 c_R_more_16, r_il5 c_R_more_17, r_ci c_R_more_19, r_il1 c_R_more_20, r_cv4 c_R_more_21, r_al0 c_R_more_24, r_il5 c_R_more_25, r_ci c_R_more_27, r_il2 c_R_more_28, r_cv4 c_R_more_29, r_al0 c_R_more_32, r_il5 c_R_more_33, r_ci c_R_more_35, r_il3 c_R_more_36, r_cv4 c_R_more_37, r_al0 c_R_more_40, r_il5 c_R_more_41, r_ci c_R_more_43, r_il4 c_R_more_44, r_cv4 c_R_more_46, r_ci c_R_more_49, r_is6 c_R_more_50, r_il6 c_R_more_52, r_al0 c_R_more_54, r_gf c_R_more_55, r_icge c_R_more_58, r_al0 c_R_more_61, r_il5 c_R_more_62, r_il6 c_R_more_64, r_ci c_R_more_66, r_cv4 c_R_more_67, r_inc6 c_R_more_70, r_goto c_R_more_73, r_il5 c_R_more_76, r_iret c_R_more_78, ↓reduceIte, hs_h, Option.bind_some, mfix_i, mfix_r, mfix_n, mfix_a, Option.toList_some, Option.toList_none, List.cons_append, List.nil_append, List.singleton_append, mwt, Value.category, Nat.reduceAdd, Nat.reduceLeDiff, true_and, and_true, and_self, h1, shW, misc, beq_self_eq_true, mfld_at, mfit, List.getElem?_cons_succ, List.getElem?_cons_zero, mfset_at, List.length, Nat.reduceLT, List.set_cons_succ, List.set_cons_zero, hs_sF hR, hk, nI_1, R_put_ok hR, e34, if_true, if_false]
    rw [pc0 hk2 (by omega) hl, pc1 hk2 (by omega) hl, pc2 hk2 (by omega) hl, po3 (by omega)]
    simp only [sA_sA, iA_sA, iA_sF, row3 (x3 := x3)]
  · simp only [ment, mfl, List.length, List.replicate, List.cons_append, List.nil_append, Nat.reduceAdd, Nat.reduceSub]
    simp only [r_al0 c_R_more_0, r_gf c_R_more_1, r_is5 c_R_more_4, r_al0 c_R_more_6, r_dupi c_R_more_7, r_dupr c_R_more_7, r_gf c_R_more_8, r_ci c_R_more_11, r_iadd c_R_more_12, r_pf c_R_more_13, r_al0 c_R_more_16, r_il5 c_R_more_17, r_ci c_R_more_19, r_il1 c_R_more_20, r_cv4 c_R_more_21, r_al0 c_R_more_24, r_il5 c_R_more_25, r_ci c_R_more_27, r_il2 c_R_more_28, r_cv4 c_R_more_29, r_al0 c_R_more_32, r_il5 c_R_more_33, r_ci c_R_more_35, r_il3 c_R_more_36, r_cv4 c_R_more_37, r_al0 c_R_more_40, r_il5 c_R_more_41, r_ci c_R_more_43, r_il4 c_R_more_44, r_cv4 c_R_more_46, r_ci c_R_more_49, r_is6 c_R_more_50, r_il6 c_R_more_52, r_al0 c_R_more_54, r_gf c_R_more_55, r_icge c_R_more_58, r_al0 c_R_more_61, r_il5 c_R_more_62, r_il6 c_R_more_64, r_ci c_R_more_66, r_cv4 c_R_more_67, r_inc6 c_R_more_70, r_goto c_R_more_73, r_il5 c_R_more_76, r_iret c_R_more_78, ↓reduceIte, hs_h, Option.bind_some, mfix_i, mfix_r, mfix_n, mfix_a, Option.toList_some, Option.toList_none, List.cons_append, List.nil_append, List.singleton_append, mwt, Value.category, Nat.reduceAdd, Nat.reduceLeDiff, true_and, and_true, and_self, h1, shW, misc, beq_self_eq_true, mfld_at, mfit, List.getElem?_cons_succ, List.getElem?_cons_zero, mfset_at, List.length, Nat.reduceLT, List.set_cons_succ, List.set_cons_zero, hs_sF hR, hk, nI_1, R_put_ok hR, e44, if_true, if_false]
    rw [pc0 hk2 (by omega) hl, pc1 hk2 (by omega) hl, pc2 hk2 (by omega) hl, pc3 hk2 (by omega) hl]
    simp only [sA_sA, iA_sA, iA_sF, row4]
  · simp only [ment, mfl, List.length, List.replicate, List.cons_append, List.nil_append, Nat.reduceAdd, Nat.reduceSub]
    simp only [r_al0 c_R_more_0, r_gf c_R_more_1, r_is5 c_R_more_4, r_al0 c_R_more_6, r_dupi c_R_more_7, r_dupr c_R_more_7, r_gf c_R_more_8, r_ci c_R_more_11, r_iadd c_R_more_12, r_pf c_R_more_13, r_al0 c_R_more_16, r_il5 c_R_more_17, r_ci c_R_more_19, r_il1 c_R_more_20, r_cv4 c_R_more_21, r_al0 c_R_more_24, r_il5 c_R_more_25, r_ci c_R_more_27, r_il2 c_R_more_28, r_cv4 c_R_more_29, r_al0 c_R_more_32, r_il5 c_R_more_33, r_ci c_R_more_35, r_il3 c_R_more_36, r_cv4 c_R_more_37, r_al0 c_R_more_40, r_il5 c_R_more_41, r_ci c_R_more_43, r_il4 c_R_more_44, r_cv4 c_R_more_46, r_ci c_R_more_49, r_is6 c_R_more_50, r_il6 c_R_more_52, r_al0 c_R_more_54, r_gf c_R_more_55, r_icge c_R_more_58, r_al0 c_R_more_61, r_il5 c_R_more_62, r_il6 c_R_more_64, r_ci c_R_more_66, r_cv4 c_R_more_67, r_inc6 c_R_more_70, r_goto c_R_more_73, r_il5 c_R_more_76, r_iret c_R_more_78, ↓reduceIte, hs_h, Option.bind_some, mfix_i, mfix_r, mfix_n, mfix_a, Option.toList_some, Option.toList_none, List.cons_append, List.nil_append, List.singleton_append, mwt, Value.category, Nat.reduceAdd, Nat.reduceLeDiff, true_and, and_true, and_self, h1, shW, misc, beq_self_eq_true, mfld_at, mfit, List.getElem?_cons_succ, List.getElem?_cons_zero, mfset_at, List.length, Nat.reduceLT, List.set_cons_succ, List.set_cons_zero, hs_sF hR, hk, nI_1, R_put_ok hR, e54, e55, if_true, if_false]
    rw [pc0 hk2 (by omega) hl, pc1 hk2 (by omega) hl, pc2 hk2 (by omega) hl, pc3 hk2 (by omega) hl, pc4 hk2 (by omega) hl]
    simp only [sA_sA, iA_sA, iA_sF, row5]
  · simp only [ment, mfl, List.length, List.replicate, List.cons_append, List.nil_append, Nat.reduceAdd, Nat.reduceSub]
    simp only [r_al0 c_R_more_0, r_gf c_R_more_1, r_is5 c_R_more_4, r_al0 c_R_more_6, r_dupi c_R_more_7, r_dupr c_R_more_7, r_gf c_R_more_8, r_ci c_R_more_11, r_iadd c_R_more_12, r_pf c_R_more_13, r_al0 c_R_more_16, r_il5 c_R_more_17, r_ci c_R_more_19, r_il1 c_R_more_20, r_cv4 c_R_more_21, r_al0 c_R_more_24, r_il5 c_R_more_25, r_ci c_R_more_27, r_il2 c_R_more_28, r_cv4 c_R_more_29, r_al0 c_R_more_32, r_il5 c_R_more_33, r_ci c_R_more_35, r_il3 c_R_more_36, r_cv4 c_R_more_37, r_al0 c_R_more_40, r_il5 c_R_more_41, r_ci c_R_more_43, r_il4 c_R_more_44, r_cv4 c_R_more_46, r_ci c_R_more_49, r_is6 c_R_more_50, r_il6 c_R_more_52, r_al0 c_R_more_54, r_gf c_R_more_55, r_icge c_R_more_58, r_al0 c_R_more_61, r_il5 c_R_more_62, r_il6 c_R_more_64, r_ci c_R_more_66, r_cv4 c_R_more_67, r_inc6 c_R_more_70, r_goto c_R_more_73, r_il5 c_R_more_76, r_iret c_R_more_78, ↓reduceIte, hs_h, Option.bind_some, mfix_i, mfix_r, mfix_n, mfix_a, Option.toList_some, Option.toList_none, List.cons_append, List.nil_append, List.singleton_append, mwt, Value.category, Nat.reduceAdd, Nat.reduceLeDiff, true_and, and_true, and_self, h1, shW, misc, beq_self_eq_true, mfld_at, mfit, List.getElem?_cons_succ, List.getElem?_cons_zero, mfset_at, List.length, Nat.reduceLT, List.set_cons_succ, List.set_cons_zero, hs_sF hR, hk, nI_1, R_put_ok hR, e64, e65, e66, if_true, if_false, e5]
    rw [pc0 hk2 (by omega) hl, pc1 hk2 (by omega) hl, pc2 hk2 (by omega) hl, pc3 hk2 (by omega) hl, pc4 hk2 (by omega) hl, pc5 hk2 (by omega) hl]
    simp only [sA_sA, iA_sA, iA_sF, row6]
theorem JM_max_ok {H : mH} {x y : Int32} : mres cT 0 d 0 (ment 2 [.int x, .int y]) [] H = some (some (.int (if x < y then y else x)), H) := by
  simp only [ment, mfl, List.length, List.replicate, List.cons_append, List.nil_append, Nat.reduceAdd, Nat.reduceSub]
  simp only [r_il0 c_JM_max_0, r_il1 c_JM_max_1, r_iclt c_JM_max_2, r_il0 c_JM_max_5, r_goto c_JM_max_6, r_il1 c_JM_max_9, r_iret c_JM_max_10, ↓reduceIte, hs_h, Option.bind_some, mfix_i, mfix_r, mfix_n, mfix_a, Option.toList_some, Option.toList_none, List.cons_append, List.nil_append, List.singleton_append]
  by_cases h : x < y <;> simp [h]
theorem JM_min_ok {H : mH} {x y : Int32} : mres cT 58 d 0 (ment 2 [.int x, .int y]) [] H = some (some (.int (if y < x then y else x)), H) := by
  simp only [ment, mfl, List.length, List.replicate, List.cons_append, List.nil_append, Nat.reduceAdd, Nat.reduceSub]
  simp only [r_il0 c_JM_min_0, r_il1 c_JM_min_1, r_icgt c_JM_min_2, r_il0 c_JM_min_5, r_goto c_JM_min_6, r_il1 c_JM_min_9, r_iret c_JM_min_10, ↓reduceIte, hs_h, Option.bind_some, mfix_i, mfix_r, mfix_n, mfix_a, Option.toList_some, Option.toList_none, List.cons_append, List.nil_append, List.singleton_append]
  by_cases h : y < x <;> simp [h]
theorem mcpi_all {n : Nat} {f g : Nat → Int32} (h : n ≤ 10000) : mcpi (.inl (0, n, .inl f)) (.inl (0, n, .inl g)) 0 0 (nI n) = some (.inl (0, n, .inl (va_cpy f g 0 0 n))) := by
  have h0 : (0 : Int32).toNatClampNeg = 0 := by decide
  have h1 : ¬ (0 : Int32) < 0 := by decide
  rw [mcpi, if_pos ⟨rfl, rfl, h1, h1, nI_pos (by omega), by rw [h0, nI_clamp (by omega)]; omega, by rw [h0, nI_clamp (by omega)]; omega⟩, h0, nI_clamp (by omega)]
theorem R_become_ok {q : Nat} (hR : isR E lim wid r) (hQ : isR E lim wid q) (hne : r ≠ q) (hne1 : r + 1 ≠ q + 1) : mres cT 263 d 0 (ment 2 [.ref r, .ref q]) [] (hs E S) = some (none, hs E (sA (sF S r 3 (iF S q 3)) (r + 1) (va_cpy (iA S (q + 1)) (iA S (r + 1)) 0 0 (lim * wid)))) := by
  have h1 := fun S => (hR.1 S).1
  have h2 := fun S => (hR.1 S).2
  have h3 := fun S => (hQ.1 S).1
  have h4 := fun S => (hQ.1 S).2
  have hl := hR.2.2.1
  have em : ∀ z : Nat, (if nI z < nI z then nI z else nI z) = nI z := fun z => by split <;> rfl
  simp only [ment, mfl, List.length, List.replicate, List.cons_append, List.nil_append, Nat.reduceAdd, Nat.reduceSub]
  simp only [r_al0 c_R_become_0, r_al1 c_R_become_1, r_gf c_R_become_2, r_pf c_R_become_5, r_al1 c_R_become_8, r_gf c_R_become_9, r_ci c_R_become_12, r_al0 c_R_become_13, r_gf c_R_become_14, r_ci c_R_become_17, r_al0 c_R_become_18, r_gf c_R_become_19, r_len c_R_become_22, r_al1 c_R_become_23, r_gf c_R_become_24, r_len c_R_become_27, r_ca2 c_R_become_28, r_cpy c_R_become_31, r_vret c_R_become_34, ↓reduceIte, hs_h, Option.bind_some, mfix_i, mfix_r, mfix_n, mfix_a, Option.toList_some, Option.toList_none, List.cons_append, List.nil_append, List.singleton_append, mwt, Value.category, Nat.reduceAdd, Nat.reduceLeDiff, true_and, and_true, and_self, h1, h2, h3, h4, shW, shI, mfld_at, mlen, mfit, List.getElem?_cons_succ, List.getElem?_cons_zero, mfset_at, List.length, Nat.reduceLT, List.set_cons_succ, List.set_cons_zero, hs_sF hR, JM_min_ok, em]
  rw [r_cpy c_R_become_31 (by decide), hs_h, h2, h4, shI, shI]
  have e1 : (sF S r 3 (iF S q 3) (q + 1)).2.1 = iA S (q + 1) := iA_sF
  have e2 : (sF S r 3 (iF S q 3) (r + 1)).2.1 = iA S (r + 1) := iA_sF
  rw [e1, e2, mcpi_all (by omega), Option.bind_some, hs_sA hR]
  simp only [r_vret c_R_become_34]
end ROWS2
