/-! the books: dates and causes, by what stays the same but for the stack -/
section DATE
variable {E : EE} {S S1 S' : SS} {d b k n : Nat} {c day : Int32} {z t pk : Nat → Nat}
theorem B_isDue_e (hE : okE E) (hb : bkb b) (hz : okB E S b z t) (hk : k < 12) (h : eqS b S S1) : ∃ S2, eqS b S S2 ∧ ∀ d, mres cT 86 d 0 (ment 4 [.ref b, .int (nI k), .int day]) [] (hs E S1) = some (some (.int (duS S b z t k day)), hs E S2) :=
  ⟨frT S1 b z t k, eqS_tr h frT_e, fun d => by rw [B_isDue_ok hE hb (okB_eq hb h hz) hk, duS_eq hb h hz]⟩
def biL (S : SS) (b : Nat) (z t : Nat → Nat) (k : Nat) : Nat → Int32 → Int32 → Int32
  | 0, _, m => m
  | f + 1, l, m => if m ≤ l then m else if duS S b z t k ((l + m) / 2) = 0 then biL S b z t k f ((l + m) / 2 + 1) m else biL S b z t k f l ((l + m) / 2)
def dtS (S : SS) (b : Nat) (z t : Nat → Nat) (k : Nat) : Int32 := if iA S (b + 2) (k * 6 + 3) = 0 then if duS S b z t k (iF S b 8 + 2999) = 0 then -1000000005 else biL S b z t k 12 (iF S b 8) (iF S b 8 + 2999) else -1000000005
theorem B_dateOf_ok (hE : okE E) (hb : bkb b) (hz : okB E S b z t) (hk : k < 12) : ∃ S2, eqS b S S2 ∧ mres cT 95 d 0 (ment 6 [.ref b, .int (nI k)]) [] (hs E S) = some (some (.int (dtS S b z t k)), hs E S2) := by
  have o0 := o_B hE hb
  have m0 : ∀ S, misc (hp E S b) 0 = true := fun S => misc_o o0
  have h2 : ¬ (2 : Int32) = 0 := by decide
  have lp : ∀ f i l m w S1, eqS b S S1 → i + f = 12 → ∃ S2, eqS b S S2 ∧ mres cT 95 d 37 [.ref b, .int (nI k), .int l, .int m, .int (nI i), w] [] (hs E S1) = some (some (.int (biL S b z t k f l m)), hs E S2) := by
    intro f
    induction f with
    | zero =>
      intro i l m w S1 h hi
      have h1 : (12 : Int32) ≤ nI i := nI_le (a := 12) (by omega) (by omega)
      refine ⟨S1, h, ?_⟩
      simp only [r_il4 c_B_dateOf_37, r_ci c_B_dateOf_39, r_icge c_B_dateOf_41, r_il3 c_B_dateOf_83, r_iret c_B_dateOf_84, ↓reduceIte, hs_h, Option.bind_some, mfix_i, mfix_r, mfix_n, mfix_a, Option.toList_some, Option.toList_none, List.cons_append, List.nil_append, List.singleton_append, h1, if_true, biL]
    | succ f ih =>
      intro i l m w S1 h hi
      have h1 : ¬ (12 : Int32) ≤ nI i := nI_ge (b := 12) (by omega) (by omega)
      have ih := fun l m w S1 h => ih (i + 1) l m w S1 h (by omega)
      by_cases a : m ≤ l
      · refine ⟨S1, h, ?_⟩
        simp only [r_il4 c_B_dateOf_37, r_ci c_B_dateOf_39, r_icge c_B_dateOf_41, r_il2 c_B_dateOf_44, r_il3 c_B_dateOf_45, r_icge c_B_dateOf_46, r_il3 c_B_dateOf_83, r_iret c_B_dateOf_84, ↓reduceIte, hs_h, Option.bind_some, mfix_i, mfix_r, mfix_n, mfix_a, Option.toList_some, Option.toList_none, List.cons_append, List.nil_append, List.singleton_append, h1, a, if_true, if_false, biL]
      · obtain ⟨S2, e2, r2⟩ := B_isDue_e (day := (l + m) / 2) hE hb hz hk h
        by_cases q : duS S b z t k ((l + m) / 2) = 0
        · obtain ⟨S3, e3, r3⟩ := ih ((l + m) / 2 + 1) m (.int ((l + m) / 2)) S2 e2
          refine ⟨S3, e3, ?_⟩
          simp only [r_il4 c_B_dateOf_37, r_ci c_B_dateOf_39, r_icge c_B_dateOf_41, r_il2 c_B_dateOf_44, r_il3 c_B_dateOf_45, r_icge c_B_dateOf_46, ↓reduceIte, hs_h, Option.bind_some, mfix_i, mfix_r, mfix_n, mfix_a, Option.toList_some, Option.toList_none, List.cons_append, List.nil_append, List.singleton_append, h1, a, if_false]
          simp only [r_il2 c_B_dateOf_49, r_il3 c_B_dateOf_50, r_iadd c_B_dateOf_51, r_ci c_B_dateOf_52, r_idiv c_B_dateOf_53 h2, r_is5 c_B_dateOf_54, r_al0 c_B_dateOf_56, r_il1 c_B_dateOf_57, r_il5 c_B_dateOf_58, r_cv3 c_B_dateOf_60, r_ifeq c_B_dateOf_63, r_il5 c_B_dateOf_66, r_is3 c_B_dateOf_68, r_goto c_B_dateOf_69, r_il5 c_B_dateOf_72, r_ci c_B_dateOf_74, r_iadd c_B_dateOf_75, r_is2 c_B_dateOf_76, r_inc4 c_B_dateOf_77, r_goto c_B_dateOf_80, ↓reduceIte, hs_h, Option.bind_some, mfix_i, mfix_r, mfix_n, mfix_a, Option.toList_some, Option.toList_none, List.cons_append, List.nil_append, List.singleton_append, mwt, Value.category, Nat.reduceAdd, Nat.reduceLeDiff, true_and, and_true, and_self, m0, r2, q, if_true, nI_1, r3, biL, a, if_false]
        · obtain ⟨S3, e3, r3⟩ := ih l ((l + m) / 2) (.int ((l + m) / 2)) S2 e2
          refine ⟨S3, e3, ?_⟩
          simp only [r_il4 c_B_dateOf_37, r_ci c_B_dateOf_39, r_icge c_B_dateOf_41, r_il2 c_B_dateOf_44, r_il3 c_B_dateOf_45, r_icge c_B_dateOf_46, ↓reduceIte, hs_h, Option.bind_some, mfix_i, mfix_r, mfix_n, mfix_a, Option.toList_some, Option.toList_none, List.cons_append, List.nil_append, List.singleton_append, h1, a, if_false]
          simp only [r_il2 c_B_dateOf_49, r_il3 c_B_dateOf_50, r_iadd c_B_dateOf_51, r_ci c_B_dateOf_52, r_idiv c_B_dateOf_53 h2, r_is5 c_B_dateOf_54, r_al0 c_B_dateOf_56, r_il1 c_B_dateOf_57, r_il5 c_B_dateOf_58, r_cv3 c_B_dateOf_60, r_ifeq c_B_dateOf_63, r_il5 c_B_dateOf_66, r_is3 c_B_dateOf_68, r_goto c_B_dateOf_69, r_il5 c_B_dateOf_72, r_ci c_B_dateOf_74, r_iadd c_B_dateOf_75, r_is2 c_B_dateOf_76, r_inc4 c_B_dateOf_77, r_goto c_B_dateOf_80, ↓reduceIte, hs_h, Option.bind_some, mfix_i, mfix_r, mfix_n, mfix_a, Option.toList_some, Option.toList_none, List.cons_append, List.nil_append, List.singleton_append, mwt, Value.category, Nat.reduceAdd, Nat.reduceLeDiff, true_and, and_true, and_self, m0, r2, q, if_false, nI_1, r3, biL, a]
  simp only [ment, mfl, List.length, List.replicate, List.cons_append, List.nil_append, Nat.reduceAdd, Nat.reduceSub, dtS]
  by_cases h0 : iA S (b + 2) (k * 6 + 3) = 0
  · obtain ⟨S2, e2, r2⟩ := B_isDue_e (day := iF S b 8 + 2999) hE hb hz hk (S1 := S) (fun _ _ _ => rfl)
    by_cases q : duS S b z t k (iF S b 8 + 2999) = 0
    · refine ⟨S2, e2, ?_⟩
      simp only [r_al0 c_B_dateOf_0, r_gfS0 c_B_dateOf_1 o0 rfl, r_is2 c_B_dateOf_4, r_al0 c_B_dateOf_5, r_gfS0 c_B_dateOf_6 o0 rfl, r_ci c_B_dateOf_9, r_iadd c_B_dateOf_12, r_is3 c_B_dateOf_13, r_al0 c_B_dateOf_14, r_il1 c_B_dateOf_15, r_cv2 c_B_dateOf_16, r_ifne c_B_dateOf_19, r_al0 c_B_dateOf_22, r_il1 c_B_dateOf_23, r_il3 c_B_dateOf_24, r_cv3 c_B_dateOf_25, r_ifne c_B_dateOf_28, r_ci c_B_dateOf_31, r_iret c_B_dateOf_33, ↓reduceIte, hs_h, Option.bind_some, mfix_i, mfix_r, mfix_n, mfix_a, Option.toList_some, Option.toList_none, List.cons_append, List.nil_append, List.singleton_append, mwt, Value.category, Nat.reduceAdd, Nat.reduceLeDiff, true_and, and_true, and_self, m0, B_stateOf_ok hE hb hk, h0, if_true, r2, q]
    · obtain ⟨S3, e3, r3⟩ := lp 12 0 (iF S b 8) (iF S b 8 + 2999) (.retAddr 0) S2 e2 (by omega)
      rw [nI_0] at r3
      refine ⟨S3, e3, ?_⟩
      simp only [r_al0 c_B_dateOf_0, r_gfS0 c_B_dateOf_1 o0 rfl, r_is2 c_B_dateOf_4, r_al0 c_B_dateOf_5, r_gfS0 c_B_dateOf_6 o0 rfl, r_ci c_B_dateOf_9, r_iadd c_B_dateOf_12, r_is3 c_B_dateOf_13, r_al0 c_B_dateOf_14, r_il1 c_B_dateOf_15, r_cv2 c_B_dateOf_16, r_ifne c_B_dateOf_19, r_al0 c_B_dateOf_22, r_il1 c_B_dateOf_23, r_il3 c_B_dateOf_24, r_cv3 c_B_dateOf_25, r_ifne c_B_dateOf_28, r_ci c_B_dateOf_31, r_iret c_B_dateOf_33, r_ci c_B_dateOf_34, r_is4 c_B_dateOf_35, ↓reduceIte, hs_h, Option.bind_some, mfix_i, mfix_r, mfix_n, mfix_a, Option.toList_some, Option.toList_none, List.cons_append, List.nil_append, List.singleton_append, mwt, Value.category, Nat.reduceAdd, Nat.reduceLeDiff, true_and, and_true, and_self, m0, B_stateOf_ok hE hb hk, h0, if_true, if_false, r2, q, r3]
  · refine ⟨S, fun _ _ _ => rfl, ?_⟩
    simp only [r_al0 c_B_dateOf_0, r_gfS0 c_B_dateOf_1 o0 rfl, r_is2 c_B_dateOf_4, r_al0 c_B_dateOf_5, r_gfS0 c_B_dateOf_6 o0 rfl, r_ci c_B_dateOf_9, r_iadd c_B_dateOf_12, r_is3 c_B_dateOf_13, r_al0 c_B_dateOf_14, r_il1 c_B_dateOf_15, r_cv2 c_B_dateOf_16, r_ifne c_B_dateOf_19, r_al0 c_B_dateOf_22, r_il1 c_B_dateOf_23, r_il3 c_B_dateOf_24, r_cv3 c_B_dateOf_25, r_ifne c_B_dateOf_28, r_ci c_B_dateOf_31, r_iret c_B_dateOf_33, ↓reduceIte, hs_h, Option.bind_some, mfix_i, mfix_r, mfix_n, mfix_a, Option.toList_some, Option.toList_none, List.cons_append, List.nil_append, List.singleton_append, mwt, Value.category, Nat.reduceAdd, Nat.reduceLeDiff, true_and, and_true, and_self, m0, B_stateOf_ok hE hb hk, h0, if_false]
theorem pks_eq (h : eqS b S S') (hP : pks S b n pk) : pks S' b n pk := fun i hi => by rw [iA, h _ (by omega) (by omega)]; exact hP i hi
theorem hnS_eq (hb : bkb b) (h : eqS b S S') (hz : okB E S b z t) : hnS S' b z t pk k = hnS S b z t pk k := by
  have ht := hz.2.2.2.2.2.2.2.2.2.1
  have hw := hz.2.2.2.2.2.2.2.2.2.2
  rw [hnS, hnS, ahS, ahS, rlV_eq hb h ht hw, iA, iA, iF, h (b + 2) (by omega) (by omega), h b (by omega) (by omega), h (b + 4) (by omega) (by omega)]
def caS (S : SS) (b : Nat) (z t pk : Nat → Nat) (k : Nat) : Int32 := if duS S b z t k (iF S b 8) = 0 then 1 else if hrF (iA S (b + 4)) pk (nI k) (iF S b 8) 0 (z 3) = 0 then 2 else if hnS S b z t pk k = 0 then 3 else 0
theorem B_causeToday_ok (hE : okE E) (hb : bkb b) (hz : okB E S b z t) (hP : pks S b (z 3) pk) (hk : k < 12) (h : eqS b S S1) : ∃ S2, eqS b S S2 ∧ ∀ d, mres cT 192 d 0 (ment 2 [.ref b, .int (nI k)]) [] (hs E S1) = some (some (.int (caS S b z t pk k)), hs E S2) := by
  have o0 := o_B hE hb
  have m0 : ∀ S, misc (hp E S b) 0 = true := fun S => misc_o o0
  obtain ⟨S2, e2, r2⟩ := B_isDue_e (day := iF S b 8) hE hb hz hk h
  have z2 := okB_eq hb e2 hz
  have f1 : iF S1 b 8 = iF S b 8 := by rw [iF, h _ (by omega) (by omega)]
  have f2 : iF S2 b 8 = iF S b 8 := by rw [iF, e2 _ (by omega) (by omega)]
  have f4 : iA S2 (b + 4) = iA S (b + 4) := by rw [iA, e2 _ (by omega) (by omega)]
  have r3 := fun d => B_hasReport_ok (c := nI k) (d := d) hE hb z2.2.1.1 z2.2.1.2 (pks_eq e2 hP)
  have r4 := fun d => B_hasNotice_ok (d := d) hE hb z2 (pks_eq e2 hP) hk
  rw [f2, f4] at r3
  rw [hnS_eq hb e2 hz] at r4
  simp only [ment, mfl, List.length, List.replicate, List.cons_append, List.nil_append, Nat.reduceAdd, Nat.reduceSub, caS]
  by_cases q1 : duS S b z t k (iF S b 8) = 0
  · refine ⟨S2, e2, fun d => ?_⟩
    simp only [r_al0 c_B_causeToday_0, r_il1 c_B_causeToday_1, r_al0 c_B_causeToday_2, r_gfS0 c_B_causeToday_3 o0 rfl, r_cv3 c_B_causeToday_6, r_ifne c_B_causeToday_9, r_ci c_B_causeToday_12, r_iret c_B_causeToday_13, ↓reduceIte, hs_h, Option.bind_some, mfix_i, mfix_r, mfix_n, mfix_a, Option.toList_some, Option.toList_none, List.cons_append, List.nil_append, List.singleton_append, mwt, Value.category, Nat.reduceAdd, Nat.reduceLeDiff, true_and, and_true, and_self, m0, f1, r2, q1, if_true]
  by_cases q2 : hrF (iA S (b + 4)) pk (nI k) (iF S b 8) 0 (z 3) = 0
  · refine ⟨S2, e2, fun d => ?_⟩
    simp only [r_al0 c_B_causeToday_0, r_il1 c_B_causeToday_1, r_al0 c_B_causeToday_2, r_gfS0 c_B_causeToday_3 o0 rfl, r_cv3 c_B_causeToday_6, r_ifne c_B_causeToday_9, r_ci c_B_causeToday_12, r_iret c_B_causeToday_13, r_al0 c_B_causeToday_14, r_il1 c_B_causeToday_15, r_cv2 c_B_causeToday_16, r_ifne c_B_causeToday_19, r_ci c_B_causeToday_22, r_iret c_B_causeToday_23, ↓reduceIte, hs_h, Option.bind_some, mfix_i, mfix_r, mfix_n, mfix_a, Option.toList_some, Option.toList_none, List.cons_append, List.nil_append, List.singleton_append, mwt, Value.category, Nat.reduceAdd, Nat.reduceLeDiff, true_and, and_true, and_self, m0, f1, r2, q1, q2, r3, if_true, if_false]
  · refine ⟨ahT S2 b z t k, eqS_tr e2 ahT_e, fun d => ?_⟩
    simp only [r_al0 c_B_causeToday_0, r_il1 c_B_causeToday_1, r_al0 c_B_causeToday_2, r_gfS0 c_B_causeToday_3 o0 rfl, r_cv3 c_B_causeToday_6, r_ifne c_B_causeToday_9, r_ci c_B_causeToday_12, r_iret c_B_causeToday_13, r_al0 c_B_causeToday_14, r_il1 c_B_causeToday_15, r_cv2 c_B_causeToday_16, r_ifne c_B_causeToday_19, r_ci c_B_causeToday_22, r_iret c_B_causeToday_23, r_al0 c_B_causeToday_24, r_il1 c_B_causeToday_25, r_cv2 c_B_causeToday_26, r_ifeq c_B_causeToday_29, r_ci c_B_causeToday_32, r_goto c_B_causeToday_33, r_ci c_B_causeToday_36, r_iret c_B_causeToday_37, ↓reduceIte, hs_h, Option.bind_some, mfix_i, mfix_r, mfix_n, mfix_a, Option.toList_some, Option.toList_none, List.cons_append, List.nil_append, List.singleton_append, mwt, Value.category, Nat.reduceAdd, Nat.reduceLeDiff, true_and, and_true, and_self, m0, f1, r2, q1, q2, r3, r4, if_false, ite_out]
end DATE
