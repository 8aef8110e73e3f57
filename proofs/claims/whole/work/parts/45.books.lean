/-! the books: small ones -/
section BKS
variable {E : EE} {S : SS} {d b k n ng m : Nat} {c v x y : Int32}
def huS (x y : Int32) : Int32 := if y = 0 then 0 else x * 100 / y
theorem X_hundredths_ok {H : mH} : mres cT 25 d 0 (ment 2 [.int x, .int y]) [] H = some (some (.int (huS x y)), H) := by
  simp only [ment, mfl, List.length, List.replicate, List.cons_append, List.nil_append, Nat.reduceAdd, Nat.reduceSub, huS]
  by_cases h : y = 0
  · simp only [r_il1 c_X_hundredths_0, r_ifne c_X_hundredths_1, r_ci c_X_hundredths_4, r_goto c_X_hundredths_5, r_iret c_X_hundredths_14, ↓reduceIte, hs_h, Option.bind_some, mfix_i, mfix_r, mfix_n, mfix_a, Option.toList_some, Option.toList_none, List.cons_append, List.nil_append, List.singleton_append, h, if_true]
  · simp only [r_il1 c_X_hundredths_0, r_ifne c_X_hundredths_1, r_ci c_X_hundredths_4, r_goto c_X_hundredths_5, r_il0 c_X_hundredths_8, r_ci c_X_hundredths_9, r_imul c_X_hundredths_11, r_il1 c_X_hundredths_12, r_idiv c_X_hundredths_13 h, r_iret c_X_hundredths_14, ↓reduceIte, hs_h, Option.bind_some, mfix_i, mfix_r, mfix_n, mfix_a, Option.toList_some, Option.toList_none, List.cons_append, List.nil_append, List.singleton_append, h, if_false]
theorem B_stateOf_ok (hE : okE E) (hb : bkb b) (hk : k < 12) : mres cT 41 d 0 (ment 2 [.ref b, .int (nI k)]) [] (hs E S) = some (some (.int (iA S (b + 2) (k * 6 + 3))), hs E S) := by
  have o0 := o_B hE hb
  simp only [ment, mfl, List.length, List.replicate, List.cons_append, List.nil_append, Nat.reduceAdd, Nat.reduceSub]
  simp only [r_al0 c_B_stateOf_0, r_gfSr c_B_stateOf_1 o0 rfl, r_il1 c_B_stateOf_4, r_ci c_B_stateOf_5, r_cv3 c_B_stateOf_6, r_iret c_B_stateOf_9, ↓reduceIte, hs_h, Option.bind_some, mfix_i, mfix_r, mfix_n, mfix_a, Option.toList_some, Option.toList_none, List.cons_append, List.nil_append, List.singleton_append, mwt, Value.category, Nat.reduceAdd, Nat.reduceLeDiff, true_and, and_true, and_self, at_1 hE hb, misc_w (w_1 hE hb), ra3 hk (show 3 < 6 by decide) (show 12 * 6 ≤ 1000 by decide)]
def cnG (f : Nat → Int32) (c : Int32) (i : Nat) (s : Int32) : Int32 := if f (i * 6 + 3) = c then s + 1 else s
theorem B_casesThatAre_ok (hE : okE E) (hb : bkb b) (hn : iF S (b + 1) 3 = nI n) (hn2 : n ≤ 12) : mres cT 269 d 0 (ment 4 [.ref b, .int c]) [] (hs E S) = some (some (.int (rfor (cnG (iA S (b + 2)) c) 0 n 0)), hs E S) := by
  have o0 := o_B hE hb
  have m0 : misc (hp E S b) 0 = true := misc_o o0
  have lp : ∀ m i s, i + m = n → mres cT 269 d 4 [.ref b, .int c, .int s, .int (nI i)] [] (hs E S) = some (some (.int (rfor (cnG (iA S (b + 2)) c) i m s)), hs E S) := by
    intro m
    induction m with
    | zero =>
      intro i s hi
      have h1 : nI n ≤ nI i := nI_le (by omega) (by omega)
      simp only [r_il3 c_B_casesThatAre_4, r_al0 c_B_casesThatAre_5, r_gfSr c_B_casesThatAre_6 o0 rfl, r_gfR3 c_B_casesThatAre_9 (w_1 hE hb), r_gfR3 c_B_casesThatAre_9 (w_3 hE hb), r_gfR3 c_B_casesThatAre_9 (w_5 hE hb), r_gfR3 c_B_casesThatAre_9 (w_7 hE hb), r_gfR3 c_B_casesThatAre_9 (w_9 hE hb), r_gfR3 c_B_casesThatAre_9 (w_11 hE hb), r_gfR3 c_B_casesThatAre_9 (w_14 hE hb), r_gfR3 c_B_casesThatAre_9 (w_16 hE hb), r_gfR3 c_B_casesThatAre_9 (w_18 hE hb), r_gfR3 c_B_casesThatAre_9 (w_20 hE hb), r_icge c_B_casesThatAre_12, r_il2 c_B_casesThatAre_33, r_iret c_B_casesThatAre_34, ↓reduceIte, hs_h, Option.bind_some, mfix_i, mfix_r, mfix_n, mfix_a, Option.toList_some, Option.toList_none, List.cons_append, List.nil_append, List.singleton_append, hn, h1, if_true, rfor]
    | succ m ih =>
      intro i s hi
      have h1 : ¬ nI n ≤ nI i := nI_ge (by omega) (by omega)
      have hi2 : i < 12 := by omega
      have ih := fun s => ih (i + 1) s (by omega)
      simp only [r_il3 c_B_casesThatAre_4, r_al0 c_B_casesThatAre_5, r_gfSr c_B_casesThatAre_6 o0 rfl, r_gfR3 c_B_casesThatAre_9 (w_1 hE hb), r_gfR3 c_B_casesThatAre_9 (w_3 hE hb), r_gfR3 c_B_casesThatAre_9 (w_5 hE hb), r_gfR3 c_B_casesThatAre_9 (w_7 hE hb), r_gfR3 c_B_casesThatAre_9 (w_9 hE hb), r_gfR3 c_B_casesThatAre_9 (w_11 hE hb), r_gfR3 c_B_casesThatAre_9 (w_14 hE hb), r_gfR3 c_B_casesThatAre_9 (w_16 hE hb), r_gfR3 c_B_casesThatAre_9 (w_18 hE hb), r_gfR3 c_B_casesThatAre_9 (w_20 hE hb), r_icge c_B_casesThatAre_12, ↓reduceIte, hs_h, Option.bind_some, mfix_i, mfix_r, mfix_n, mfix_a, Option.toList_some, Option.toList_none, List.cons_append, List.nil_append, List.singleton_append, hn, h1]
      simp only [r_al0 c_B_casesThatAre_15, r_il3 c_B_casesThatAre_16, r_cv2 c_B_casesThatAre_17, r_il1 c_B_casesThatAre_20, r_icne c_B_casesThatAre_21, r_inc2 c_B_casesThatAre_24, r_inc3 c_B_casesThatAre_27, r_goto c_B_casesThatAre_30, ↓reduceIte, hs_h, Option.bind_some, mfix_i, mfix_r, mfix_n, mfix_a, Option.toList_some, Option.toList_none, List.cons_append, List.nil_append, List.singleton_append, mwt, Value.category, Nat.reduceAdd, Nat.reduceLeDiff, true_and, and_true, and_self, m0, B_stateOf_ok hE hb hi2, nI_1, rfor, cnG]
      split
      · exact ih _
      · exact ih _
  simp only [ment, mfl, List.length, List.replicate, List.cons_append, List.nil_append, Nat.reduceAdd, Nat.reduceSub]
  simp only [r_ci c_B_casesThatAre_0, r_is2 c_B_casesThatAre_1, r_ci c_B_casesThatAre_2, r_is3 c_B_casesThatAre_3, ↓reduceIte, hs_h, Option.bind_some, mfix_i, mfix_r, mfix_n, mfix_a, Option.toList_some, Option.toList_none, List.cons_append, List.nil_append, List.singleton_append]
  exact lp n 0 0 (by omega)
def hfS (S : SS) (b k n : Nat) : Int32 := if iA S (b + 2) (k * 6 + 3) = 0 then (match lsq (iA S (b + 17)) (nI k) n with
  | none => 1
  | some j => if iA S (b + 17) (j * 3 + 2) = 2147483647 then 0 else 1) else 0
theorem B_hasFled_ok (hE : okE E) (hb : bkb b) (hk : k < 12) (hn : iF S (b + 16) 3 = nI n) (hn2 : n ≤ 30) : mres cT 48 d 0 (ment 2 [.ref b, .int (nI k)]) [] (hs E S) = some (some (.int (hfS S b k n)), hs E S) := by
  have o0 := o_B hE hb
  have m0 : misc (hp E S b) 0 = true := misc_o o0
  have m8 : misc (hp E S (b + 13)) 8 = true := misc_o (o_I hE hb)
  simp only [ment, mfl, List.length, List.replicate, List.cons_append, List.nil_append, Nat.reduceAdd, Nat.reduceSub, hfS]
  by_cases h0 : iA S (b + 2) (k * 6 + 3) = 0
  · cases q : lsq (iA S (b + 17)) (nI k) n with
    | none => simp only [r_al0 c_B_hasFled_0, r_il1 c_B_hasFled_1, r_cv2 c_B_hasFled_2, r_ifne c_B_hasFled_5, r_al0 c_B_hasFled_8, r_gfSr c_B_hasFled_9 o0 rfl, r_al0 c_B_hasFled_12, r_gfSr c_B_hasFled_13 o0 rfl, r_il1 c_B_hasFled_16, r_cv2 c_B_hasFled_17, r_cv2 c_B_hasFled_20, r_ifne c_B_hasFled_23, r_ci c_B_hasFled_26, r_goto c_B_hasFled_27, r_ci c_B_hasFled_30, r_zret c_B_hasFled_31, ↓reduceIte, hs_h, Option.bind_some, mfix_i, mfix_r, mfix_n, mfix_a, Option.toList_some, Option.toList_none, List.cons_append, List.nil_append, List.singleton_append, mwt, Value.category, Nat.reduceAdd, Nat.reduceLeDiff, true_and, and_true, and_self, m0, m8, B_stateOf_ok hE hb hk, h0, if_true, I_latestSpan_ok hE hb hn hn2, lsp_n q, goesOn_n hE hb hn, mz1]
    | some j =>
      have hj := (lsq_lt q).1
      by_cases h : iA S (b + 17) (j * 3 + 2) = 2147483647
      · have hg : goS (iA S (b + 17)) j = 1 := if_pos h
        simp only [r_al0 c_B_hasFled_0, r_il1 c_B_hasFled_1, r_cv2 c_B_hasFled_2, r_ifne c_B_hasFled_5, r_al0 c_B_hasFled_8, r_gfSr c_B_hasFled_9 o0 rfl, r_al0 c_B_hasFled_12, r_gfSr c_B_hasFled_13 o0 rfl, r_il1 c_B_hasFled_16, r_cv2 c_B_hasFled_17, r_cv2 c_B_hasFled_20, r_ifne c_B_hasFled_23, r_ci c_B_hasFled_26, r_goto c_B_hasFled_27, r_ci c_B_hasFled_30, r_zret c_B_hasFled_31, ↓reduceIte, hs_h, Option.bind_some, mfix_i, mfix_r, mfix_n, mfix_a, Option.toList_some, Option.toList_none, List.cons_append, List.nil_append, List.singleton_append, mwt, Value.category, Nat.reduceAdd, Nat.reduceLeDiff, true_and, and_true, and_self, m0, m8, B_stateOf_ok hE hb hk, h0, if_true, I_latestSpan_ok hE hb hn hn2, lsp_s q, goesOn_s hE hb hn hj hn2, hg, one_nz, if_false, mz0, h]
      · have hg : goS (iA S (b + 17)) j = 0 := if_neg h
        simp only [r_al0 c_B_hasFled_0, r_il1 c_B_hasFled_1, r_cv2 c_B_hasFled_2, r_ifne c_B_hasFled_5, r_al0 c_B_hasFled_8, r_gfSr c_B_hasFled_9 o0 rfl, r_al0 c_B_hasFled_12, r_gfSr c_B_hasFled_13 o0 rfl, r_il1 c_B_hasFled_16, r_cv2 c_B_hasFled_17, r_cv2 c_B_hasFled_20, r_ifne c_B_hasFled_23, r_ci c_B_hasFled_26, r_goto c_B_hasFled_27, r_ci c_B_hasFled_30, r_zret c_B_hasFled_31, ↓reduceIte, hs_h, Option.bind_some, mfix_i, mfix_r, mfix_n, mfix_a, Option.toList_some, Option.toList_none, List.cons_append, List.nil_append, List.singleton_append, mwt, Value.category, Nat.reduceAdd, Nat.reduceLeDiff, true_and, and_true, and_self, m0, m8, B_stateOf_ok hE hb hk, h0, if_true, I_latestSpan_ok hE hb hn hn2, lsp_s q, goesOn_s hE hb hn hj hn2, hg, if_false, mz1, h]
  · simp only [r_al0 c_B_hasFled_0, r_il1 c_B_hasFled_1, r_cv2 c_B_hasFled_2, r_ifne c_B_hasFled_5, r_al0 c_B_hasFled_8, r_gfSr c_B_hasFled_9 o0 rfl, r_al0 c_B_hasFled_12, r_gfSr c_B_hasFled_13 o0 rfl, r_il1 c_B_hasFled_16, r_cv2 c_B_hasFled_17, r_cv2 c_B_hasFled_20, r_ifne c_B_hasFled_23, r_ci c_B_hasFled_26, r_goto c_B_hasFled_27, r_ci c_B_hasFled_30, r_zret c_B_hasFled_31, ↓reduceIte, hs_h, Option.bind_some, mfix_i, mfix_r, mfix_n, mfix_a, Option.toList_some, Option.toList_none, List.cons_append, List.nil_append, List.singleton_append, mwt, Value.category, Nat.reduceAdd, Nat.reduceLeDiff, true_and, and_true, and_self, m0, m8, B_stateOf_ok hE hb hk, h0, if_false, mz0]
def lvS (S : SS) (b k n : Nat) (v : Int32) : SS := enS (sA S (b + 2) (upd (iA S (b + 2)) (k * 6 + 3) v)) b n (nI k) (iF S b 8)
theorem B_leave_ok (hE : okE E) (hb : bkb b) (hk : k < 12) (hn : iF S (b + 16) 3 = nI n) (hn2 : n ≤ 30) : mres cT 55 d 0 (ment 3 [.ref b, .int (nI k), .int v]) [] (hs E S) = some (none, hs E (lvS S b k n v)) := by
  have o0 := o_B hE hb
  have m8 : ∀ S, misc (hp E S (b + 13)) 8 = true := fun S => misc_o (o_I hE hb)
  have hn' : iF (sA S (b + 2) (upd (iA S (b + 2)) (k * 6 + 3) v)) (b + 16) 3 = nI n := by rw [iF_sA]; exact hn
  simp only [ment, mfl, List.length, List.replicate, List.cons_append, List.nil_append, Nat.reduceAdd, Nat.reduceSub, lvS]
  simp only [r_al0 c_B_leave_0, r_gfSr c_B_leave_1 o0 rfl, r_il1 c_B_leave_4, r_ci c_B_leave_5, r_il2 c_B_leave_6, r_cv4 c_B_leave_7, r_al0 c_B_leave_10, r_gfSr c_B_leave_11 o0 rfl, r_il1 c_B_leave_14, r_al0 c_B_leave_15, r_gfS0 c_B_leave_16 o0 rfl, r_cv3 c_B_leave_19, r_vret c_B_leave_22, ↓reduceIte, hs_h, Option.bind_some, mfix_i, mfix_r, mfix_n, mfix_a, Option.toList_some, Option.toList_none, List.cons_append, List.nil_append, List.singleton_append, mwt, Value.category, Nat.reduceAdd, Nat.reduceLeDiff, true_and, and_true, and_self, at_1 hE hb, misc_w (w_1 hE hb), m8, put_1 hE hb, pc3 hk (show 3 < 6 by decide) (show 12 * 6 ≤ 1000 by decide), I_endSpan_ok hE hb hn' hn2, iF_sA]
def saG (S : SS) (b n ng : Nat) (i : Nat) (s : Int32) : Int32 := s + svSum (iA S (b + 17)) (iA S (b + 19)) n ng (nI i) (iF S b 8)
theorem B_servedByAll_ok (hE : okE E) (hb : bkb b) (hm : iF S (b + 1) 3 = nI m) (hm2 : m ≤ 12) (hn : iF S (b + 16) 3 = nI n) (hn2 : n ≤ 30) (hg : iF S (b + 18) 3 = nI ng) (hg2 : ng ≤ 20) : mres cT 267 d 0 (ment 3 [.ref b]) [] (hs E S) = some (some (.int (rfor (saG S b n ng) 0 m 0)), hs E S) := by
  have o0 := o_B hE hb
  have m8 : misc (hp E S (b + 13)) 8 = true := misc_o (o_I hE hb)
  have lp : ∀ r i s, i + r = m → mres cT 267 d 4 [.ref b, .int s, .int (nI i)] [] (hs E S) = some (some (.int (rfor (saG S b n ng) i r s)), hs E S) := by
    intro r
    induction r with
    | zero =>
      intro i s hi
      have h1 : nI m ≤ nI i := nI_le (by omega) (by omega)
      simp only [r_il2 c_B_servedByAll_4, r_al0 c_B_servedByAll_5, r_gfSr c_B_servedByAll_6 o0 rfl, r_gfR3 c_B_servedByAll_9 (w_1 hE hb), r_gfR3 c_B_servedByAll_9 (w_3 hE hb), r_gfR3 c_B_servedByAll_9 (w_5 hE hb), r_gfR3 c_B_servedByAll_9 (w_7 hE hb), r_gfR3 c_B_servedByAll_9 (w_9 hE hb), r_gfR3 c_B_servedByAll_9 (w_11 hE hb), r_gfR3 c_B_servedByAll_9 (w_14 hE hb), r_gfR3 c_B_servedByAll_9 (w_16 hE hb), r_gfR3 c_B_servedByAll_9 (w_18 hE hb), r_gfR3 c_B_servedByAll_9 (w_20 hE hb), r_icge c_B_servedByAll_12, r_il1 c_B_servedByAll_36, r_iret c_B_servedByAll_37, ↓reduceIte, hs_h, Option.bind_some, mfix_i, mfix_r, mfix_n, mfix_a, Option.toList_some, Option.toList_none, List.cons_append, List.nil_append, List.singleton_append, hm, h1, if_true, rfor]
    | succ r ih =>
      intro i s hi
      have h1 : ¬ nI m ≤ nI i := nI_ge (by omega) (by omega)
      have ih := fun s => ih (i + 1) s (by omega)
      simp only [r_il2 c_B_servedByAll_4, r_al0 c_B_servedByAll_5, r_gfSr c_B_servedByAll_6 o0 rfl, r_gfR3 c_B_servedByAll_9 (w_1 hE hb), r_gfR3 c_B_servedByAll_9 (w_3 hE hb), r_gfR3 c_B_servedByAll_9 (w_5 hE hb), r_gfR3 c_B_servedByAll_9 (w_7 hE hb), r_gfR3 c_B_servedByAll_9 (w_9 hE hb), r_gfR3 c_B_servedByAll_9 (w_11 hE hb), r_gfR3 c_B_servedByAll_9 (w_14 hE hb), r_gfR3 c_B_servedByAll_9 (w_16 hE hb), r_gfR3 c_B_servedByAll_9 (w_18 hE hb), r_gfR3 c_B_servedByAll_9 (w_20 hE hb), r_icge c_B_servedByAll_12, ↓reduceIte, hs_h, Option.bind_some, mfix_i, mfix_r, mfix_n, mfix_a, Option.toList_some, Option.toList_none, List.cons_append, List.nil_append, List.singleton_append, hm, h1]
      simp only [r_il1 c_B_servedByAll_15, r_al0 c_B_servedByAll_16, r_gfSr c_B_servedByAll_17 o0 rfl, r_il2 c_B_servedByAll_20, r_al0 c_B_servedByAll_21, r_gfS0 c_B_servedByAll_22 o0 rfl, r_cv3 c_B_servedByAll_25, r_iadd c_B_servedByAll_28, r_is1 c_B_servedByAll_29, r_inc2 c_B_servedByAll_30, r_goto c_B_servedByAll_33, ↓reduceIte, hs_h, Option.bind_some, mfix_i, mfix_r, mfix_n, mfix_a, Option.toList_some, Option.toList_none, List.cons_append, List.nil_append, List.singleton_append, mwt, Value.category, Nat.reduceAdd, Nat.reduceLeDiff, true_and, and_true, and_self, m8, I_servedOf_ok hE hb hn hn2 hg hg2, nI_1, rfor, saG]
      exact ih _
  simp only [ment, mfl, List.length, List.replicate, List.cons_append, List.nil_append, Nat.reduceAdd, Nat.reduceSub]
  simp only [r_ci c_B_servedByAll_0, r_is1 c_B_servedByAll_1, r_ci c_B_servedByAll_2, r_is2 c_B_servedByAll_3, ↓reduceIte, hs_h, Option.bind_some, mfix_i, mfix_r, mfix_n, mfix_a, Option.toList_some, Option.toList_none, List.cons_append, List.nil_append, List.singleton_append]
  exact lp m 0 0 (by omega)
def hsG (f : Nat → Int32) (i : Nat) (s : Int32) : Int32 := if f (i * 5 + 2) = 0 then s + 1 else s
theorem B_hearingsSet_ok (hE : okE E) (hb : bkb b) (hn : iF S (b + 7) 3 = nI n) (hn2 : n ≤ 30) : mres cT 278 d 0 (ment 3 [.ref b]) [] (hs E S) = some (some (.int (rfor (hsG (iA S (b + 8))) 0 n 0)), hs E S) := by
  have o0 := o_B hE hb
  have lp : ∀ m i s, i + m = n → mres cT 278 d 4 [.ref b, .int s, .int (nI i)] [] (hs E S) = some (some (.int (rfor (hsG (iA S (b + 8))) i m s)), hs E S) := by
    intro m
    induction m with
    | zero =>
      intro i s hi
      have h1 : nI n ≤ nI i := nI_le (by omega) (by omega)
      simp only [r_il2 c_B_hearingsSet_4, r_al0 c_B_hearingsSet_5, r_gfSr c_B_hearingsSet_6 o0 rfl, r_gfR3 c_B_hearingsSet_9 (w_1 hE hb), r_gfR3 c_B_hearingsSet_9 (w_3 hE hb), r_gfR3 c_B_hearingsSet_9 (w_5 hE hb), r_gfR3 c_B_hearingsSet_9 (w_7 hE hb), r_gfR3 c_B_hearingsSet_9 (w_9 hE hb), r_gfR3 c_B_hearingsSet_9 (w_11 hE hb), r_gfR3 c_B_hearingsSet_9 (w_14 hE hb), r_gfR3 c_B_hearingsSet_9 (w_16 hE hb), r_gfR3 c_B_hearingsSet_9 (w_18 hE hb), r_gfR3 c_B_hearingsSet_9 (w_20 hE hb), r_icge c_B_hearingsSet_12, r_il1 c_B_hearingsSet_36, r_iret c_B_hearingsSet_37, ↓reduceIte, hs_h, Option.bind_some, mfix_i, mfix_r, mfix_n, mfix_a, Option.toList_some, Option.toList_none, List.cons_append, List.nil_append, List.singleton_append, hn, h1, if_true, rfor]
    | succ m ih =>
      intro i s hi
      have h1 : ¬ nI n ≤ nI i := nI_ge (by omega) (by omega)
      have hi2 : i < 30 := by omega
      have ih := fun s => ih (i + 1) s (by omega)
      simp only [r_il2 c_B_hearingsSet_4, r_al0 c_B_hearingsSet_5, r_gfSr c_B_hearingsSet_6 o0 rfl, r_gfR3 c_B_hearingsSet_9 (w_1 hE hb), r_gfR3 c_B_hearingsSet_9 (w_3 hE hb), r_gfR3 c_B_hearingsSet_9 (w_5 hE hb), r_gfR3 c_B_hearingsSet_9 (w_7 hE hb), r_gfR3 c_B_hearingsSet_9 (w_9 hE hb), r_gfR3 c_B_hearingsSet_9 (w_11 hE hb), r_gfR3 c_B_hearingsSet_9 (w_14 hE hb), r_gfR3 c_B_hearingsSet_9 (w_16 hE hb), r_gfR3 c_B_hearingsSet_9 (w_18 hE hb), r_gfR3 c_B_hearingsSet_9 (w_20 hE hb), r_icge c_B_hearingsSet_12, ↓reduceIte, hs_h, Option.bind_some, mfix_i, mfix_r, mfix_n, mfix_a, Option.toList_some, Option.toList_none, List.cons_append, List.nil_append, List.singleton_append, hn, h1]
      simp only [r_al0 c_B_hearingsSet_15, r_gfSr c_B_hearingsSet_16 o0 rfl, r_il2 c_B_hearingsSet_19, r_ci c_B_hearingsSet_20, r_cv3 c_B_hearingsSet_21, r_ifne c_B_hearingsSet_24, r_inc1 c_B_hearingsSet_27, r_inc2 c_B_hearingsSet_30, r_goto c_B_hearingsSet_33, ↓reduceIte, hs_h, Option.bind_some, mfix_i, mfix_r, mfix_n, mfix_a, Option.toList_some, Option.toList_none, List.cons_append, List.nil_append, List.singleton_append, mwt, Value.category, Nat.reduceAdd, Nat.reduceLeDiff, true_and, and_true, and_self, at_7 hE hb, misc_w (w_7 hE hb), ra2 hi2 (show 2 < 5 by decide) (show 30 * 5 ≤ 1000 by decide), nI_1, rfor, hsG]
      split
      · exact ih _
      · exact ih _
  simp only [ment, mfl, List.length, List.replicate, List.cons_append, List.nil_append, Nat.reduceAdd, Nat.reduceSub]
  simp only [r_ci c_B_hearingsSet_0, r_is1 c_B_hearingsSet_1, r_ci c_B_hearingsSet_2, r_is2 c_B_hearingsSet_3, ↓reduceIte, hs_h, Option.bind_some, mfix_i, mfix_r, mfix_n, mfix_a, Option.toList_some, Option.toList_none, List.cons_append, List.nil_append, List.singleton_append]
  exact lp n 0 0 (by omega)
def shF (f : Nat → Int32) (c : Int32) : Nat → Nat → Int32
  | _, 0 => -1000000005
  | i, m + 1 => if f (i * 5) = c then if f (i * 5 + 2) = 0 then nI i else shF f c (i + 1) m else shF f c (i + 1) m
theorem B_setHearingOf_ok (hE : okE E) (hb : bkb b) (hn : iF S (b + 7) 3 = nI n) (hn2 : n ≤ 30) : mres cT 27 d 0 (ment 3 [.ref b, .int c]) [] (hs E S) = some (some (.int (shF (iA S (b + 8)) c 0 n)), hs E S) := by
  have o0 := o_B hE hb
  have lp : ∀ m i, i + m = n → mres cT 27 d 2 [.ref b, .int c, .int (nI i)] [] (hs E S) = some (some (.int (shF (iA S (b + 8)) c i m)), hs E S) := by
    intro m
    induction m with
    | zero =>
      intro i hi
      have h1 : nI n ≤ nI i := nI_le (by omega) (by omega)
      simp only [r_il2 c_B_setHearingOf_2, r_al0 c_B_setHearingOf_3, r_gfSr c_B_setHearingOf_4 o0 rfl, r_gfR3 c_B_setHearingOf_7 (w_1 hE hb), r_gfR3 c_B_setHearingOf_7 (w_3 hE hb), r_gfR3 c_B_setHearingOf_7 (w_5 hE hb), r_gfR3 c_B_setHearingOf_7 (w_7 hE hb), r_gfR3 c_B_setHearingOf_7 (w_9 hE hb), r_gfR3 c_B_setHearingOf_7 (w_11 hE hb), r_gfR3 c_B_setHearingOf_7 (w_14 hE hb), r_gfR3 c_B_setHearingOf_7 (w_16 hE hb), r_gfR3 c_B_setHearingOf_7 (w_18 hE hb), r_gfR3 c_B_setHearingOf_7 (w_20 hE hb), r_icge c_B_setHearingOf_10, r_ci c_B_setHearingOf_46, r_iret c_B_setHearingOf_48, ↓reduceIte, hs_h, Option.bind_some, mfix_i, mfix_r, mfix_n, mfix_a, Option.toList_some, Option.toList_none, List.cons_append, List.nil_append, List.singleton_append, hn, h1, if_true, shF]
    | succ m ih =>
      intro i hi
      have h1 : ¬ nI n ≤ nI i := nI_ge (by omega) (by omega)
      have hi2 : i < 30 := by omega
      have ih := ih (i + 1) (by omega)
      simp only [r_il2 c_B_setHearingOf_2, r_al0 c_B_setHearingOf_3, r_gfSr c_B_setHearingOf_4 o0 rfl, r_gfR3 c_B_setHearingOf_7 (w_1 hE hb), r_gfR3 c_B_setHearingOf_7 (w_3 hE hb), r_gfR3 c_B_setHearingOf_7 (w_5 hE hb), r_gfR3 c_B_setHearingOf_7 (w_7 hE hb), r_gfR3 c_B_setHearingOf_7 (w_9 hE hb), r_gfR3 c_B_setHearingOf_7 (w_11 hE hb), r_gfR3 c_B_setHearingOf_7 (w_14 hE hb), r_gfR3 c_B_setHearingOf_7 (w_16 hE hb), r_gfR3 c_B_setHearingOf_7 (w_18 hE hb), r_gfR3 c_B_setHearingOf_7 (w_20 hE hb), r_icge c_B_setHearingOf_10, ↓reduceIte, hs_h, Option.bind_some, mfix_i, mfix_r, mfix_n, mfix_a, Option.toList_some, Option.toList_none, List.cons_append, List.nil_append, List.singleton_append, hn, h1]
      simp only [r_al0 c_B_setHearingOf_13, r_gfSr c_B_setHearingOf_14 o0 rfl, r_il2 c_B_setHearingOf_17, r_ci c_B_setHearingOf_18, r_cv3 c_B_setHearingOf_19, r_il1 c_B_setHearingOf_22, r_icne c_B_setHearingOf_23, r_al0 c_B_setHearingOf_26, r_gfSr c_B_setHearingOf_27 o0 rfl, r_il2 c_B_setHearingOf_30, r_ci c_B_setHearingOf_31, r_cv3 c_B_setHearingOf_32, r_ifne c_B_setHearingOf_35, r_il2 c_B_setHearingOf_38, r_iret c_B_setHearingOf_39, r_inc2 c_B_setHearingOf_40, r_goto c_B_setHearingOf_43, ↓reduceIte, hs_h, Option.bind_some, mfix_i, mfix_r, mfix_n, mfix_a, Option.toList_some, Option.toList_none, List.cons_append, List.nil_append, List.singleton_append, mwt, Value.category, Nat.reduceAdd, Nat.reduceLeDiff, true_and, and_true, and_self, at_7 hE hb, misc_w (w_7 hE hb), ra0 hi2 (show 0 < 5 by decide) (show 30 * 5 ≤ 1000 by decide), ra2 hi2 (show 2 < 5 by decide) (show 30 * 5 ≤ 1000 by decide), nI_1, shF, ih, ite_out]
  simp only [ment, mfl, List.length, List.replicate, List.cons_append, List.nil_append, Nat.reduceAdd, Nat.reduceSub]
  simp only [r_ci c_B_setHearingOf_0, r_is2 c_B_setHearingOf_1, ↓reduceIte, hs_h, Option.bind_some, mfix_i, mfix_r, mfix_n, mfix_a, Option.toList_some, Option.toList_none, List.cons_append, List.nil_append, List.singleton_append]
  exact lp n 0 (by omega)
theorem B_timesPutOffBy_ok (hE : okE E) (hb : bkb b) : mres cT 198 d 0 (ment 2 [.ref b, .int c]) [] (hs E S) = some (some (.int (rwAt 5 1 (iA S (b + 12)) c 0)), hs E S) := by
  have o0 := o_B hE hb
  simp only [ment, mfl, List.length, List.replicate, List.cons_append, List.nil_append, Nat.reduceAdd, Nat.reduceSub]
  simp only [r_al0 c_B_timesPutOffBy_0, r_gfSr c_B_timesPutOffBy_1 o0 rfl, r_il1 c_B_timesPutOffBy_4, r_ci c_B_timesPutOffBy_5, r_cv3 c_B_timesPutOffBy_6, r_iret c_B_timesPutOffBy_9, ↓reduceIte, hs_h, Option.bind_some, mfix_i, mfix_r, mfix_n, mfix_a, Option.toList_some, Option.toList_none, List.cons_append, List.nil_append, List.singleton_append, mwt, Value.category, Nat.reduceAdd, Nat.reduceLeDiff, true_and, and_true, and_self, at_11 hE hb, misc_w (w_11 hE hb)]
theorem B_lastDayHeld_ok (hE : okE E) (hb : bkb b) (hk : k < 40) : mres cT 165 d 0 (ment 2 [.ref b, .int (nI k)]) [] (hs E S) = some (some (.int (iA S (b + 4) (k * 4 + 3) + iA S (b + 4) (k * 4 + 2) - 1)), hs E S) := by
  have o0 := o_B hE hb
  simp only [ment, mfl, List.length, List.replicate, List.cons_append, List.nil_append, Nat.reduceAdd, Nat.reduceSub]
  simp only [r_al0 c_B_lastDayHeld_0, r_gfSr c_B_lastDayHeld_1 o0 rfl, r_il1 c_B_lastDayHeld_4, r_ci c_B_lastDayHeld_5, r_cv3 c_B_lastDayHeld_6, r_al0 c_B_lastDayHeld_9, r_gfSr c_B_lastDayHeld_10 o0 rfl, r_il1 c_B_lastDayHeld_13, r_ci c_B_lastDayHeld_14, r_cv3 c_B_lastDayHeld_15, r_iadd c_B_lastDayHeld_18, r_ci c_B_lastDayHeld_19, r_isub c_B_lastDayHeld_20, r_iret c_B_lastDayHeld_21, ↓reduceIte, hs_h, Option.bind_some, mfix_i, mfix_r, mfix_n, mfix_a, Option.toList_some, Option.toList_none, List.cons_append, List.nil_append, List.singleton_append, mwt, Value.category, Nat.reduceAdd, Nat.reduceLeDiff, true_and, and_true, and_self, at_3 hE hb, misc_w (w_3 hE hb), ra2 hk (show 2 < 4 by decide) (show 40 * 4 ≤ 1000 by decide), ra3 hk (show 3 < 4 by decide) (show 40 * 4 ≤ 1000 by decide)]
theorem B_addTurn_ok (hE : okE E) (hb : bkb b) (hk : k < 9) : mres cT 214 d 0 (ment 2 [.ref b, .int (nI k)]) [] (hs E S) = some (none, hs E (sA S (b + 6) (upd (iA S (b + 6)) (k * 4 + 3) (iA S (b + 6) (k * 4 + 3) + 1)))) := by
  have o0 := o_B hE hb
  simp only [ment, mfl, List.length, List.replicate, List.cons_append, List.nil_append, Nat.reduceAdd, Nat.reduceSub]
  simp only [r_al0 c_B_addTurn_0, r_gfSr c_B_addTurn_1 o0 rfl, r_il1 c_B_addTurn_4, r_ci c_B_addTurn_5, r_al0 c_B_addTurn_6, r_gfSr c_B_addTurn_7 o0 rfl, r_il1 c_B_addTurn_10, r_ci c_B_addTurn_11, r_cv3 c_B_addTurn_12, r_ci c_B_addTurn_15, r_iadd c_B_addTurn_16, r_cv4 c_B_addTurn_17, r_vret c_B_addTurn_20, ↓reduceIte, hs_h, Option.bind_some, mfix_i, mfix_r, mfix_n, mfix_a, Option.toList_some, Option.toList_none, List.cons_append, List.nil_append, List.singleton_append, mwt, Value.category, Nat.reduceAdd, Nat.reduceLeDiff, true_and, and_true, and_self, at_5 hE hb, misc_w (w_5 hE hb), ra3 hk (show 3 < 4 by decide) (show 9 * 4 ≤ 1000 by decide), put_5 hE hb, pc3 hk (show 3 < 4 by decide) (show 9 * 4 ≤ 1000 by decide)]
end BKS
