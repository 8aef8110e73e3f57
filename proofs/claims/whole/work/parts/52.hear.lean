/-! the books: hearings asked for -/
section HEAR
variable {E : EE} {S : SS} {d b n k j : Nat} {c : Int32} {hc : Nat → Nat}
def htG (f : Nat → Int32) (c : Int32) (i : Nat) (s : Int32) : Int32 := if f (i * 5 + 1) = c then if f (i * 5 + 2) = 0 then s ||| 1 <<< (nI i &&& 31) else s else s
theorem B_hearingsToday_ok (hE : okE E) (hb : bkb b) (hn : iF S (b + 7) 3 = nI n) (hn2 : n ≤ 30) : mres cT 209 d 0 (ment 3 [.ref b]) [] (hs E S) = some (some (.int (rfor (htG (iA S (b + 8)) (iF S b 8)) 0 n 0)), hs E S) := by
  have o0 := o_B hE hb
  have lp : ∀ m i s, i + m = n → mres cT 209 d 4 [.ref b, .int s, .int (nI i)] [] (hs E S) = some (some (.int (rfor (htG (iA S (b + 8)) (iF S b 8)) i m s)), hs E S) := by
    intro m
    induction m with
    | zero =>
      intro i s hi
      have h1 : nI n ≤ nI i := nI_le (by omega) (by omega)
      simp only [r_il2 c_B_hearingsToday_4, r_al0 c_B_hearingsToday_5, r_gfSr c_B_hearingsToday_6 o0 rfl, r_gfR3 c_B_hearingsToday_9 (w_1 hE hb), r_gfR3 c_B_hearingsToday_9 (w_3 hE hb), r_gfR3 c_B_hearingsToday_9 (w_5 hE hb), r_gfR3 c_B_hearingsToday_9 (w_7 hE hb), r_gfR3 c_B_hearingsToday_9 (w_9 hE hb), r_gfR3 c_B_hearingsToday_9 (w_11 hE hb), r_gfR3 c_B_hearingsToday_9 (w_14 hE hb), r_gfR3 c_B_hearingsToday_9 (w_16 hE hb), r_gfR3 c_B_hearingsToday_9 (w_18 hE hb), r_gfR3 c_B_hearingsToday_9 (w_20 hE hb), r_icge c_B_hearingsToday_12, r_il1 c_B_hearingsToday_55, r_iret c_B_hearingsToday_56, ↓reduceIte, hs_h, Option.bind_some, mfix_i, mfix_r, mfix_n, mfix_a, Option.toList_some, Option.toList_none, List.cons_append, List.nil_append, List.singleton_append, hn, h1, if_true, rfor]
    | succ m ih =>
      intro i s hi
      have h1 : ¬ nI n ≤ nI i := nI_ge (by omega) (by omega)
      have hi2 : i < 30 := by omega
      have ih := fun s => ih (i + 1) s (by omega)
      simp only [r_il2 c_B_hearingsToday_4, r_al0 c_B_hearingsToday_5, r_gfSr c_B_hearingsToday_6 o0 rfl, r_gfR3 c_B_hearingsToday_9 (w_1 hE hb), r_gfR3 c_B_hearingsToday_9 (w_3 hE hb), r_gfR3 c_B_hearingsToday_9 (w_5 hE hb), r_gfR3 c_B_hearingsToday_9 (w_7 hE hb), r_gfR3 c_B_hearingsToday_9 (w_9 hE hb), r_gfR3 c_B_hearingsToday_9 (w_11 hE hb), r_gfR3 c_B_hearingsToday_9 (w_14 hE hb), r_gfR3 c_B_hearingsToday_9 (w_16 hE hb), r_gfR3 c_B_hearingsToday_9 (w_18 hE hb), r_gfR3 c_B_hearingsToday_9 (w_20 hE hb), r_icge c_B_hearingsToday_12, ↓reduceIte, hs_h, Option.bind_some, mfix_i, mfix_r, mfix_n, mfix_a, Option.toList_some, Option.toList_none, List.cons_append, List.nil_append, List.singleton_append, hn, h1]
      simp only [r_al0 c_B_hearingsToday_15, r_gfSr c_B_hearingsToday_16 o0 rfl, r_il2 c_B_hearingsToday_19, r_ci c_B_hearingsToday_20, r_cv3 c_B_hearingsToday_21, r_al0 c_B_hearingsToday_24, r_gfS0 c_B_hearingsToday_25 o0 rfl, r_icne c_B_hearingsToday_28, r_al0 c_B_hearingsToday_31, r_gfSr c_B_hearingsToday_32 o0 rfl, r_il2 c_B_hearingsToday_35, r_ci c_B_hearingsToday_36, r_cv3 c_B_hearingsToday_37, r_ifne c_B_hearingsToday_40, r_il1 c_B_hearingsToday_43, r_ci c_B_hearingsToday_44, r_il2 c_B_hearingsToday_45, r_ishl c_B_hearingsToday_46, r_ior c_B_hearingsToday_47, r_is1 c_B_hearingsToday_48, r_inc2 c_B_hearingsToday_49, r_goto c_B_hearingsToday_52, ↓reduceIte, hs_h, Option.bind_some, mfix_i, mfix_r, mfix_n, mfix_a, Option.toList_some, Option.toList_none, List.cons_append, List.nil_append, List.singleton_append, mwt, Value.category, Nat.reduceAdd, Nat.reduceLeDiff, true_and, and_true, and_self, at_7 hE hb, misc_w (w_7 hE hb), ra1 hi2 (show 1 < 5 by decide) (show 30 * 5 ≤ 1000 by decide), ra2 hi2 (show 2 < 5 by decide) (show 30 * 5 ≤ 1000 by decide), nI_1, rfor, htG]
      split
      · split
        · exact ih _
        · exact ih _
      · exact ih _
  simp only [ment, mfl, List.length, List.replicate, List.cons_append, List.nil_append, Nat.reduceAdd, Nat.reduceSub]
  simp only [r_ci c_B_hearingsToday_0, r_is1 c_B_hearingsToday_1, r_ci c_B_hearingsToday_2, r_is2 c_B_hearingsToday_3, ↓reduceIte, hs_h, Option.bind_some, mfix_i, mfix_r, mfix_n, mfix_a, Option.toList_some, Option.toList_none, List.cons_append, List.nil_append, List.singleton_append]
  exact lp n 0 0 (by omega)
def coG (f : Nat → Int32) (c : Int32) (i : Nat) (s : Int32) : Int32 := if c >>> (nI i &&& 31) &&& 1 = 1 then s ||| 1 <<< (f (i * 5) &&& 31) else s
theorem B_casesOn_ok (hE : okE E) (hb : bkb b) (hn : iF S (b + 7) 3 = nI n) (hn2 : n ≤ 30) : mres cT 212 d 0 (ment 4 [.ref b, .int c]) [] (hs E S) = some (some (.int (rfor (coG (iA S (b + 8)) c) 0 n 0)), hs E S) := by
  have o0 := o_B hE hb
  have lp : ∀ m i s, i + m = n → mres cT 212 d 4 [.ref b, .int c, .int s, .int (nI i)] [] (hs E S) = some (some (.int (rfor (coG (iA S (b + 8)) c) i m s)), hs E S) := by
    intro m
    induction m with
    | zero =>
      intro i s hi
      have h1 : nI n ≤ nI i := nI_le (by omega) (by omega)
      simp only [r_il3 c_B_casesOn_4, r_al0 c_B_casesOn_5, r_gfSr c_B_casesOn_6 o0 rfl, r_gfR3 c_B_casesOn_9 (w_1 hE hb), r_gfR3 c_B_casesOn_9 (w_3 hE hb), r_gfR3 c_B_casesOn_9 (w_5 hE hb), r_gfR3 c_B_casesOn_9 (w_7 hE hb), r_gfR3 c_B_casesOn_9 (w_9 hE hb), r_gfR3 c_B_casesOn_9 (w_11 hE hb), r_gfR3 c_B_casesOn_9 (w_14 hE hb), r_gfR3 c_B_casesOn_9 (w_16 hE hb), r_gfR3 c_B_casesOn_9 (w_18 hE hb), r_gfR3 c_B_casesOn_9 (w_20 hE hb), r_icge c_B_casesOn_12, r_il2 c_B_casesOn_44, r_iret c_B_casesOn_45, ↓reduceIte, hs_h, Option.bind_some, mfix_i, mfix_r, mfix_n, mfix_a, Option.toList_some, Option.toList_none, List.cons_append, List.nil_append, List.singleton_append, hn, h1, if_true, rfor]
    | succ m ih =>
      intro i s hi
      have h1 : ¬ nI n ≤ nI i := nI_ge (by omega) (by omega)
      have hi2 : i < 30 := by omega
      have ih := fun s => ih (i + 1) s (by omega)
      simp only [r_il3 c_B_casesOn_4, r_al0 c_B_casesOn_5, r_gfSr c_B_casesOn_6 o0 rfl, r_gfR3 c_B_casesOn_9 (w_1 hE hb), r_gfR3 c_B_casesOn_9 (w_3 hE hb), r_gfR3 c_B_casesOn_9 (w_5 hE hb), r_gfR3 c_B_casesOn_9 (w_7 hE hb), r_gfR3 c_B_casesOn_9 (w_9 hE hb), r_gfR3 c_B_casesOn_9 (w_11 hE hb), r_gfR3 c_B_casesOn_9 (w_14 hE hb), r_gfR3 c_B_casesOn_9 (w_16 hE hb), r_gfR3 c_B_casesOn_9 (w_18 hE hb), r_gfR3 c_B_casesOn_9 (w_20 hE hb), r_icge c_B_casesOn_12, ↓reduceIte, hs_h, Option.bind_some, mfix_i, mfix_r, mfix_n, mfix_a, Option.toList_some, Option.toList_none, List.cons_append, List.nil_append, List.singleton_append, hn, h1]
      simp only [r_il1 c_B_casesOn_15, r_il3 c_B_casesOn_16, r_ishr c_B_casesOn_17, r_ci c_B_casesOn_18, r_iand c_B_casesOn_19, r_ci c_B_casesOn_20, r_icne c_B_casesOn_21, r_il2 c_B_casesOn_24, r_ci c_B_casesOn_25, r_al0 c_B_casesOn_26, r_gfSr c_B_casesOn_27 o0 rfl, r_il3 c_B_casesOn_30, r_ci c_B_casesOn_31, r_cv3 c_B_casesOn_32, r_ishl c_B_casesOn_35, r_ior c_B_casesOn_36, r_is2 c_B_casesOn_37, r_inc3 c_B_casesOn_38, r_goto c_B_casesOn_41, ↓reduceIte, hs_h, Option.bind_some, mfix_i, mfix_r, mfix_n, mfix_a, Option.toList_some, Option.toList_none, List.cons_append, List.nil_append, List.singleton_append, mwt, Value.category, Nat.reduceAdd, Nat.reduceLeDiff, true_and, and_true, and_self, at_7 hE hb, misc_w (w_7 hE hb), ra0 hi2 (show 0 < 5 by decide) (show 30 * 5 ≤ 1000 by decide), nI_1, rfor, coG]
      split
      · exact ih _
      · exact ih _
  simp only [ment, mfl, List.length, List.replicate, List.cons_append, List.nil_append, Nat.reduceAdd, Nat.reduceSub]
  simp only [r_ci c_B_casesOn_0, r_is2 c_B_casesOn_1, r_ci c_B_casesOn_2, r_is3 c_B_casesOn_3, ↓reduceIte, hs_h, Option.bind_some, mfix_i, mfix_r, mfix_n, mfix_a, Option.toList_some, Option.toList_none, List.cons_append, List.nil_append, List.singleton_append]
  exact lp n 0 0 (by omega)
def alS (f : Nat → Int32) (k j : Nat) : Int32 := if nI k = nI j then 0 else if 1 < bcS (f (k * 6 + 2) ^^^ f (j * 6 + 2)) then 0 else if f (k * 6) = f (j * 6) then 1 else 0
theorem B_areLike_ok (hE : okE E) (hb : bkb b) (hk : k < 12) (hj : j < 12) : mres cT 229 d 0 (ment 4 [.ref b, .int (nI k), .int (nI j)]) [] (hs E S) = some (some (.int (alS (iA S (b + 2)) k j)), hs E S) := by
  have o0 := o_B hE hb
  simp only [ment, mfl, List.length, List.replicate, List.cons_append, List.nil_append, Nat.reduceAdd, Nat.reduceSub]
  simp only [r_al0 c_B_areLike_0, r_gfSr c_B_areLike_1 o0 rfl, r_il1 c_B_areLike_4, r_ci c_B_areLike_5, r_cv3 c_B_areLike_6, r_al0 c_B_areLike_9, r_gfSr c_B_areLike_10 o0 rfl, r_il2 c_B_areLike_13, r_ci c_B_areLike_14, r_cv3 c_B_areLike_15, r_ixor c_B_areLike_18, r_ca1 c_B_areLike_19, r_is3 c_B_areLike_22, r_il1 c_B_areLike_23, r_il2 c_B_areLike_24, r_iceq c_B_areLike_25, r_il3 c_B_areLike_28, r_ci c_B_areLike_29, r_icgt c_B_areLike_30, r_al0 c_B_areLike_33, r_gfSr c_B_areLike_34 o0 rfl, r_il1 c_B_areLike_37, r_ci c_B_areLike_38, r_cv3 c_B_areLike_39, r_al0 c_B_areLike_42, r_gfSr c_B_areLike_43 o0 rfl, r_il2 c_B_areLike_46, r_ci c_B_areLike_47, r_cv3 c_B_areLike_48, r_icne c_B_areLike_51, r_ci c_B_areLike_54, r_goto c_B_areLike_55, r_ci c_B_areLike_58, r_zret c_B_areLike_59, ↓reduceIte, hs_h, Option.bind_some, mfix_i, mfix_r, mfix_n, mfix_a, Option.toList_some, Option.toList_none, List.cons_append, List.nil_append, List.singleton_append, mwt, Value.category, Nat.reduceAdd, Nat.reduceLeDiff, true_and, and_true, and_self, at_1 hE hb, misc_w (w_1 hE hb), ra0 hk (show 0 < 6 by decide) (show 12 * 6 ≤ 1000 by decide), ra0 hj (show 0 < 6 by decide) (show 12 * 6 ≤ 1000 by decide), ra2 hk (show 2 < 6 by decide) (show 12 * 6 ≤ 1000 by decide), ra2 hj (show 2 < 6 by decide) (show 12 * 6 ≤ 1000 by decide), JI_bitCount_ok, mz0, mz1, ite_out, alS]
def hcs (S : SS) (b n : Nat) (hc : Nat → Nat) : Prop := ∀ i, i < n → iA S (b + 8) (i * 5) = nI (hc i) ∧ hc i < 12
def hlG (f g : Nat → Int32) (hc : Nat → Nat) (k : Nat) (c : Int32) (i : Nat) (s : Int32) : Int32 := if g (i * 5 + 2) = c then if alS f k (hc i) = 0 then s else s + 1 else s
theorem B_hearingsOfLike_ok (hE : okE E) (hb : bkb b) (hn : iF S (b + 7) 3 = nI n) (hn2 : n ≤ 30) (hH : hcs S b n hc) (hk : k < 12) : mres cT 230 d 0 (ment 6 [.ref b, .int (nI k), .int c]) [] (hs E S) = some (some (.int (rfor (hlG (iA S (b + 2)) (iA S (b + 8)) hc k c) 0 n 0)), hs E S) := by
  have o0 := o_B hE hb
  have m0 := misc_o (S := S) o0
  have lp : ∀ m i s w, i + m = n → mres cT 230 d 5 [.ref b, .int (nI k), .int c, .int s, .int (nI i), w] [] (hs E S) = some (some (.int (rfor (hlG (iA S (b + 2)) (iA S (b + 8)) hc k c) i m s)), hs E S) := by
    intro m
    induction m with
    | zero =>
      intro i s w hi
      have h1 : nI n ≤ nI i := nI_le (by omega) (by omega)
      simp only [r_il4 c_B_hearingsOfLike_5, r_al0 c_B_hearingsOfLike_7, r_gfSr c_B_hearingsOfLike_8 o0 rfl, r_gfR3 c_B_hearingsOfLike_11 (w_1 hE hb), r_gfR3 c_B_hearingsOfLike_11 (w_3 hE hb), r_gfR3 c_B_hearingsOfLike_11 (w_5 hE hb), r_gfR3 c_B_hearingsOfLike_11 (w_7 hE hb), r_gfR3 c_B_hearingsOfLike_11 (w_9 hE hb), r_gfR3 c_B_hearingsOfLike_11 (w_11 hE hb), r_gfR3 c_B_hearingsOfLike_11 (w_14 hE hb), r_gfR3 c_B_hearingsOfLike_11 (w_16 hE hb), r_gfR3 c_B_hearingsOfLike_11 (w_18 hE hb), r_gfR3 c_B_hearingsOfLike_11 (w_20 hE hb), r_icge c_B_hearingsOfLike_14, r_il3 c_B_hearingsOfLike_70, r_iret c_B_hearingsOfLike_71, ↓reduceIte, hs_h, Option.bind_some, mfix_i, mfix_r, mfix_n, mfix_a, Option.toList_some, Option.toList_none, List.cons_append, List.nil_append, List.singleton_append, hn, h1, if_true, rfor]
    | succ m ih =>
      intro i s w hi
      have h1 : ¬ nI n ≤ nI i := nI_ge (by omega) (by omega)
      have hi2 : i < 30 := by omega
      have ih := fun s w => ih (i + 1) s w (by omega)
      obtain ⟨hq, hq2⟩ := hH i (by omega)
      simp only [r_il4 c_B_hearingsOfLike_5, r_al0 c_B_hearingsOfLike_7, r_gfSr c_B_hearingsOfLike_8 o0 rfl, r_gfR3 c_B_hearingsOfLike_11 (w_1 hE hb), r_gfR3 c_B_hearingsOfLike_11 (w_3 hE hb), r_gfR3 c_B_hearingsOfLike_11 (w_5 hE hb), r_gfR3 c_B_hearingsOfLike_11 (w_7 hE hb), r_gfR3 c_B_hearingsOfLike_11 (w_9 hE hb), r_gfR3 c_B_hearingsOfLike_11 (w_11 hE hb), r_gfR3 c_B_hearingsOfLike_11 (w_14 hE hb), r_gfR3 c_B_hearingsOfLike_11 (w_16 hE hb), r_gfR3 c_B_hearingsOfLike_11 (w_18 hE hb), r_gfR3 c_B_hearingsOfLike_11 (w_20 hE hb), r_icge c_B_hearingsOfLike_14, ↓reduceIte, hs_h, Option.bind_some, mfix_i, mfix_r, mfix_n, mfix_a, Option.toList_some, Option.toList_none, List.cons_append, List.nil_append, List.singleton_append, hn, h1]
      simp only [r_al0 c_B_hearingsOfLike_17, r_gfSr c_B_hearingsOfLike_18 o0 rfl, r_il4 c_B_hearingsOfLike_21, r_ci c_B_hearingsOfLike_23, r_cv3 c_B_hearingsOfLike_24, r_il2 c_B_hearingsOfLike_27, r_icne c_B_hearingsOfLike_28, r_ci c_B_hearingsOfLike_31, r_goto c_B_hearingsOfLike_32, r_ci c_B_hearingsOfLike_35, r_is5 c_B_hearingsOfLike_36, r_il5 c_B_hearingsOfLike_38, r_ifeq c_B_hearingsOfLike_40, r_al0 c_B_hearingsOfLike_43, r_il1 c_B_hearingsOfLike_44, r_al0 c_B_hearingsOfLike_45, r_gfSr c_B_hearingsOfLike_46 o0 rfl, r_il4 c_B_hearingsOfLike_49, r_ci c_B_hearingsOfLike_51, r_cv3 c_B_hearingsOfLike_52, r_cv3 c_B_hearingsOfLike_55, r_ifeq c_B_hearingsOfLike_58, r_inc3 c_B_hearingsOfLike_61, r_inc4 c_B_hearingsOfLike_64, r_goto c_B_hearingsOfLike_67, ↓reduceIte, hs_h, Option.bind_some, mfix_i, mfix_r, mfix_n, mfix_a, Option.toList_some, Option.toList_none, List.cons_append, List.nil_append, List.singleton_append, mwt, Value.category, Nat.reduceAdd, Nat.reduceLeDiff, true_and, and_true, and_self, at_7 hE hb, misc_w (w_7 hE hb), m0, ra0 hi2 (show 0 < 5 by decide) (show 30 * 5 ≤ 1000 by decide), ra2 hi2 (show 2 < 5 by decide) (show 30 * 5 ≤ 1000 by decide), hq, B_areLike_ok hE hb hk hq2, one_nz, if_false, nI_1, rfor, hlG]
      split
      · split
        · exact ih _ _
        · exact ih _ _
      · exact ih _ _
  simp only [ment, mfl, List.length, List.replicate, List.cons_append, List.nil_append, Nat.reduceAdd, Nat.reduceSub]
  simp only [r_ci c_B_hearingsOfLike_0, r_is3 c_B_hearingsOfLike_1, r_ci c_B_hearingsOfLike_2, r_is4 c_B_hearingsOfLike_3, ↓reduceIte, hs_h, Option.bind_some, mfix_i, mfix_r, mfix_n, mfix_a, Option.toList_some, Option.toList_none, List.cons_append, List.nil_append, List.singleton_append]
  exact lp n 0 0 _ (by omega)
end HEAR
