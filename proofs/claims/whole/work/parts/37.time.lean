/-! time: sentences, spans, served -/
section TIME2
variable {E : EE} {S : SS} {d b n : Nat} {c : Int32}
theorem nI_pm {m : Nat} : nI (m + 1) - 1 = nI m := by rw [← nI_1, Int32.add_sub_cancel]
theorem i_pm {x : Int32} : x + (-1) = x - 1 := by rw [Int32.sub_eq_add_neg]
def ttG (f : Nat → Int32) (c : Int32) (i : Nat) (s : Int32 × Int32) : Int32 × Int32 :=
  if f (i * 3) = c then if f (i * 3 + 2) = 1 then (s.1, s.2 + f (i * 3 + 1)) else ((if s.1 < f (i * 3 + 1) then f (i * 3 + 1) else s.1), s.2) else s
def ttSum (f : Nat → Int32) (c : Int32) (n : Nat) : Int32 := (rfor (ttG f c) 0 n (0, 0)).1 + (rfor (ttG f c) 0 n (0, 0)).2
theorem I_totalOf_ok (hE : okE E) (hb : bkb b) (hn : iF S (b + 14) 3 = nI n) (hn2 : n ≤ 24) : mres cT 23 d 0 (ment 6 [.ref (b + 13), .int c]) [] (hs E S) = some (some (.int (ttSum (iA S (b + 15)) c n)), hs E S) := by
  have o8 := o_I hE hb
  have lp : ∀ m i x y z, i + m = n → mres cT 23 d 7 [.ref (b + 13), .int c, .int x, .int y, .int (nI i), z] [] (hs E S) = some (some (.int ((rfor (ttG (iA S (b + 15)) c) i m (x, y)).1 + (rfor (ttG (iA S (b + 15)) c) i m (x, y)).2)), hs E S) := by
    intro m
    induction m with
    | zero =>
      intro i x y z hi
      have h1 : nI n ≤ nI i := nI_le (by omega) (by omega)
      simp only [r_il4 c_I_totalOf_7, r_al0 c_I_totalOf_9, r_gfSr c_I_totalOf_10 o8 rfl, r_gfR3 c_I_totalOf_13 (w_1 hE hb), r_gfR3 c_I_totalOf_13 (w_3 hE hb), r_gfR3 c_I_totalOf_13 (w_5 hE hb), r_gfR3 c_I_totalOf_13 (w_7 hE hb), r_gfR3 c_I_totalOf_13 (w_9 hE hb), r_gfR3 c_I_totalOf_13 (w_11 hE hb), r_gfR3 c_I_totalOf_13 (w_14 hE hb), r_gfR3 c_I_totalOf_13 (w_16 hE hb), r_gfR3 c_I_totalOf_13 (w_18 hE hb), r_gfR3 c_I_totalOf_13 (w_20 hE hb), r_icge c_I_totalOf_16, r_il2 c_I_totalOf_83, r_il3 c_I_totalOf_84, r_iadd c_I_totalOf_85, r_iret c_I_totalOf_86, ↓reduceIte, hs_h, Option.bind_some, mfix_i, mfix_r, mfix_n, mfix_a, Option.toList_some, Option.toList_none, List.cons_append, List.nil_append, List.singleton_append, hn, h1, if_true, rfor]
    | succ m ih =>
      intro i x y z hi
      have h1 : ¬ nI n ≤ nI i := nI_ge (by omega) (by omega)
      have hi2 : i < 24 := by omega
      have ih := fun x y z => ih (i + 1) x y z (by omega)
      simp only [r_il4 c_I_totalOf_7, r_al0 c_I_totalOf_9, r_gfSr c_I_totalOf_10 o8 rfl, r_gfR3 c_I_totalOf_13 (w_1 hE hb), r_gfR3 c_I_totalOf_13 (w_3 hE hb), r_gfR3 c_I_totalOf_13 (w_5 hE hb), r_gfR3 c_I_totalOf_13 (w_7 hE hb), r_gfR3 c_I_totalOf_13 (w_9 hE hb), r_gfR3 c_I_totalOf_13 (w_11 hE hb), r_gfR3 c_I_totalOf_13 (w_14 hE hb), r_gfR3 c_I_totalOf_13 (w_16 hE hb), r_gfR3 c_I_totalOf_13 (w_18 hE hb), r_gfR3 c_I_totalOf_13 (w_20 hE hb), r_icge c_I_totalOf_16, ↓reduceIte, hs_h, Option.bind_some, mfix_i, mfix_r, mfix_n, mfix_a, Option.toList_some, Option.toList_none, List.cons_append, List.nil_append, List.singleton_append, hn, h1]
      simp only [r_al0 c_I_totalOf_19, r_gfSr c_I_totalOf_20 o8 rfl, r_il4 c_I_totalOf_23, r_ci c_I_totalOf_25, r_cv3 c_I_totalOf_26, r_il1 c_I_totalOf_29, r_iceq c_I_totalOf_30, r_goto c_I_totalOf_33, r_al0 c_I_totalOf_36, r_gfSr c_I_totalOf_37 o8 rfl, r_il4 c_I_totalOf_40, r_ci c_I_totalOf_42, r_cv3 c_I_totalOf_43, r_is5 c_I_totalOf_46, r_al0 c_I_totalOf_48, r_gfSr c_I_totalOf_49 o8 rfl, r_il4 c_I_totalOf_52, r_ci c_I_totalOf_54, r_cv3 c_I_totalOf_55, r_ci c_I_totalOf_58, r_icne c_I_totalOf_59, r_il3 c_I_totalOf_62, r_il5 c_I_totalOf_63, r_iadd c_I_totalOf_65, r_is3 c_I_totalOf_66, r_goto c_I_totalOf_67, r_il2 c_I_totalOf_70, r_il5 c_I_totalOf_71, r_ca2 c_I_totalOf_73, r_is2 c_I_totalOf_76, r_inc4 c_I_totalOf_77, r_goto c_I_totalOf_80, ↓reduceIte, hs_h, Option.bind_some, mfix_i, mfix_r, mfix_n, mfix_a, Option.toList_some, Option.toList_none, List.cons_append, List.nil_append, List.singleton_append, mwt, Value.category, Nat.reduceAdd, Nat.reduceLeDiff, true_and, and_true, and_self, at_14 hE hb, misc_w (w_14 hE hb), JM_max_ok, nI_1, ra0 hi2 (show 0 < 3 by decide) (by decide), ra1 hi2 (show 1 < 3 by decide) (by decide), ra2 hi2 (show 2 < 3 by decide) (by decide), rfor, ttG]
      split
      · split
        · exact ih _ _ _
        · exact ih _ _ _
      · exact ih _ _ _
  simp only [ment, mfl, List.length, List.replicate, List.cons_append, List.nil_append, Nat.reduceAdd, Nat.reduceSub]
  simp only [r_ci c_I_totalOf_0, r_is2 c_I_totalOf_1, r_ci c_I_totalOf_2, r_is3 c_I_totalOf_3, r_ci c_I_totalOf_4, r_is4 c_I_totalOf_5, ↓reduceIte, hs_h, Option.bind_some, mfix_i, mfix_r, mfix_n, mfix_a, Option.toList_some, Option.toList_none, List.cons_append, List.nil_append, List.singleton_append]
  exact lp n 0 0 0 _ (by omega)
def lsp (f : Nat → Int32) (c : Int32) : Nat → Int32
  | 0 => -1000000005
  | n + 1 => if f (n * 3) = c then nI n else lsp f c n
theorem I_latestSpan_ok (hE : okE E) (hb : bkb b) (hn : iF S (b + 16) 3 = nI n) (hn2 : n ≤ 30) : mres cT 46 d 0 (ment 3 [.ref (b + 13), .int c]) [] (hs E S) = some (some (.int (lsp (iA S (b + 17)) c n)), hs E S) := by
  have o8 := o_I hE hb
  have lp : ∀ m, m ≤ n → mres cT 46 d 10 [.ref (b + 13), .int c, .int (nI m - 1)] [] (hs E S) = some (some (.int (lsp (iA S (b + 17)) c m)), hs E S) := by
    intro m
    induction m with
    | zero =>
      intro hi
      have h1 : nI 0 - 1 < 0 := by decide
      simp only [r_il2 c_I_latestSpan_10, r_iflt c_I_latestSpan_11, r_ci c_I_latestSpan_35, r_iret c_I_latestSpan_37, ↓reduceIte, hs_h, Option.bind_some, mfix_i, mfix_r, mfix_n, mfix_a, Option.toList_some, Option.toList_none, List.cons_append, List.nil_append, List.singleton_append, h1, if_true, lsp]
    | succ m ih =>
      intro hi
      have h1 : ¬ nI m < 0 := nI_pos (by omega)
      have hi2 : m < 30 := by omega
      have ih := ih (by omega)
      rw [nI_pm]
      simp only [r_il2 c_I_latestSpan_10, r_iflt c_I_latestSpan_11, ↓reduceIte, hs_h, Option.bind_some, mfix_i, mfix_r, mfix_n, mfix_a, Option.toList_some, Option.toList_none, List.cons_append, List.nil_append, List.singleton_append, h1]
      by_cases h : iA S (b + 17) (m * 3) = c
      · simp only [r_al0 c_I_latestSpan_14, r_gfSr c_I_latestSpan_15 o8 rfl, r_il2 c_I_latestSpan_18, r_ci c_I_latestSpan_19, r_cv3 c_I_latestSpan_20, r_il1 c_I_latestSpan_23, r_icne c_I_latestSpan_24, r_il2 c_I_latestSpan_27, r_iret c_I_latestSpan_28, r_inc2 c_I_latestSpan_29, r_goto c_I_latestSpan_32, ↓reduceIte, hs_h, Option.bind_some, mfix_i, mfix_r, mfix_n, mfix_a, Option.toList_some, Option.toList_none, List.cons_append, List.nil_append, List.singleton_append, mwt, Value.category, Nat.reduceAdd, Nat.reduceLeDiff, true_and, and_true, and_self, at_16 hE hb, misc_w (w_16 hE hb), ra0 hi2 (show 0 < 3 by decide) (by decide), lsp, h, if_true, ne_eq, not_true_eq_false]
      · simp only [r_al0 c_I_latestSpan_14, r_gfSr c_I_latestSpan_15 o8 rfl, r_il2 c_I_latestSpan_18, r_ci c_I_latestSpan_19, r_cv3 c_I_latestSpan_20, r_il1 c_I_latestSpan_23, r_icne c_I_latestSpan_24, r_il2 c_I_latestSpan_27, r_iret c_I_latestSpan_28, r_inc2 c_I_latestSpan_29, r_goto c_I_latestSpan_32, ↓reduceIte, hs_h, Option.bind_some, mfix_i, mfix_r, mfix_n, mfix_a, Option.toList_some, Option.toList_none, List.cons_append, List.nil_append, List.singleton_append, mwt, Value.category, Nat.reduceAdd, Nat.reduceLeDiff, true_and, and_true, and_self, at_16 hE hb, misc_w (w_16 hE hb), ra0 hi2 (show 0 < 3 by decide) (by decide), lsp, h, if_false, i_pm, ih, ne_eq, not_false_eq_true]
  simp only [ment, mfl, List.length, List.replicate, List.cons_append, List.nil_append, Nat.reduceAdd, Nat.reduceSub]
  simp only [r_al0 c_I_latestSpan_0, r_gfSr c_I_latestSpan_1 o8 rfl, r_gfR3 c_I_latestSpan_4 (w_1 hE hb), r_gfR3 c_I_latestSpan_4 (w_3 hE hb), r_gfR3 c_I_latestSpan_4 (w_5 hE hb), r_gfR3 c_I_latestSpan_4 (w_7 hE hb), r_gfR3 c_I_latestSpan_4 (w_9 hE hb), r_gfR3 c_I_latestSpan_4 (w_11 hE hb), r_gfR3 c_I_latestSpan_4 (w_14 hE hb), r_gfR3 c_I_latestSpan_4 (w_16 hE hb), r_gfR3 c_I_latestSpan_4 (w_18 hE hb), r_gfR3 c_I_latestSpan_4 (w_20 hE hb), r_ci c_I_latestSpan_7, r_isub c_I_latestSpan_8, r_is2 c_I_latestSpan_9, ↓reduceIte, hs_h, Option.bind_some, mfix_i, mfix_r, mfix_n, mfix_a, Option.toList_some, Option.toList_none, List.cons_append, List.nil_append, List.singleton_append, hn]
  exact lp n (by omega)
end TIME2
