/-! the books: draws -/
section DRAW
variable {E : EE} {S : SS} {d b n : Nat} {c v p : Int32}
def d1F (c : Int32) : Nat → Nat → Int32 → Int32
  | _, 0, _ => 0
  | i, m + 1, p => if c >>> (nI i &&& 31) &&& 1 = 1 then d1F c (i + 1) m p else if p = 0 then 1 <<< (nI i &&& 31) else d1F c (i + 1) m (p + -1)
def dsS (s : Int32) : Int32 := (25173 * s + 13849) - (25173 * s + 13849) / 65536 * 65536
def dpS (s l : Int32) : Int32 := if 0 < l then s - s / l * l else 0
def doS (n : Nat) (s c : Int32) : Int32 := d1F c 0 n (dpS (dsS s) (nI n - bcS c))
theorem B_drawOne_ok (hE : okE E) (hb : bkb b) (hn : iF S (b + 5) 3 = nI n) (hn2 : n ≤ 9) : mres cT 239 d 0 (ment 5 [.ref b, .int c]) [] (hs E S) = some (some (.int (doS n (iF S b 9) c)), hs E (sF S b 9 (dsS (iF S b 9)))) := by
  have o0 := o_B hE hb
  have h6 : ¬ (65536 : Int32) = 0 := by decide
  have hn' : iF (sF S b 9 (dsS (iF S b 9))) (b + 5) 3 = nI n := by rw [iF_sF_ne (Or.inl (by omega))]; exact hn
  have lp : ∀ m i p w, i + m = n → mres cT 239 d 50 [.ref b, .int c, w, .int p, .int (nI i)] [] (hs E (sF S b 9 (dsS (iF S b 9)))) = some (some (.int (d1F c i m p)), hs E (sF S b 9 (dsS (iF S b 9)))) := by
    intro m
    induction m with
    | zero =>
      intro i p w hi
      have h1 : nI n ≤ nI i := nI_le (by omega) (by omega)
      simp only [r_il4 c_B_drawOne_50, r_al0 c_B_drawOne_52, r_gfSr c_B_drawOne_53 o0 rfl, r_gfR3 c_B_drawOne_56 (w_1 hE hb), r_gfR3 c_B_drawOne_56 (w_3 hE hb), r_gfR3 c_B_drawOne_56 (w_5 hE hb), r_gfR3 c_B_drawOne_56 (w_7 hE hb), r_gfR3 c_B_drawOne_56 (w_9 hE hb), r_gfR3 c_B_drawOne_56 (w_11 hE hb), r_gfR3 c_B_drawOne_56 (w_14 hE hb), r_gfR3 c_B_drawOne_56 (w_16 hE hb), r_gfR3 c_B_drawOne_56 (w_18 hE hb), r_gfR3 c_B_drawOne_56 (w_20 hE hb), r_icge c_B_drawOne_59, r_ci c_B_drawOne_93, r_iret c_B_drawOne_94, ↓reduceIte, hs_h, Option.bind_some, mfix_i, mfix_r, mfix_n, mfix_a, Option.toList_some, Option.toList_none, List.cons_append, List.nil_append, List.singleton_append, hn', h1, if_true, d1F]
    | succ m ih =>
      intro i p w hi
      have h1 : ¬ nI n ≤ nI i := nI_ge (by omega) (by omega)
      by_cases q1 : c >>> (nI i &&& 31) &&& 1 = 1
      · simp only [r_il4 c_B_drawOne_50, r_al0 c_B_drawOne_52, r_gfSr c_B_drawOne_53 o0 rfl, r_gfR3 c_B_drawOne_56 (w_1 hE hb), r_gfR3 c_B_drawOne_56 (w_3 hE hb), r_gfR3 c_B_drawOne_56 (w_5 hE hb), r_gfR3 c_B_drawOne_56 (w_7 hE hb), r_gfR3 c_B_drawOne_56 (w_9 hE hb), r_gfR3 c_B_drawOne_56 (w_11 hE hb), r_gfR3 c_B_drawOne_56 (w_14 hE hb), r_gfR3 c_B_drawOne_56 (w_16 hE hb), r_gfR3 c_B_drawOne_56 (w_18 hE hb), r_gfR3 c_B_drawOne_56 (w_20 hE hb), r_icge c_B_drawOne_59, ↓reduceIte, hs_h, Option.bind_some, mfix_i, mfix_r, mfix_n, mfix_a, Option.toList_some, Option.toList_none, List.cons_append, List.nil_append, List.singleton_append, hn', h1]
        simp only [r_il1 c_B_drawOne_62, r_il4 c_B_drawOne_63, r_ishr c_B_drawOne_65, r_ci c_B_drawOne_66, r_iand c_B_drawOne_67, r_ci c_B_drawOne_68, r_icne c_B_drawOne_69, r_goto c_B_drawOne_72, r_il3 c_B_drawOne_75, r_ifne c_B_drawOne_76, r_ci c_B_drawOne_79, r_il4 c_B_drawOne_80, r_ishl c_B_drawOne_82, r_iret c_B_drawOne_83, r_inc3 c_B_drawOne_84, r_inc4 c_B_drawOne_87, r_goto c_B_drawOne_90, ↓reduceIte, hs_h, Option.bind_some, mfix_i, mfix_r, mfix_n, mfix_a, Option.toList_some, Option.toList_none, List.cons_append, List.nil_append, List.singleton_append, q1, if_true, nI_1, d1F]
        exact ih (i + 1) _ _ (by omega)
      · by_cases q2 : p = 0
        · simp only [r_il4 c_B_drawOne_50, r_al0 c_B_drawOne_52, r_gfSr c_B_drawOne_53 o0 rfl, r_gfR3 c_B_drawOne_56 (w_1 hE hb), r_gfR3 c_B_drawOne_56 (w_3 hE hb), r_gfR3 c_B_drawOne_56 (w_5 hE hb), r_gfR3 c_B_drawOne_56 (w_7 hE hb), r_gfR3 c_B_drawOne_56 (w_9 hE hb), r_gfR3 c_B_drawOne_56 (w_11 hE hb), r_gfR3 c_B_drawOne_56 (w_14 hE hb), r_gfR3 c_B_drawOne_56 (w_16 hE hb), r_gfR3 c_B_drawOne_56 (w_18 hE hb), r_gfR3 c_B_drawOne_56 (w_20 hE hb), r_icge c_B_drawOne_59, ↓reduceIte, hs_h, Option.bind_some, mfix_i, mfix_r, mfix_n, mfix_a, Option.toList_some, Option.toList_none, List.cons_append, List.nil_append, List.singleton_append, hn', h1]
          simp only [r_il1 c_B_drawOne_62, r_il4 c_B_drawOne_63, r_ishr c_B_drawOne_65, r_ci c_B_drawOne_66, r_iand c_B_drawOne_67, r_ci c_B_drawOne_68, r_icne c_B_drawOne_69, r_goto c_B_drawOne_72, r_il3 c_B_drawOne_75, r_ifne c_B_drawOne_76, r_ci c_B_drawOne_79, r_il4 c_B_drawOne_80, r_ishl c_B_drawOne_82, r_iret c_B_drawOne_83, r_inc3 c_B_drawOne_84, r_inc4 c_B_drawOne_87, r_goto c_B_drawOne_90, ↓reduceIte, hs_h, Option.bind_some, mfix_i, mfix_r, mfix_n, mfix_a, Option.toList_some, Option.toList_none, List.cons_append, List.nil_append, List.singleton_append, q1, q2, if_true, if_false, d1F]
        · simp only [r_il4 c_B_drawOne_50, r_al0 c_B_drawOne_52, r_gfSr c_B_drawOne_53 o0 rfl, r_gfR3 c_B_drawOne_56 (w_1 hE hb), r_gfR3 c_B_drawOne_56 (w_3 hE hb), r_gfR3 c_B_drawOne_56 (w_5 hE hb), r_gfR3 c_B_drawOne_56 (w_7 hE hb), r_gfR3 c_B_drawOne_56 (w_9 hE hb), r_gfR3 c_B_drawOne_56 (w_11 hE hb), r_gfR3 c_B_drawOne_56 (w_14 hE hb), r_gfR3 c_B_drawOne_56 (w_16 hE hb), r_gfR3 c_B_drawOne_56 (w_18 hE hb), r_gfR3 c_B_drawOne_56 (w_20 hE hb), r_icge c_B_drawOne_59, ↓reduceIte, hs_h, Option.bind_some, mfix_i, mfix_r, mfix_n, mfix_a, Option.toList_some, Option.toList_none, List.cons_append, List.nil_append, List.singleton_append, hn', h1]
          simp only [r_il1 c_B_drawOne_62, r_il4 c_B_drawOne_63, r_ishr c_B_drawOne_65, r_ci c_B_drawOne_66, r_iand c_B_drawOne_67, r_ci c_B_drawOne_68, r_icne c_B_drawOne_69, r_goto c_B_drawOne_72, r_il3 c_B_drawOne_75, r_ifne c_B_drawOne_76, r_ci c_B_drawOne_79, r_il4 c_B_drawOne_80, r_ishl c_B_drawOne_82, r_iret c_B_drawOne_83, r_inc3 c_B_drawOne_84, r_inc4 c_B_drawOne_87, r_goto c_B_drawOne_90, ↓reduceIte, hs_h, Option.bind_some, mfix_i, mfix_r, mfix_n, mfix_a, Option.toList_some, Option.toList_none, List.cons_append, List.nil_append, List.singleton_append, q1, q2, if_true, if_false, nI_1, d1F]
          exact ih (i + 1) _ _ (by omega)
  have e : iF (sF S b 9 (dsS (iF S b 9))) b 9 = dsS (iF S b 9) := iF_sF
  have lq := fun p w => lp n 0 p w (by omega)
  rw [nI_0] at lq
  simp only [ment, mfl, List.length, List.replicate, List.cons_append, List.nil_append, Nat.reduceAdd, Nat.reduceSub, doS]
  simp only [r_al0 c_B_drawOne_0, r_ci c_B_drawOne_1, r_al0 c_B_drawOne_4, r_gfS0 c_B_drawOne_5 o0 rfl, r_imul c_B_drawOne_8, r_ci c_B_drawOne_9, r_iadd c_B_drawOne_12, r_ci c_B_drawOne_13, r_irem c_B_drawOne_15 h6, ↓reduceIte, hs_h, Option.bind_some, mfix_i, mfix_r, mfix_n, mfix_a, Option.toList_some, Option.toList_none, List.cons_append, List.nil_append, List.singleton_append]
  show mres cT 239 d 16 [_, _, _, _, _] [.int (dsS (iF S b 9)), .ref b] _ = _
  by_cases hl : 0 < nI n - bcS c
  · have hl0 : ¬ nI n - bcS c = 0 := fun e => by rw [e] at hl; exact absurd hl (by decide)
    simp only [r_pfS c_B_drawOne_16 o0 rfl, r_al0 c_B_drawOne_19, r_gfSr c_B_drawOne_20 o0 rfl, r_gfR3 c_B_drawOne_23 (w_1 hE hb), r_gfR3 c_B_drawOne_23 (w_3 hE hb), r_gfR3 c_B_drawOne_23 (w_5 hE hb), r_gfR3 c_B_drawOne_23 (w_7 hE hb), r_gfR3 c_B_drawOne_23 (w_9 hE hb), r_gfR3 c_B_drawOne_23 (w_11 hE hb), r_gfR3 c_B_drawOne_23 (w_14 hE hb), r_gfR3 c_B_drawOne_23 (w_16 hE hb), r_gfR3 c_B_drawOne_23 (w_18 hE hb), r_gfR3 c_B_drawOne_23 (w_20 hE hb), r_il1 c_B_drawOne_26, r_ca1 c_B_drawOne_27, r_isub c_B_drawOne_30, r_is2 c_B_drawOne_31, r_il2 c_B_drawOne_32, r_ifgt c_B_drawOne_33, r_ci c_B_drawOne_36, r_goto c_B_drawOne_37, r_al0 c_B_drawOne_40, r_gfS0 c_B_drawOne_41 o0 rfl, r_il2 c_B_drawOne_44, ↓reduceIte, hs_h, Option.bind_some, mfix_i, mfix_r, mfix_n, mfix_a, Option.toList_some, Option.toList_none, List.cons_append, List.nil_append, List.singleton_append, mwt, Value.category, Nat.reduceAdd, Nat.reduceLeDiff, true_and, and_true, and_self, hn', JI_bitCount_ok, hl, if_true, e, r_irem c_B_drawOne_45 hl0, dpS]
    simp only [r_is3 c_B_drawOne_46, r_ci c_B_drawOne_47, r_is4 c_B_drawOne_48, ↓reduceIte, hs_h, Option.bind_some, mfix_i, mfix_r, mfix_n, mfix_a, Option.toList_some, Option.toList_none, List.cons_append, List.nil_append, List.singleton_append, lq]
  · simp only [r_pfS c_B_drawOne_16 o0 rfl, r_al0 c_B_drawOne_19, r_gfSr c_B_drawOne_20 o0 rfl, r_gfR3 c_B_drawOne_23 (w_1 hE hb), r_gfR3 c_B_drawOne_23 (w_3 hE hb), r_gfR3 c_B_drawOne_23 (w_5 hE hb), r_gfR3 c_B_drawOne_23 (w_7 hE hb), r_gfR3 c_B_drawOne_23 (w_9 hE hb), r_gfR3 c_B_drawOne_23 (w_11 hE hb), r_gfR3 c_B_drawOne_23 (w_14 hE hb), r_gfR3 c_B_drawOne_23 (w_16 hE hb), r_gfR3 c_B_drawOne_23 (w_18 hE hb), r_gfR3 c_B_drawOne_23 (w_20 hE hb), r_il1 c_B_drawOne_26, r_ca1 c_B_drawOne_27, r_isub c_B_drawOne_30, r_is2 c_B_drawOne_31, r_il2 c_B_drawOne_32, r_ifgt c_B_drawOne_33, r_ci c_B_drawOne_36, r_goto c_B_drawOne_37, r_al0 c_B_drawOne_40, r_gfS0 c_B_drawOne_41 o0 rfl, r_il2 c_B_drawOne_44, ↓reduceIte, hs_h, Option.bind_some, mfix_i, mfix_r, mfix_n, mfix_a, Option.toList_some, Option.toList_none, List.cons_append, List.nil_append, List.singleton_append, mwt, Value.category, Nat.reduceAdd, Nat.reduceLeDiff, true_and, and_true, and_self, hn', JI_bitCount_ok, hl, if_false, dpS]
    simp only [r_is3 c_B_drawOne_46, r_ci c_B_drawOne_47, r_is4 c_B_drawOne_48, ↓reduceIte, hs_h, Option.bind_some, mfix_i, mfix_r, mfix_n, mfix_a, Option.toList_some, Option.toList_none, List.cons_append, List.nil_append, List.singleton_append, lq]
def dtG (n : Nat) (c : Int32) (_ : Nat) (s : Int32 × Int32) : Int32 × Int32 := (s.1 ||| doS n s.2 (c ||| s.1), dsS s.2)
def dhS (n : Nat) (s c : Int32) : Int32 × Int32 := rfor (dtG n c) 0 3 (0, s)
theorem sF_sF {a k : Nat} {u w : Int32} : sF (sF S a k u) a k w = sF S a k w := by
  funext q
  by_cases h : q = a
  · subst h
    simp only [sF, va_up, if_true]
    refine Prod.ext ?_ rfl
    funext j
    simp only [upd]
    split <;> rfl
  · simp only [sF, va_up, h, if_false]
theorem sF_self {a k : Nat} : sF S a k (iF S a k) = S := by
  funext q
  by_cases h : q = a
  · subst h
    simp only [sF, va_up, if_true]
    refine Prod.ext ?_ rfl
    funext j
    simp only [upd, iF]
    split
    · subst_vars; rfl
    · rfl
  · simp only [sF, va_up, h, if_false]
theorem B_drawThree_ok (hE : okE E) (hb : bkb b) (hn : iF S (b + 5) 3 = nI n) (hn2 : n ≤ 9) : mres cT 240 d 0 (ment 4 [.ref b, .int c]) [] (hs E S) = some (some (.int (dhS n (iF S b 9) c).1), hs E (sF S b 9 (dhS n (iF S b 9) c).2)) := by
  have o0 := o_B hE hb
  have m0 : ∀ S, misc (hp E S b) 0 = true := fun S => misc_o o0
  have lp : ∀ m i x y, i + m = 3 → mres cT 240 d 4 [.ref b, .int c, .int x, .int (nI i)] [] (hs E (sF S b 9 y)) = some (some (.int (rfor (dtG n c) i m (x, y)).1), hs E (sF S b 9 (rfor (dtG n c) i m (x, y)).2)) := by
    intro m
    induction m with
    | zero =>
      intro i x y hi
      have h1 : (3 : Int32) ≤ nI i := nI_le (a := 3) (by omega) (by omega)
      simp only [r_il3 c_B_drawThree_4, r_ci c_B_drawThree_5, r_icge c_B_drawThree_6, r_il2 c_B_drawThree_25, r_iret c_B_drawThree_26, ↓reduceIte, hs_h, Option.bind_some, mfix_i, mfix_r, mfix_n, mfix_a, Option.toList_some, Option.toList_none, List.cons_append, List.nil_append, List.singleton_append, h1, if_true, rfor]
    | succ m ih =>
      intro i x y hi
      have h1 : ¬ (3 : Int32) ≤ nI i := nI_ge (b := 3) (by omega) (by omega)
      have hn' : iF (sF S b 9 y) (b + 5) 3 = nI n := by rw [iF_sF_ne (Or.inl (by omega))]; exact hn
      have ih := fun x y => ih (i + 1) x y (by omega)
      have r1 : ∀ c d, mres cT 239 d 0 (ment 5 [.ref b, .int c]) [] (hs E (sF S b 9 y)) = some (some (.int (doS n y c)), hs E (sF S b 9 (dsS y))) := fun c d => by
        rw [B_drawOne_ok hE hb hn' hn2, iF_sF, sF_sF]
      simp only [r_il3 c_B_drawThree_4, r_ci c_B_drawThree_5, r_icge c_B_drawThree_6, ↓reduceIte, hs_h, Option.bind_some, mfix_i, mfix_r, mfix_n, mfix_a, Option.toList_some, Option.toList_none, List.cons_append, List.nil_append, List.singleton_append, h1]
      simp only [r_il2 c_B_drawThree_9, r_al0 c_B_drawThree_10, r_il1 c_B_drawThree_11, r_il2 c_B_drawThree_12, r_ior c_B_drawThree_13, r_cv2 c_B_drawThree_14, r_ior c_B_drawThree_17, r_is2 c_B_drawThree_18, r_inc3 c_B_drawThree_19, r_goto c_B_drawThree_22, ↓reduceIte, hs_h, Option.bind_some, mfix_i, mfix_r, mfix_n, mfix_a, Option.toList_some, Option.toList_none, List.cons_append, List.nil_append, List.singleton_append, mwt, Value.category, Nat.reduceAdd, Nat.reduceLeDiff, true_and, and_true, and_self, m0, if_false, r1, nI_1, rfor, dtG]
      exact ih _ _
  have lq := lp 3 0 0 (iF S b 9) (by omega)
  rw [sF_self, nI_0] at lq
  simp only [ment, mfl, List.length, List.replicate, List.cons_append, List.nil_append, Nat.reduceAdd, Nat.reduceSub, dhS]
  simp only [r_ci c_B_drawThree_0, r_is2 c_B_drawThree_1, r_ci c_B_drawThree_2, r_is3 c_B_drawThree_3, ↓reduceIte, hs_h, Option.bind_some, mfix_i, mfix_r, mfix_n, mfix_a, Option.toList_some, Option.toList_none, List.cons_append, List.nil_append, List.singleton_append]
  exact lq
end DRAW
