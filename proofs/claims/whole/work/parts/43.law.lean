/-! the law: which text counts, what is ruled -/
section LAW
variable {E : EE} {S : SS} {d b q n : Nat} {k v x0 x1 x2 x3 fo fk dy : Int32}
def unS (k a : Int32) : Int32 := if k = 0 then a / 2 else if k = 1 then 7 * a else if k = 3 then 28 else 0
theorem L_unwritten_ok {H : mH} : mres cT 77 d 0 (ment 2 [.int k, .int v]) [] H = some (some (.int (unS k v)), H) := by
  have h2 : ¬ (2 : Int32) = 0 := by decide
  simp only [ment, mfl, List.length, List.replicate, List.cons_append, List.nil_append, Nat.reduceAdd, Nat.reduceSub]
  simp only [r_il0 c_L_unwritten_0, r_sw c_L_unwritten_1, ↓reduceIte, hs_h, Option.bind_some, mfix_i, mfix_r, mfix_n, mfix_a, Option.toList_some, Option.toList_none, List.cons_append, List.nil_append, List.singleton_append, mpick, ite_mres]
  simp only [r_il1 c_L_unwritten_32, r_ci c_L_unwritten_33, r_idiv c_L_unwritten_34 h2, r_iret c_L_unwritten_35, r_ci c_L_unwritten_36, r_il1 c_L_unwritten_38, r_imul c_L_unwritten_39, r_iret c_L_unwritten_40, r_ci c_L_unwritten_41, r_iret c_L_unwritten_43, r_ci c_L_unwritten_44, r_iret c_L_unwritten_45, ite_out, unS]
def hdS (k v : Int32) : Int32 :=
  if k = 0 then (if 0 < (if v < 99999 then v else 99999) then (if v < 99999 then v else 99999) else 0)
  else if k = 1 then (if 0 < (if v < 99 then v else 99) then (if v < 99 then v else 99) else 0)
  else if k = 3 then (if 1 < (if v < 99 then v else 99) then (if v < 99 then v else 99) else 1) else v
theorem L_held_ok {H : mH} : mres cT 84 d 0 (ment 2 [.int k, .int v]) [] H = some (some (.int (hdS k v)), H) := by
  simp only [ment, mfl, List.length, List.replicate, List.cons_append, List.nil_append, Nat.reduceAdd, Nat.reduceSub]
  simp only [r_il0 c_L_held_0, r_sw c_L_held_1, ↓reduceIte, hs_h, Option.bind_some, mfix_i, mfix_r, mfix_n, mfix_a, Option.toList_some, Option.toList_none, List.cons_append, List.nil_append, List.singleton_append, mpick, ite_mres]
  simp only [r_ci c_L_held_32, r_ci c_L_held_33, r_il1 c_L_held_35, r_ca2 c_L_held_36, r_ca2 c_L_held_39, r_iret c_L_held_42, r_ci c_L_held_43, r_ci c_L_held_44, r_il1 c_L_held_46, r_ca2 c_L_held_47, r_ca2 c_L_held_50, r_iret c_L_held_53, r_ci c_L_held_54, r_ci c_L_held_55, r_il1 c_L_held_57, r_ca2 c_L_held_58, r_ca2 c_L_held_61, r_iret c_L_held_64, r_il1 c_L_held_65, r_iret c_L_held_66, ↓reduceIte, hs_h, Option.bind_some, mfix_i, mfix_r, mfix_n, mfix_a, Option.toList_some, Option.toList_none, List.cons_append, List.nil_append, List.singleton_append, mwt, Value.category, Nat.reduceAdd, Nat.reduceLeDiff, true_and, and_true, and_self, JM_min_ok, JM_max_ok, ite_out, hdS]
def ctS (S : SS) (q : Nat) (fo fk dy : Int32) : Int32 := if iF S q 0 = fk then if dy < iF S q 2 then 0 else if iF S q 1 = fo then 1 else if iF S q 1 = 8 then 1 else 0 else 0
theorem T_counts_ok (o6 : isO E q 6 [0, 0, 0, 0, q + 3]) : mres cT 75 d 0 (ment 4 [.ref q, .int fo, .int fk, .int dy]) [] (hs E S) = some (some (.int (ctS S q fo fk dy)), hs E S) := by
  simp only [ment, mfl, List.length, List.replicate, List.cons_append, List.nil_append, Nat.reduceAdd, Nat.reduceSub]
  simp only [r_al0 c_T_counts_0, r_gfS0 c_T_counts_1 o6 rfl, r_il2 c_T_counts_4, r_icne c_T_counts_5, r_al0 c_T_counts_8, r_gfS0 c_T_counts_9 o6 rfl, r_il3 c_T_counts_12, r_icgt c_T_counts_13, r_al0 c_T_counts_16, r_gfS0 c_T_counts_17 o6 rfl, r_il1 c_T_counts_20, r_iceq c_T_counts_21, r_al0 c_T_counts_24, r_gfS0 c_T_counts_25 o6 rfl, r_ci c_T_counts_28, r_icne c_T_counts_30, r_ci c_T_counts_33, r_goto c_T_counts_34, r_ci c_T_counts_37, r_zret c_T_counts_38, ↓reduceIte, hs_h, Option.bind_some, mfix_i, mfix_r, mfix_n, mfix_a, Option.toList_some, Option.toList_none, List.cons_append, List.nil_append, List.singleton_append, mz0, mz1, ite_out, ctS]
theorem mqa_L (hE : okE E) (hb : bkb b) {j : Nat} (hj : j < 16) : mqa (hp E S (b + 23)) 4 (nI j) = some (iQ S (b + 23) j) := by
  rw [hp_b hE hb (show 23 < 26 by decide), shB, shQ, mqa, if_pos ⟨rfl, nI_in hj (by omega)⟩, nI_clamp (by omega)]
theorem mlen_L (hE : okE E) (hb : bkb b) : mlen (hp E S (b + 23)) = some 16 := by
  rw [hp_b hE hb (show 23 < 26 by decide)]; rfl
theorem textAt_s (hE : okE E) (hb : bkb b) (hn : iF S (b + 22) 1 = nI n) (hn2 : n ≤ 16) {j : Nat} (hj : j < n) (hq : iQ S (b + 23) j = some q) : mres cT 74 d 0 (ment 2 [.ref (b + 22), .int (nI j)]) [] (hs E S) = some (some (.ref q), hs E S) := by
  have o1 := o_L hE hb
  have h1 : ¬ nI j < 0 := nI_pos (by omega)
  have h2 : ¬ nI n ≤ nI j := nI_ge hj (by omega)
  have h3 : ¬ nI 16 ≤ nI j := nI_ge (by omega) (by omega)
  simp only [ment, mfl, List.length, List.replicate, List.cons_append, List.nil_append, Nat.reduceAdd, Nat.reduceSub]
  simp only [r_il1 c_L_textAt_0, r_iflt c_L_textAt_1, r_il1 c_L_textAt_4, r_al0 c_L_textAt_5, r_gfS0 c_L_textAt_6 o1 rfl, r_icge c_L_textAt_9, r_il1 c_L_textAt_12, r_al0 c_L_textAt_13, r_gfSr c_L_textAt_14 o1 rfl, r_len c_L_textAt_17, r_icge c_L_textAt_18, r_al0 c_L_textAt_21, r_gfSr c_L_textAt_22 o1 rfl, r_il1 c_L_textAt_25, r_aal c_L_textAt_26, r_goto c_L_textAt_27, r_nul c_L_textAt_30, r_aret c_L_textAt_31, r_aretn c_L_textAt_31, ↓reduceIte, hs_h, Option.bind_some, mfix_i, mfix_r, mfix_n, mfix_a, Option.toList_some, Option.toList_none, List.cons_append, List.nil_append, List.singleton_append, hn, h1, h2, h3, if_false, mlen_L hE hb, mqa_L hE hb (show j < 16 by omega), hq, va_rf]
theorem textAt_n (hE : okE E) (hb : bkb b) (hn : iF S (b + 22) 1 = nI n) (hn2 : n ≤ 16) (h : k < 0 ∨ nI n ≤ k) : mres cT 74 d 0 (ment 2 [.ref (b + 22), .int k]) [] (hs E S) = some (some .null, hs E S) := by
  have o1 := o_L hE hb
  simp only [ment, mfl, List.length, List.replicate, List.cons_append, List.nil_append, Nat.reduceAdd, Nat.reduceSub]
  by_cases h1 : k < 0
  · simp only [r_il1 c_L_textAt_0, r_iflt c_L_textAt_1, r_nul c_L_textAt_30, r_aret c_L_textAt_31, r_aretn c_L_textAt_31, ↓reduceIte, hs_h, Option.bind_some, mfix_i, mfix_r, mfix_n, mfix_a, Option.toList_some, Option.toList_none, List.cons_append, List.nil_append, List.singleton_append, h1, if_true]
  · have h2 : nI n ≤ k := h.resolve_left h1
    simp only [r_il1 c_L_textAt_0, r_iflt c_L_textAt_1, r_il1 c_L_textAt_4, r_al0 c_L_textAt_5, r_gfS0 c_L_textAt_6 o1 rfl, r_icge c_L_textAt_9, r_nul c_L_textAt_30, r_aret c_L_textAt_31, r_aretn c_L_textAt_31, ↓reduceIte, hs_h, Option.bind_some, mfix_i, mfix_r, mfix_n, mfix_a, Option.toList_some, Option.toList_none, List.cons_append, List.nil_append, List.singleton_append, hn, h1, h2, if_true, if_false]
def txs (E : EE) (S : SS) (b n : Nat) (t : Nat → Nat) : Prop := ∀ j, j < n → iQ S (b + 23) j = some (t j) ∧ 109 ≤ t j ∧ t j % 2 = 1 ∧ t j + 1 < E.1
theorem o_T (hq : 109 ≤ q) (h2 : q % 2 = 1) (h3 : q < E.1) : isO E q 6 [0, 0, 0, 0, q + 3] := by
  refine ⟨fun S => ?_, h3⟩
  rw [hp, if_pos h3, shp, if_neg (by omega), if_neg (by omega), if_neg (by omega), if_neg (by omega), if_neg (by omega), shT, if_pos h2]
def ctG (S : SS) (t : Nat → Nat) (fo fk dy : Int32) (j : Nat) (s : Int32 × Int32) : Int32 × Int32 :=
  if ctS S (t j) fo fk dy = 0 then s else if s.2 ≤ iF S (t j) 2 then (nI j, iF S (t j) 2) else s
def ctL (S : SS) (t : Nat → Nat) (n : Nat) (fo fk dy : Int32) : Int32 := (rfor (ctG S t fo fk dy) 0 n (-1000000005, -1)).1
theorem L_countingText_ok (hE : okE E) (hb : bkb b) (hn : iF S (b + 22) 1 = nI n) (hn2 : n ≤ 16) {t : Nat → Nat} (ht : txs E S b n t) : mres cT 76 d 0 (ment 8 [.ref (b + 22), .int fo, .int fk, .int dy]) [] (hs E S) = some (some (.int (ctL S t n fo fk dy)), hs E S) := by
  have o1 := o_L hE hb
  have m1 : misc (hp E S (b + 22)) 1 = true := misc_o o1
  have lp : ∀ m i x y z, i + m = n → mres cT 76 d 10 [.ref (b + 22), .int fo, .int fk, .int dy, .int x, .int y, .int (nI i), z] [] (hs E S) = some (some (.int (rfor (ctG S t fo fk dy) i m (x, y)).1), hs E S) := by
    intro m
    induction m with
    | zero =>
      intro i x y z hi
      have h1 : nI n ≤ nI i := nI_le (by omega) (by omega)
      simp only [r_il6 c_L_countingText_10, r_al0 c_L_countingText_12, r_gfS0 c_L_countingText_13 o1 rfl, r_icge c_L_countingText_16, r_il4 c_L_countingText_73, r_iret c_L_countingText_75, ↓reduceIte, hs_h, Option.bind_some, mfix_i, mfix_r, mfix_n, mfix_a, Option.toList_some, Option.toList_none, List.cons_append, List.nil_append, List.singleton_append, hn, h1, if_true, rfor]
    | succ m ih =>
      intro i x y z hi
      have h1 : ¬ nI n ≤ nI i := nI_ge (by omega) (by omega)
      have hi2 : i < n := by omega
      obtain ⟨tq, t1, t2, t3⟩ := ht i hi2
      have o6 : isO E (t i) 6 [0, 0, 0, 0, t i + 3] := o_T t1 t2 (by omega)
      have m6 : misc (hp E S (t i)) 6 = true := misc_o o6
      have ih := fun x y z => ih (i + 1) x y z (by omega)
      simp only [r_il6 c_L_countingText_10, r_al0 c_L_countingText_12, r_gfS0 c_L_countingText_13 o1 rfl, r_icge c_L_countingText_16, ↓reduceIte, hs_h, Option.bind_some, mfix_i, mfix_r, mfix_n, mfix_a, Option.toList_some, Option.toList_none, List.cons_append, List.nil_append, List.singleton_append, hn, h1]
      simp only [r_al0 c_L_countingText_19, r_il6 c_L_countingText_20, r_cv2 c_L_countingText_22, r_as7 c_L_countingText_25, r_al7 c_L_countingText_27, r_ifnull_r c_L_countingText_29, r_ifnull_n c_L_countingText_29, r_al7 c_L_countingText_32, r_il1 c_L_countingText_34, r_il2 c_L_countingText_35, r_il3 c_L_countingText_36, r_cv4 c_L_countingText_37, r_ifeq c_L_countingText_40, r_al7 c_L_countingText_43, r_gfS0 c_L_countingText_45 o6 rfl, r_il5 c_L_countingText_48, r_icge c_L_countingText_50, r_goto c_L_countingText_53, r_il6 c_L_countingText_56, r_is4 c_L_countingText_58, r_al7 c_L_countingText_60, r_gfS0 c_L_countingText_62 o6 rfl, r_is5 c_L_countingText_65, r_inc6 c_L_countingText_67, r_goto c_L_countingText_70, ↓reduceIte, hs_h, Option.bind_some, mfix_i, mfix_r, mfix_n, mfix_a, Option.toList_some, Option.toList_none, List.cons_append, List.nil_append, List.singleton_append, mwt, Value.category, Nat.reduceAdd, Nat.reduceLeDiff, true_and, and_true, and_self, m1, m6, textAt_s hE hb hn hn2 hi2 tq, T_counts_ok o6, nI_1, rfor, ctG]
      split
      · exact ih _ _ _
      · split
        · exact ih _ _ _
        · exact ih _ _ _
  simp only [ment, mfl, List.length, List.replicate, List.cons_append, List.nil_append, Nat.reduceAdd, Nat.reduceSub]
  simp only [r_ci c_L_countingText_0, r_is4 c_L_countingText_2, r_ci c_L_countingText_4, r_is5 c_L_countingText_5, r_ci c_L_countingText_7, r_is6 c_L_countingText_8, ↓reduceIte, hs_h, Option.bind_some, mfix_i, mfix_r, mfix_n, mfix_a, Option.toList_some, Option.toList_none, List.cons_append, List.nil_append, List.singleton_append]
  exact lp n 0 _ _ _ (by omega)
end LAW
