/-! call: sheet, both sides -/
section SHQ
variable {E : EE} {S : SS} {b d k n m i j p a s q : Nat} {c v w x y l : Int32}
theorem k24n (h1 : w ≤ 24) (h2 : 0 ≤ w) : ∃ n : Nat, n ≤ 24 ∧ w = nI n := by
  have e : wiS w 0 (nI 24) = 1 := by
    show wiS w 0 24 = 1
    rw [wiS, if_neg (Int32.not_lt.2 h2), if_neg (Int32.not_lt.2 h1)]
  rcases wic (m := 24) w (by omega) with h | ⟨k, h3, h4, -⟩
  · rw [h] at e; exact absurd e (by decide)
  · exact ⟨k, h3, h4⟩
theorem k12v (h : wiS v (-1) 2 = 1) : v = -1 ∨ v = 0 ∨ v = 1 ∨ v = 2 := by
  obtain ⟨h1, h2⟩ := wi_int h
  have h1 : (-1 : Int) ≤ v.toInt := h1
  have h2 : v.toInt ≤ 2 := h2
  rcases (show v.toInt = -1 ∨ v.toInt = 0 ∨ v.toInt = 1 ∨ v.toInt = 2 by omega) with e | e | e | e
  · exact Or.inl (Int32.toInt_inj.1 e)
  · exact Or.inr (Or.inl (Int32.toInt_inj.1 e))
  · exact Or.inr (Or.inr (Or.inl (Int32.toInt_inj.1 e)))
  · exact Or.inr (Or.inr (Or.inr (Int32.toInt_inj.1 e)))
theorem q_sheet (h : Inv E S) : opE E S 247 249 6 5 [.int c, .int v, .int w] := by
  obtain ⟨hE, hpar, ⟨z, t, hc, pk, td, htd, hR⟩, hI, hTp, hWt, hSh, hKy⟩ := id h
  obtain ⟨b, hb1⟩ : ∃ b, b = 1 := ⟨1, rfl⟩
  have hb : bkb b := Or.inl hb1
  rw [← hb1] at hR
  have o9 := o_X hE hb1
  have o0 := o_B hE hb
  have o8 := o_I hE hb
  have o1 := o_L hE hb
  have o5 := o_P hE
  have o10 := o_M hE
  have m10 := m_M hE
  have m9 : ∀ S, misc (hp E S 0) 9 = true := fun S => misc_o o9
  have m0 : ∀ S, misc (hp E S b) 0 = true := fun S => misc_o o0
  have m8 : ∀ S, misc (hp E S (b + 13)) 8 = true := fun S => misc_o o8
  have m1 : ∀ S, misc (hp E S (b + 22)) 1 = true := fun S => misc_o o1
  have m5 : ∀ S, misc (hp E S 79) 5 = true := fun S => misc_o o5
  obtain ⟨n1, n14, n16, n18, n20, n22, n3, n5, n7⟩ := rl_okm hR
  obtain ⟨⟨g1, g3, g5, g7, g14, g16, g18, g20, g22, gt, gw⟩, hH, hP⟩ := rl_okh hR
  have ht := rl_tod hR
  rcases wic (m := 3) c (by omega) with h1 | ⟨s, hs4, rfl, h1⟩
  · have h1 : wiS c 0 3 = 0 := h1
    refine op_v h (-1000000001) (fun d => ?_) (fun d => ?_)
    · simp only [ment, mfl, List.length, List.replicate, List.cons_append, List.nil_append, Nat.reduceAdd, Nat.reduceSub]; simp only [r_al0 c_X_sheet_0, r_an0 c_X_sheet_0, r_il1 c_X_sheet_1, r_cv2 c_X_sheet_2, r_as4 c_X_sheet_5, r_asn4 c_X_sheet_5, r_al4 c_X_sheet_7, r_an4 c_X_sheet_7, r_ifnull_r c_X_sheet_9, r_ifnull_n c_X_sheet_9, r_il2 c_X_sheet_12, r_ci c_X_sheet_13, r_ci c_X_sheet_14, r_ca3 c_X_sheet_15, r_ifne c_X_sheet_18, r_ci c_X_sheet_21, r_iret c_X_sheet_23, r_il2 c_X_sheet_24, r_ci c_X_sheet_25, r_icne c_X_sheet_26, r_ci c_X_sheet_29, r_goto c_X_sheet_30, r_il3 c_X_sheet_33, r_is5 c_X_sheet_34, r_il5 c_X_sheet_36, r_ci c_X_sheet_38, r_icle c_X_sheet_40, r_ci c_X_sheet_43, r_iret c_X_sheet_45, r_il5 c_X_sheet_46, r_ifge c_X_sheet_48, r_ci c_X_sheet_51, r_iret c_X_sheet_54, r_al4 c_X_sheet_55, r_an4 c_X_sheet_55, r_il2 c_X_sheet_57, r_il5 c_X_sheet_58, r_cv3 c_X_sheet_60, r_il5 c_X_sheet_63, r_iret c_X_sheet_65, ↓reduceIte, hs_h, Option.bind_some, mfix_i, mfix_r, mfix_n, mfix_a, Option.toList_some, Option.toList_none, List.cons_append, List.nil_append, List.singleton_append, mwt, Value.category, Nat.reduceAdd, Nat.reduceLeDiff, true_and, and_true, and_self, m9, X_sheetAt_n hE h1]
    · simp only [ment, mfl, List.length, List.replicate, List.cons_append, List.nil_append, Nat.reduceAdd, Nat.reduceSub]; simp only [r_il1 c_M_sheet_0, r_ca1 c_M_sheet_1, r_ifeq c_M_sheet_4, r_il2 c_M_sheet_7, r_i2l c_M_sheet_8, r_cl c_M_sheet_9, r_cl c_M_sheet_12, r_ca3 c_M_sheet_15, r_ifeq c_M_sheet_18, r_il2 c_M_sheet_21, r_iflt c_M_sheet_22, r_il3 c_M_sheet_25, r_ci c_M_sheet_26, r_icle c_M_sheet_28, r_ci c_M_sheet_31, r_iret c_M_sheet_33, ↓reduceIte, hs_h, Option.bind_some, mfix_i, mfix_r, mfix_n, mfix_a, Option.toList_some, Option.toList_none, List.cons_append, List.nil_append, List.singleton_append, mwt, Value.category, Nat.reduceAdd, Nat.reduceLeDiff, true_and, and_true, and_self, M_isSheet_ok, h1, if_true]
  have h1 : wiS (nI s) 0 3 = 1 := h1
  have hs4 : s < 4 := by omega
  have sa : ∀ d, mres cT 244 d 0 (ment 2 [.ref 0, .int (nI s)]) [] (hs E S) = some (some (.ref (84 + 2 * s)), hs E S) := fun d => X_sheetAt_ok hE hs4 h1 (hSh s hs4).1
  rcases wi01 (x := v) (y := -1) (w := 2) with h2 | h2
  · refine op_v h (-1000000001) (fun d => ?_) (fun d => ?_)
    · simp only [ment, mfl, List.length, List.replicate, List.cons_append, List.nil_append, Nat.reduceAdd, Nat.reduceSub]; simp only [r_al0 c_X_sheet_0, r_an0 c_X_sheet_0, r_il1 c_X_sheet_1, r_cv2 c_X_sheet_2, r_as4 c_X_sheet_5, r_asn4 c_X_sheet_5, r_al4 c_X_sheet_7, r_an4 c_X_sheet_7, r_ifnull_r c_X_sheet_9, r_ifnull_n c_X_sheet_9, r_il2 c_X_sheet_12, r_ci c_X_sheet_13, r_ci c_X_sheet_14, r_ca3 c_X_sheet_15, r_ifne c_X_sheet_18, r_ci c_X_sheet_21, r_iret c_X_sheet_23, r_il2 c_X_sheet_24, r_ci c_X_sheet_25, r_icne c_X_sheet_26, r_ci c_X_sheet_29, r_goto c_X_sheet_30, r_il3 c_X_sheet_33, r_is5 c_X_sheet_34, r_il5 c_X_sheet_36, r_ci c_X_sheet_38, r_icle c_X_sheet_40, r_ci c_X_sheet_43, r_iret c_X_sheet_45, r_il5 c_X_sheet_46, r_ifge c_X_sheet_48, r_ci c_X_sheet_51, r_iret c_X_sheet_54, r_al4 c_X_sheet_55, r_an4 c_X_sheet_55, r_il2 c_X_sheet_57, r_il5 c_X_sheet_58, r_cv3 c_X_sheet_60, r_il5 c_X_sheet_63, r_iret c_X_sheet_65, ↓reduceIte, hs_h, Option.bind_some, mfix_i, mfix_r, mfix_n, mfix_a, Option.toList_some, Option.toList_none, List.cons_append, List.nil_append, List.singleton_append, mwt, Value.category, Nat.reduceAdd, Nat.reduceLeDiff, true_and, and_true, and_self, m9, sa, X_within_ok, h2, if_true]
    · simp only [ment, mfl, List.length, List.replicate, List.cons_append, List.nil_append, Nat.reduceAdd, Nat.reduceSub]; simp only [r_il1 c_M_sheet_0, r_ca1 c_M_sheet_1, r_ifeq c_M_sheet_4, r_il2 c_M_sheet_7, r_i2l c_M_sheet_8, r_cl c_M_sheet_9, r_cl c_M_sheet_12, r_ca3 c_M_sheet_15, r_ifeq c_M_sheet_18, r_il2 c_M_sheet_21, r_iflt c_M_sheet_22, r_il3 c_M_sheet_25, r_ci c_M_sheet_26, r_icle c_M_sheet_28, r_ci c_M_sheet_31, r_iret c_M_sheet_33, ↓reduceIte, hs_h, Option.bind_some, mfix_i, mfix_r, mfix_n, mfix_a, Option.toList_some, Option.toList_none, List.cons_append, List.nil_append, List.singleton_append, mwt, Value.category, Nat.reduceAdd, Nat.reduceLeDiff, true_and, and_true, and_self, M_isSheet_ok, h1, M_within_k (y := -1) (w := 2) (y' := -1) (w' := 2) (by decide) (by decide), h2, one_nz, if_false, if_true]
  have m3 : ∀ S, misc (hp E S (84 + 2 * s)) 3 = true := fun S => misc_o (shX_s hE hs4).1
  have sb : ∀ x y d, mres cT 246 d 0 (ment 3 [.ref (84 + 2 * s), .int x, .int y]) [] (hs E S) = some (none, hs E (sbS S (84 + 2 * s) x y)) := fun x y d => S_become_ok (shX_s hE hs4)
  by_cases e : v = -1
  · refine ⟨0, sbS S (84 + 2 * s) v 0, shN S s v (nI 0), fun d _ => ?_, fun d _ => M_sheet_ok hE hs4 h1 h2 (Or.inl ⟨by rw [e]; decide, rfl⟩) d, Inv_new h hs4 (Or.inl e) (by omega) (fun _ => rfl)⟩
    subst e
    simp only [ment, mfl, List.length, List.replicate, List.cons_append, List.nil_append, Nat.reduceAdd, Nat.reduceSub]; simp only [r_al0 c_X_sheet_0, r_an0 c_X_sheet_0, r_il1 c_X_sheet_1, r_cv2 c_X_sheet_2, r_as4 c_X_sheet_5, r_asn4 c_X_sheet_5, r_al4 c_X_sheet_7, r_an4 c_X_sheet_7, r_ifnull_r c_X_sheet_9, r_ifnull_n c_X_sheet_9, r_il2 c_X_sheet_12, r_ci c_X_sheet_13, r_ci c_X_sheet_14, r_ca3 c_X_sheet_15, r_ifne c_X_sheet_18, r_ci c_X_sheet_21, r_iret c_X_sheet_23, r_il2 c_X_sheet_24, r_ci c_X_sheet_25, r_icne c_X_sheet_26, r_ci c_X_sheet_29, r_goto c_X_sheet_30, r_il3 c_X_sheet_33, r_is5 c_X_sheet_34, r_il5 c_X_sheet_36, r_ci c_X_sheet_38, r_icle c_X_sheet_40, r_ci c_X_sheet_43, r_iret c_X_sheet_45, r_il5 c_X_sheet_46, r_ifge c_X_sheet_48, r_ci c_X_sheet_51, r_iret c_X_sheet_54, r_al4 c_X_sheet_55, r_an4 c_X_sheet_55, r_il2 c_X_sheet_57, r_il5 c_X_sheet_58, r_cv3 c_X_sheet_60, r_il5 c_X_sheet_63, r_iret c_X_sheet_65, ↓reduceIte, hs_h, Option.bind_some, mfix_i, mfix_r, mfix_n, mfix_a, Option.toList_some, Option.toList_none, List.cons_append, List.nil_append, List.singleton_append, mwt, Value.category, Nat.reduceAdd, Nat.reduceLeDiff, true_and, and_true, and_self, m9, sa, X_within_ok, h2, one_nz, if_false, if_true, show ((0 : Int32) ≤ 24) = True from eq_true (by decide), show ((0 : Int32) ≤ 0) = True from eq_true (by decide), m3, sb]
  · have hv := k12v h2
    have hv0 : ¬ v < 0 := by
      rcases hv with q | rfl | rfl | rfl
      · exact absurd q e
      · decide
      · decide
      · decide
    by_cases e1 : w ≤ 24
    · by_cases e2 : 0 ≤ w
      · obtain ⟨n, n1, rfl⟩ := k24n e1 e2
        refine ⟨nI n, sbS S (84 + 2 * s) v (nI n), shN S s v (nI n), fun d _ => ?_, fun d _ => M_sheet_ok hE hs4 h1 h2 (Or.inr ⟨hv0, rfl, e1, e2⟩) d, Inv_new h hs4 hv n1 (fun q => absurd q e)⟩
        simp only [ment, mfl, List.length, List.replicate, List.cons_append, List.nil_append, Nat.reduceAdd, Nat.reduceSub]; simp only [r_al0 c_X_sheet_0, r_an0 c_X_sheet_0, r_il1 c_X_sheet_1, r_cv2 c_X_sheet_2, r_as4 c_X_sheet_5, r_asn4 c_X_sheet_5, r_al4 c_X_sheet_7, r_an4 c_X_sheet_7, r_ifnull_r c_X_sheet_9, r_ifnull_n c_X_sheet_9, r_il2 c_X_sheet_12, r_ci c_X_sheet_13, r_ci c_X_sheet_14, r_ca3 c_X_sheet_15, r_ifne c_X_sheet_18, r_ci c_X_sheet_21, r_iret c_X_sheet_23, r_il2 c_X_sheet_24, r_ci c_X_sheet_25, r_icne c_X_sheet_26, r_ci c_X_sheet_29, r_goto c_X_sheet_30, r_il3 c_X_sheet_33, r_is5 c_X_sheet_34, r_il5 c_X_sheet_36, r_ci c_X_sheet_38, r_icle c_X_sheet_40, r_ci c_X_sheet_43, r_iret c_X_sheet_45, r_il5 c_X_sheet_46, r_ifge c_X_sheet_48, r_ci c_X_sheet_51, r_iret c_X_sheet_54, r_al4 c_X_sheet_55, r_an4 c_X_sheet_55, r_il2 c_X_sheet_57, r_il5 c_X_sheet_58, r_cv3 c_X_sheet_60, r_il5 c_X_sheet_63, r_iret c_X_sheet_65, ↓reduceIte, hs_h, Option.bind_some, mfix_i, mfix_r, mfix_n, mfix_a, Option.toList_some, Option.toList_none, List.cons_append, List.nil_append, List.singleton_append, mwt, Value.category, Nat.reduceAdd, Nat.reduceLeDiff, true_and, and_true, and_self, m9, sa, X_within_ok, h2, one_nz, if_false, if_true, e, e1, e2, m3, sb]
      · refine op_v h (-1000000014) (fun d => ?_) (fun d => ?_)
        · simp only [ment, mfl, List.length, List.replicate, List.cons_append, List.nil_append, Nat.reduceAdd, Nat.reduceSub]; simp only [r_al0 c_X_sheet_0, r_an0 c_X_sheet_0, r_il1 c_X_sheet_1, r_cv2 c_X_sheet_2, r_as4 c_X_sheet_5, r_asn4 c_X_sheet_5, r_al4 c_X_sheet_7, r_an4 c_X_sheet_7, r_ifnull_r c_X_sheet_9, r_ifnull_n c_X_sheet_9, r_il2 c_X_sheet_12, r_ci c_X_sheet_13, r_ci c_X_sheet_14, r_ca3 c_X_sheet_15, r_ifne c_X_sheet_18, r_ci c_X_sheet_21, r_iret c_X_sheet_23, r_il2 c_X_sheet_24, r_ci c_X_sheet_25, r_icne c_X_sheet_26, r_ci c_X_sheet_29, r_goto c_X_sheet_30, r_il3 c_X_sheet_33, r_is5 c_X_sheet_34, r_il5 c_X_sheet_36, r_ci c_X_sheet_38, r_icle c_X_sheet_40, r_ci c_X_sheet_43, r_iret c_X_sheet_45, r_il5 c_X_sheet_46, r_ifge c_X_sheet_48, r_ci c_X_sheet_51, r_iret c_X_sheet_54, r_al4 c_X_sheet_55, r_an4 c_X_sheet_55, r_il2 c_X_sheet_57, r_il5 c_X_sheet_58, r_cv3 c_X_sheet_60, r_il5 c_X_sheet_63, r_iret c_X_sheet_65, ↓reduceIte, hs_h, Option.bind_some, mfix_i, mfix_r, mfix_n, mfix_a, Option.toList_some, Option.toList_none, List.cons_append, List.nil_append, List.singleton_append, mwt, Value.category, Nat.reduceAdd, Nat.reduceLeDiff, true_and, and_true, and_self, m9, sa, X_within_ok, h2, one_nz, if_false, if_true, e, e1, e2]
        · simp only [ment, mfl, List.length, List.replicate, List.cons_append, List.nil_append, Nat.reduceAdd, Nat.reduceSub]; simp only [r_il1 c_M_sheet_0, r_ca1 c_M_sheet_1, r_ifeq c_M_sheet_4, r_il2 c_M_sheet_7, r_i2l c_M_sheet_8, r_cl c_M_sheet_9, r_cl c_M_sheet_12, r_ca3 c_M_sheet_15, r_ifeq c_M_sheet_18, r_il2 c_M_sheet_21, r_iflt c_M_sheet_22, r_il3 c_M_sheet_25, r_ci c_M_sheet_26, r_icle c_M_sheet_28, r_ci c_M_sheet_31, r_iret c_M_sheet_33, r_il2 c_M_sheet_34, r_iflt c_M_sheet_35, r_il3 c_M_sheet_38, r_ifge c_M_sheet_39, r_ci c_M_sheet_42, r_iret c_M_sheet_45, ↓reduceIte, hs_h, Option.bind_some, mfix_i, mfix_r, mfix_n, mfix_a, Option.toList_some, Option.toList_none, List.cons_append, List.nil_append, List.singleton_append, mwt, Value.category, Nat.reduceAdd, Nat.reduceLeDiff, true_and, and_true, and_self, M_isSheet_ok, h1, M_within_k (y := -1) (w := 2) (y' := -1) (w' := 2) (by decide) (by decide), h2, one_nz, hv0, e1, e2, if_false, if_true]
    · refine op_v h (-1000000001) (fun d => ?_) (fun d => ?_)
      · simp only [ment, mfl, List.length, List.replicate, List.cons_append, List.nil_append, Nat.reduceAdd, Nat.reduceSub]; simp only [r_al0 c_X_sheet_0, r_an0 c_X_sheet_0, r_il1 c_X_sheet_1, r_cv2 c_X_sheet_2, r_as4 c_X_sheet_5, r_asn4 c_X_sheet_5, r_al4 c_X_sheet_7, r_an4 c_X_sheet_7, r_ifnull_r c_X_sheet_9, r_ifnull_n c_X_sheet_9, r_il2 c_X_sheet_12, r_ci c_X_sheet_13, r_ci c_X_sheet_14, r_ca3 c_X_sheet_15, r_ifne c_X_sheet_18, r_ci c_X_sheet_21, r_iret c_X_sheet_23, r_il2 c_X_sheet_24, r_ci c_X_sheet_25, r_icne c_X_sheet_26, r_ci c_X_sheet_29, r_goto c_X_sheet_30, r_il3 c_X_sheet_33, r_is5 c_X_sheet_34, r_il5 c_X_sheet_36, r_ci c_X_sheet_38, r_icle c_X_sheet_40, r_ci c_X_sheet_43, r_iret c_X_sheet_45, r_il5 c_X_sheet_46, r_ifge c_X_sheet_48, r_ci c_X_sheet_51, r_iret c_X_sheet_54, r_al4 c_X_sheet_55, r_an4 c_X_sheet_55, r_il2 c_X_sheet_57, r_il5 c_X_sheet_58, r_cv3 c_X_sheet_60, r_il5 c_X_sheet_63, r_iret c_X_sheet_65, ↓reduceIte, hs_h, Option.bind_some, mfix_i, mfix_r, mfix_n, mfix_a, Option.toList_some, Option.toList_none, List.cons_append, List.nil_append, List.singleton_append, mwt, Value.category, Nat.reduceAdd, Nat.reduceLeDiff, true_and, and_true, and_self, m9, sa, X_within_ok, h2, one_nz, if_false, if_true, e, e1]
      · simp only [ment, mfl, List.length, List.replicate, List.cons_append, List.nil_append, Nat.reduceAdd, Nat.reduceSub]; simp only [r_il1 c_M_sheet_0, r_ca1 c_M_sheet_1, r_ifeq c_M_sheet_4, r_il2 c_M_sheet_7, r_i2l c_M_sheet_8, r_cl c_M_sheet_9, r_cl c_M_sheet_12, r_ca3 c_M_sheet_15, r_ifeq c_M_sheet_18, r_il2 c_M_sheet_21, r_iflt c_M_sheet_22, r_il3 c_M_sheet_25, r_ci c_M_sheet_26, r_icle c_M_sheet_28, r_ci c_M_sheet_31, r_iret c_M_sheet_33, r_il2 c_M_sheet_34, r_iflt c_M_sheet_35, r_il3 c_M_sheet_38, r_ifge c_M_sheet_39, r_ci c_M_sheet_42, r_iret c_M_sheet_45, ↓reduceIte, hs_h, Option.bind_some, mfix_i, mfix_r, mfix_n, mfix_a, Option.toList_some, Option.toList_none, List.cons_append, List.nil_append, List.singleton_append, mwt, Value.category, Nat.reduceAdd, Nat.reduceLeDiff, true_and, and_true, and_self, M_isSheet_ok, h1, M_within_k (y := -1) (w := 2) (y' := -1) (w' := 2) (by decide) (by decide), h2, one_nz, hv0, e1, if_false, if_true]
end SHQ
