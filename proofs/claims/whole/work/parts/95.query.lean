/-! calls that only tell: hearings, members, texts, papers -/
section QUERY2
variable {E : EE} {S S1 S2 : SS} {b d k n m : Nat} {c v w x y x0 x1 x2 x3 : Int32} {z t hc pk : Nat → Nat}
theorem q_heard (h : Inv E S) : opE E S 188 189 3 3 [.int c, .int v] := by
  obtain ⟨hE, hpar, ⟨z, t, hc, pk, td, htd, hR⟩, hI, hTp, hWt, hSh, hKy⟩ := id h
  obtain ⟨b, hb1⟩ : ∃ b, b = 1 := ⟨1, rfl⟩
  have hb : bkb b := Or.inl hb1
  rw [← hb1] at hR
  have o9 := o_X hE hb1
  have o0 := o_B hE hb
  have o8 := o_I hE hb
  have o1 := o_L hE hb
  have o5 := o_P hE
  have o10 := o_M hE
  have m10 := m_M hE
  have m9 : ∀ S, misc (hp E S 0) 9 = true := fun S => misc_o o9
  have m0 : ∀ S, misc (hp E S b) 0 = true := fun S => misc_o o0
  have m8 : ∀ S, misc (hp E S (b + 13)) 8 = true := fun S => misc_o o8
  have m1 : ∀ S, misc (hp E S (b + 22)) 1 = true := fun S => misc_o o1
  have m5 : ∀ S, misc (hp E S 79) 5 = true := fun S => misc_o o5
  obtain ⟨n1, n14, n16, n18, n20, n22, n3, n5, n7⟩ := rl_okm hR
  obtain ⟨⟨g1, g3, g5, g7, g14, g16, g18, g20, g22, gt, gw⟩, hH, hP⟩ := rl_okh hR
  have ht := rl_tod hR
  rcases ixc (n := z 7) c (by omega) with hx | ⟨k, hk, rfl, hx⟩
  · refine op_v h (-1000000001) (fun d => ?_) (fun d => ?_)
    · simp only [ment, mfl, List.length, List.replicate, List.cons_append, List.nil_append, Nat.reduceAdd, Nat.reduceSub]; simp only [r_al0 c_X_heard_0, r_an0 c_X_heard_0, r_gfSr c_X_heard_1 o9 rfl, r_gfSr c_X_heard_4 o0 rfl, r_il1 c_X_heard_7, r_cv2 c_X_heard_8, r_ifeq c_X_heard_11, r_il2 c_X_heard_14, r_ci c_X_heard_15, r_ci c_X_heard_16, r_ca3 c_X_heard_17, r_ifne c_X_heard_20, r_ci c_X_heard_23, r_iret c_X_heard_25, r_al0 c_X_heard_26, r_an0 c_X_heard_26, r_gfSr c_X_heard_27 o9 rfl, r_gfSr c_X_heard_30 o0 rfl, r_il1 c_X_heard_33, r_il2 c_X_heard_34, r_cv3 c_X_heard_35, r_iret c_X_heard_38, ↓reduceIte, hs_h, Option.bind_some, mfix_i, mfix_r, mfix_n, mfix_a, Option.toList_some, Option.toList_none, List.cons_append, List.nil_append, List.singleton_append, mwt, Value.category, Nat.reduceAdd, Nat.reduceLeDiff, true_and, and_true, and_self, misc_w (w_7 hE hb), has_7 hE hb, g7.1, hx, if_true]
    · simp only [ment, mfl, List.length, List.replicate, List.cons_append, List.nil_append, Nat.reduceAdd, Nat.reduceSub]; simp only [r_al0 c_M_heard_0, r_il1 c_M_heard_1, r_ci c_M_heard_2, r_cv3 c_M_heard_4, r_ifeq c_M_heard_7, r_il2 c_M_heard_10, r_i2l c_M_heard_11, r_cl c_M_heard_12, r_cl c_M_heard_13, r_ca3 c_M_heard_16, r_ifne c_M_heard_19, r_ci c_M_heard_22, r_goto c_M_heard_24, r_al0 c_M_heard_27, r_gfSr c_M_heard_28 o10 rfl, r_il1 c_M_heard_31, r_il2 c_M_heard_32, r_ca2 c_M_heard_33, r_ial c_M_heard_36, r_iret c_M_heard_37, ↓reduceIte, hs_h, Option.bind_some, mfix_i, mfix_r, mfix_n, mfix_a, Option.toList_some, Option.toList_none, List.cons_append, List.nil_append, List.singleton_append, mwt, Value.category, Nat.reduceAdd, Nat.reduceLeDiff, true_and, and_true, and_self, m10, mt10 hE, n7.1, th_eq (show z 7 < 2 ^ 31 by omega), hx, if_true]
  · rcases wic (m := 4) v (by omega) with hv | ⟨D, hD, rfl, hv⟩
    · have hv : wiS v 0 4 = 0 := hv
      refine op_v h (-1000000001) (fun d => ?_) (fun d => ?_)
      · simp only [ment, mfl, List.length, List.replicate, List.cons_append, List.nil_append, Nat.reduceAdd, Nat.reduceSub]; simp only [r_al0 c_X_heard_0, r_an0 c_X_heard_0, r_gfSr c_X_heard_1 o9 rfl, r_gfSr c_X_heard_4 o0 rfl, r_il1 c_X_heard_7, r_cv2 c_X_heard_8, r_ifeq c_X_heard_11, r_il2 c_X_heard_14, r_ci c_X_heard_15, r_ci c_X_heard_16, r_ca3 c_X_heard_17, r_ifne c_X_heard_20, r_ci c_X_heard_23, r_iret c_X_heard_25, r_al0 c_X_heard_26, r_an0 c_X_heard_26, r_gfSr c_X_heard_27 o9 rfl, r_gfSr c_X_heard_30 o0 rfl, r_il1 c_X_heard_33, r_il2 c_X_heard_34, r_cv3 c_X_heard_35, r_iret c_X_heard_38, ↓reduceIte, hs_h, Option.bind_some, mfix_i, mfix_r, mfix_n, mfix_a, Option.toList_some, Option.toList_none, List.cons_append, List.nil_append, List.singleton_append, mwt, Value.category, Nat.reduceAdd, Nat.reduceLeDiff, true_and, and_true, and_self, misc_w (w_7 hE hb), has_7 hE hb, g7.1, hx, if_false, one_nz, X_within_ok, hv, if_true]
      · simp only [ment, mfl, List.length, List.replicate, List.cons_append, List.nil_append, Nat.reduceAdd, Nat.reduceSub]; simp only [r_al0 c_M_heard_0, r_il1 c_M_heard_1, r_ci c_M_heard_2, r_cv3 c_M_heard_4, r_ifeq c_M_heard_7, r_il2 c_M_heard_10, r_i2l c_M_heard_11, r_cl c_M_heard_12, r_cl c_M_heard_13, r_ca3 c_M_heard_16, r_ifne c_M_heard_19, r_ci c_M_heard_22, r_goto c_M_heard_24, r_al0 c_M_heard_27, r_gfSr c_M_heard_28 o10 rfl, r_il1 c_M_heard_31, r_il2 c_M_heard_32, r_ca2 c_M_heard_33, r_ial c_M_heard_36, r_iret c_M_heard_37, ↓reduceIte, hs_h, Option.bind_some, mfix_i, mfix_r, mfix_n, mfix_a, Option.toList_some, Option.toList_none, List.cons_append, List.nil_append, List.singleton_append, mwt, Value.category, Nat.reduceAdd, Nat.reduceLeDiff, true_and, and_true, and_self, m10, mt10 hE, n7.1, th_eq (show z 7 < 2 ^ 31 by omega), hx, if_false, one_nz, M_within_k (y := 0) (w := 4) (y' := 0) (w' := 4) (by decide) (by decide), hv, if_true]
    · have hv : wiS (nI D) 0 4 = 1 := hv
      have e := rl_hea hR k hk D (by omega)
      refine op_v h (iA S (b + 8) (k * 5 + D)) (fun d => ?_) (fun d => ?_)
      · simp only [ment, mfl, List.length, List.replicate, List.cons_append, List.nil_append, Nat.reduceAdd, Nat.reduceSub]; simp only [r_al0 c_X_heard_0, r_an0 c_X_heard_0, r_gfSr c_X_heard_1 o9 rfl, r_gfSr c_X_heard_4 o0 rfl, r_il1 c_X_heard_7, r_cv2 c_X_heard_8, r_ifeq c_X_heard_11, r_il2 c_X_heard_14, r_ci c_X_heard_15, r_ci c_X_heard_16, r_ca3 c_X_heard_17, r_ifne c_X_heard_20, r_ci c_X_heard_23, r_iret c_X_heard_25, r_al0 c_X_heard_26, r_an0 c_X_heard_26, r_gfSr c_X_heard_27 o9 rfl, r_gfSr c_X_heard_30 o0 rfl, r_il1 c_X_heard_33, r_il2 c_X_heard_34, r_cv3 c_X_heard_35, r_iret c_X_heard_38, ↓reduceIte, hs_h, Option.bind_some, mfix_i, mfix_r, mfix_n, mfix_a, Option.toList_some, Option.toList_none, List.cons_append, List.nil_append, List.singleton_append, mwt, Value.category, Nat.reduceAdd, Nat.reduceLeDiff, true_and, and_true, and_self, at_7 hE hb, misc_w (w_7 hE hb), has_7 hE hb, g7.1, hx, if_false, one_nz, X_within_ok, hv, rwAt_n (show k < 30 by omega) (show D < 5 by omega) (show 30 * 5 ≤ 1000 by decide)]
      · simp only [ment, mfl, List.length, List.replicate, List.cons_append, List.nil_append, Nat.reduceAdd, Nat.reduceSub]; simp only [r_al0 c_M_heard_0, r_il1 c_M_heard_1, r_ci c_M_heard_2, r_cv3 c_M_heard_4, r_ifeq c_M_heard_7, r_il2 c_M_heard_10, r_i2l c_M_heard_11, r_cl c_M_heard_12, r_cl c_M_heard_13, r_ca3 c_M_heard_16, r_ifne c_M_heard_19, r_ci c_M_heard_22, r_goto c_M_heard_24, r_al0 c_M_heard_27, r_gfSr c_M_heard_28 o10 rfl, r_il1 c_M_heard_31, r_il2 c_M_heard_32, r_ca2 c_M_heard_33, r_ial c_M_heard_36, r_iret c_M_heard_37, ↓reduceIte, hs_h, Option.bind_some, mfix_i, mfix_r, mfix_n, mfix_a, Option.toList_some, Option.toList_none, List.cons_append, List.nil_append, List.singleton_append, mwt, Value.category, Nat.reduceAdd, Nat.reduceLeDiff, true_and, and_true, and_self, m10, mt10 hE, n7.1, th_eq (show z 7 < 2 ^ 31 by omega), hx, if_false, one_nz, M_within_k (y := 0) (w := 4) (y' := 0) (w' := 4) (by decide) (by decide), hv, M_ofHearing_ok, mia_94 hE (show 670 + 6 * k + D < 2578 by omega), e]
theorem q_is (h : Inv E S) : opE E S 175 176 3 3 [.int c, .int v] := by
  obtain ⟨hE, hpar, ⟨z, t, hc, pk, td, htd, hR⟩, hI, hTp, hWt, hSh, hKy⟩ := id h
  obtain ⟨b, hb1⟩ : ∃ b, b = 1 := ⟨1, rfl⟩
  have hb : bkb b := Or.inl hb1
  rw [← hb1] at hR
  have o9 := o_X hE hb1
  have o0 := o_B hE hb
  have o8 := o_I hE hb
  have o1 := o_L hE hb
  have o5 := o_P hE
  have o10 := o_M hE
  have m10 := m_M hE
  have m9 : ∀ S, misc (hp E S 0) 9 = true := fun S => misc_o o9
  have m0 : ∀ S, misc (hp E S b) 0 = true := fun S => misc_o o0
  have m8 : ∀ S, misc (hp E S (b + 13)) 8 = true := fun S => misc_o o8
  have m1 : ∀ S, misc (hp E S (b + 22)) 1 = true := fun S => misc_o o1
  have m5 : ∀ S, misc (hp E S 79) 5 = true := fun S => misc_o o5
  obtain ⟨n1, n14, n16, n18, n20, n22, n3, n5, n7⟩ := rl_okm hR
  obtain ⟨⟨g1, g3, g5, g7, g14, g16, g18, g20, g22, gt, gw⟩, hH, hP⟩ := rl_okh hR
  have ht := rl_tod hR
  rcases ixc (n := z 5) c (by omega) with hx | ⟨k, hk, rfl, hx⟩
  · refine op_v h (-1000000001) (fun d => ?_) (fun d => ?_)
    · simp only [ment, mfl, List.length, List.replicate, List.cons_append, List.nil_append, Nat.reduceAdd, Nat.reduceSub]; simp only [r_al0 c_X_is_0, r_an0 c_X_is_0, r_gfSr c_X_is_1 o9 rfl, r_gfSr c_X_is_4 o0 rfl, r_il1 c_X_is_7, r_cv2 c_X_is_8, r_ifeq c_X_is_11, r_il2 c_X_is_14, r_ci c_X_is_15, r_ci c_X_is_16, r_ca3 c_X_is_17, r_ifne c_X_is_20, r_ci c_X_is_23, r_iret c_X_is_25, r_al0 c_X_is_26, r_an0 c_X_is_26, r_gfSr c_X_is_27 o9 rfl, r_gfSr c_X_is_30 o0 rfl, r_il1 c_X_is_33, r_il2 c_X_is_34, r_cv3 c_X_is_35, r_iret c_X_is_38, ↓reduceIte, hs_h, Option.bind_some, mfix_i, mfix_r, mfix_n, mfix_a, Option.toList_some, Option.toList_none, List.cons_append, List.nil_append, List.singleton_append, mwt, Value.category, Nat.reduceAdd, Nat.reduceLeDiff, true_and, and_true, and_self, misc_w (w_5 hE hb), has_5 hE hb, g5.1, hx, if_true]
    · simp only [ment, mfl, List.length, List.replicate, List.cons_append, List.nil_append, Nat.reduceAdd, Nat.reduceSub]; simp only [r_al0 c_M_is_0, r_il1 c_M_is_1, r_ci c_M_is_2, r_cv3 c_M_is_4, r_ifeq c_M_is_7, r_il2 c_M_is_10, r_i2l c_M_is_11, r_cl c_M_is_12, r_cl c_M_is_13, r_ca3 c_M_is_16, r_ifne c_M_is_19, r_ci c_M_is_22, r_goto c_M_is_24, r_al0 c_M_is_27, r_gfSr c_M_is_28 o10 rfl, r_ci c_M_is_31, r_ci c_M_is_34, r_il1 c_M_is_35, r_imul c_M_is_36, r_iadd c_M_is_37, r_il2 c_M_is_38, r_iadd c_M_is_39, r_ial c_M_is_40, r_iret c_M_is_41, ↓reduceIte, hs_h, Option.bind_some, mfix_i, mfix_r, mfix_n, mfix_a, Option.toList_some, Option.toList_none, List.cons_append, List.nil_append, List.singleton_append, mwt, Value.category, Nat.reduceAdd, Nat.reduceLeDiff, true_and, and_true, and_self, m10, mt9 hE, n5.1, th_eq (show z 5 < 2 ^ 31 by omega), hx, if_true]
  · rcases wic (m := 3) v (by omega) with hv | ⟨D, hD, rfl, hv⟩
    · have hv : wiS v 0 3 = 0 := hv
      refine op_v h (-1000000001) (fun d => ?_) (fun d => ?_)
      · simp only [ment, mfl, List.length, List.replicate, List.cons_append, List.nil_append, Nat.reduceAdd, Nat.reduceSub]; simp only [r_al0 c_X_is_0, r_an0 c_X_is_0, r_gfSr c_X_is_1 o9 rfl, r_gfSr c_X_is_4 o0 rfl, r_il1 c_X_is_7, r_cv2 c_X_is_8, r_ifeq c_X_is_11, r_il2 c_X_is_14, r_ci c_X_is_15, r_ci c_X_is_16, r_ca3 c_X_is_17, r_ifne c_X_is_20, r_ci c_X_is_23, r_iret c_X_is_25, r_al0 c_X_is_26, r_an0 c_X_is_26, r_gfSr c_X_is_27 o9 rfl, r_gfSr c_X_is_30 o0 rfl, r_il1 c_X_is_33, r_il2 c_X_is_34, r_cv3 c_X_is_35, r_iret c_X_is_38, ↓reduceIte, hs_h, Option.bind_some, mfix_i, mfix_r, mfix_n, mfix_a, Option.toList_some, Option.toList_none, List.cons_append, List.nil_append, List.singleton_append, mwt, Value.category, Nat.reduceAdd, Nat.reduceLeDiff, true_and, and_true, and_self, misc_w (w_5 hE hb), has_5 hE hb, g5.1, hx, if_false, one_nz, X_within_ok, hv, if_true]
      · simp only [ment, mfl, List.length, List.replicate, List.cons_append, List.nil_append, Nat.reduceAdd, Nat.reduceSub]; simp only [r_al0 c_M_is_0, r_il1 c_M_is_1, r_ci c_M_is_2, r_cv3 c_M_is_4, r_ifeq c_M_is_7, r_il2 c_M_is_10, r_i2l c_M_is_11, r_cl c_M_is_12, r_cl c_M_is_13, r_ca3 c_M_is_16, r_ifne c_M_is_19, r_ci c_M_is_22, r_goto c_M_is_24, r_al0 c_M_is_27, r_gfSr c_M_is_28 o10 rfl, r_ci c_M_is_31, r_ci c_M_is_34, r_il1 c_M_is_35, r_imul c_M_is_36, r_iadd c_M_is_37, r_il2 c_M_is_38, r_iadd c_M_is_39, r_ial c_M_is_40, r_iret c_M_is_41, ↓reduceIte, hs_h, Option.bind_some, mfix_i, mfix_r, mfix_n, mfix_a, Option.toList_some, Option.toList_none, List.cons_append, List.nil_append, List.singleton_append, mwt, Value.category, Nat.reduceAdd, Nat.reduceLeDiff, true_and, and_true, and_self, m10, mt9 hE, n5.1, th_eq (show z 5 < 2 ^ 31 by omega), hx, if_false, one_nz, M_within_k (y := 0) (w := 3) (y' := 0) (w' := 3) (by decide) (by decide), hv, if_true]
    · have hv : wiS (nI D) 0 3 = 1 := hv
      have e := ((rl_mem hR).2 k hk).1 D (by omega)
      refine op_v h (iA S (b + 6) (k * 4 + D)) (fun d => ?_) (fun d => ?_)
      · simp only [ment, mfl, List.length, List.replicate, List.cons_append, List.nil_append, Nat.reduceAdd, Nat.reduceSub]; simp only [r_al0 c_X_is_0, r_an0 c_X_is_0, r_gfSr c_X_is_1 o9 rfl, r_gfSr c_X_is_4 o0 rfl, r_il1 c_X_is_7, r_cv2 c_X_is_8, r_ifeq c_X_is_11, r_il2 c_X_is_14, r_ci c_X_is_15, r_ci c_X_is_16, r_ca3 c_X_is_17, r_ifne c_X_is_20, r_ci c_X_is_23, r_iret c_X_is_25, r_al0 c_X_is_26, r_an0 c_X_is_26, r_gfSr c_X_is_27 o9 rfl, r_gfSr c_X_is_30 o0 rfl, r_il1 c_X_is_33, r_il2 c_X_is_34, r_cv3 c_X_is_35, r_iret c_X_is_38, ↓reduceIte, hs_h, Option.bind_some, mfix_i, mfix_r, mfix_n, mfix_a, Option.toList_some, Option.toList_none, List.cons_append, List.nil_append, List.singleton_append, mwt, Value.category, Nat.reduceAdd, Nat.reduceLeDiff, true_and, and_true, and_self, at_5 hE hb, misc_w (w_5 hE hb), has_5 hE hb, g5.1, hx, if_false, one_nz, X_within_ok, hv, rwAt_n (show k < 9 by omega) (show D < 4 by omega) (show 9 * 4 ≤ 1000 by decide)]
      · simp only [ment, mfl, List.length, List.replicate, List.cons_append, List.nil_append, Nat.reduceAdd, Nat.reduceSub]; simp only [r_al0 c_M_is_0, r_il1 c_M_is_1, r_ci c_M_is_2, r_cv3 c_M_is_4, r_ifeq c_M_is_7, r_il2 c_M_is_10, r_i2l c_M_is_11, r_cl c_M_is_12, r_cl c_M_is_13, r_ca3 c_M_is_16, r_ifne c_M_is_19, r_ci c_M_is_22, r_goto c_M_is_24, r_al0 c_M_is_27, r_gfSr c_M_is_28 o10 rfl, r_ci c_M_is_31, r_ci c_M_is_34, r_il1 c_M_is_35, r_imul c_M_is_36, r_iadd c_M_is_37, r_il2 c_M_is_38, r_iadd c_M_is_39, r_ial c_M_is_40, r_iret c_M_is_41, ↓reduceIte, hs_h, Option.bind_some, mfix_i, mfix_r, mfix_n, mfix_a, Option.toList_some, Option.toList_none, List.cons_append, List.nil_append, List.singleton_append, mwt, Value.category, Nat.reduceAdd, Nat.reduceLeDiff, true_and, and_true, and_self, m10, mt9 hE, n5.1, th_eq (show z 5 < 2 ^ 31 by omega), hx, if_false, one_nz, M_within_k (y := 0) (w := 3) (y' := 0) (w' := 3) (by decide) (by decide), hv, km2, km3, km4, km6, km104, km24, ka20, ka92, ka164, ka254, ka314, ka474, ka634, ka670, ka850, ka890, ka914, ka12, kr2, kr3, kr4, kr5, nI_1, nI_add, mia_94 hE (show 634 + 4 * k + D < 2578 by omega), e]
theorem wi1 (c : Int32) {m : Nat} (hm : m < 2 ^ 31) : wiS c 1 (nI m) = 0 ∨ ∃ k : Nat, 1 ≤ k ∧ k ≤ m ∧ c = nI k ∧ wiS (nI k) 1 (nI m) = 1 := by
  by_cases h0 : c < 1
  · exact Or.inl (by rw [wiS, if_pos h0])
  · have h00 : ¬ c < 0 := fun h => h0 (Int32.lt_trans h (by decide))
    obtain ⟨j, hj, rfl⟩ := nI_of h00
    have hj1 : 1 ≤ j := by
      cases j with
      | zero => exact absurd (show nI 0 < 1 by decide) h0
      | succ j => omega
    by_cases h1 : m < j
    · exact Or.inl (by rw [wiS, if_neg h0, if_pos ((nI_ltI hm hj).mpr h1)])
    · exact Or.inr ⟨j, hj1, by omega, rfl, by rw [wiS, if_neg h0, if_neg (fun h => h1 ((nI_ltI hm hj).mp h))]⟩
theorem q_puts (h : Inv E S) : opE E S 199 200 2 2 [.int v] := by
  obtain ⟨hE, hpar, ⟨z, t, hc, pk, td, htd, hR⟩, hI, hTp, hWt, hSh, hKy⟩ := id h
  obtain ⟨b, hb1⟩ : ∃ b, b = 1 := ⟨1, rfl⟩
  have hb : bkb b := Or.inl hb1
  rw [← hb1] at hR
  have o9 := o_X hE hb1
  have o0 := o_B hE hb
  have o8 := o_I hE hb
  have o1 := o_L hE hb
  have o5 := o_P hE
  have o10 := o_M hE
  have m10 := m_M hE
  have m9 : ∀ S, misc (hp E S 0) 9 = true := fun S => misc_o o9
  have m0 : ∀ S, misc (hp E S b) 0 = true := fun S => misc_o o0
  have m8 : ∀ S, misc (hp E S (b + 13)) 8 = true := fun S => misc_o o8
  have m1 : ∀ S, misc (hp E S (b + 22)) 1 = true := fun S => misc_o o1
  have m5 : ∀ S, misc (hp E S 79) 5 = true := fun S => misc_o o5
  obtain ⟨n1, n14, n16, n18, n20, n22, n3, n5, n7⟩ := rl_okm hR
  obtain ⟨⟨g1, g3, g5, g7, g14, g16, g18, g20, g22, gt, gw⟩, hH, hP⟩ := rl_okh hR
  have ht := rl_tod hR
  rcases wi1 (m := 4) v (by omega) with hv | ⟨q, hq1, hq, rfl, hv⟩
  · have hv : wiS v 1 4 = 0 := hv
    refine op_v h (-1000000001) (fun d => ?_) (fun d => ?_)
    · simp only [ment, mfl, List.length, List.replicate, List.cons_append, List.nil_append, Nat.reduceAdd, Nat.reduceSub]; simp only [r_il1 c_X_puts_0, r_ci c_X_puts_1, r_ci c_X_puts_2, r_ca3 c_X_puts_3, r_ifne c_X_puts_6, r_ci c_X_puts_9, r_iret c_X_puts_11, r_al0 c_X_puts_12, r_an0 c_X_puts_12, r_gfSr c_X_puts_13 o9 rfl, r_il1 c_X_puts_16, r_cv2 c_X_puts_17, r_iret c_X_puts_20, ↓reduceIte, hs_h, Option.bind_some, mfix_i, mfix_r, mfix_n, mfix_a, Option.toList_some, Option.toList_none, List.cons_append, List.nil_append, List.singleton_append, mwt, Value.category, Nat.reduceAdd, Nat.reduceLeDiff, true_and, and_true, and_self, X_within_ok, hv, if_true]
    · simp only [ment, mfl, List.length, List.replicate, List.cons_append, List.nil_append, Nat.reduceAdd, Nat.reduceSub]; simp only [r_il1 c_M_puts_0, r_i2l c_M_puts_1, r_cl c_M_puts_2, r_cl c_M_puts_3, r_ca3 c_M_puts_6, r_ifeq c_M_puts_9, r_al0 c_M_puts_12, r_gfSr c_M_puts_13 o10 rfl, r_ci c_M_puts_16, r_il1 c_M_puts_18, r_iadd c_M_puts_19, r_ial c_M_puts_20, r_goto c_M_puts_21, r_ci c_M_puts_24, r_iret c_M_puts_26, ↓reduceIte, hs_h, Option.bind_some, mfix_i, mfix_r, mfix_n, mfix_a, Option.toList_some, Option.toList_none, List.cons_append, List.nil_append, List.singleton_append, mwt, Value.category, Nat.reduceAdd, Nat.reduceLeDiff, true_and, and_true, and_self, M_within_k (y := 1) (w := 4) (y' := 1) (w' := 4) (by decide) (by decide), hv, if_true]
  · have hv : wiS (nI q) 1 4 = 1 := hv
    have e := rl_put hR q (by omega) hq1
    have e0 : rwAt 5 1 (iA S (b + 12)) (nI q) 0 = iA S (b + 12) q := by
      rw [ra0 (show q < 5 by omega) (by decide) (by decide), Nat.mul_one]
    refine op_v h (iA S (b + 12) q) (fun d => ?_) (fun d => ?_)
    · simp only [ment, mfl, List.length, List.replicate, List.cons_append, List.nil_append, Nat.reduceAdd, Nat.reduceSub]; simp only [r_il1 c_X_puts_0, r_ci c_X_puts_1, r_ci c_X_puts_2, r_ca3 c_X_puts_3, r_ifne c_X_puts_6, r_ci c_X_puts_9, r_iret c_X_puts_11, r_al0 c_X_puts_12, r_an0 c_X_puts_12, r_gfSr c_X_puts_13 o9 rfl, r_il1 c_X_puts_16, r_cv2 c_X_puts_17, r_iret c_X_puts_20, ↓reduceIte, hs_h, Option.bind_some, mfix_i, mfix_r, mfix_n, mfix_a, Option.toList_some, Option.toList_none, List.cons_append, List.nil_append, List.singleton_append, mwt, Value.category, Nat.reduceAdd, Nat.reduceLeDiff, true_and, and_true, and_self, X_within_ok, hv, one_nz, if_false, m0, B_timesPutOffBy_ok hE hb, e0]
    · simp only [ment, mfl, List.length, List.replicate, List.cons_append, List.nil_append, Nat.reduceAdd, Nat.reduceSub]; simp only [r_il1 c_M_puts_0, r_i2l c_M_puts_1, r_cl c_M_puts_2, r_cl c_M_puts_3, r_ca3 c_M_puts_6, r_ifeq c_M_puts_9, r_al0 c_M_puts_12, r_gfSr c_M_puts_13 o10 rfl, r_ci c_M_puts_16, r_il1 c_M_puts_18, r_iadd c_M_puts_19, r_ial c_M_puts_20, r_goto c_M_puts_21, r_ci c_M_puts_24, r_iret c_M_puts_26, ↓reduceIte, hs_h, Option.bind_some, mfix_i, mfix_r, mfix_n, mfix_a, Option.toList_some, Option.toList_none, List.cons_append, List.nil_append, List.singleton_append, mwt, Value.category, Nat.reduceAdd, Nat.reduceLeDiff, true_and, and_true, and_self, M_within_k (y := 1) (w := 4) (y' := 1) (w' := 4) (by decide) (by decide), hv, one_nz, if_false, km2, km3, km4, km6, km104, km24, ka20, ka92, ka164, ka254, ka314, ka474, ka634, ka670, ka850, ka890, ka914, ka12, kr2, kr3, kr4, kr5, nI_1, nI_add, mia_94 hE (show 12 + q < 2578 by omega), e]
theorem q_why (h : Inv E S) : opE E S 157 158 3 4 [.int c, .int v] := by
  obtain ⟨hE, hpar, ⟨z, t, hc, pk, td, htd, hR⟩, hI, hTp, hWt, hSh, hKy⟩ := id h
  obtain ⟨b, hb1⟩ : ∃ b, b = 1 := ⟨1, rfl⟩
  have hb : bkb b := Or.inl hb1
  rw [← hb1] at hR
  have o9 := o_X hE hb1
  have o0 := o_B hE hb
  have o8 := o_I hE hb
  have o1 := o_L hE hb
  have o5 := o_P hE
  have o10 := o_M hE
  have m10 := m_M hE
  have m9 : ∀ S, misc (hp E S 0) 9 = true := fun S => misc_o o9
  have m0 : ∀ S, misc (hp E S b) 0 = true := fun S => misc_o o0
  have m8 : ∀ S, misc (hp E S (b + 13)) 8 = true := fun S => misc_o o8
  have m1 : ∀ S, misc (hp E S (b + 22)) 1 = true := fun S => misc_o o1
  have m5 : ∀ S, misc (hp E S 79) 5 = true := fun S => misc_o o5
  obtain ⟨n1, n14, n16, n18, n20, n22, n3, n5, n7⟩ := rl_okm hR
  obtain ⟨⟨g1, g3, g5, g7, g14, g16, g18, g20, g22, gt, gw⟩, hH, hP⟩ := rl_okh hR
  have ht := rl_tod hR
  rcases wi01 (x := c) (y := 0) (w := 7) with h1 | h1
  · refine op_v h (-1000000001) (fun d => ?_) (fun d => ?_)
    · simp only [ment, mfl, List.length, List.replicate, List.cons_append, List.nil_append, Nat.reduceAdd, Nat.reduceSub]; simp only [r_il1 c_X_why_0, r_ci c_X_why_1, r_ci c_X_why_2, r_ca3 c_X_why_4, r_ifeq c_X_why_7, r_il2 c_X_why_10, r_ci c_X_why_11, r_ci c_X_why_12, r_ca3 c_X_why_13, r_ifne c_X_why_16, r_ci c_X_why_19, r_iret c_X_why_21, r_al0 c_X_why_22, r_an0 c_X_why_22, r_gfSr c_X_why_23 o9 rfl, r_gfSr c_X_why_26 o0 rfl, r_il1 c_X_why_29, r_il2 c_X_why_30, r_al0 c_X_why_31, r_an0 c_X_why_31, r_gfSr c_X_why_32 o9 rfl, r_gfS0 c_X_why_35 o0 rfl, r_cv4 c_X_why_38, r_iret c_X_why_41, ↓reduceIte, hs_h, Option.bind_some, mfix_i, mfix_r, mfix_n, mfix_a, Option.toList_some, Option.toList_none, List.cons_append, List.nil_append, List.singleton_append, mwt, Value.category, Nat.reduceAdd, Nat.reduceLeDiff, true_and, and_true, and_self, X_within_ok, h1, if_true]
    · simp only [ment, mfl, List.length, List.replicate, List.cons_append, List.nil_append, Nat.reduceAdd, Nat.reduceSub]; simp only [r_il1 c_M_why_0, r_i2l c_M_why_1, r_cl c_M_why_2, r_cl c_M_why_3, r_ca3 c_M_why_6, r_ifeq c_M_why_9, r_il2 c_M_why_12, r_i2l c_M_why_13, r_cl c_M_why_14, r_cl c_M_why_15, r_ca3 c_M_why_18, r_ifne c_M_why_21, r_ci c_M_why_24, r_iret c_M_why_26, r_al0 c_M_why_27, r_il1 c_M_why_28, r_il2 c_M_why_29, r_cv3 c_M_why_30, r_is3 c_M_why_33, r_il3 c_M_why_34, r_ifge c_M_why_35, r_ci c_M_why_38, r_goto c_M_why_40, r_il3 c_M_why_43, r_iret c_M_why_44, ↓reduceIte, hs_h, Option.bind_some, mfix_i, mfix_r, mfix_n, mfix_a, Option.toList_some, Option.toList_none, List.cons_append, List.nil_append, List.singleton_append, mwt, Value.category, Nat.reduceAdd, Nat.reduceLeDiff, true_and, and_true, and_self, M_within_k (y := 0) (w := 7) (y' := 0) (w' := 7) (by decide) (by decide), h1, if_true]
  · rcases wi01 (x := v) (y := 0) (w := 4) with h2 | h2
    · refine op_v h (-1000000001) (fun d => ?_) (fun d => ?_)
      · simp only [ment, mfl, List.length, List.replicate, List.cons_append, List.nil_append, Nat.reduceAdd, Nat.reduceSub]; simp only [r_il1 c_X_why_0, r_ci c_X_why_1, r_ci c_X_why_2, r_ca3 c_X_why_4, r_ifeq c_X_why_7, r_il2 c_X_why_10, r_ci c_X_why_11, r_ci c_X_why_12, r_ca3 c_X_why_13, r_ifne c_X_why_16, r_ci c_X_why_19, r_iret c_X_why_21, r_al0 c_X_why_22, r_an0 c_X_why_22, r_gfSr c_X_why_23 o9 rfl, r_gfSr c_X_why_26 o0 rfl, r_il1 c_X_why_29, r_il2 c_X_why_30, r_al0 c_X_why_31, r_an0 c_X_why_31, r_gfSr c_X_why_32 o9 rfl, r_gfS0 c_X_why_35 o0 rfl, r_cv4 c_X_why_38, r_iret c_X_why_41, ↓reduceIte, hs_h, Option.bind_some, mfix_i, mfix_r, mfix_n, mfix_a, Option.toList_some, Option.toList_none, List.cons_append, List.nil_append, List.singleton_append, mwt, Value.category, Nat.reduceAdd, Nat.reduceLeDiff, true_and, and_true, and_self, X_within_ok, h1, h2, one_nz, if_false, if_true]
      · simp only [ment, mfl, List.length, List.replicate, List.cons_append, List.nil_append, Nat.reduceAdd, Nat.reduceSub]; simp only [r_il1 c_M_why_0, r_i2l c_M_why_1, r_cl c_M_why_2, r_cl c_M_why_3, r_ca3 c_M_why_6, r_ifeq c_M_why_9, r_il2 c_M_why_12, r_i2l c_M_why_13, r_cl c_M_why_14, r_cl c_M_why_15, r_ca3 c_M_why_18, r_ifne c_M_why_21, r_ci c_M_why_24, r_iret c_M_why_26, r_al0 c_M_why_27, r_il1 c_M_why_28, r_il2 c_M_why_29, r_cv3 c_M_why_30, r_is3 c_M_why_33, r_il3 c_M_why_34, r_ifge c_M_why_35, r_ci c_M_why_38, r_goto c_M_why_40, r_il3 c_M_why_43, r_iret c_M_why_44, ↓reduceIte, hs_h, Option.bind_some, mfix_i, mfix_r, mfix_n, mfix_a, Option.toList_some, Option.toList_none, List.cons_append, List.nil_append, List.singleton_append, mwt, Value.category, Nat.reduceAdd, Nat.reduceLeDiff, true_and, and_true, and_self, M_within_k (y := 0) (w := 7) (y' := 0) (w' := 7) (by decide) (by decide), M_within_k (y := 0) (w := 4) (y' := 0) (w' := 4) (by decide) (by decide), h1, h2, one_nz, if_false, if_true]
    · have rc := fun d => M_counting_ok (d := d) (S := S) (R := S) (fo := c) (fk := v) hE n22.1 n22.2 ht.2.2 (rl_txt hR)
      refine op_v h (cdO (ctQ S t (z 22) c v (nI td))) (fun d => ?_) (fun d => ?_)
      · simp only [ment, mfl, List.length, List.replicate, List.cons_append, List.nil_append, Nat.reduceAdd, Nat.reduceSub]; simp only [r_il1 c_X_why_0, r_ci c_X_why_1, r_ci c_X_why_2, r_ca3 c_X_why_4, r_ifeq c_X_why_7, r_il2 c_X_why_10, r_ci c_X_why_11, r_ci c_X_why_12, r_ca3 c_X_why_13, r_ifne c_X_why_16, r_ci c_X_why_19, r_iret c_X_why_21, r_al0 c_X_why_22, r_an0 c_X_why_22, r_gfSr c_X_why_23 o9 rfl, r_gfSr c_X_why_26 o0 rfl, r_il1 c_X_why_29, r_il2 c_X_why_30, r_al0 c_X_why_31, r_an0 c_X_why_31, r_gfSr c_X_why_32 o9 rfl, r_gfS0 c_X_why_35 o0 rfl, r_cv4 c_X_why_38, r_iret c_X_why_41, ↓reduceIte, hs_h, Option.bind_some, mfix_i, mfix_r, mfix_n, mfix_a, Option.toList_some, Option.toList_none, List.cons_append, List.nil_append, List.singleton_append, mwt, Value.category, Nat.reduceAdd, Nat.reduceLeDiff, true_and, and_true, and_self, X_within_ok, h1, h2, one_nz, if_false, m1, ht.1, L_countingText_ok hE hb g22.1 g22.2 gt, ct_q]
      · simp only [ment, mfl, List.length, List.replicate, List.cons_append, List.nil_append, Nat.reduceAdd, Nat.reduceSub]
        cases hq : ctQ S t (z 22) c v (nI td) with
        | none =>
          rw [hq] at rc
          simp only [r_il1 c_M_why_0, r_i2l c_M_why_1, r_cl c_M_why_2, r_cl c_M_why_3, r_ca3 c_M_why_6, r_ifeq c_M_why_9, r_il2 c_M_why_12, r_i2l c_M_why_13, r_cl c_M_why_14, r_cl c_M_why_15, r_ca3 c_M_why_18, r_ifne c_M_why_21, r_ci c_M_why_24, r_iret c_M_why_26, r_al0 c_M_why_27, r_il1 c_M_why_28, r_il2 c_M_why_29, r_cv3 c_M_why_30, r_is3 c_M_why_33, r_il3 c_M_why_34, r_ifge c_M_why_35, r_ci c_M_why_38, r_goto c_M_why_40, r_il3 c_M_why_43, r_iret c_M_why_44, ↓reduceIte, hs_h, Option.bind_some, mfix_i, mfix_r, mfix_n, mfix_a, Option.toList_some, Option.toList_none, List.cons_append, List.nil_append, List.singleton_append, mwt, Value.category, Nat.reduceAdd, Nat.reduceLeDiff, true_and, and_true, and_self, M_within_k (y := 0) (w := 7) (y' := 0) (w' := 7) (by decide) (by decide), M_within_k (y := 0) (w := 4) (y' := 0) (w' := 4) (by decide) (by decide), h1, h2, one_nz, if_false, m10, rc, cdF, show ¬ (0 : Int32) ≤ -1 by decide, cdO]
        | some p =>
          have := ctQ_lt hq
          rw [hq] at rc
          simp only [r_il1 c_M_why_0, r_i2l c_M_why_1, r_cl c_M_why_2, r_cl c_M_why_3, r_ca3 c_M_why_6, r_ifeq c_M_why_9, r_il2 c_M_why_12, r_i2l c_M_why_13, r_cl c_M_why_14, r_cl c_M_why_15, r_ca3 c_M_why_18, r_ifne c_M_why_21, r_ci c_M_why_24, r_iret c_M_why_26, r_al0 c_M_why_27, r_il1 c_M_why_28, r_il2 c_M_why_29, r_cv3 c_M_why_30, r_is3 c_M_why_33, r_il3 c_M_why_34, r_ifge c_M_why_35, r_ci c_M_why_38, r_goto c_M_why_40, r_il3 c_M_why_43, r_iret c_M_why_44, ↓reduceIte, hs_h, Option.bind_some, mfix_i, mfix_r, mfix_n, mfix_a, Option.toList_some, Option.toList_none, List.cons_append, List.nil_append, List.singleton_append, mwt, Value.category, Nat.reduceAdd, Nat.reduceLeDiff, true_and, and_true, and_self, M_within_k (y := 0) (w := 7) (y' := 0) (w' := 7) (by decide) (by decide), M_within_k (y := 0) (w := 4) (y' := 0) (w' := 4) (by decide) (by decide), h1, h2, one_nz, if_false, m10, rc, cdF, show 0 ≤ nI p from nI_pos' (by omega), if_true, cdO]
theorem key5 (h : wiS v 0 4 = 1) : v = 0 ∨ v = 1 ∨ v = 2 ∨ v = 3 ∨ v = 4 := by
  rcases wic (m := 4) v (by omega) with hv | ⟨k, hk, rfl, -⟩
  · have hv : wiS v 0 4 = 0 := hv
    rw [h] at hv; exact absurd hv (by decide)
  · match k, hk with
    | 0, _ => exact Or.inl rfl
    | 1, _ => exact Or.inr (Or.inl rfl)
    | 2, _ => exact Or.inr (Or.inr (Or.inl rfl))
    | 3, _ => exact Or.inr (Or.inr (Or.inr (Or.inl rfl)))
    | 4, _ => exact Or.inr (Or.inr (Or.inr (Or.inr rfl)))
theorem q_rules (h : Inv E S) : opE E S 159 160 7 7 [.int c, .int v, .int x0, .int x1, .int x2, .int x3] := by
  obtain ⟨hE, hpar, ⟨z, t, hc, pk, td, htd, hR⟩, hI, hTp, hWt, hSh, hKy⟩ := id h
  obtain ⟨b, hb1⟩ : ∃ b, b = 1 := ⟨1, rfl⟩
  have hb : bkb b := Or.inl hb1
  rw [← hb1] at hR
  have o9 := o_X hE hb1
  have o0 := o_B hE hb
  have o8 := o_I hE hb
  have o1 := o_L hE hb
  have o5 := o_P hE
  have o10 := o_M hE
  have m10 := m_M hE
  have m9 : ∀ S, misc (hp E S 0) 9 = true := fun S => misc_o o9
  have m0 : ∀ S, misc (hp E S b) 0 = true := fun S => misc_o o0
  have m8 : ∀ S, misc (hp E S (b + 13)) 8 = true := fun S => misc_o o8
  have m1 : ∀ S, misc (hp E S (b + 22)) 1 = true := fun S => misc_o o1
  have m5 : ∀ S, misc (hp E S 79) 5 = true := fun S => misc_o o5
  obtain ⟨n1, n14, n16, n18, n20, n22, n3, n5, n7⟩ := rl_okm hR
  obtain ⟨⟨g1, g3, g5, g7, g14, g16, g18, g20, g22, gt, gw⟩, hH, hP⟩ := rl_okh hR
  have ht := rl_tod hR
  rcases wi01 (x := c) (y := 0) (w := 7) with h1 | h1
  · refine op_v h (-1000000001) (fun d => ?_) (fun d => ?_)
    · simp only [ment, mfl, List.length, List.replicate, List.cons_append, List.nil_append, Nat.reduceAdd, Nat.reduceSub]; simp only [r_il1 c_X_rules_0, r_ci c_X_rules_1, r_ci c_X_rules_2, r_ca3 c_X_rules_4, r_ifeq c_X_rules_7, r_il2 c_X_rules_10, r_ci c_X_rules_11, r_ci c_X_rules_12, r_ca3 c_X_rules_13, r_ifne c_X_rules_16, r_ci c_X_rules_19, r_iret c_X_rules_21, r_al0 c_X_rules_22, r_an0 c_X_rules_22, r_gfSr c_X_rules_23 o9 rfl, r_gfSr c_X_rules_26 o0 rfl, r_il1 c_X_rules_29, r_il2 c_X_rules_30, r_al0 c_X_rules_31, r_an0 c_X_rules_31, r_gfSr c_X_rules_32 o9 rfl, r_gfS0 c_X_rules_35 o0 rfl, r_il3 c_X_rules_38, r_il4 c_X_rules_39, r_il5 c_X_rules_41, r_il6 c_X_rules_43, r_cv8 c_X_rules_45, r_iret c_X_rules_48, ↓reduceIte, hs_h, Option.bind_some, mfix_i, mfix_r, mfix_n, mfix_a, Option.toList_some, Option.toList_none, List.cons_append, List.nil_append, List.singleton_append, mwt, Value.category, Nat.reduceAdd, Nat.reduceLeDiff, true_and, and_true, and_self, X_within_ok, h1, if_true]
    · simp only [ment, mfl, List.length, List.replicate, List.cons_append, List.nil_append, Nat.reduceAdd, Nat.reduceSub]; simp only [r_il1 c_M_rules_0, r_i2l c_M_rules_1, r_cl c_M_rules_2, r_cl c_M_rules_3, r_ca3 c_M_rules_6, r_ifeq c_M_rules_9, r_il2 c_M_rules_12, r_i2l c_M_rules_13, r_cl c_M_rules_14, r_cl c_M_rules_15, r_ca3 c_M_rules_18, r_ifne c_M_rules_21, r_ci c_M_rules_24, r_goto c_M_rules_26, r_al0 c_M_rules_29, r_il1 c_M_rules_30, r_il2 c_M_rules_31, r_il3 c_M_rules_32, r_il4 c_M_rules_33, r_il5 c_M_rules_35, r_il6 c_M_rules_37, r_cv7 c_M_rules_39, r_iret c_M_rules_42, ↓reduceIte, hs_h, Option.bind_some, mfix_i, mfix_r, mfix_n, mfix_a, Option.toList_some, Option.toList_none, List.cons_append, List.nil_append, List.singleton_append, mwt, Value.category, Nat.reduceAdd, Nat.reduceLeDiff, true_and, and_true, and_self, M_within_k (y := 0) (w := 7) (y' := 0) (w' := 7) (by decide) (by decide), h1, if_true]
  · rcases wi01 (x := v) (y := 0) (w := 4) with h2 | h2
    · refine op_v h (-1000000001) (fun d => ?_) (fun d => ?_)
      · simp only [ment, mfl, List.length, List.replicate, List.cons_append, List.nil_append, Nat.reduceAdd, Nat.reduceSub]; simp only [r_il1 c_X_rules_0, r_ci c_X_rules_1, r_ci c_X_rules_2, r_ca3 c_X_rules_4, r_ifeq c_X_rules_7, r_il2 c_X_rules_10, r_ci c_X_rules_11, r_ci c_X_rules_12, r_ca3 c_X_rules_13, r_ifne c_X_rules_16, r_ci c_X_rules_19, r_iret c_X_rules_21, r_al0 c_X_rules_22, r_an0 c_X_rules_22, r_gfSr c_X_rules_23 o9 rfl, r_gfSr c_X_rules_26 o0 rfl, r_il1 c_X_rules_29, r_il2 c_X_rules_30, r_al0 c_X_rules_31, r_an0 c_X_rules_31, r_gfSr c_X_rules_32 o9 rfl, r_gfS0 c_X_rules_35 o0 rfl, r_il3 c_X_rules_38, r_il4 c_X_rules_39, r_il5 c_X_rules_41, r_il6 c_X_rules_43, r_cv8 c_X_rules_45, r_iret c_X_rules_48, ↓reduceIte, hs_h, Option.bind_some, mfix_i, mfix_r, mfix_n, mfix_a, Option.toList_some, Option.toList_none, List.cons_append, List.nil_append, List.singleton_append, mwt, Value.category, Nat.reduceAdd, Nat.reduceLeDiff, true_and, and_true, and_self, X_within_ok, h1, h2, one_nz, if_false, if_true]
      · simp only [ment, mfl, List.length, List.replicate, List.cons_append, List.nil_append, Nat.reduceAdd, Nat.reduceSub]; simp only [r_il1 c_M_rules_0, r_i2l c_M_rules_1, r_cl c_M_rules_2, r_cl c_M_rules_3, r_ca3 c_M_rules_6, r_ifeq c_M_rules_9, r_il2 c_M_rules_12, r_i2l c_M_rules_13, r_cl c_M_rules_14, r_cl c_M_rules_15, r_ca3 c_M_rules_18, r_ifne c_M_rules_21, r_ci c_M_rules_24, r_goto c_M_rules_26, r_al0 c_M_rules_29, r_il1 c_M_rules_30, r_il2 c_M_rules_31, r_il3 c_M_rules_32, r_il4 c_M_rules_33, r_il5 c_M_rules_35, r_il6 c_M_rules_37, r_cv7 c_M_rules_39, r_iret c_M_rules_42, ↓reduceIte, hs_h, Option.bind_some, mfix_i, mfix_r, mfix_n, mfix_a, Option.toList_some, Option.toList_none, List.cons_append, List.nil_append, List.singleton_append, mwt, Value.category, Nat.reduceAdd, Nat.reduceLeDiff, true_and, and_true, and_self, M_within_k (y := 0) (w := 7) (y' := 0) (w' := 7) (by decide) (by decide), M_within_k (y := 0) (w := 4) (y' := 0) (w' := 4) (by decide) (by decide), h1, h2, one_nz, if_false, if_true]
    · have e1 : eqS b S (rlS S b (z 22) t c v (iF S b 8) x0 x1 x2 x3) := rlS_e
      have hR1 : Rel E S b z t hc pk td (18 * td) (iA (rlS S b (z 22) t c v (iF S b 8) x0 x1 x2 x3) 94) := by rw [iA, e1 94 (by omega) (by omega)]; exact hR
      obtain ⟨S2, e2, r2⟩ := M_rule_R (fo := c) (fk := v) (x0 := x0) (x1 := x1) (x2 := x2) (x3 := x3) hE hR1 (key5 h2)
      refine ⟨rlV S b (z 22) t c v (iF S b 8) x0 x1 x2 x3, rlS S b (z 22) t c v (iF S b 8) x0 x1 x2 x3, S2, fun d _ => ?_, fun d _ => ?_, Inv_q h (by subst hb1; exact e1) e2⟩
      · simp only [ment, mfl, List.length, List.replicate, List.cons_append, List.nil_append, Nat.reduceAdd, Nat.reduceSub]; simp only [r_il1 c_X_rules_0, r_ci c_X_rules_1, r_ci c_X_rules_2, r_ca3 c_X_rules_4, r_ifeq c_X_rules_7, r_il2 c_X_rules_10, r_ci c_X_rules_11, r_ci c_X_rules_12, r_ca3 c_X_rules_13, r_ifne c_X_rules_16, r_ci c_X_rules_19, r_iret c_X_rules_21, r_al0 c_X_rules_22, r_an0 c_X_rules_22, r_gfSr c_X_rules_23 o9 rfl, r_gfSr c_X_rules_26 o0 rfl, r_il1 c_X_rules_29, r_il2 c_X_rules_30, r_al0 c_X_rules_31, r_an0 c_X_rules_31, r_gfSr c_X_rules_32 o9 rfl, r_gfS0 c_X_rules_35 o0 rfl, r_il3 c_X_rules_38, r_il4 c_X_rules_39, r_il5 c_X_rules_41, r_il6 c_X_rules_43, r_cv8 c_X_rules_45, r_iret c_X_rules_48, ↓reduceIte, hs_h, Option.bind_some, mfix_i, mfix_r, mfix_n, mfix_a, Option.toList_some, Option.toList_none, List.cons_append, List.nil_append, List.singleton_append, mwt, Value.category, Nat.reduceAdd, Nat.reduceLeDiff, true_and, and_true, and_self, X_within_ok, h1, h2, one_nz, if_false, m1, L_ruleOf_ok hE hb g22.1 g22.2 gt gw]
      · simp only [ment, mfl, List.length, List.replicate, List.cons_append, List.nil_append, Nat.reduceAdd, Nat.reduceSub]; simp only [r_il1 c_M_rules_0, r_i2l c_M_rules_1, r_cl c_M_rules_2, r_cl c_M_rules_3, r_ca3 c_M_rules_6, r_ifeq c_M_rules_9, r_il2 c_M_rules_12, r_i2l c_M_rules_13, r_cl c_M_rules_14, r_cl c_M_rules_15, r_ca3 c_M_rules_18, r_ifne c_M_rules_21, r_ci c_M_rules_24, r_goto c_M_rules_26, r_al0 c_M_rules_29, r_il1 c_M_rules_30, r_il2 c_M_rules_31, r_il3 c_M_rules_32, r_il4 c_M_rules_33, r_il5 c_M_rules_35, r_il6 c_M_rules_37, r_cv7 c_M_rules_39, r_iret c_M_rules_42, ↓reduceIte, hs_h, Option.bind_some, mfix_i, mfix_r, mfix_n, mfix_a, Option.toList_some, Option.toList_none, List.cons_append, List.nil_append, List.singleton_append, mwt, Value.category, Nat.reduceAdd, Nat.reduceLeDiff, true_and, and_true, and_self, M_within_k (y := 0) (w := 7) (y' := 0) (w' := 7) (by decide) (by decide), M_within_k (y := 0) (w := 4) (y' := 0) (w' := 4) (by decide) (by decide), h1, h2, one_nz, if_false, m10, r2]
theorem q_of (h : Inv E S) : opE E S 155 156 4 3 [.int c, .int v] := by
  obtain ⟨hE, hpar, ⟨z, t, hc, pk, td, htd, hR⟩, hI, hTp, hWt, hSh, hKy⟩ := id h
  obtain ⟨b, hb1⟩ : ∃ b, b = 1 := ⟨1, rfl⟩
  have hb : bkb b := Or.inl hb1
  rw [← hb1] at hR
  have o9 := o_X hE hb1
  have o0 := o_B hE hb
  have o8 := o_I hE hb
  have o1 := o_L hE hb
  have o5 := o_P hE
  have o10 := o_M hE
  have m10 := m_M hE
  have m9 : ∀ S, misc (hp E S 0) 9 = true := fun S => misc_o o9
  have m0 : ∀ S, misc (hp E S b) 0 = true := fun S => misc_o o0
  have m8 : ∀ S, misc (hp E S (b + 13)) 8 = true := fun S => misc_o o8
  have m1 : ∀ S, misc (hp E S (b + 22)) 1 = true := fun S => misc_o o1
  have m5 : ∀ S, misc (hp E S 79) 5 = true := fun S => misc_o o5
  obtain ⟨n1, n14, n16, n18, n20, n22, n3, n5, n7⟩ := rl_okm hR
  obtain ⟨⟨g1, g3, g5, g7, g14, g16, g18, g20, g22, gt, gw⟩, hH, hP⟩ := rl_okh hR
  have ht := rl_tod hR
  rcases ixc (n := z 22) c (by omega) with hx | ⟨k, hk, rfl, hx⟩
  · refine op_v h (-1000000001) (fun d => ?_) (fun d => ?_)
    · simp only [ment, mfl, List.length, List.replicate, List.cons_append, List.nil_append, Nat.reduceAdd, Nat.reduceSub]; simp only [r_al0 c_X_of_0, r_an0 c_X_of_0, r_gfSr c_X_of_1 o9 rfl, r_gfSr c_X_of_4 o0 rfl, r_il1 c_X_of_7, r_cv2 c_X_of_8, r_as3 c_X_of_11, r_asn3 c_X_of_11, r_al3 c_X_of_12, r_an3 c_X_of_12, r_ifnonnull_r c_X_of_13, r_ifnonnull_n c_X_of_13, r_ci c_X_of_16, r_iret c_X_of_18, r_il2 c_X_of_19, r_sw c_X_of_20, r_al3 c_X_of_52, r_an3 c_X_of_52, r_gfS0 c_X_of_53 o6 rfl, r_iret c_X_of_56, r_al3 c_X_of_57, r_an3 c_X_of_57, r_gfS0 c_X_of_58 o6 rfl, r_iret c_X_of_61, r_al3 c_X_of_62, r_an3 c_X_of_62, r_gfS0 c_X_of_63 o6 rfl, r_iret c_X_of_66, r_al3 c_X_of_67, r_an3 c_X_of_67, r_gfS0 c_X_of_68 o6 rfl, r_iret c_X_of_71, r_ci c_X_of_72, r_iret c_X_of_74, ↓reduceIte, hs_h, Option.bind_some, mfix_i, mfix_r, mfix_n, mfix_a, Option.toList_some, Option.toList_none, List.cons_append, List.nil_append, List.singleton_append, mwt, Value.category, Nat.reduceAdd, Nat.reduceLeDiff, true_and, and_true, and_self, m1, textAt_n hE hb g22.1 g22.2 hx]
    · simp only [ment, mfl, List.length, List.replicate, List.cons_append, List.nil_append, Nat.reduceAdd, Nat.reduceSub]; simp only [r_al0 c_M_of_0, r_il1 c_M_of_1, r_ci c_M_of_2, r_cv3 c_M_of_4, r_ifeq c_M_of_7, r_il2 c_M_of_10, r_i2l c_M_of_11, r_cl c_M_of_12, r_cl c_M_of_13, r_ca3 c_M_of_16, r_ifne c_M_of_19, r_ci c_M_of_22, r_goto c_M_of_24, r_al0 c_M_of_27, r_gfSr c_M_of_28 o10 rfl, r_ci c_M_of_31, r_ci c_M_of_34, r_il1 c_M_of_36, r_imul c_M_of_37, r_iadd c_M_of_38, r_il2 c_M_of_39, r_iadd c_M_of_40, r_ial c_M_of_41, r_iret c_M_of_42, ↓reduceIte, hs_h, Option.bind_some, mfix_i, mfix_r, mfix_n, mfix_a, Option.toList_some, Option.toList_none, List.cons_append, List.nil_append, List.singleton_append, mwt, Value.category, Nat.reduceAdd, Nat.reduceLeDiff, true_and, and_true, and_self, m10, mt7 hE, n22.1, th_eq (show z 22 < 2 ^ 31 by omega), hx, if_true]
  · obtain ⟨tq, t1, t2, t3⟩ := gt k hk
    have o6 : isO E (t k) 6 [0, 0, 0, 0, t k + 3] := o_T t1 t2 (by omega)
    obtain ⟨u0, u1, u2, u3, -⟩ := rl_txt hR k hk
    rcases wic (m := 3) v (by omega) with hv | ⟨D, hD, rfl, hv⟩
    · have hv : wiS v 0 3 = 0 := hv
      have v0 : ¬ v = 0 := fun e => by subst e; exact absurd hv (by decide)
      have v1 : ¬ v = 1 := fun e => by subst e; exact absurd hv (by decide)
      have v2 : ¬ v = 2 := fun e => by subst e; exact absurd hv (by decide)
      have v3 : ¬ v = 3 := fun e => by subst e; exact absurd hv (by decide)
      refine op_v h (-1000000001) (fun d => ?_) (fun d => ?_)
      · simp only [ment, mfl, List.length, List.replicate, List.cons_append, List.nil_append, Nat.reduceAdd, Nat.reduceSub]; simp only [r_al0 c_X_of_0, r_an0 c_X_of_0, r_gfSr c_X_of_1 o9 rfl, r_gfSr c_X_of_4 o0 rfl, r_il1 c_X_of_7, r_cv2 c_X_of_8, r_as3 c_X_of_11, r_asn3 c_X_of_11, r_al3 c_X_of_12, r_an3 c_X_of_12, r_ifnonnull_r c_X_of_13, r_ifnonnull_n c_X_of_13, r_ci c_X_of_16, r_iret c_X_of_18, r_il2 c_X_of_19, r_sw c_X_of_20, ↓reduceIte, hs_h, Option.bind_some, mfix_i, mfix_r, mfix_n, mfix_a, Option.toList_some, Option.toList_none, List.cons_append, List.nil_append, List.singleton_append, mwt, Value.category, Nat.reduceAdd, Nat.reduceLeDiff, true_and, and_true, and_self, m1, textAt_s hE hb g22.1 g22.2 hk tq, mpick, v0, v1, v2, v3, if_false, r_ci c_X_of_72, r_iret c_X_of_74]
      · simp only [ment, mfl, List.length, List.replicate, List.cons_append, List.nil_append, Nat.reduceAdd, Nat.reduceSub]; simp only [r_al0 c_M_of_0, r_il1 c_M_of_1, r_ci c_M_of_2, r_cv3 c_M_of_4, r_ifeq c_M_of_7, r_il2 c_M_of_10, r_i2l c_M_of_11, r_cl c_M_of_12, r_cl c_M_of_13, r_ca3 c_M_of_16, r_ifne c_M_of_19, r_ci c_M_of_22, r_goto c_M_of_24, r_al0 c_M_of_27, r_gfSr c_M_of_28 o10 rfl, r_ci c_M_of_31, r_ci c_M_of_34, r_il1 c_M_of_36, r_imul c_M_of_37, r_iadd c_M_of_38, r_il2 c_M_of_39, r_iadd c_M_of_40, r_ial c_M_of_41, r_iret c_M_of_42, ↓reduceIte, hs_h, Option.bind_some, mfix_i, mfix_r, mfix_n, mfix_a, Option.toList_some, Option.toList_none, List.cons_append, List.nil_append, List.singleton_append, mwt, Value.category, Nat.reduceAdd, Nat.reduceLeDiff, true_and, and_true, and_self, m10, mt7 hE, n22.1, th_eq (show z 22 < 2 ^ 31 by omega), hx, if_false, one_nz, M_within_k (y := 0) (w := 3) (y' := 0) (w' := 3) (by decide) (by decide), hv, if_true]
    · have hv : wiS (nI D) 0 3 = 1 := hv
      have eM : iA S 94 (914 + 104 * k + D) = iF S (t k) D := by
        match D, hD with
        | 0, _ => exact u0
        | 1, _ => exact u1
        | 2, _ => exact u2
        | 3, _ => exact u3
      refine op_v h (iF S (t k) D) (fun d => ?_) (fun d => ?_)
      · simp only [ment, mfl, List.length, List.replicate, List.cons_append, List.nil_append, Nat.reduceAdd, Nat.reduceSub]
        match D, hD with
        | 0, _ => simp only [r_al0 c_X_of_0, r_an0 c_X_of_0, r_gfSr c_X_of_1 o9 rfl, r_gfSr c_X_of_4 o0 rfl, r_il1 c_X_of_7, r_cv2 c_X_of_8, r_as3 c_X_of_11, r_asn3 c_X_of_11, r_al3 c_X_of_12, r_an3 c_X_of_12, r_ifnonnull_r c_X_of_13, r_ifnonnull_n c_X_of_13, r_ci c_X_of_16, r_iret c_X_of_18, r_il2 c_X_of_19, r_sw c_X_of_20, ↓reduceIte, hs_h, Option.bind_some, mfix_i, mfix_r, mfix_n, mfix_a, Option.toList_some, Option.toList_none, List.cons_append, List.nil_append, List.singleton_append, mwt, Value.category, Nat.reduceAdd, Nat.reduceLeDiff, true_and, and_true, and_self, m1, textAt_s hE hb g22.1 g22.2 hk tq, mpick, show (nI 0 = (0 : Int32)) = True from eq_true (by decide), if_true, r_al3 c_X_of_52, r_an3 c_X_of_52, r_gfS0 c_X_of_53 o6 rfl, r_iret c_X_of_56, r_gfS0 c_X_of_53 o6 rfl]
        | 1, _ => simp only [r_al0 c_X_of_0, r_an0 c_X_of_0, r_gfSr c_X_of_1 o9 rfl, r_gfSr c_X_of_4 o0 rfl, r_il1 c_X_of_7, r_cv2 c_X_of_8, r_as3 c_X_of_11, r_asn3 c_X_of_11, r_al3 c_X_of_12, r_an3 c_X_of_12, r_ifnonnull_r c_X_of_13, r_ifnonnull_n c_X_of_13, r_ci c_X_of_16, r_iret c_X_of_18, r_il2 c_X_of_19, r_sw c_X_of_20, ↓reduceIte, hs_h, Option.bind_some, mfix_i, mfix_r, mfix_n, mfix_a, Option.toList_some, Option.toList_none, List.cons_append, List.nil_append, List.singleton_append, mwt, Value.category, Nat.reduceAdd, Nat.reduceLeDiff, true_and, and_true, and_self, m1, textAt_s hE hb g22.1 g22.2 hk tq, mpick, show (nI 1 = (0 : Int32)) = False from eq_false (by decide), show (nI 1 = (1 : Int32)) = True from eq_true (by decide), if_true, if_false, r_al3 c_X_of_57, r_an3 c_X_of_57, r_gfS0 c_X_of_58 o6 rfl, r_iret c_X_of_61, r_gfS0 c_X_of_58 o6 rfl]
        | 2, _ => simp only [r_al0 c_X_of_0, r_an0 c_X_of_0, r_gfSr c_X_of_1 o9 rfl, r_gfSr c_X_of_4 o0 rfl, r_il1 c_X_of_7, r_cv2 c_X_of_8, r_as3 c_X_of_11, r_asn3 c_X_of_11, r_al3 c_X_of_12, r_an3 c_X_of_12, r_ifnonnull_r c_X_of_13, r_ifnonnull_n c_X_of_13, r_ci c_X_of_16, r_iret c_X_of_18, r_il2 c_X_of_19, r_sw c_X_of_20, ↓reduceIte, hs_h, Option.bind_some, mfix_i, mfix_r, mfix_n, mfix_a, Option.toList_some, Option.toList_none, List.cons_append, List.nil_append, List.singleton_append, mwt, Value.category, Nat.reduceAdd, Nat.reduceLeDiff, true_and, and_true, and_self, m1, textAt_s hE hb g22.1 g22.2 hk tq, mpick, show (nI 2 = (0 : Int32)) = False from eq_false (by decide), show (nI 2 = (1 : Int32)) = False from eq_false (by decide), show (nI 2 = (2 : Int32)) = True from eq_true (by decide), if_true, if_false, r_al3 c_X_of_62, r_an3 c_X_of_62, r_gfS0 c_X_of_63 o6 rfl, r_iret c_X_of_66, r_gfS0 c_X_of_63 o6 rfl]
        | 3, _ => simp only [r_al0 c_X_of_0, r_an0 c_X_of_0, r_gfSr c_X_of_1 o9 rfl, r_gfSr c_X_of_4 o0 rfl, r_il1 c_X_of_7, r_cv2 c_X_of_8, r_as3 c_X_of_11, r_asn3 c_X_of_11, r_al3 c_X_of_12, r_an3 c_X_of_12, r_ifnonnull_r c_X_of_13, r_ifnonnull_n c_X_of_13, r_ci c_X_of_16, r_iret c_X_of_18, r_il2 c_X_of_19, r_sw c_X_of_20, ↓reduceIte, hs_h, Option.bind_some, mfix_i, mfix_r, mfix_n, mfix_a, Option.toList_some, Option.toList_none, List.cons_append, List.nil_append, List.singleton_append, mwt, Value.category, Nat.reduceAdd, Nat.reduceLeDiff, true_and, and_true, and_self, m1, textAt_s hE hb g22.1 g22.2 hk tq, mpick, show (nI 3 = (0 : Int32)) = False from eq_false (by decide), show (nI 3 = (1 : Int32)) = False from eq_false (by decide), show (nI 3 = (2 : Int32)) = False from eq_false (by decide), show (nI 3 = (3 : Int32)) = True from eq_true (by decide), if_true, if_false, r_al3 c_X_of_67, r_an3 c_X_of_67, r_gfS0 c_X_of_68 o6 rfl, r_iret c_X_of_71, r_gfS0 c_X_of_68 o6 rfl]
      · simp only [ment, mfl, List.length, List.replicate, List.cons_append, List.nil_append, Nat.reduceAdd, Nat.reduceSub]; simp only [r_al0 c_M_of_0, r_il1 c_M_of_1, r_ci c_M_of_2, r_cv3 c_M_of_4, r_ifeq c_M_of_7, r_il2 c_M_of_10, r_i2l c_M_of_11, r_cl c_M_of_12, r_cl c_M_of_13, r_ca3 c_M_of_16, r_ifne c_M_of_19, r_ci c_M_of_22, r_goto c_M_of_24, r_al0 c_M_of_27, r_gfSr c_M_of_28 o10 rfl, r_ci c_M_of_31, r_ci c_M_of_34, r_il1 c_M_of_36, r_imul c_M_of_37, r_iadd c_M_of_38, r_il2 c_M_of_39, r_iadd c_M_of_40, r_ial c_M_of_41, r_iret c_M_of_42, ↓reduceIte, hs_h, Option.bind_some, mfix_i, mfix_r, mfix_n, mfix_a, Option.toList_some, Option.toList_none, List.cons_append, List.nil_append, List.singleton_append, mwt, Value.category, Nat.reduceAdd, Nat.reduceLeDiff, true_and, and_true, and_self, m10, mt7 hE, n22.1, th_eq (show z 22 < 2 ^ 31 by omega), hx, if_false, one_nz, M_within_k (y := 0) (w := 3) (y' := 0) (w' := 3) (by decide) (by decide), hv, km2, km3, km4, km6, km104, km24, ka20, ka92, ka164, ka254, ka314, ka474, ka634, ka670, ka850, ka890, ka914, ka12, kr2, kr3, kr4, kr5, nI_1, nI_add, mia_94 hE (show 914 + 104 * k + D < 2578 by omega), eM]
end QUERY2
