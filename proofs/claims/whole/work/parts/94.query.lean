/-! calls that only tell: the frame, time, hearings -/
section QUERY
variable {E : EE} {S S1 S2 : SS} {b d k n m : Nat} {c v w x y x0 x1 x2 x3 : Int32} {z t hc pk : Nat → Nat}
/-- a call of both answers alike and leaves all in order -/
def opE (E : EE) (S : SS) (X M nX nM : Nat) (as : List Value) : Prop := ∃ v S1 S2, (∀ d, 62 ≤ d → mres cT X d 0 (ment nX (.ref 0 :: as)) [] (hs E S) = some (some (.int v), hs E S1)) ∧ (∀ d, 62 ≤ d → mres cT M d 0 (ment nM (.ref 93 :: as)) [] (hs E S1) = some (some (.int v), hs E S2)) ∧ Inv E S2
theorem o_X (hE : okE E) (hb1 : b = 1) : isO E 0 9 [b + 2, 29, 55, 0, 81, 83, 85, 94, 0] := by
  subst hb1
  refine ⟨fun S => ?_, by have := hE.1; omega⟩
  rw [hp_lo hE (by omega), shp, if_pos rfl]
theorem M_within_k {H : mH} {y w : Int32} {y' w' : Int64} (hy : y.toInt64 = y') (hw : w.toInt64 = w') : mres cT 17 d 0 (ment 6 [.long x.toInt64, .long y', .long w']) [] H = some (some (.int (wiS x y w)), H) := by
  subst hy hw
  exact M_within_ok
theorem th_eq (hn : n < 2 ^ 31) : wiS c 0 (nI n - 1) = if c < 0 ∨ nI n ≤ c then 0 else 1 := by
  unfold wiS
  by_cases h0 : c < 0
  · rw [if_pos h0, if_pos (Or.inl h0)]
  · rw [if_neg h0]
    cases n with
    | zero =>
      have h1 : nI 0 ≤ c := Int32.not_lt.mp h0
      rw [if_pos (Or.inr h1), if_pos (Int32.lt_of_lt_of_le (show nI 0 - 1 < 0 by decide) (Int32.not_lt.mp h0))]
    | succ n =>
      rw [nI_pm]
      obtain ⟨j, hj, rfl⟩ := nI_of h0
      by_cases h1 : n < j
      · rw [if_pos ((nI_ltI (by omega) hj).mpr h1), if_pos (Or.inr ((nI_leI hn hj).mpr (by omega)))]
      · rw [if_neg (fun h => h1 ((nI_ltI (by omega) hj).mp h)), if_neg]
        rintro (h | h)
        · exact h0 h
        · have := (nI_leI hn hj).mp h
          omega
theorem ixc (c : Int32) (hn : n < 2 ^ 31) : (c < 0 ∨ nI n ≤ c) ∨ ∃ k : Nat, k < n ∧ c = nI k ∧ ¬ (nI k < 0 ∨ nI n ≤ nI k) := by
  rcases pk_ix c hn with h | h | ⟨k, h1, h2⟩
  · exact Or.inl (Or.inl h)
  · exact Or.inl (Or.inr h)
  · refine Or.inr ⟨k, h1, h2, ?_⟩
    rintro (h | h)
    · exact nI_pos (by omega) h
    · exact nI_ge h1 hn h
theorem wic (c : Int32) (hm : m < 2 ^ 31) : wiS c 0 (nI m) = 0 ∨ ∃ k : Nat, k ≤ m ∧ c = nI k ∧ wiS (nI k) 0 (nI m) = 1 := by
  by_cases h0 : c < 0
  · exact Or.inl (by rw [wiS, if_pos h0])
  · obtain ⟨j, hj, rfl⟩ := nI_of h0
    by_cases h1 : m < j
    · exact Or.inl (by rw [wiS, if_neg h0, if_pos ((nI_ltI hm hj).mpr h1)])
    · exact Or.inr ⟨j, by omega, rfl, by rw [wiS, if_neg h0, if_neg (fun h => h1 ((nI_ltI hm hj).mp h))]⟩
theorem Inv_q (h : Inv E S) (e1 : eqS 1 S S1) (e2 : eqM S1 S2) : Inv E S2 := by
  obtain ⟨hE, -, ⟨z, t, hc, pk, td, htd, hR⟩, -, -, -, -, hK, -⟩ := id h
  have e94 : iA S2 94 = iA S 94 := by rw [eqM_94 e2, iA, e1 _ (by omega) (by omega)]
  have ec : ∀ q, q ≠ 25 → q ≠ 26 → q ≠ 93 → q ≠ 102 → q ≠ 106 → q ≠ 107 → S2 q = S q := fun q h1 h2 h3 h4 h5 h6 => (e2.1 q h3 h4 h5 h6).trans (e1 q (by omega) (by omega))
  refine Inv_B h ⟨fun q hq h1 h2 h3 h4 h5 => ec q (by omega) (by omega) h1 h3 h4 h5, fun k hk => (e2.2 k hk).trans (by rw [iF, iF, e1 93 (by omega) (by omega)])⟩ ⟨z, t, hc, pk, td, htd, ?_⟩ ?_
  · rw [e94]
    exact Rel_cells (Or.inl rfl) (fun q hq => ec q (by omega) (by omega) (by omega) (by omega) (by omega) (by omega)) (Nat.le_refl _) hR
  · intro j p hj hp
    rw [iQ, ec (1 + 23) (by omega) (by omega) (by omega) (by omega) (by omega) (by omega)] at hp
    exact hK j p hj hp
theorem eqS_rf : eqS b S S := fun _ _ _ => rfl
theorem op_v (h : Inv E S) {X M nX nM : Nat} {as : List Value} (v : Int32) (hX : ∀ d, mres cT X d 0 (ment nX (.ref 0 :: as)) [] (hs E S) = some (some (.int v), hs E S)) (hM : ∀ d, mres cT M d 0 (ment nM (.ref 93 :: as)) [] (hs E S) = some (some (.int v), hs E S)) : opE E S X M nX nM as :=
  ⟨v, S, S, fun d _ => hX d, fun d _ => hM d, h⟩
theorem q_served (h : Inv E S) : opE E S 61 65 3 3 [.int c, .int v] := by
  obtain ⟨hE, hpar, ⟨z, t, hc, pk, td, htd, hR⟩, hI, hTp, hWt, hSh, hKy⟩ := id h
  obtain ⟨b, hb1⟩ : ∃ b, b = 1 := ⟨1, rfl⟩
  have hb : bkb b := Or.inl hb1
  rw [← hb1] at hR
  have o9 := o_X hE hb1
  have o0 := o_B hE hb
  have o8 := o_I hE hb
  have o1 := o_L hE hb
  have o5 := o_P hE
  have o10 := o_M hE
  have m10 := m_M hE
  have m9 : ∀ S, misc (hp E S 0) 9 = true := fun S => misc_o o9
  have m0 : ∀ S, misc (hp E S b) 0 = true := fun S => misc_o o0
  have m8 : ∀ S, misc (hp E S (b + 13)) 8 = true := fun S => misc_o o8
  have m1 : ∀ S, misc (hp E S (b + 22)) 1 = true := fun S => misc_o o1
  have m5 : ∀ S, misc (hp E S 79) 5 = true := fun S => misc_o o5
  obtain ⟨n1, n14, n16, n18, n20, n22, n3, n5, n7⟩ := rl_okm hR
  obtain ⟨⟨g1, g3, g5, g7, g14, g16, g18, g20, g22, gt, gw⟩, hH, hP⟩ := rl_okh hR
  have ht := rl_tod hR
  rcases ixc (n := z 1) c (by omega) with hx | ⟨k, hk, rfl, hx⟩
  · refine op_v h (-1000000001) (fun d => ?_) (fun d => ?_)
    · simp only [ment, mfl, List.length, List.replicate, List.cons_append, List.nil_append, Nat.reduceAdd, Nat.reduceSub]; simp only [r_al0 c_X_served_0, r_an0 c_X_served_0, r_gfSr c_X_served_1 o9 rfl, r_gfSr c_X_served_4 o0 rfl, r_il1 c_X_served_7, r_cv2 c_X_served_8, r_ifeq c_X_served_11, r_il2 c_X_served_14, r_ci c_X_served_15, r_ci c_X_served_16, r_ca3 c_X_served_19, r_ifne c_X_served_22, r_ci c_X_served_25, r_iret c_X_served_27, r_al0 c_X_served_28, r_an0 c_X_served_28, r_gfSr c_X_served_29 o9 rfl, r_gfSr c_X_served_32 o0 rfl, r_il1 c_X_served_35, r_il2 c_X_served_36, r_cv3 c_X_served_37, r_iret c_X_served_40, ↓reduceIte, hs_h, Option.bind_some, mfix_i, mfix_r, mfix_n, mfix_a, Option.toList_some, Option.toList_none, List.cons_append, List.nil_append, List.singleton_append, mwt, Value.category, Nat.reduceAdd, Nat.reduceLeDiff, true_and, and_true, and_self, misc_w (w_1 hE hb), has_1 hE hb, g1.1, hx, if_true]
    · simp only [ment, mfl, List.length, List.replicate, List.cons_append, List.nil_append, Nat.reduceAdd, Nat.reduceSub]; simp only [r_al0 c_M_served_0, r_il1 c_M_served_1, r_ci c_M_served_2, r_cv3 c_M_served_3, r_ifeq c_M_served_6, r_il2 c_M_served_9, r_i2l c_M_served_10, r_cl c_M_served_11, r_cl c_M_served_12, r_ca3 c_M_served_15, r_ifne c_M_served_18, r_ci c_M_served_21, r_goto c_M_served_23, r_al0 c_M_served_26, r_il1 c_M_served_27, r_il2 c_M_served_28, r_cv3 c_M_served_29, r_iret c_M_served_32, ↓reduceIte, hs_h, Option.bind_some, mfix_i, mfix_r, mfix_n, mfix_a, Option.toList_some, Option.toList_none, List.cons_append, List.nil_append, List.singleton_append, mwt, Value.category, Nat.reduceAdd, Nat.reduceLeDiff, true_and, and_true, and_self, m10, mt2 hE, n1.1, th_eq (show z 1 < 2 ^ 31 by omega), hx, if_true]
  · rcases wic (m := 9999) v (by omega) with hv | ⟨D, hD, rfl, hv⟩
    · have hv : wiS v 0 9999 = 0 := hv
      refine op_v h (-1000000001) (fun d => ?_) (fun d => ?_)
      · simp only [ment, mfl, List.length, List.replicate, List.cons_append, List.nil_append, Nat.reduceAdd, Nat.reduceSub]; simp only [r_al0 c_X_served_0, r_an0 c_X_served_0, r_gfSr c_X_served_1 o9 rfl, r_gfSr c_X_served_4 o0 rfl, r_il1 c_X_served_7, r_cv2 c_X_served_8, r_ifeq c_X_served_11, r_il2 c_X_served_14, r_ci c_X_served_15, r_ci c_X_served_16, r_ca3 c_X_served_19, r_ifne c_X_served_22, r_ci c_X_served_25, r_iret c_X_served_27, r_al0 c_X_served_28, r_an0 c_X_served_28, r_gfSr c_X_served_29 o9 rfl, r_gfSr c_X_served_32 o0 rfl, r_il1 c_X_served_35, r_il2 c_X_served_36, r_cv3 c_X_served_37, r_iret c_X_served_40, ↓reduceIte, hs_h, Option.bind_some, mfix_i, mfix_r, mfix_n, mfix_a, Option.toList_some, Option.toList_none, List.cons_append, List.nil_append, List.singleton_append, mwt, Value.category, Nat.reduceAdd, Nat.reduceLeDiff, true_and, and_true, and_self, misc_w (w_1 hE hb), has_1 hE hb, g1.1, hx, if_false, one_nz, X_within_ok, hv, if_true]
      · simp only [ment, mfl, List.length, List.replicate, List.cons_append, List.nil_append, Nat.reduceAdd, Nat.reduceSub]; simp only [r_al0 c_M_served_0, r_il1 c_M_served_1, r_ci c_M_served_2, r_cv3 c_M_served_3, r_ifeq c_M_served_6, r_il2 c_M_served_9, r_i2l c_M_served_10, r_cl c_M_served_11, r_cl c_M_served_12, r_ca3 c_M_served_15, r_ifne c_M_served_18, r_ci c_M_served_21, r_goto c_M_served_23, r_al0 c_M_served_26, r_il1 c_M_served_27, r_il2 c_M_served_28, r_cv3 c_M_served_29, r_iret c_M_served_32, ↓reduceIte, hs_h, Option.bind_some, mfix_i, mfix_r, mfix_n, mfix_a, Option.toList_some, Option.toList_none, List.cons_append, List.nil_append, List.singleton_append, mwt, Value.category, Nat.reduceAdd, Nat.reduceLeDiff, true_and, and_true, and_self, m10, mt2 hE, n1.1, th_eq (show z 1 < 2 ^ 31 by omega), hx, if_false, one_nz, M_within_k (y := 0) (w := 9999) (y' := 0) (w' := 9999) (by decide) (by decide), hv, if_true]
    · have hv : wiS (nI D) 0 9999 = 1 := hv
      obtain ⟨S2, e2, r2⟩ := M_servedOn_R (k := k) (D := D) hE hR (by omega) (by omega)
      refine ⟨svSum (iA S (b + 17)) (iA S (b + 19)) (z 16) (z 18) (nI k) (nI D), S, S2, fun d _ => ?_, fun d _ => ?_, Inv_q h eqS_rf e2⟩
      · simp only [ment, mfl, List.length, List.replicate, List.cons_append, List.nil_append, Nat.reduceAdd, Nat.reduceSub]; simp only [r_al0 c_X_served_0, r_an0 c_X_served_0, r_gfSr c_X_served_1 o9 rfl, r_gfSr c_X_served_4 o0 rfl, r_il1 c_X_served_7, r_cv2 c_X_served_8, r_ifeq c_X_served_11, r_il2 c_X_served_14, r_ci c_X_served_15, r_ci c_X_served_16, r_ca3 c_X_served_19, r_ifne c_X_served_22, r_ci c_X_served_25, r_iret c_X_served_27, r_al0 c_X_served_28, r_an0 c_X_served_28, r_gfSr c_X_served_29 o9 rfl, r_gfSr c_X_served_32 o0 rfl, r_il1 c_X_served_35, r_il2 c_X_served_36, r_cv3 c_X_served_37, r_iret c_X_served_40, ↓reduceIte, hs_h, Option.bind_some, mfix_i, mfix_r, mfix_n, mfix_a, Option.toList_some, Option.toList_none, List.cons_append, List.nil_append, List.singleton_append, mwt, Value.category, Nat.reduceAdd, Nat.reduceLeDiff, true_and, and_true, and_self, misc_w (w_1 hE hb), has_1 hE hb, g1.1, hx, if_false, one_nz, X_within_ok, hv, m8, I_servedOf_ok hE hb g16.1 g16.2 g18.1 g18.2]
      · simp only [ment, mfl, List.length, List.replicate, List.cons_append, List.nil_append, Nat.reduceAdd, Nat.reduceSub]; simp only [r_al0 c_M_served_0, r_il1 c_M_served_1, r_ci c_M_served_2, r_cv3 c_M_served_3, r_ifeq c_M_served_6, r_il2 c_M_served_9, r_i2l c_M_served_10, r_cl c_M_served_11, r_cl c_M_served_12, r_ca3 c_M_served_15, r_ifne c_M_served_18, r_ci c_M_served_21, r_goto c_M_served_23, r_al0 c_M_served_26, r_il1 c_M_served_27, r_il2 c_M_served_28, r_cv3 c_M_served_29, r_iret c_M_served_32, ↓reduceIte, hs_h, Option.bind_some, mfix_i, mfix_r, mfix_n, mfix_a, Option.toList_some, Option.toList_none, List.cons_append, List.nil_append, List.singleton_append, mwt, Value.category, Nat.reduceAdd, Nat.reduceLeDiff, true_and, and_true, and_self, m10, mt2 hE, n1.1, th_eq (show z 1 < 2 ^ 31 by omega), hx, if_false, one_nz, M_within_k (y := 0) (w := 9999) (y' := 0) (w' := 9999) (by decide) (by decide), hv, r2]
theorem q_credits (h : Inv E S) : opE E S 71 73 3 3 [.int c, .int v] := by
  obtain ⟨hE, hpar, ⟨z, t, hc, pk, td, htd, hR⟩, hI, hTp, hWt, hSh, hKy⟩ := id h
  obtain ⟨b, hb1⟩ : ∃ b, b = 1 := ⟨1, rfl⟩
  have hb : bkb b := Or.inl hb1
  rw [← hb1] at hR
  have o9 := o_X hE hb1
  have o0 := o_B hE hb
  have o8 := o_I hE hb
  have o1 := o_L hE hb
  have o5 := o_P hE
  have o10 := o_M hE
  have m10 := m_M hE
  have m9 : ∀ S, misc (hp E S 0) 9 = true := fun S => misc_o o9
  have m0 : ∀ S, misc (hp E S b) 0 = true := fun S => misc_o o0
  have m8 : ∀ S, misc (hp E S (b + 13)) 8 = true := fun S => misc_o o8
  have m1 : ∀ S, misc (hp E S (b + 22)) 1 = true := fun S => misc_o o1
  have m5 : ∀ S, misc (hp E S 79) 5 = true := fun S => misc_o o5
  obtain ⟨n1, n14, n16, n18, n20, n22, n3, n5, n7⟩ := rl_okm hR
  obtain ⟨⟨g1, g3, g5, g7, g14, g16, g18, g20, g22, gt, gw⟩, hH, hP⟩ := rl_okh hR
  have ht := rl_tod hR
  rcases ixc (n := z 1) c (by omega) with hx | ⟨k, hk, rfl, hx⟩
  · refine op_v h (-1000000001) (fun d => ?_) (fun d => ?_)
    · simp only [ment, mfl, List.length, List.replicate, List.cons_append, List.nil_append, Nat.reduceAdd, Nat.reduceSub]; simp only [r_al0 c_X_credits_0, r_an0 c_X_credits_0, r_gfSr c_X_credits_1 o9 rfl, r_gfSr c_X_credits_4 o0 rfl, r_il1 c_X_credits_7, r_cv2 c_X_credits_8, r_ifeq c_X_credits_11, r_il2 c_X_credits_14, r_ci c_X_credits_15, r_ci c_X_credits_16, r_ca3 c_X_credits_19, r_ifne c_X_credits_22, r_ci c_X_credits_25, r_iret c_X_credits_27, r_al0 c_X_credits_28, r_an0 c_X_credits_28, r_gfSr c_X_credits_29 o9 rfl, r_gfSr c_X_credits_32 o0 rfl, r_il1 c_X_credits_35, r_il2 c_X_credits_36, r_cv3 c_X_credits_37, r_iret c_X_credits_40, ↓reduceIte, hs_h, Option.bind_some, mfix_i, mfix_r, mfix_n, mfix_a, Option.toList_some, Option.toList_none, List.cons_append, List.nil_append, List.singleton_append, mwt, Value.category, Nat.reduceAdd, Nat.reduceLeDiff, true_and, and_true, and_self, misc_w (w_1 hE hb), has_1 hE hb, g1.1, hx, if_true]
    · simp only [ment, mfl, List.length, List.replicate, List.cons_append, List.nil_append, Nat.reduceAdd, Nat.reduceSub]; simp only [r_al0 c_M_credits_0, r_il1 c_M_credits_1, r_ci c_M_credits_2, r_cv3 c_M_credits_3, r_ifeq c_M_credits_6, r_il2 c_M_credits_9, r_i2l c_M_credits_10, r_cl c_M_credits_11, r_cl c_M_credits_12, r_ca3 c_M_credits_15, r_ifne c_M_credits_18, r_ci c_M_credits_21, r_goto c_M_credits_23, r_al0 c_M_credits_26, r_il1 c_M_credits_27, r_il2 c_M_credits_28, r_cv3 c_M_credits_29, r_iret c_M_credits_32, ↓reduceIte, hs_h, Option.bind_some, mfix_i, mfix_r, mfix_n, mfix_a, Option.toList_some, Option.toList_none, List.cons_append, List.nil_append, List.singleton_append, mwt, Value.category, Nat.reduceAdd, Nat.reduceLeDiff, true_and, and_true, and_self, m10, mt2 hE, n1.1, th_eq (show z 1 < 2 ^ 31 by omega), hx, if_true]
  · rcases wic (m := 2999) v (by omega) with hv | ⟨D, hD, rfl, hv⟩
    · have hv : wiS v 0 2999 = 0 := hv
      refine op_v h (-1000000001) (fun d => ?_) (fun d => ?_)
      · simp only [ment, mfl, List.length, List.replicate, List.cons_append, List.nil_append, Nat.reduceAdd, Nat.reduceSub]; simp only [r_al0 c_X_credits_0, r_an0 c_X_credits_0, r_gfSr c_X_credits_1 o9 rfl, r_gfSr c_X_credits_4 o0 rfl, r_il1 c_X_credits_7, r_cv2 c_X_credits_8, r_ifeq c_X_credits_11, r_il2 c_X_credits_14, r_ci c_X_credits_15, r_ci c_X_credits_16, r_ca3 c_X_credits_19, r_ifne c_X_credits_22, r_ci c_X_credits_25, r_iret c_X_credits_27, r_al0 c_X_credits_28, r_an0 c_X_credits_28, r_gfSr c_X_credits_29 o9 rfl, r_gfSr c_X_credits_32 o0 rfl, r_il1 c_X_credits_35, r_il2 c_X_credits_36, r_cv3 c_X_credits_37, r_iret c_X_credits_40, ↓reduceIte, hs_h, Option.bind_some, mfix_i, mfix_r, mfix_n, mfix_a, Option.toList_some, Option.toList_none, List.cons_append, List.nil_append, List.singleton_append, mwt, Value.category, Nat.reduceAdd, Nat.reduceLeDiff, true_and, and_true, and_self, misc_w (w_1 hE hb), has_1 hE hb, g1.1, hx, if_false, one_nz, X_within_ok, hv, if_true]
      · simp only [ment, mfl, List.length, List.replicate, List.cons_append, List.nil_append, Nat.reduceAdd, Nat.reduceSub]; simp only [r_al0 c_M_credits_0, r_il1 c_M_credits_1, r_ci c_M_credits_2, r_cv3 c_M_credits_3, r_ifeq c_M_credits_6, r_il2 c_M_credits_9, r_i2l c_M_credits_10, r_cl c_M_credits_11, r_cl c_M_credits_12, r_ca3 c_M_credits_15, r_ifne c_M_credits_18, r_ci c_M_credits_21, r_goto c_M_credits_23, r_al0 c_M_credits_26, r_il1 c_M_credits_27, r_il2 c_M_credits_28, r_cv3 c_M_credits_29, r_iret c_M_credits_32, ↓reduceIte, hs_h, Option.bind_some, mfix_i, mfix_r, mfix_n, mfix_a, Option.toList_some, Option.toList_none, List.cons_append, List.nil_append, List.singleton_append, mwt, Value.category, Nat.reduceAdd, Nat.reduceLeDiff, true_and, and_true, and_self, m10, mt2 hE, n1.1, th_eq (show z 1 < 2 ^ 31 by omega), hx, if_false, one_nz, M_within_k (y := 0) (w := 2999) (y' := 0) (w' := 2999) (by decide) (by decide), hv, if_true]
    · have hv : wiS (nI D) 0 2999 = 1 := hv
      refine op_v h (crSum (iA S (b + 21)) (nI k) (nI D) (z 20)) (fun d => ?_) (fun d => ?_)
      · simp only [ment, mfl, List.length, List.replicate, List.cons_append, List.nil_append, Nat.reduceAdd, Nat.reduceSub]; simp only [r_al0 c_X_credits_0, r_an0 c_X_credits_0, r_gfSr c_X_credits_1 o9 rfl, r_gfSr c_X_credits_4 o0 rfl, r_il1 c_X_credits_7, r_cv2 c_X_credits_8, r_ifeq c_X_credits_11, r_il2 c_X_credits_14, r_ci c_X_credits_15, r_ci c_X_credits_16, r_ca3 c_X_credits_19, r_ifne c_X_credits_22, r_ci c_X_credits_25, r_iret c_X_credits_27, r_al0 c_X_credits_28, r_an0 c_X_credits_28, r_gfSr c_X_credits_29 o9 rfl, r_gfSr c_X_credits_32 o0 rfl, r_il1 c_X_credits_35, r_il2 c_X_credits_36, r_cv3 c_X_credits_37, r_iret c_X_credits_40, ↓reduceIte, hs_h, Option.bind_some, mfix_i, mfix_r, mfix_n, mfix_a, Option.toList_some, Option.toList_none, List.cons_append, List.nil_append, List.singleton_append, mwt, Value.category, Nat.reduceAdd, Nat.reduceLeDiff, true_and, and_true, and_self, misc_w (w_1 hE hb), has_1 hE hb, g1.1, hx, if_false, one_nz, X_within_ok, hv, m8, I_creditOf_ok hE hb g20.1 g20.2]
      · simp only [ment, mfl, List.length, List.replicate, List.cons_append, List.nil_append, Nat.reduceAdd, Nat.reduceSub]; simp only [r_al0 c_M_credits_0, r_il1 c_M_credits_1, r_ci c_M_credits_2, r_cv3 c_M_credits_3, r_ifeq c_M_credits_6, r_il2 c_M_credits_9, r_i2l c_M_credits_10, r_cl c_M_credits_11, r_cl c_M_credits_12, r_ca3 c_M_credits_15, r_ifne c_M_credits_18, r_ci c_M_credits_21, r_goto c_M_credits_23, r_al0 c_M_credits_26, r_il1 c_M_credits_27, r_il2 c_M_credits_28, r_cv3 c_M_credits_29, r_iret c_M_credits_32, ↓reduceIte, hs_h, Option.bind_some, mfix_i, mfix_r, mfix_n, mfix_a, Option.toList_some, Option.toList_none, List.cons_append, List.nil_append, List.singleton_append, mwt, Value.category, Nat.reduceAdd, Nat.reduceLeDiff, true_and, and_true, and_self, m10, mt2 hE, n1.1, th_eq (show z 1 < 2 ^ 31 by omega), hx, if_false, one_nz, M_within_k (y := 0) (w := 2999) (y' := 0) (w' := 2999) (by decide) (by decide), hv, M_creditOf_R hE hR (show D < 2147483647 by omega)]
theorem q_due (h : Inv E S) : opE E S 87 94 3 3 [.int c, .int v] := by
  obtain ⟨hE, hpar, ⟨z, t, hc, pk, td, htd, hR⟩, hI, hTp, hWt, hSh, hKy⟩ := id h
  obtain ⟨b, hb1⟩ : ∃ b, b = 1 := ⟨1, rfl⟩
  have hb : bkb b := Or.inl hb1
  rw [← hb1] at hR
  have o9 := o_X hE hb1
  have o0 := o_B hE hb
  have o8 := o_I hE hb
  have o1 := o_L hE hb
  have o5 := o_P hE
  have o10 := o_M hE
  have m10 := m_M hE
  have m9 : ∀ S, misc (hp E S 0) 9 = true := fun S => misc_o o9
  have m0 : ∀ S, misc (hp E S b) 0 = true := fun S => misc_o o0
  have m8 : ∀ S, misc (hp E S (b + 13)) 8 = true := fun S => misc_o o8
  have m1 : ∀ S, misc (hp E S (b + 22)) 1 = true := fun S => misc_o o1
  have m5 : ∀ S, misc (hp E S 79) 5 = true := fun S => misc_o o5
  obtain ⟨n1, n14, n16, n18, n20, n22, n3, n5, n7⟩ := rl_okm hR
  obtain ⟨⟨g1, g3, g5, g7, g14, g16, g18, g20, g22, gt, gw⟩, hH, hP⟩ := rl_okh hR
  have ht := rl_tod hR
  rcases ixc (n := z 1) c (by omega) with hx | ⟨k, hk, rfl, hx⟩
  · refine op_v h (-1000000001) (fun d => ?_) (fun d => ?_)
    · simp only [ment, mfl, List.length, List.replicate, List.cons_append, List.nil_append, Nat.reduceAdd, Nat.reduceSub]; simp only [r_al0 c_X_due_0, r_an0 c_X_due_0, r_gfSr c_X_due_1 o9 rfl, r_gfSr c_X_due_4 o0 rfl, r_il1 c_X_due_7, r_cv2 c_X_due_8, r_ifeq c_X_due_11, r_il2 c_X_due_14, r_ci c_X_due_15, r_ci c_X_due_16, r_ca3 c_X_due_19, r_ifne c_X_due_22, r_ci c_X_due_25, r_iret c_X_due_27, r_al0 c_X_due_28, r_an0 c_X_due_28, r_gfSr c_X_due_29 o9 rfl, r_il1 c_X_due_32, r_il2 c_X_due_33, r_cv3 c_X_due_34, r_ifeq c_X_due_37, r_ci c_X_due_40, r_goto c_X_due_41, r_ci c_X_due_44, r_iret c_X_due_45, ↓reduceIte, hs_h, Option.bind_some, mfix_i, mfix_r, mfix_n, mfix_a, Option.toList_some, Option.toList_none, List.cons_append, List.nil_append, List.singleton_append, mwt, Value.category, Nat.reduceAdd, Nat.reduceLeDiff, true_and, and_true, and_self, misc_w (w_1 hE hb), has_1 hE hb, g1.1, hx, if_true]
    · simp only [ment, mfl, List.length, List.replicate, List.cons_append, List.nil_append, Nat.reduceAdd, Nat.reduceSub]; simp only [r_al0 c_M_due_0, r_il1 c_M_due_1, r_ci c_M_due_2, r_cv3 c_M_due_3, r_ifeq c_M_due_6, r_il2 c_M_due_9, r_i2l c_M_due_10, r_cl c_M_due_11, r_cl c_M_due_12, r_ca3 c_M_due_15, r_ifne c_M_due_18, r_ci c_M_due_21, r_goto c_M_due_23, r_al0 c_M_due_26, r_il1 c_M_due_27, r_il2 c_M_due_28, r_cv3 c_M_due_29, r_ifeq c_M_due_32, r_ci c_M_due_35, r_goto c_M_due_36, r_ci c_M_due_39, r_iret c_M_due_40, ↓reduceIte, hs_h, Option.bind_some, mfix_i, mfix_r, mfix_n, mfix_a, Option.toList_some, Option.toList_none, List.cons_append, List.nil_append, List.singleton_append, mwt, Value.category, Nat.reduceAdd, Nat.reduceLeDiff, true_and, and_true, and_self, m10, mt2 hE, n1.1, th_eq (show z 1 < 2 ^ 31 by omega), hx, if_true]
  · rcases wic (m := 9999) v (by omega) with hv | ⟨D, hD, rfl, hv⟩
    · have hv : wiS v 0 9999 = 0 := hv
      refine op_v h (-1000000001) (fun d => ?_) (fun d => ?_)
      · simp only [ment, mfl, List.length, List.replicate, List.cons_append, List.nil_append, Nat.reduceAdd, Nat.reduceSub]; simp only [r_al0 c_X_due_0, r_an0 c_X_due_0, r_gfSr c_X_due_1 o9 rfl, r_gfSr c_X_due_4 o0 rfl, r_il1 c_X_due_7, r_cv2 c_X_due_8, r_ifeq c_X_due_11, r_il2 c_X_due_14, r_ci c_X_due_15, r_ci c_X_due_16, r_ca3 c_X_due_19, r_ifne c_X_due_22, r_ci c_X_due_25, r_iret c_X_due_27, r_al0 c_X_due_28, r_an0 c_X_due_28, r_gfSr c_X_due_29 o9 rfl, r_il1 c_X_due_32, r_il2 c_X_due_33, r_cv3 c_X_due_34, r_ifeq c_X_due_37, r_ci c_X_due_40, r_goto c_X_due_41, r_ci c_X_due_44, r_iret c_X_due_45, ↓reduceIte, hs_h, Option.bind_some, mfix_i, mfix_r, mfix_n, mfix_a, Option.toList_some, Option.toList_none, List.cons_append, List.nil_append, List.singleton_append, mwt, Value.category, Nat.reduceAdd, Nat.reduceLeDiff, true_and, and_true, and_self, misc_w (w_1 hE hb), has_1 hE hb, g1.1, hx, if_false, one_nz, X_within_ok, hv, if_true]
      · simp only [ment, mfl, List.length, List.replicate, List.cons_append, List.nil_append, Nat.reduceAdd, Nat.reduceSub]; simp only [r_al0 c_M_due_0, r_il1 c_M_due_1, r_ci c_M_due_2, r_cv3 c_M_due_3, r_ifeq c_M_due_6, r_il2 c_M_due_9, r_i2l c_M_due_10, r_cl c_M_due_11, r_cl c_M_due_12, r_ca3 c_M_due_15, r_ifne c_M_due_18, r_ci c_M_due_21, r_goto c_M_due_23, r_al0 c_M_due_26, r_il1 c_M_due_27, r_il2 c_M_due_28, r_cv3 c_M_due_29, r_ifeq c_M_due_32, r_ci c_M_due_35, r_goto c_M_due_36, r_ci c_M_due_39, r_iret c_M_due_40, ↓reduceIte, hs_h, Option.bind_some, mfix_i, mfix_r, mfix_n, mfix_a, Option.toList_some, Option.toList_none, List.cons_append, List.nil_append, List.singleton_append, mwt, Value.category, Nat.reduceAdd, Nat.reduceLeDiff, true_and, and_true, and_self, m10, mt2 hE, n1.1, th_eq (show z 1 < 2 ^ 31 by omega), hx, if_false, one_nz, M_within_k (y := 0) (w := 9999) (y' := 0) (w' := 9999) (by decide) (by decide), hv, if_true]
    · have hv : wiS (nI D) 0 9999 = 1 := hv
      have k12 : k < 12 := by omega
      obtain ⟨S1, e1, r1⟩ := B_isDue_e (day := nI D) hE hb (rl_okh hR).1 k12 (S1 := S) eqS_rf
      have hR1 : Rel E S b z t hc pk td (18 * td) (iA S1 94) := by rw [iA, e1 94 (by omega) (by omega)]; exact hR
      obtain ⟨S2, e2, r2⟩ := M_isDue_R (k := k) (D := D) hE hR1 hk (by omega)
      refine ⟨if duS S b z t k (nI D) = 0 then 0 else 1, S1, S2, fun d _ => ?_, fun d _ => ?_, Inv_q h (by subst hb1; exact e1) e2⟩
      · simp only [ment, mfl, List.length, List.replicate, List.cons_append, List.nil_append, Nat.reduceAdd, Nat.reduceSub]; simp only [r_al0 c_X_due_0, r_an0 c_X_due_0, r_gfSr c_X_due_1 o9 rfl, r_gfSr c_X_due_4 o0 rfl, r_il1 c_X_due_7, r_cv2 c_X_due_8, r_ifeq c_X_due_11, r_il2 c_X_due_14, r_ci c_X_due_15, r_ci c_X_due_16, r_ca3 c_X_due_19, r_ifne c_X_due_22, r_ci c_X_due_25, r_iret c_X_due_27, r_al0 c_X_due_28, r_an0 c_X_due_28, r_gfSr c_X_due_29 o9 rfl, r_il1 c_X_due_32, r_il2 c_X_due_33, r_cv3 c_X_due_34, r_ifeq c_X_due_37, r_ci c_X_due_40, r_goto c_X_due_41, r_ci c_X_due_44, r_iret c_X_due_45, ↓reduceIte, hs_h, Option.bind_some, mfix_i, mfix_r, mfix_n, mfix_a, Option.toList_some, Option.toList_none, List.cons_append, List.nil_append, List.singleton_append, mwt, Value.category, Nat.reduceAdd, Nat.reduceLeDiff, true_and, and_true, and_self, misc_w (w_1 hE hb), has_1 hE hb, g1.1, hx, if_false, one_nz, X_within_ok, hv, m0, r1, ite_out]
      · have n1' : iA S1 94 2 = nI (z 1) := (rl_okm hR1).1.1
        simp only [ment, mfl, List.length, List.replicate, List.cons_append, List.nil_append, Nat.reduceAdd, Nat.reduceSub]; simp only [r_al0 c_M_due_0, r_il1 c_M_due_1, r_ci c_M_due_2, r_cv3 c_M_due_3, r_ifeq c_M_due_6, r_il2 c_M_due_9, r_i2l c_M_due_10, r_cl c_M_due_11, r_cl c_M_due_12, r_ca3 c_M_due_15, r_ifne c_M_due_18, r_ci c_M_due_21, r_goto c_M_due_23, r_al0 c_M_due_26, r_il1 c_M_due_27, r_il2 c_M_due_28, r_cv3 c_M_due_29, r_ifeq c_M_due_32, r_ci c_M_due_35, r_goto c_M_due_36, r_ci c_M_due_39, r_iret c_M_due_40, ↓reduceIte, hs_h, Option.bind_some, mfix_i, mfix_r, mfix_n, mfix_a, Option.toList_some, Option.toList_none, List.cons_append, List.nil_append, List.singleton_append, mwt, Value.category, Nat.reduceAdd, Nat.reduceLeDiff, true_and, and_true, and_self, m10, mt2 hE, n1', th_eq (show z 1 < 2 ^ 31 by omega), hx, if_false, one_nz, M_within_k (y := 0) (w := 9999) (y' := 0) (w' := 9999) (by decide) (by decide), hv, r2, ite_out]
theorem q_cause (h : Inv E S) : opE E S 193 197 2 2 [.int c] := by
  obtain ⟨hE, hpar, ⟨z, t, hc, pk, td, htd, hR⟩, hI, hTp, hWt, hSh, hKy⟩ := id h
  obtain ⟨b, hb1⟩ : ∃ b, b = 1 := ⟨1, rfl⟩
  have hb : bkb b := Or.inl hb1
  rw [← hb1] at hR
  have o9 := o_X hE hb1
  have o0 := o_B hE hb
  have o8 := o_I hE hb
  have o1 := o_L hE hb
  have o5 := o_P hE
  have o10 := o_M hE
  have m10 := m_M hE
  have m9 : ∀ S, misc (hp E S 0) 9 = true := fun S => misc_o o9
  have m0 : ∀ S, misc (hp E S b) 0 = true := fun S => misc_o o0
  have m8 : ∀ S, misc (hp E S (b + 13)) 8 = true := fun S => misc_o o8
  have m1 : ∀ S, misc (hp E S (b + 22)) 1 = true := fun S => misc_o o1
  have m5 : ∀ S, misc (hp E S 79) 5 = true := fun S => misc_o o5
  obtain ⟨n1, n14, n16, n18, n20, n22, n3, n5, n7⟩ := rl_okm hR
  obtain ⟨⟨g1, g3, g5, g7, g14, g16, g18, g20, g22, gt, gw⟩, hH, hP⟩ := rl_okh hR
  have ht := rl_tod hR
  rcases ixc (n := z 1) c (by omega) with hx | ⟨k, hk, rfl, hx⟩
  · refine op_v h (-1000000001) (fun d => ?_) (fun d => ?_)
    · simp only [ment, mfl, List.length, List.replicate, List.cons_append, List.nil_append, Nat.reduceAdd, Nat.reduceSub]; simp only [r_al0 c_X_cause_0, r_an0 c_X_cause_0, r_gfSr c_X_cause_1 o9 rfl, r_gfSr c_X_cause_4 o0 rfl, r_il1 c_X_cause_7, r_cv2 c_X_cause_8, r_ifne c_X_cause_11, r_ci c_X_cause_14, r_iret c_X_cause_16, r_al0 c_X_cause_17, r_an0 c_X_cause_17, r_gfSr c_X_cause_18 o9 rfl, r_il1 c_X_cause_21, r_cv2 c_X_cause_22, r_ifeq c_X_cause_25, r_ci c_X_cause_28, r_iret c_X_cause_30, r_al0 c_X_cause_31, r_an0 c_X_cause_31, r_gfSr c_X_cause_32 o9 rfl, r_il1 c_X_cause_35, r_cv2 c_X_cause_36, r_iret c_X_cause_39, ↓reduceIte, hs_h, Option.bind_some, mfix_i, mfix_r, mfix_n, mfix_a, Option.toList_some, Option.toList_none, List.cons_append, List.nil_append, List.singleton_append, mwt, Value.category, Nat.reduceAdd, Nat.reduceLeDiff, true_and, and_true, and_self, misc_w (w_1 hE hb), has_1 hE hb, g1.1, hx, if_true]
    · simp only [ment, mfl, List.length, List.replicate, List.cons_append, List.nil_append, Nat.reduceAdd, Nat.reduceSub]; simp only [r_al0 c_M_cause_0, r_il1 c_M_cause_1, r_ci c_M_cause_2, r_cv3 c_M_cause_3, r_ifne c_M_cause_6, r_ci c_M_cause_9, r_iret c_M_cause_11, r_al0 c_M_cause_12, r_il1 c_M_cause_13, r_ci c_M_cause_14, r_cv3 c_M_cause_15, r_ifeq c_M_cause_18, r_ci c_M_cause_21, r_goto c_M_cause_23, r_al0 c_M_cause_26, r_il1 c_M_cause_27, r_cv2 c_M_cause_28, r_iret c_M_cause_31, ↓reduceIte, hs_h, Option.bind_some, mfix_i, mfix_r, mfix_n, mfix_a, Option.toList_some, Option.toList_none, List.cons_append, List.nil_append, List.singleton_append, mwt, Value.category, Nat.reduceAdd, Nat.reduceLeDiff, true_and, and_true, and_self, m10, mt2 hE, n1.1, th_eq (show z 1 < 2 ^ 31 by omega), hx, if_true]
  · have k12 : k < 12 := by omega
    have c3 : iA S 94 (20 + 6 * k + 3) = iA S (b + 2) (k * 6 + 3) := rl_c0 hR hk (c := 3) (by omega)
    by_cases q : iA S (b + 2) (k * 6 + 3) = 0
    · obtain ⟨S1, e1, r1⟩ := B_causeToday_ok hE hb (rl_okh hR).1 hP k12 (S1 := S) eqS_rf
      rw [caS_n] at r1
      have hR1 : Rel E S b z t hc pk td (18 * td) (iA S1 94) := by rw [iA, e1 94 (by omega) (by omega)]; exact hR
      obtain ⟨S2, e2, r2⟩ := M_causeOf_R (k := k) hE hR1 hk
      have n1' : iA S1 94 2 = nI (z 1) := (rl_okm hR1).1.1
      have c3' : iA S1 94 (20 + 6 * k + 3) = iA S (b + 2) (k * 6 + 3) := rl_c0 hR1 hk (c := 3) (by omega)
      refine ⟨nI (caN S b z t pk k), S1, S2, fun d _ => ?_, fun d _ => ?_, Inv_q h (by subst hb1; exact e1) e2⟩
      · simp only [ment, mfl, List.length, List.replicate, List.cons_append, List.nil_append, Nat.reduceAdd, Nat.reduceSub]; simp only [r_al0 c_X_cause_0, r_an0 c_X_cause_0, r_gfSr c_X_cause_1 o9 rfl, r_gfSr c_X_cause_4 o0 rfl, r_il1 c_X_cause_7, r_cv2 c_X_cause_8, r_ifne c_X_cause_11, r_ci c_X_cause_14, r_iret c_X_cause_16, r_al0 c_X_cause_17, r_an0 c_X_cause_17, r_gfSr c_X_cause_18 o9 rfl, r_il1 c_X_cause_21, r_cv2 c_X_cause_22, r_ifeq c_X_cause_25, r_ci c_X_cause_28, r_iret c_X_cause_30, r_al0 c_X_cause_31, r_an0 c_X_cause_31, r_gfSr c_X_cause_32 o9 rfl, r_il1 c_X_cause_35, r_cv2 c_X_cause_36, r_iret c_X_cause_39, ↓reduceIte, hs_h, Option.bind_some, mfix_i, mfix_r, mfix_n, mfix_a, Option.toList_some, Option.toList_none, List.cons_append, List.nil_append, List.singleton_append, mwt, Value.category, Nat.reduceAdd, Nat.reduceLeDiff, true_and, and_true, and_self, misc_w (w_1 hE hb), has_1 hE hb, g1.1, hx, if_false, one_nz, m0, B_stateOf_ok hE hb k12, q, if_true, r1]
      · simp only [ment, mfl, List.length, List.replicate, List.cons_append, List.nil_append, Nat.reduceAdd, Nat.reduceSub]; simp only [r_al0 c_M_cause_0, r_il1 c_M_cause_1, r_ci c_M_cause_2, r_cv3 c_M_cause_3, r_ifne c_M_cause_6, r_ci c_M_cause_9, r_iret c_M_cause_11, r_al0 c_M_cause_12, r_il1 c_M_cause_13, r_ci c_M_cause_14, r_cv3 c_M_cause_15, r_ifeq c_M_cause_18, r_ci c_M_cause_21, r_goto c_M_cause_23, r_al0 c_M_cause_26, r_il1 c_M_cause_27, r_cv2 c_M_cause_28, r_iret c_M_cause_31, ↓reduceIte, hs_h, Option.bind_some, mfix_i, mfix_r, mfix_n, mfix_a, Option.toList_some, Option.toList_none, List.cons_append, List.nil_append, List.singleton_append, mwt, Value.category, Nat.reduceAdd, Nat.reduceLeDiff, true_and, and_true, and_self, m10, mt2 hE, n1', th_eq (show z 1 < 2 ^ 31 by omega), hx, if_false, one_nz, oc3 hE k12, c3', q, if_true, r2]
    · refine op_v h (-1000000002) (fun d => ?_) (fun d => ?_)
      · simp only [ment, mfl, List.length, List.replicate, List.cons_append, List.nil_append, Nat.reduceAdd, Nat.reduceSub]; simp only [r_al0 c_X_cause_0, r_an0 c_X_cause_0, r_gfSr c_X_cause_1 o9 rfl, r_gfSr c_X_cause_4 o0 rfl, r_il1 c_X_cause_7, r_cv2 c_X_cause_8, r_ifne c_X_cause_11, r_ci c_X_cause_14, r_iret c_X_cause_16, r_al0 c_X_cause_17, r_an0 c_X_cause_17, r_gfSr c_X_cause_18 o9 rfl, r_il1 c_X_cause_21, r_cv2 c_X_cause_22, r_ifeq c_X_cause_25, r_ci c_X_cause_28, r_iret c_X_cause_30, r_al0 c_X_cause_31, r_an0 c_X_cause_31, r_gfSr c_X_cause_32 o9 rfl, r_il1 c_X_cause_35, r_cv2 c_X_cause_36, r_iret c_X_cause_39, ↓reduceIte, hs_h, Option.bind_some, mfix_i, mfix_r, mfix_n, mfix_a, Option.toList_some, Option.toList_none, List.cons_append, List.nil_append, List.singleton_append, mwt, Value.category, Nat.reduceAdd, Nat.reduceLeDiff, true_and, and_true, and_self, misc_w (w_1 hE hb), has_1 hE hb, g1.1, hx, if_false, one_nz, m0, B_stateOf_ok hE hb k12, q]
      · simp only [ment, mfl, List.length, List.replicate, List.cons_append, List.nil_append, Nat.reduceAdd, Nat.reduceSub]; simp only [r_al0 c_M_cause_0, r_il1 c_M_cause_1, r_ci c_M_cause_2, r_cv3 c_M_cause_3, r_ifne c_M_cause_6, r_ci c_M_cause_9, r_iret c_M_cause_11, r_al0 c_M_cause_12, r_il1 c_M_cause_13, r_ci c_M_cause_14, r_cv3 c_M_cause_15, r_ifeq c_M_cause_18, r_ci c_M_cause_21, r_goto c_M_cause_23, r_al0 c_M_cause_26, r_il1 c_M_cause_27, r_cv2 c_M_cause_28, r_iret c_M_cause_31, ↓reduceIte, hs_h, Option.bind_some, mfix_i, mfix_r, mfix_n, mfix_a, Option.toList_some, Option.toList_none, List.cons_append, List.nil_append, List.singleton_append, mwt, Value.category, Nat.reduceAdd, Nat.reduceLeDiff, true_and, and_true, and_self, m10, mt2 hE, n1.1, th_eq (show z 1 < 2 ^ 31 by omega), hx, if_false, one_nz, oc3 hE k12, c3, q]
end QUERY
