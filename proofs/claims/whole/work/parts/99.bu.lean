/-! the model reads: levels -/
section MLEVEL
variable {E : EE} {S W : SS} {d n p q j l k kn i m f : Nat} {T : Nat → Nat} {c v x fr tt so ft br nt cc pa : Int32} {σ ρ : PT} {g g' : Nat → Int32} {R R' : PT → PT}
/-- one round of a loop: on, the next level, the sign put behind -/
theorem M_lp_step (hE : okE E) (hT : mtp S n T) (hl : l < 5) {M nL : Nat} (hR : okR n T R) (hS : smR E S n T M nL d p q R) (hσ : rSt n T σ) (h1 : 1 ≤ σ.1) (hf : σ.2.2.2.1 = none) (hsg : sgo n T l σ = 1) (hm : mrl S (nI p) (nI q) σ W) :
    ∃ W0 W1 W2, (∀ d, mres cT 142 d 0 (ment 3 [.ref 93]) [] (hs E W) = some (none, hs E W0)) ∧ mres cT M d 0 (ment nL [.ref 93]) [] (hs E W0) = some (none, hs E W1) ∧ (∀ d, mres cT 145 d 0 (ment 2 [.ref 93, .int (mcd (-(btN n T σ.1)))]) [] (hs E W1) = some (none, hs E W2)) ∧ mrl S (nI p) (nI q) (emi (R (adv n T σ)) (-(btN n T σ.1))) W2 ∧ ((emi (R (adv n T σ)) (-(btN n T σ.1))).2.2.2.1 = none → rSt n T (emi (R (adv n T σ)) (-(btN n T σ.1))) ∧ σ.1 + 1 ≤ (emi (R (adv n T σ)) (-(btN n T σ.1))).1) := by
  obtain ⟨g, hg, rfl⟩ := mrl_n hm hf
  have hTb : ∀ j, j < n → T j < 256 := fun j hj => (hT.2.2 j hj).2
  obtain ⟨-, -, -, s2⟩ := sgW_1 hl hTb hσ hf hsg
  have hA := adv_wf hσ
  have f2 : (adv n T σ).2.2.2.1 = none := by rw [adv_c.2.2.1]; exact hf
  obtain ⟨W1, hm1, r1⟩ := hS (adv n T σ) (mkS S (nI p) (nI q) (adv n T σ) g) hA.1 (by have := hA.2 (by omega); omega) f2 (Or.inl ⟨f2, g, by rw [adv_c.1, adv_c.2.1]; exact hg, rfl⟩)
  obtain ⟨W2, hm2, r2⟩ := M_put_mrl (c := -(btN n T σ.1)) hE hm1 (fun h => (lp_st (c := 0) hT.2.1 hl hTb hR hσ hf hsg h).1)
  exact ⟨_, W1, W2, fun d => M_next_mk hE hT hσ.1.2.1 (mwo_2 s2), r1, r2, hm2, fun h => (lp_st hT.2.1 hl hTb hR hσ hf hsg (by rw [emi_f.1] at h; exact h)).2⟩
theorem M_term_s (hE : okE E) (hT : mtp S n T) (hR : okR n T R) (hS : smR E S n T 147 3 d p q R) : smR E S n T 149 2 d p q (fun σ => lpL n T 4 R 96 (R σ)) := by
  intro σ W hσ h1 hf hm
  have o10 := o_M hE
  have m10 := m_M hE
  have hn := hT.2.1
  have hTb : ∀ j, j < n → T j < 256 := fun j hj => (hT.2.2 j hj).2
  have sg : ∀ ρ W, mrl S (nI p) (nI q) ρ W → (ρ.2.2.2.1 = none → rSt n T ρ) → ∀ d, mres cT 148 d 0 (ment 5 [.ref 93, .int 7, .int 8]) [] (hs E W) = some (some (.int (sgW n T 4 ρ)), hs E W) := fun ρ W h1 h2 => M_sgn_mrl (l := 4) hE hT (by decide) h1 h2
  have lp : ∀ m σ W, (σ.2.2.2.1 = none → rSt n T σ ∧ 1 ≤ σ.1 ∧ 97 ≤ m + σ.1) → mrl S (nI p) (nI q) σ W → ∃ W', mrl S (nI p) (nI q) (lpL n T 4 R m σ) W' ∧ mres cT 149 d 13 [.ref 93, .int (sgW n T 4 σ)] [] (hs E W) = some (none, hs E W') := by
    intro m
    induction m with
    | zero =>
      intro σ W h hm
      have hc : ¬ (σ.2.2.2.1 = none ∧ sgo n T 4 σ = 1) := fun hc => by
        obtain ⟨a1, a2, a3⟩ := h hc.1
        have := a1.1.1
        omega
      refine ⟨W, hm, ?_⟩
      simp only [r_il1 c_M_term_13, r_iflt c_M_term_14, r_vret c_M_term_46, ↓reduceIte, hs_h, Option.bind_some, mfix_i, mfix_r, mfix_n, mfix_a, Option.toList_some, Option.toList_none, List.cons_append, List.nil_append, List.singleton_append, (sgW_0 hc).2, if_true]
    | succ m ih =>
      intro σ W h hm
      by_cases hc : σ.2.2.2.1 = none ∧ sgo n T 4 σ = 1
      · obtain ⟨a1, a2, a3⟩ := h hc.1
        obtain ⟨W0, W1, W2, r0, r1, r2, hm2, st⟩ := M_lp_step (l := 4) hE hT (by decide) hR hS a1 a2 hc.1 hc.2 hm
        obtain ⟨e1, e2, e3, e4⟩ := sgW_1 (l := 4) (by decide) hTb a1 hc.1 hc.2
        have r3 := sg _ W2 hm2 (fun h => (st h).1)
        obtain ⟨W', hm3, r4⟩ := ih _ W2 (fun h => ⟨(st h).1, by have := (st h).2; omega, by have := (st h).2; omega⟩) hm2
        rw [lpL, if_pos hc]
        refine ⟨W', hm3, ?_⟩
        simp only [r_il1 c_M_term_13, r_iflt c_M_term_14, ↓reduceIte, hs_h, Option.bind_some, mfix_i, mfix_r, mfix_n, mfix_a, Option.toList_some, Option.toList_none, List.cons_append, List.nil_append, List.singleton_append, e2, if_false]
        simp only [r_al0 c_M_term_17, r_cv1 c_M_term_18, r_al0 c_M_term_21, r_cv1 c_M_term_22, r_al0 c_M_term_25, r_ci c_M_term_26, r_il1 c_M_term_29, r_iadd c_M_term_30, r_cv2 c_M_term_31, r_al0 c_M_term_34, r_ci c_M_term_35, r_ci c_M_term_37, r_cv3 c_M_term_39, r_is1 c_M_term_42, r_goto c_M_term_43, ↓reduceIte, hs_h, Option.bind_some, mfix_i, mfix_r, mfix_n, mfix_a, Option.toList_some, Option.toList_none, List.cons_append, List.nil_append, List.singleton_append, mwt, Value.category, Nat.reduceAdd, Nat.reduceLeDiff, true_and, and_true, and_self, m10, r0, r1, e3, r2, r3, r4]
      · rw [lpL, if_neg hc]
        refine ⟨W, hm, ?_⟩
        simp only [r_il1 c_M_term_13, r_iflt c_M_term_14, r_vret c_M_term_46, ↓reduceIte, hs_h, Option.bind_some, mfix_i, mfix_r, mfix_n, mfix_a, Option.toList_some, Option.toList_none, List.cons_append, List.nil_append, List.singleton_append, (sgW_0 hc).2, if_true]
  obtain ⟨W1, hm1, r1⟩ := hS σ W hσ h1 hf hm
  have h2 := fun h => hR σ hσ hf h
  have r2 := sg (R σ) W1 hm1 (fun h => (h2 h).1)
  obtain ⟨W', hm3, r4⟩ := lp 96 (R σ) W1 (fun h => ⟨(h2 h).1, by have := (h2 h).2.2.2; omega, by have := (h2 h).2.2.2; omega⟩) hm1
  refine ⟨W', hm3, ?_⟩
  simp only [ment, mfl, List.length, List.replicate, List.cons_append, List.nil_append, Nat.reduceAdd, Nat.reduceSub]
  simp only [r_al0 c_M_term_0, r_cv1 c_M_term_1, r_al0 c_M_term_4, r_ci c_M_term_5, r_ci c_M_term_7, r_cv3 c_M_term_9, r_is1 c_M_term_12, ↓reduceIte, hs_h, Option.bind_some, mfix_i, mfix_r, mfix_n, mfix_a, Option.toList_some, Option.toList_none, List.cons_append, List.nil_append, List.singleton_append, mwt, Value.category, Nat.reduceAdd, Nat.reduceLeDiff, true_and, and_true, and_self, m10, r1, r2, r4]
theorem M_sum_s (hE : okE E) (hT : mtp S n T) (hR : okR n T R) (hS : smR E S n T 149 2 d p q R) : smR E S n T 150 2 d p q (fun σ => lpL n T 3 R 96 (R σ)) := by
  intro σ W hσ h1 hf hm
  have o10 := o_M hE
  have m10 := m_M hE
  have hn := hT.2.1
  have hTb : ∀ j, j < n → T j < 256 := fun j hj => (hT.2.2 j hj).2
  have sg : ∀ ρ W, mrl S (nI p) (nI q) ρ W → (ρ.2.2.2.1 = none → rSt n T ρ) → ∀ d, mres cT 148 d 0 (ment 5 [.ref 93, .int 5, .int 6]) [] (hs E W) = some (some (.int (sgW n T 3 ρ)), hs E W) := fun ρ W h1 h2 => M_sgn_mrl (l := 3) hE hT (by decide) h1 h2
  have lp : ∀ m σ W, (σ.2.2.2.1 = none → rSt n T σ ∧ 1 ≤ σ.1 ∧ 97 ≤ m + σ.1) → mrl S (nI p) (nI q) σ W → ∃ W', mrl S (nI p) (nI q) (lpL n T 3 R m σ) W' ∧ mres cT 150 d 12 [.ref 93, .int (sgW n T 3 σ)] [] (hs E W) = some (none, hs E W') := by
    intro m
    induction m with
    | zero =>
      intro σ W h hm
      have hc : ¬ (σ.2.2.2.1 = none ∧ sgo n T 3 σ = 1) := fun hc => by
        obtain ⟨a1, a2, a3⟩ := h hc.1
        have := a1.1.1
        omega
      refine ⟨W, hm, ?_⟩
      simp only [r_il1 c_M_sum_12, r_iflt c_M_sum_13, r_vret c_M_sum_44, ↓reduceIte, hs_h, Option.bind_some, mfix_i, mfix_r, mfix_n, mfix_a, Option.toList_some, Option.toList_none, List.cons_append, List.nil_append, List.singleton_append, (sgW_0 hc).2, if_true]
    | succ m ih =>
      intro σ W h hm
      by_cases hc : σ.2.2.2.1 = none ∧ sgo n T 3 σ = 1
      · obtain ⟨a1, a2, a3⟩ := h hc.1
        obtain ⟨W0, W1, W2, r0, r1, r2, hm2, st⟩ := M_lp_step (l := 3) hE hT (by decide) hR hS a1 a2 hc.1 hc.2 hm
        obtain ⟨e1, e2, e3, e4⟩ := sgW_1 (l := 3) (by decide) hTb a1 hc.1 hc.2
        have r3 := sg _ W2 hm2 (fun h => (st h).1)
        obtain ⟨W', hm3, r4⟩ := ih _ W2 (fun h => ⟨(st h).1, by have := (st h).2; omega, by have := (st h).2; omega⟩) hm2
        rw [lpL, if_pos hc]
        refine ⟨W', hm3, ?_⟩
        simp only [r_il1 c_M_sum_12, r_iflt c_M_sum_13, ↓reduceIte, hs_h, Option.bind_some, mfix_i, mfix_r, mfix_n, mfix_a, Option.toList_some, Option.toList_none, List.cons_append, List.nil_append, List.singleton_append, e2, if_false]
        simp only [r_al0 c_M_sum_16, r_cv1 c_M_sum_17, r_al0 c_M_sum_20, r_cv1 c_M_sum_21, r_al0 c_M_sum_24, r_ci c_M_sum_25, r_il1 c_M_sum_28, r_iadd c_M_sum_29, r_cv2 c_M_sum_30, r_al0 c_M_sum_33, r_ci c_M_sum_34, r_ci c_M_sum_35, r_cv3 c_M_sum_37, r_is1 c_M_sum_40, r_goto c_M_sum_41, ↓reduceIte, hs_h, Option.bind_some, mfix_i, mfix_r, mfix_n, mfix_a, Option.toList_some, Option.toList_none, List.cons_append, List.nil_append, List.singleton_append, mwt, Value.category, Nat.reduceAdd, Nat.reduceLeDiff, true_and, and_true, and_self, m10, r0, r1, e3, r2, r3, r4]
      · rw [lpL, if_neg hc]
        refine ⟨W, hm, ?_⟩
        simp only [r_il1 c_M_sum_12, r_iflt c_M_sum_13, r_vret c_M_sum_44, ↓reduceIte, hs_h, Option.bind_some, mfix_i, mfix_r, mfix_n, mfix_a, Option.toList_some, Option.toList_none, List.cons_append, List.nil_append, List.singleton_append, (sgW_0 hc).2, if_true]
  obtain ⟨W1, hm1, r1⟩ := hS σ W hσ h1 hf hm
  have h2 := fun h => hR σ hσ hf h
  have r2 := sg (R σ) W1 hm1 (fun h => (h2 h).1)
  obtain ⟨W', hm3, r4⟩ := lp 96 (R σ) W1 (fun h => ⟨(h2 h).1, by have := (h2 h).2.2.2; omega, by have := (h2 h).2.2.2; omega⟩) hm1
  refine ⟨W', hm3, ?_⟩
  simp only [ment, mfl, List.length, List.replicate, List.cons_append, List.nil_append, Nat.reduceAdd, Nat.reduceSub]
  simp only [r_al0 c_M_sum_0, r_cv1 c_M_sum_1, r_al0 c_M_sum_4, r_ci c_M_sum_5, r_ci c_M_sum_6, r_cv3 c_M_sum_8, r_is1 c_M_sum_11, ↓reduceIte, hs_h, Option.bind_some, mfix_i, mfix_r, mfix_n, mfix_a, Option.toList_some, Option.toList_none, List.cons_append, List.nil_append, List.singleton_append, mwt, Value.category, Nat.reduceAdd, Nat.reduceLeDiff, true_and, and_true, and_self, m10, r1, r2, r4]
theorem M_test_s (hE : okE E) (hT : mtp S n T) (hR : okR n T R) (hS : smR E S n T 150 2 d p q R) : smR E S n T 151 2 d p q (fun σ => lpL n T 2 R 1 (R σ)) := by
  intro σ W hσ h1 hf hm
  have o10 := o_M hE
  have m10 := m_M hE
  have hn := hT.2.1
  have hTb : ∀ j, j < n → T j < 256 := fun j hj => (hT.2.2 j hj).2
  have sg : ∀ ρ W, mrl S (nI p) (nI q) ρ W → (ρ.2.2.2.1 = none → rSt n T ρ) → ∀ d, mres cT 148 d 0 (ment 5 [.ref 93, .int 2, .int 4]) [] (hs E W) = some (some (.int (sgW n T 2 ρ)), hs E W) := fun ρ W h1 h2 => M_sgn_mrl (l := 2) hE hT (by decide) h1 h2
  obtain ⟨W1, hm1, r1⟩ := hS σ W hσ h1 hf hm
  have h2 := fun h => hR σ hσ hf h
  have r5 := sg (R σ) W1 hm1 (fun h => (h2 h).1)
  by_cases hc : (R σ).2.2.2.1 = none ∧ sgo n T 2 (R σ) = 1
  · have a1 := (h2 hc.1).1
    have a2 : 1 ≤ (R σ).1 := by have := (h2 hc.1).2.2.2; omega
    obtain ⟨W0, W3, W2, r0, r6, r2, hm2, st⟩ := M_lp_step (l := 2) hE hT (by decide) hR hS a1 a2 hc.1 hc.2 hm1
    obtain ⟨e1, e2, e3, e4⟩ := sgW_1 (l := 2) (by decide) hTb a1 hc.1 hc.2
    refine ⟨W2, ?_, ?_⟩
    · show mrl S (nI p) (nI q) (lpL n T 2 R 1 (R σ)) W2
      rw [lpL, if_pos hc]; exact hm2
    · simp only [ment, mfl, List.length, List.replicate, List.cons_append, List.nil_append, Nat.reduceAdd, Nat.reduceSub]
      simp only [r_al0 c_M_test_0, r_cv1 c_M_test_1, r_al0 c_M_test_4, r_ci c_M_test_5, r_ci c_M_test_6, r_cv3 c_M_test_7, r_is1 c_M_test_10, r_il1 c_M_test_11, r_iflt c_M_test_12, r_al0 c_M_test_15, r_cv1 c_M_test_16, r_al0 c_M_test_19, r_cv1 c_M_test_20, r_al0 c_M_test_23, r_ci c_M_test_24, r_il1 c_M_test_27, r_iadd c_M_test_28, r_cv2 c_M_test_29, r_vret c_M_test_32, ↓reduceIte, hs_h, Option.bind_some, mfix_i, mfix_r, mfix_n, mfix_a, Option.toList_some, Option.toList_none, List.cons_append, List.nil_append, List.singleton_append, mwt, Value.category, Nat.reduceAdd, Nat.reduceLeDiff, true_and, and_true, and_self, m10, r1, r5, e2, if_false, r0, r6, e3, r2]
  · refine ⟨W1, ?_, ?_⟩
    · show mrl S (nI p) (nI q) (lpL n T 2 R 1 (R σ)) W1
      rw [lpL, if_neg hc]; exact hm1
    · simp only [ment, mfl, List.length, List.replicate, List.cons_append, List.nil_append, Nat.reduceAdd, Nat.reduceSub]
      simp only [r_al0 c_M_test_0, r_cv1 c_M_test_1, r_al0 c_M_test_4, r_ci c_M_test_5, r_ci c_M_test_6, r_cv3 c_M_test_7, r_is1 c_M_test_10, r_il1 c_M_test_11, r_iflt c_M_test_12, r_vret c_M_test_32, ↓reduceIte, hs_h, Option.bind_some, mfix_i, mfix_r, mfix_n, mfix_a, Option.toList_some, Option.toList_none, List.cons_append, List.nil_append, List.singleton_append, mwt, Value.category, Nat.reduceAdd, Nat.reduceLeDiff, true_and, and_true, and_self, m10, r1, r5, (sgW_0 hc).2, if_true]
theorem M_both_s (hE : okE E) (hT : mtp S n T) (hR : okR n T R) (hS : smR E S n T 151 2 d p q R) : smR E S n T 152 1 d p q (fun σ => lpL n T 1 R 96 (R σ)) := by
  intro σ W hσ h1 hf hm
  have o10 := o_M hE
  have m10 := m_M hE
  have hn := hT.2.1
  have hTb : ∀ j, j < n → T j < 256 := fun j hj => (hT.2.2 j hj).2
  have sg : ∀ ρ W, mrl S (nI p) (nI q) ρ W → (ρ.2.2.2.1 = none → rSt n T ρ) → ∀ d, mres cT 148 d 0 (ment 5 [.ref 93, .int 1, .int 1]) [] (hs E W) = some (some (.int (sgW n T 1 ρ)), hs E W) := fun ρ W h1 h2 => M_sgn_mrl (l := 1) hE hT (by decide) h1 h2
  have lp : ∀ m σ W, (σ.2.2.2.1 = none → rSt n T σ ∧ 1 ≤ σ.1 ∧ 97 ≤ m + σ.1) → mrl S (nI p) (nI q) σ W → ∃ W', mrl S (nI p) (nI q) (lpL n T 1 R m σ) W' ∧ mres cT 152 d 4 [.ref 93] [] (hs E W) = some (none, hs E W') := by
    intro m
    induction m with
    | zero =>
      intro σ W h hm
      have hc : ¬ (σ.2.2.2.1 = none ∧ sgo n T 1 σ = 1) := fun hc => by
        obtain ⟨a1, a2, a3⟩ := h hc.1
        have := a1.1.1
        omega
      have r5 := sg σ W hm (fun h2 => (h h2).1)
      refine ⟨W, hm, ?_⟩
      simp only [r_al0 c_M_both_4, r_ci c_M_both_5, r_ci c_M_both_6, r_cv3 c_M_both_7, r_iflt c_M_both_10, r_vret c_M_both_31, ↓reduceIte, hs_h, Option.bind_some, mfix_i, mfix_r, mfix_n, mfix_a, Option.toList_some, Option.toList_none, List.cons_append, List.nil_append, List.singleton_append, mwt, Value.category, Nat.reduceAdd, Nat.reduceLeDiff, true_and, and_true, and_self, m10, r5, (sgW_0 hc).2, if_true]
    | succ m ih =>
      intro σ W h hm
      have r5 := sg σ W hm (fun h2 => (h h2).1)
      by_cases hc : σ.2.2.2.1 = none ∧ sgo n T 1 σ = 1
      · obtain ⟨a1, a2, a3⟩ := h hc.1
        obtain ⟨W0, W1, W2, r0, r1, r2, hm2, st⟩ := M_lp_step (l := 1) hE hT (by decide) hR hS a1 a2 hc.1 hc.2 hm
        obtain ⟨e1, e2, e3, e4⟩ := sgW_1 (l := 1) (by decide) hTb a1 hc.1 hc.2
        have ec : mcd (-(btN n T σ.1)) = 200001 := by
          obtain ⟨k1, k2, k3⟩ := sgo_k (l := 1) (by decide) hTb hc.2 (fun h3 => by have := a1.2.2.1 h3; have := a1.1.2.1; omega)
          have : T σ.1 = 38 := by
            simp only [sgl, Bool.or_eq_true, Bool.and_eq_true, beq_iff_eq] at k3
            omega
          rw [btN, if_pos k2, this]
          decide
        rw [ec] at r2
        obtain ⟨W', hm3, r4⟩ := ih _ W2 (fun h => ⟨(st h).1, by have := (st h).2; omega, by have := (st h).2; omega⟩) hm2
        rw [lpL, if_pos hc]
        refine ⟨W', hm3, ?_⟩
        simp only [r_al0 c_M_both_4, r_ci c_M_both_5, r_ci c_M_both_6, r_cv3 c_M_both_7, r_iflt c_M_both_10, ↓reduceIte, hs_h, Option.bind_some, mfix_i, mfix_r, mfix_n, mfix_a, Option.toList_some, Option.toList_none, List.cons_append, List.nil_append, List.singleton_append, mwt, Value.category, Nat.reduceAdd, Nat.reduceLeDiff, true_and, and_true, and_self, m10, r5, e2, if_false]
        simp only [r_al0 c_M_both_13, r_cv1 c_M_both_14, r_al0 c_M_both_17, r_cv1 c_M_both_18, r_al0 c_M_both_21, r_ci c_M_both_22, r_cv2 c_M_both_25, r_goto c_M_both_28, ↓reduceIte, hs_h, Option.bind_some, mfix_i, mfix_r, mfix_n, mfix_a, Option.toList_some, Option.toList_none, List.cons_append, List.nil_append, List.singleton_append, mwt, Value.category, Nat.reduceAdd, Nat.reduceLeDiff, true_and, and_true, and_self, m10, r0, r1, r2, r4]
      · rw [lpL, if_neg hc]
        refine ⟨W, hm, ?_⟩
        simp only [r_al0 c_M_both_4, r_ci c_M_both_5, r_ci c_M_both_6, r_cv3 c_M_both_7, r_iflt c_M_both_10, r_vret c_M_both_31, ↓reduceIte, hs_h, Option.bind_some, mfix_i, mfix_r, mfix_n, mfix_a, Option.toList_some, Option.toList_none, List.cons_append, List.nil_append, List.singleton_append, mwt, Value.category, Nat.reduceAdd, Nat.reduceLeDiff, true_and, and_true, and_self, m10, r5, (sgW_0 hc).2, if_true]
  obtain ⟨W1, hm1, r1⟩ := hS σ W hσ h1 hf hm
  have h2 := fun h => hR σ hσ hf h
  obtain ⟨W', hm3, r4⟩ := lp 96 (R σ) W1 (fun h => ⟨(h2 h).1, by have := (h2 h).2.2.2; omega, by have := (h2 h).2.2.2; omega⟩) hm1
  refine ⟨W', hm3, ?_⟩
  simp only [ment, mfl, List.length, List.replicate, List.cons_append, List.nil_append, Nat.reduceAdd, Nat.reduceSub]
  simp only [r_al0 c_M_both_0, r_cv1 c_M_both_1, ↓reduceIte, hs_h, Option.bind_some, mfix_i, mfix_r, mfix_n, mfix_a, Option.toList_some, Option.toList_none, List.cons_append, List.nil_append, List.singleton_append, mwt, Value.category, Nat.reduceAdd, Nat.reduceLeDiff, true_and, and_true, and_self, m10, r1, r4]
theorem M_either_s (hE : okE E) (hT : mtp S n T) (hR : okR n T R) (hS : smR E S n T 152 1 d p q R) : smR E S n T 153 1 d p q (fun σ => lpL n T 0 R 96 (R σ)) := by
  intro σ W hσ h1 hf hm
  have o10 := o_M hE
  have m10 := m_M hE
  have hn := hT.2.1
  have hTb : ∀ j, j < n → T j < 256 := fun j hj => (hT.2.2 j hj).2
  have sg : ∀ ρ W, mrl S (nI p) (nI q) ρ W → (ρ.2.2.2.1 = none → rSt n T ρ) → ∀ d, mres cT 148 d 0 (ment 5 [.ref 93, .int 0, .int 0]) [] (hs E W) = some (some (.int (sgW n T 0 ρ)), hs E W) := fun ρ W h1 h2 => M_sgn_mrl (l := 0) hE hT (by decide) h1 h2
  have lp : ∀ m σ W, (σ.2.2.2.1 = none → rSt n T σ ∧ 1 ≤ σ.1 ∧ 97 ≤ m + σ.1) → mrl S (nI p) (nI q) σ W → ∃ W', mrl S (nI p) (nI q) (lpL n T 0 R m σ) W' ∧ mres cT 153 d 4 [.ref 93] [] (hs E W) = some (none, hs E W') := by
    intro m
    induction m with
    | zero =>
      intro σ W h hm
      have hc : ¬ (σ.2.2.2.1 = none ∧ sgo n T 0 σ = 1) := fun hc => by
        obtain ⟨a1, a2, a3⟩ := h hc.1
        have := a1.1.1
        omega
      have r5 := sg σ W hm (fun h2 => (h h2).1)
      refine ⟨W, hm, ?_⟩
      simp only [r_al0 c_M_either_4, r_ci c_M_either_5, r_ci c_M_either_6, r_cv3 c_M_either_7, r_iflt c_M_either_10, r_vret c_M_either_31, ↓reduceIte, hs_h, Option.bind_some, mfix_i, mfix_r, mfix_n, mfix_a, Option.toList_some, Option.toList_none, List.cons_append, List.nil_append, List.singleton_append, mwt, Value.category, Nat.reduceAdd, Nat.reduceLeDiff, true_and, and_true, and_self, m10, r5, (sgW_0 hc).2, if_true]
    | succ m ih =>
      intro σ W h hm
      have r5 := sg σ W hm (fun h2 => (h h2).1)
      by_cases hc : σ.2.2.2.1 = none ∧ sgo n T 0 σ = 1
      · obtain ⟨a1, a2, a3⟩ := h hc.1
        obtain ⟨W0, W1, W2, r0, r1, r2, hm2, st⟩ := M_lp_step (l := 0) hE hT (by decide) hR hS a1 a2 hc.1 hc.2 hm
        obtain ⟨e1, e2, e3, e4⟩ := sgW_1 (l := 0) (by decide) hTb a1 hc.1 hc.2
        have ec : mcd (-(btN n T σ.1)) = 200000 := by
          obtain ⟨k1, k2, k3⟩ := sgo_k (l := 0) (by decide) hTb hc.2 (fun h3 => by have := a1.2.2.1 h3; have := a1.1.2.1; omega)
          have : T σ.1 = 124 := by
            simp only [sgl, Bool.or_eq_true, Bool.and_eq_true, beq_iff_eq] at k3
            omega
          rw [btN, if_pos k2, this]
          decide
        rw [ec] at r2
        obtain ⟨W', hm3, r4⟩ := ih _ W2 (fun h => ⟨(st h).1, by have := (st h).2; omega, by have := (st h).2; omega⟩) hm2
        rw [lpL, if_pos hc]
        refine ⟨W', hm3, ?_⟩
        simp only [r_al0 c_M_either_4, r_ci c_M_either_5, r_ci c_M_either_6, r_cv3 c_M_either_7, r_iflt c_M_either_10, ↓reduceIte, hs_h, Option.bind_some, mfix_i, mfix_r, mfix_n, mfix_a, Option.toList_some, Option.toList_none, List.cons_append, List.nil_append, List.singleton_append, mwt, Value.category, Nat.reduceAdd, Nat.reduceLeDiff, true_and, and_true, and_self, m10, r5, e2, if_false]
        simp only [r_al0 c_M_either_13, r_cv1 c_M_either_14, r_al0 c_M_either_17, r_cv1 c_M_either_18, r_al0 c_M_either_21, r_ci c_M_either_22, r_cv2 c_M_either_25, r_goto c_M_either_28, ↓reduceIte, hs_h, Option.bind_some, mfix_i, mfix_r, mfix_n, mfix_a, Option.toList_some, Option.toList_none, List.cons_append, List.nil_append, List.singleton_append, mwt, Value.category, Nat.reduceAdd, Nat.reduceLeDiff, true_and, and_true, and_self, m10, r0, r1, r2, r4]
      · rw [lpL, if_neg hc]
        refine ⟨W, hm, ?_⟩
        simp only [r_al0 c_M_either_4, r_ci c_M_either_5, r_ci c_M_either_6, r_cv3 c_M_either_7, r_iflt c_M_either_10, r_vret c_M_either_31, ↓reduceIte, hs_h, Option.bind_some, mfix_i, mfix_r, mfix_n, mfix_a, Option.toList_some, Option.toList_none, List.cons_append, List.nil_append, List.singleton_append, mwt, Value.category, Nat.reduceAdd, Nat.reduceLeDiff, true_and, and_true, and_self, m10, r5, (sgW_0 hc).2, if_true]
  obtain ⟨W1, hm1, r1⟩ := hS σ W hσ h1 hf hm
  have h2 := fun h => hR σ hσ hf h
  obtain ⟨W', hm3, r4⟩ := lp 96 (R σ) W1 (fun h => ⟨(h2 h).1, by have := (h2 h).2.2.2; omega, by have := (h2 h).2.2.2; omega⟩) hm1
  refine ⟨W', hm3, ?_⟩
  simp only [ment, mfl, List.length, List.replicate, List.cons_append, List.nil_append, Nat.reduceAdd, Nat.reduceSub]
  simp only [r_al0 c_M_either_0, r_cv1 c_M_either_1, ↓reduceIte, hs_h, Option.bind_some, mfix_i, mfix_r, mfix_n, mfix_a, Option.toList_some, Option.toList_none, List.cons_append, List.nil_append, List.singleton_append, mwt, Value.category, Nat.reduceAdd, Nat.reduceLeDiff, true_and, and_true, and_self, m10, r1, r4]
def lvM (l : Nat) : Nat := if l = 0 then 153 else if l = 1 then 152 else if l = 2 then 151 else if l = 3 then 150 else if l = 4 then 149 else 147
def lvN (l : Nat) : Nat := if l = 0 then 1 else if l = 1 then 1 else if l = 2 then 2 else if l = 3 then 2 else if l = 4 then 2 else 3
theorem M_read_ok (hE : okE E) (hT : mtp S n T) (hk : kn < 5) (hN : iF S 93 19 = nI (1000021 + kn)) : ∀ (f l p q d : Nat), 1 + (5 - l) + (8 - q) + 6 * (8 - p) ≤ f → l ≤ 5 → p ≤ 8 → q ≤ 8 → 17 ≤ d + p + q → smR E S n T (lvM l) (lvN l) d p q (rdX n T kn f l p q)
  | 0, l, p, q, d, h, _, _, _, _ => by omega
  | f + 1, l, p, q, d, h, hl, hp, hq, hd => by
    have hn := hT.2.1
    have hTb : ∀ j, j < n → T j < 256 := fun j hj => (hT.2.2 j hj).2
    have e : rdX n T kn (f + 1) l p q = fun σ => if 5 ≤ l then prt n T kn (rdX n T kn f 5 p (q + 1)) (rdX n T kn f 0 (p + 1) q) p q σ
      else lpL n T l (rdX n T kn f (l + 1) p q) (if l = 2 then 1 else 96) (rdX n T kn f (l + 1) p q σ) := by funext σ; rw [rdX]
    rw [e]
    by_cases h5 : 5 ≤ l
    · have e5 : l = 5 := by omega
      subst e5
      obtain ⟨d, rfl⟩ : ∃ d', d = d' + 1 := ⟨d - 1, by omega⟩
      simp only [Nat.le_refl, if_true]
      exact M_part_s hE hT hk hN hp hq (fun h8 => ⟨rdX_wf hn hk hTb f 5 p (q + 1) (by omega) (by omega) hp (by omega), M_read_ok hE hT hk hN f 5 p (q + 1) d (by omega) (by omega) hp (by omega) (by omega)⟩) (fun h8 => ⟨rdX_wf hn hk hTb f 0 (p + 1) q (by omega) (by omega) (by omega) hq, M_read_ok hE hT hk hN f 0 (p + 1) q d (by omega) (by omega) (by omega) hq (by omega)⟩)
    · have ih := M_read_ok hE hT hk hN f (l + 1) p q d (by omega) (by omega) hp hq hd
      have iw := rdX_wf hn hk hTb f (l + 1) p q (by omega) (by omega) hp hq
      simp only [h5, if_false]
      match l, h5, ih, iw with
      | 0, _, ih, iw => exact M_either_s hE hT iw ih
      | 1, _, ih, iw => exact M_both_s hE hT iw ih
      | 2, _, ih, iw => exact M_test_s hE hT iw ih
      | 3, _, ih, iw => exact M_sum_s hE hT iw ih
      | 4, _, ih, iw => exact M_term_s hE hT iw ih
      | l + 5, h5, _, _ => omega
theorem M_part_f (hE : okE E) : mres cT 147 d 0 (ment 3 [.ref 93]) [] (hs E (mpS S fr tt so 1 br nt cc pa g)) = some (none, hs E (mpS S fr tt so 1 br nt cc pa g)) := by
  have o10 := o_M hE
  simp only [ment, mfl, List.length, List.replicate, List.cons_append, List.nil_append, Nat.reduceAdd, Nat.reduceSub]
  simp only [r_al0 c_M_part_0, r_gfS0 c_M_part_1 o10 rfl, r_ifeq c_M_part_4, r_vret c_M_part_7, ↓reduceIte, hs_h, Option.bind_some, mfix_i, mfix_r, mfix_n, mfix_a, Option.toList_some, Option.toList_none, List.cons_append, List.nil_append, List.singleton_append, mp16, one_nz, if_false]
theorem M_sgn_f (hE : okE E) {lo hi m : Nat} (hh : hi < 10) (hl : lo + m = hi + 1) : mres cT 148 d 0 (ment 5 [.ref 93, .int (nI lo), .int (nI hi)]) [] (hs E (mpS S fr tt so 1 br nt cc pa g)) = some (some (.int (-1)), hs E (mpS S fr tt so 1 br nt cc pa g)) := by
  rw [M_signHere_g (m := m) (iv := fun _ => 0) hE (fun d c => M_isSign_f hE) (fun c => Or.inl rfl) hh hl]
  simp only [if_true]
  rw [rfor_ii]
theorem M_either_f (hE : okE E) : mres cT 153 d 0 (ment 1 [.ref 93]) [] (hs E (mpS S fr tt so 1 br nt cc pa g)) = some (none, hs E (mpS S fr tt so 1 br nt cc pa g)) := by
  have m10 := m_M hE
  have r5 := fun d => M_part_f (d := d) (S := S) (fr := fr) (tt := tt) (so := so) (br := br) (nt := nt) (cc := cc) (pa := pa) (g := g) hE
  have z : (-1 : Int32) < 0 := by decide
  have s4 : ∀ d, mres cT 148 d 0 (ment 5 [.ref 93, .int 7, .int 8]) [] (hs E (mpS S fr tt so 1 br nt cc pa g)) = some (some (.int (-1)), hs E (mpS S fr tt so 1 br nt cc pa g)) := fun d => M_sgn_f (lo := 7) (hi := 8) (m := 2) hE (by decide) (by decide)
  have s3 : ∀ d, mres cT 148 d 0 (ment 5 [.ref 93, .int 5, .int 6]) [] (hs E (mpS S fr tt so 1 br nt cc pa g)) = some (some (.int (-1)), hs E (mpS S fr tt so 1 br nt cc pa g)) := fun d => M_sgn_f (lo := 5) (hi := 6) (m := 2) hE (by decide) (by decide)
  have s2 : ∀ d, mres cT 148 d 0 (ment 5 [.ref 93, .int 2, .int 4]) [] (hs E (mpS S fr tt so 1 br nt cc pa g)) = some (some (.int (-1)), hs E (mpS S fr tt so 1 br nt cc pa g)) := fun d => M_sgn_f (lo := 2) (hi := 4) (m := 3) hE (by decide) (by decide)
  have s1 : ∀ d, mres cT 148 d 0 (ment 5 [.ref 93, .int 1, .int 1]) [] (hs E (mpS S fr tt so 1 br nt cc pa g)) = some (some (.int (-1)), hs E (mpS S fr tt so 1 br nt cc pa g)) := fun d => M_sgn_f (lo := 1) (hi := 1) (m := 1) hE (by decide) (by decide)
  have s0 : ∀ d, mres cT 148 d 0 (ment 5 [.ref 93, .int 0, .int 0]) [] (hs E (mpS S fr tt so 1 br nt cc pa g)) = some (some (.int (-1)), hs E (mpS S fr tt so 1 br nt cc pa g)) := fun d => M_sgn_f (lo := 0) (hi := 0) (m := 1) hE (by decide) (by decide)
  have r4 : ∀ d, mres cT 149 d 0 (ment 2 [.ref 93]) [] (hs E (mpS S fr tt so 1 br nt cc pa g)) = some (none, hs E (mpS S fr tt so 1 br nt cc pa g)) := fun d => by
    simp only [ment, mfl, List.length, List.replicate, List.cons_append, List.nil_append, Nat.reduceAdd, Nat.reduceSub]
    simp only [r_al0 c_M_term_0, r_cv1 c_M_term_1, r_al0 c_M_term_4, r_ci c_M_term_5, r_ci c_M_term_7, r_cv3 c_M_term_9, r_is1 c_M_term_12, r_il1 c_M_term_13, r_iflt c_M_term_14, r_vret c_M_term_46, ↓reduceIte, hs_h, Option.bind_some, mfix_i, mfix_r, mfix_n, mfix_a, Option.toList_some, Option.toList_none, List.cons_append, List.nil_append, List.singleton_append, mwt, Value.category, Nat.reduceAdd, Nat.reduceLeDiff, true_and, and_true, and_self, m10, r5, s4, z, if_true]
  have r3 : ∀ d, mres cT 150 d 0 (ment 2 [.ref 93]) [] (hs E (mpS S fr tt so 1 br nt cc pa g)) = some (none, hs E (mpS S fr tt so 1 br nt cc pa g)) := fun d => by
    simp only [ment, mfl, List.length, List.replicate, List.cons_append, List.nil_append, Nat.reduceAdd, Nat.reduceSub]
    simp only [r_al0 c_M_sum_0, r_cv1 c_M_sum_1, r_al0 c_M_sum_4, r_ci c_M_sum_5, r_ci c_M_sum_6, r_cv3 c_M_sum_8, r_is1 c_M_sum_11, r_il1 c_M_sum_12, r_iflt c_M_sum_13, r_vret c_M_sum_44, ↓reduceIte, hs_h, Option.bind_some, mfix_i, mfix_r, mfix_n, mfix_a, Option.toList_some, Option.toList_none, List.cons_append, List.nil_append, List.singleton_append, mwt, Value.category, Nat.reduceAdd, Nat.reduceLeDiff, true_and, and_true, and_self, m10, r4, s3, z, if_true]
  have r2 : ∀ d, mres cT 151 d 0 (ment 2 [.ref 93]) [] (hs E (mpS S fr tt so 1 br nt cc pa g)) = some (none, hs E (mpS S fr tt so 1 br nt cc pa g)) := fun d => by
    simp only [ment, mfl, List.length, List.replicate, List.cons_append, List.nil_append, Nat.reduceAdd, Nat.reduceSub]
    simp only [r_al0 c_M_test_0, r_cv1 c_M_test_1, r_al0 c_M_test_4, r_ci c_M_test_5, r_ci c_M_test_6, r_cv3 c_M_test_7, r_is1 c_M_test_10, r_il1 c_M_test_11, r_iflt c_M_test_12, r_vret c_M_test_32, ↓reduceIte, hs_h, Option.bind_some, mfix_i, mfix_r, mfix_n, mfix_a, Option.toList_some, Option.toList_none, List.cons_append, List.nil_append, List.singleton_append, mwt, Value.category, Nat.reduceAdd, Nat.reduceLeDiff, true_and, and_true, and_self, m10, r3, s2, z, if_true]
  have r1 : ∀ d, mres cT 152 d 0 (ment 1 [.ref 93]) [] (hs E (mpS S fr tt so 1 br nt cc pa g)) = some (none, hs E (mpS S fr tt so 1 br nt cc pa g)) := fun d => by
    simp only [ment, mfl, List.length, List.replicate, List.cons_append, List.nil_append, Nat.reduceAdd, Nat.reduceSub]
    simp only [r_al0 c_M_both_0, r_cv1 c_M_both_1, r_al0 c_M_both_4, r_ci c_M_both_5, r_ci c_M_both_6, r_cv3 c_M_both_7, r_iflt c_M_both_10, r_vret c_M_both_31, ↓reduceIte, hs_h, Option.bind_some, mfix_i, mfix_r, mfix_n, mfix_a, Option.toList_some, Option.toList_none, List.cons_append, List.nil_append, List.singleton_append, mwt, Value.category, Nat.reduceAdd, Nat.reduceLeDiff, true_and, and_true, and_self, m10, r2, s1, z, if_true]
  simp only [ment, mfl, List.length, List.replicate, List.cons_append, List.nil_append, Nat.reduceAdd, Nat.reduceSub]
  simp only [r_al0 c_M_either_0, r_cv1 c_M_either_1, r_al0 c_M_either_4, r_ci c_M_either_5, r_ci c_M_either_6, r_cv3 c_M_either_7, r_iflt c_M_either_10, r_vret c_M_either_31, ↓reduceIte, hs_h, Option.bind_some, mfix_i, mfix_r, mfix_n, mfix_a, Option.toList_some, Option.toList_none, List.cons_append, List.nil_append, List.singleton_append, mwt, Value.category, Nat.reduceAdd, Nat.reduceLeDiff, true_and, and_true, and_self, m10, r1, s0, z, if_true]
end MLEVEL
