/-! call: run -/
section RUN
variable {E : EE} {R S S1 S2 V U : SS} {b d k n m i j p td B a s q : Nat} {c v w x y l : Int32} {z t hc pk : Nat → Nat} {f f0 f1 g g' : Nat → Int32}
/-- books at b alone have changed -/
def oB (b : Nat) (S V : SS) : Prop := ∀ q, (q < b ∨ b + 18 ≤ q) → V q = S q
theorem oB_sA {e : Nat} (h : oB b S V) (he : e < 18) : oB b S (sA V (b + e) g) := fun q hq => by rw [sA, va_up, if_neg (by omega)]; exact h q hq
theorem oB_po (h : oB b S V) : oB b S (poS V b z t k j q) := oB_sA (e := 12) (oB_sA (e := 8) h (by omega)) (by omega)
theorem oB_en {x : Int32} (h : oB b S V) : oB b S (enS V b n c x) := fun q hq => by rw [en_cells.1 q (by omega)]; exact h q hq
theorem oB_ho (h : oB b S V) : oB b S (hoS V b z t k j) := by
  have hA : ∀ v, oB b S (hoA V b k j v) := fun v => oB_sA (e := 8) (oB_sA (e := 2) h (by omega)) (by omega)
  rw [hoS]; split
  · exact hA 1
  · exact oB_en (oB_sA (e := 2) (hA 2) (by omega))
theorem oB_ad (h : oB b S V) : oB b S (adT V b k) := oB_sA (e := 6) h (by omega)
theorem oB_pd (h : oB b S V) : oB b S (pdS b z t pk hc V) := by
  have hS : ∀ (c pr : Int32) (m i : Nat) (s : Int32 × SS), oB b S s.2 → oB b S (rfor (siG b z t pk hc c pr) i m s).2 := fun c pr m i s hs => rfor_keep (P := fun s : Int32 × SS => oB b S s.2) (fun i s hs => by
    rw [siG]; repeat' split
    all_goals first | exact hs | exact oB_po hs) m i s hs
  have hG : ∀ (c : Int32) (p : Nat) (U : SS), oB b S U → oB b S (pdG b z t pk hc c p U) := fun c p U hU => by
    have h2 := hS c (nI p) (z 7) 0 (0, U) hU
    rw [pdG, lhS]
    split
    · exact h2
    · split
      · exact rfor_keep (P := fun s : SS => oB b S s) (fun i s hs => by rw [paG]; split; exact oB_po hs; exact hs) _ _ _ h2
      · exact rfor_keep (P := fun s : SS => oB b S s) (fun i s hs => by rw [haG]; split; exact oB_ho hs; exact hs) _ _ _ (oB_ad (oB_ad (oB_ad h2)))
  have h3 : oB b S (rfor (pdG b z t pk hc (tdS V b (z 7))) 0 6 V) := rfor_keep (P := fun s : SS => oB b S s) (fun i s hs => hG _ i s hs) _ _ _ h
  have h4 : oB b S (pvS b z t pk hc V) := rfor_keep (P := fun s : SS => oB b S s) (fun i s hs => by
    rw [vlG]; repeat' split
    all_goals first | exact hs | exact oB_sA (e := 8) hs (by omega)) _ _ _ h3
  intro q hq
  rw [pdS, sF, va_up, if_neg (by omega)]
  exact h4 q hq
def daS (b : Nat) (z t pk hc : Nat → Nat) (_ : Nat) (V : SS) : SS := pdS b z t pk hc V
theorem q_run (h : Inv E S) : opE E S 220 226 3 3 [.int c] := by
  obtain ⟨hE, hpar, ⟨z, t, hc, pk, td, htd, hR⟩, hI, hTp, hWt, hSh, hKy⟩ := id h
  obtain ⟨b, hb1⟩ : ∃ b, b = 1 := ⟨1, rfl⟩
  have hb : bkb b := Or.inl hb1
  rw [← hb1] at hR
  have o9 := o_X hE hb1
  have o0 := o_B hE hb
  have o8 := o_I hE hb
  have o1 := o_L hE hb
  have o5 := o_P hE
  have o10 := o_M hE
  have m10 := m_M hE
  have m9 : ∀ S, misc (hp E S 0) 9 = true := fun S => misc_o o9
  have m0 : ∀ S, misc (hp E S b) 0 = true := fun S => misc_o o0
  have m8 : ∀ S, misc (hp E S (b + 13)) 8 = true := fun S => misc_o o8
  have m1 : ∀ S, misc (hp E S (b + 22)) 1 = true := fun S => misc_o o1
  have m5 : ∀ S, misc (hp E S 79) 5 = true := fun S => misc_o o5
  obtain ⟨n1, n14, n16, n18, n20, n22, n3, n5, n7⟩ := rl_okm hR
  obtain ⟨⟨g1, g3, g5, g7, g14, g16, g18, g20, g22, gt, gw⟩, hH, hP⟩ := rl_okh hR
  have ht := rl_tod hR
  rcases wi1 (m := 60) c (by omega) with h1 | ⟨N, hN1, hN, rfl, h1⟩
  · have h1 : wiS c 1 60 = 0 := h1
    refine op_v h (-1000000001) (fun d => ?_) (fun d => ?_)
    · simp only [ment, mfl, List.length, List.replicate, List.cons_append, List.nil_append, Nat.reduceAdd, Nat.reduceSub]; simp only [r_il1 c_X_run_0, r_ci c_X_run_1, r_ci c_X_run_2, r_ca3 c_X_run_4, r_ifne c_X_run_7, r_ci c_X_run_10, r_iret c_X_run_12, r_al0 c_X_run_13, r_an0 c_X_run_13, r_gfSr c_X_run_14 o9 rfl, r_gfS0 c_X_run_17 o0 rfl, r_il1 c_X_run_20, r_iadd c_X_run_21, r_ci c_X_run_22, r_icle c_X_run_25, r_ci c_X_run_28, r_iret c_X_run_30, r_ci c_X_run_31, r_is2 c_X_run_32, r_il2 c_X_run_33, r_il1 c_X_run_34, r_icge c_X_run_35, r_al0 c_X_run_38, r_an0 c_X_run_38, r_gfSr c_X_run_39 o9 rfl, r_cv1 c_X_run_42, r_inc2 c_X_run_45, r_goto c_X_run_48, r_al0 c_X_run_51, r_an0 c_X_run_51, r_gfSr c_X_run_52 o9 rfl, r_gfS0 c_X_run_55 o0 rfl, r_iret c_X_run_58, ↓reduceIte, hs_h, Option.bind_some, mfix_i, mfix_r, mfix_n, mfix_a, Option.toList_some, Option.toList_none, List.cons_append, List.nil_append, List.singleton_append, mwt, Value.category, Nat.reduceAdd, Nat.reduceLeDiff, true_and, and_true, and_self, X_within_ok, h1, if_true]
    · simp only [ment, mfl, List.length, List.replicate, List.cons_append, List.nil_append, Nat.reduceAdd, Nat.reduceSub]; simp only [r_il1 c_M_run_0, r_i2l c_M_run_1, r_cl c_M_run_2, r_cl c_M_run_3, r_ca3 c_M_run_6, r_ifne c_M_run_9, r_ci c_M_run_12, r_iret c_M_run_14, r_al0 c_M_run_15, r_gfSr c_M_run_16 o10 rfl, r_ci c_M_run_19, r_ial c_M_run_20, r_il1 c_M_run_21, r_iadd c_M_run_22, r_ci c_M_run_23, r_icle c_M_run_26, r_ci c_M_run_29, r_iret c_M_run_31, r_ci c_M_run_32, r_is2 c_M_run_33, r_il2 c_M_run_34, r_il1 c_M_run_35, r_icge c_M_run_36, r_al0 c_M_run_39, r_cv1 c_M_run_40, r_inc2 c_M_run_43, r_goto c_M_run_46, r_al0 c_M_run_49, r_gfSr c_M_run_50 o10 rfl, r_ci c_M_run_53, r_ial c_M_run_54, r_iret c_M_run_55, ↓reduceIte, hs_h, Option.bind_some, mfix_i, mfix_r, mfix_n, mfix_a, Option.toList_some, Option.toList_none, List.cons_append, List.nil_append, List.singleton_append, mwt, Value.category, Nat.reduceAdd, Nat.reduceLeDiff, true_and, and_true, and_self, M_within_k (y := 1) (w := 60) (y' := 1) (w' := 60) (by decide) (by decide), h1, if_true]
  · have h1 : wiS (nI N) 1 60 = 1 := h1
    by_cases q : td + N ≤ 2999
    · have q1 : nI (td + N) ≤ 2999 := nI_le (b := 2999) q (by omega)
      have cl : ∀ m i V U, okH E V b z t hc pk → eqS b V U → i + m = N → ∃ U2, eqS b (rfor (daS b z t pk hc) i m V) U2 ∧ ∀ d, mres cT 220 d 33 [.ref 0, .int (nI N), .int (nI i)] [] (hs E U) = some (some (.int (iF (rfor (daS b z t pk hc) i m V) b 8)), hs E U2) := by
        intro m
        induction m with
        | zero =>
          intro i V U hV e hi
          have a1 : nI N ≤ nI i := nI_le (by omega) (by omega)
          have f0 : iF U b 8 = iF V b 8 := by rw [iF, e _ (by omega) (by omega)]
          refine ⟨U, e, fun d => ?_⟩
          simp only [r_il2 c_X_run_33, r_il1 c_X_run_34, r_icge c_X_run_35, r_al0 c_X_run_51, r_an0 c_X_run_51, r_gfSr c_X_run_52 o9 rfl, r_gfS0 c_X_run_55 o0 rfl, r_iret c_X_run_58, ↓reduceIte, hs_h, Option.bind_some, mfix_i, mfix_r, mfix_n, mfix_a, Option.toList_some, Option.toList_none, List.cons_append, List.nil_append, List.singleton_append, a1, if_true, f0, rfor]
        | succ m ih =>
          intro i V U hV e hi
          have a1 : ¬ nI N ≤ nI i := nI_ge (by omega) (by omega)
          obtain ⟨U2, e2, r2⟩ := B_passDay_ok hE hb hV e
          obtain ⟨U3, e3, r3⟩ := ih (i + 1) _ U2 (okH_pdS hb hV) e2 (by omega)
          rw [rfor]
          refine ⟨U3, e3, fun d => ?_⟩
          simp only [r_il2 c_X_run_33, r_il1 c_X_run_34, r_icge c_X_run_35, ↓reduceIte, hs_h, Option.bind_some, mfix_i, mfix_r, mfix_n, mfix_a, Option.toList_some, Option.toList_none, List.cons_append, List.nil_append, List.singleton_append, a1, if_false]
          simp only [r_al0 c_X_run_38, r_an0 c_X_run_38, r_gfSr c_X_run_39 o9 rfl, r_cv1 c_X_run_42, r_inc2 c_X_run_45, r_goto c_X_run_48, ↓reduceIte, hs_h, Option.bind_some, mfix_i, mfix_r, mfix_n, mfix_a, Option.toList_some, Option.toList_none, List.cons_append, List.nil_append, List.singleton_append, mwt, Value.category, Nat.reduceAdd, Nat.reduceLeDiff, true_and, and_true, and_self, m0, r2, nI_1, r3]
          rfl
      have ml : ∀ m i V W, Rel E V b z t hc pk (td + i) (18 * td + 18 * i) (iA W 94) → i + m = N → ∃ W2, eqN W W2 ∧ Rel E (rfor (daS b z t pk hc) i m V) b z t hc pk (td + N) (18 * td + 18 * N) (iA W2 94) ∧ ∀ d, mres cT 226 d 34 [.ref 93, .int (nI N), .int (nI i)] [] (hs E W) = some (some (.int (nI (td + N))), hs E W2) := by
        intro m
        induction m with
        | zero =>
          intro i V W hV hi
          have a1 : nI N ≤ nI i := nI_le (by omega) (by omega)
          have ei : i = N := by omega
          subst ei
          refine ⟨W, eqN_rf, hV, fun d => ?_⟩
          simp only [r_il2 c_M_run_34, r_il1 c_M_run_35, r_icge c_M_run_36, r_al0 c_M_run_49, r_gfSr c_M_run_50 o10 rfl, r_ci c_M_run_53, r_ial c_M_run_54, r_iret c_M_run_55, ↓reduceIte, hs_h, Option.bind_some, mfix_i, mfix_r, mfix_n, mfix_a, Option.toList_some, Option.toList_none, List.cons_append, List.nil_append, List.singleton_append, a1, if_true, mn0 hE, (rl_tod hV).2.2]
        | succ m ih =>
          intro i V W hV hi
          have a1 : ¬ nI N ≤ nI i := nI_ge (by omega) (by omega)
          obtain ⟨W2, e2, h2, r2⟩ := M_day_R hE hb hV (by omega) (by omega)
          have h2' : Rel E (pdS b z t pk hc V) b z t hc pk (td + (i + 1)) (18 * td + 18 * (i + 1)) (iA W2 94) := h2
          obtain ⟨W3, e3, h3, r3⟩ := ih (i + 1) _ W2 h2' (by omega)
          rw [rfor]
          refine ⟨W3, eqN_tr e2 e3, h3, fun d => ?_⟩
          simp only [r_il2 c_M_run_34, r_il1 c_M_run_35, r_icge c_M_run_36, ↓reduceIte, hs_h, Option.bind_some, mfix_i, mfix_r, mfix_n, mfix_a, Option.toList_some, Option.toList_none, List.cons_append, List.nil_append, List.singleton_append, a1, if_false]
          simp only [r_al0 c_M_run_39, r_cv1 c_M_run_40, r_inc2 c_M_run_43, r_goto c_M_run_46, ↓reduceIte, hs_h, Option.bind_some, mfix_i, mfix_r, mfix_n, mfix_a, Option.toList_some, Option.toList_none, List.cons_append, List.nil_append, List.singleton_append, mwt, Value.category, Nat.reduceAdd, Nat.reduceLeDiff, true_and, and_true, and_self, m10, r2, nI_1, r3]
      obtain ⟨U2, eU, rU⟩ := cl N 0 S S (rl_okh hR) eqS_rf (by omega)
      have oV : oB b S (rfor (daS b z t pk hc) 0 N S) := rfor_keep (P := fun s : SS => oB b S s) (fun i s hs => oB_pd hs) _ _ _ (fun _ _ => rfl)
      have hR0 : Rel E S b z t hc pk (td + 0) (18 * td + 18 * 0) (iA U2 94) := by
        rw [iA, eU 94 (by omega) (by omega), oV 94 (by omega)]; exact hR
      obtain ⟨W2, eW, hW, rW⟩ := ml N 0 S U2 hR0 (by omega)
      have ht2 := rl_tod hW
      rw [nI_0] at rU rW
      rw [ht2.1] at rU
      have ec : ∀ q, q ≠ 93 → q ≠ 94 → q ≠ 102 → q ≠ 106 → q ≠ 107 → q ≠ b + 24 → q ≠ b + 25 → W2 q = rfor (daS b z t pk hc) 0 N S q := fun q h1 h2 h3 h4 h5 h6 h7 => (eW.1 q h1 h2 h3 h4 h5).trans (eU q h6 h7)
      have e93 : ∀ k, k ≠ 12 → iF W2 93 k = iF S 93 k := fun k hk => by
        rw [eW.2 k hk, iF, iF, eU 93 (by omega) (by omega), oV 93 (by omega)]
      refine ⟨nI (td + N), U2, W2, fun d _ => ?_, fun d _ => ?_, Inv_B h ⟨fun q h0 h1 h2 h3 h4 h5 => ?_, e93⟩ ⟨z, t, hc, pk, td + N, q, ?_⟩ ?_⟩
      · simp only [ment, mfl, List.length, List.replicate, List.cons_append, List.nil_append, Nat.reduceAdd, Nat.reduceSub]; simp only [r_il1 c_X_run_0, r_ci c_X_run_1, r_ci c_X_run_2, r_ca3 c_X_run_4, r_ifne c_X_run_7, r_ci c_X_run_10, r_iret c_X_run_12, r_al0 c_X_run_13, r_an0 c_X_run_13, r_gfSr c_X_run_14 o9 rfl, r_gfS0 c_X_run_17 o0 rfl, r_il1 c_X_run_20, r_iadd c_X_run_21, r_ci c_X_run_22, r_icle c_X_run_25, r_ci c_X_run_28, r_iret c_X_run_30, r_ci c_X_run_31, r_is2 c_X_run_32, ↓reduceIte, hs_h, Option.bind_some, mfix_i, mfix_r, mfix_n, mfix_a, Option.toList_some, Option.toList_none, List.cons_append, List.nil_append, List.singleton_append, mwt, Value.category, Nat.reduceAdd, Nat.reduceLeDiff, true_and, and_true, and_self, X_within_ok, h1, one_nz, if_false, ht.1, nI_add, q1, if_true, rU]
      · have e0 : iA U2 94 0 = nI td := (rl_tod hR0).2.2
        simp only [ment, mfl, List.length, List.replicate, List.cons_append, List.nil_append, Nat.reduceAdd, Nat.reduceSub]; simp only [r_il1 c_M_run_0, r_i2l c_M_run_1, r_cl c_M_run_2, r_cl c_M_run_3, r_ca3 c_M_run_6, r_ifne c_M_run_9, r_ci c_M_run_12, r_iret c_M_run_14, r_al0 c_M_run_15, r_gfSr c_M_run_16 o10 rfl, r_ci c_M_run_19, r_ial c_M_run_20, r_il1 c_M_run_21, r_iadd c_M_run_22, r_ci c_M_run_23, r_icle c_M_run_26, r_ci c_M_run_29, r_iret c_M_run_31, r_ci c_M_run_32, r_is2 c_M_run_33, ↓reduceIte, hs_h, Option.bind_some, mfix_i, mfix_r, mfix_n, mfix_a, Option.toList_some, Option.toList_none, List.cons_append, List.nil_append, List.singleton_append, mwt, Value.category, Nat.reduceAdd, Nat.reduceLeDiff, true_and, and_true, and_self, M_within_k (y := 1) (w := 60) (y' := 1) (w' := 60) (by decide) (by decide), h1, one_nz, if_false, mn0 hE, e0, nI_add, q1, if_true, rW]
      · subst hb1
        rw [ec q h1 h2 h3 h4 h5 (by omega) (by omega)]
        exact oV q (by omega)
      · subst hb1
        rw [show 18 * (td + N) = 18 * td + 18 * N by omega]
        exact Rel_cells (Or.inl rfl) (fun q hq => ec q (by omega) (by omega) (by omega) (by omega) (by omega) (by omega) (by omega)) (Nat.le_refl _) hW
      · intro j p hj hp
        subst hb1
        rw [iQ, ec (1 + 23) (by omega) (by omega) (by omega) (by omega) (by omega) (by omega) (by omega), oV (1 + 23) (by omega)] at hp
        exact hKy.1 j p hj hp
    · have q1 : ¬ nI (td + N) ≤ 2999 := nI_ge (b := td + N) (a := 2999) (by omega) (by omega)
      refine op_v h (-1000000003) (fun d => ?_) (fun d => ?_)
      · simp only [ment, mfl, List.length, List.replicate, List.cons_append, List.nil_append, Nat.reduceAdd, Nat.reduceSub]; simp only [r_il1 c_X_run_0, r_ci c_X_run_1, r_ci c_X_run_2, r_ca3 c_X_run_4, r_ifne c_X_run_7, r_ci c_X_run_10, r_iret c_X_run_12, r_al0 c_X_run_13, r_an0 c_X_run_13, r_gfSr c_X_run_14 o9 rfl, r_gfS0 c_X_run_17 o0 rfl, r_il1 c_X_run_20, r_iadd c_X_run_21, r_ci c_X_run_22, r_icle c_X_run_25, r_ci c_X_run_28, r_iret c_X_run_30, r_ci c_X_run_31, r_is2 c_X_run_32, r_il2 c_X_run_33, r_il1 c_X_run_34, r_icge c_X_run_35, r_al0 c_X_run_38, r_an0 c_X_run_38, r_gfSr c_X_run_39 o9 rfl, r_cv1 c_X_run_42, r_inc2 c_X_run_45, r_goto c_X_run_48, r_al0 c_X_run_51, r_an0 c_X_run_51, r_gfSr c_X_run_52 o9 rfl, r_gfS0 c_X_run_55 o0 rfl, r_iret c_X_run_58, ↓reduceIte, hs_h, Option.bind_some, mfix_i, mfix_r, mfix_n, mfix_a, Option.toList_some, Option.toList_none, List.cons_append, List.nil_append, List.singleton_append, mwt, Value.category, Nat.reduceAdd, Nat.reduceLeDiff, true_and, and_true, and_self, X_within_ok, h1, one_nz, if_false, ht.1, nI_add, q1]
      · simp only [ment, mfl, List.length, List.replicate, List.cons_append, List.nil_append, Nat.reduceAdd, Nat.reduceSub]; simp only [r_il1 c_M_run_0, r_i2l c_M_run_1, r_cl c_M_run_2, r_cl c_M_run_3, r_ca3 c_M_run_6, r_ifne c_M_run_9, r_ci c_M_run_12, r_iret c_M_run_14, r_al0 c_M_run_15, r_gfSr c_M_run_16 o10 rfl, r_ci c_M_run_19, r_ial c_M_run_20, r_il1 c_M_run_21, r_iadd c_M_run_22, r_ci c_M_run_23, r_icle c_M_run_26, r_ci c_M_run_29, r_iret c_M_run_31, r_ci c_M_run_32, r_is2 c_M_run_33, r_il2 c_M_run_34, r_il1 c_M_run_35, r_icge c_M_run_36, r_al0 c_M_run_39, r_cv1 c_M_run_40, r_inc2 c_M_run_43, r_goto c_M_run_46, r_al0 c_M_run_49, r_gfSr c_M_run_50 o10 rfl, r_ci c_M_run_53, r_ial c_M_run_54, r_iret c_M_run_55, ↓reduceIte, hs_h, Option.bind_some, mfix_i, mfix_r, mfix_n, mfix_a, Option.toList_some, Option.toList_none, List.cons_append, List.nil_append, List.singleton_append, mwt, Value.category, Nat.reduceAdd, Nat.reduceLeDiff, true_and, and_true, and_self, M_within_k (y := 1) (w := 60) (y' := 1) (w' := 60) (by decide) (by decide), h1, one_nz, if_false, mn0 hE, ht.2.2, nI_add, q1]
end RUN
