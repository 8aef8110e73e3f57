/-! call: date -/
section DATEQ
variable {E : EE} {R S S1 S2 U U2 V : SS} {b d k n m i j p td B a s q D : Nat} {c v w x y : Int32} {f g : Nat → Int32} {z t hc pk : Nat → Nat}
theorem k3000 (h : i < 3000) : ¬ (3000 : Int32) ≤ nI i := nI_ge (b := 3000) h (by decide)
theorem M_date_st (hE : okE E) (hR : Rel E R b z t hc pk td B (iA S 94)) (hk : k < 12) (ht : td ≤ 2999) (hi : i < 3000) (hd : ¬ duP R b z t k td (td + i)) : ∀ d, mres cT 97 d 58 [.ref 93, .int (nI k), .int (frS R b z t k), .int (nI (svN R b z k (td + i))), .int (crSum (iA R (b + 21)) (nI k) (nI td) (z 20)), .int (nI i)] [] (hs E S) = mres cT 97 d 58 [.ref 93, .int (nI k), .int (frS R b z t k), .int (nI (svN R b z k (td + (i + 1)))), .int (crSum (iA R (b + 21)) (nI k) (nI td) (z 20)), .int (nI (i + 1))] [] (hs E S) := fun d => by
  have o10 := o_M hE
  have m10 := m_M hE
  have h4 := (rl_okm hR).2.2.1
  have h5 := (rl_okm hR).2.2.2.1
  have htd := rl_tod hR
  have q1 := (du_lt (k := k) hR (show td + i < 100000 by omega)).mpr hd
  have rc := fun d => M_counts_ok (d := d) (c := nI k) (D := nI (td + i)) hE h4.1 h4.2 h5.1 h5.2
  rw [co_main (rl_sps hR) (rl_gap hR).1 (by omega) (show td + i < 2147483647 by omega)] at rc
  have es : nI (svN R b z k (td + (i + 1))) = nI (svN R b z k (td + i)) + b01 (cnB (tC (iA R (b + 17))) (tF (iA R (b + 17))) (tT (iA R (b + 17))) (z 16) (tC (iA R (b + 19))) (tF (iA R (b + 19))) (tT (iA R (b + 19))) (z 18) k (td + i)) := by
    rw [show td + (i + 1) = td + i + 1 by omega, sv_s, b01]
    split
    · rw [nI_1]
    · rw [Int32.add_zero, Nat.add_zero]
  rw [es]
  conv => lhs; simp only [r_il5 c_M_date_58, r_ci c_M_date_60, r_icge c_M_date_63, r_il3 c_M_date_66, r_il4 c_M_date_67, r_iadd c_M_date_69, r_il2 c_M_date_70, r_iclt c_M_date_71, ↓reduceIte, hs_h, Option.bind_some, mfix_i, mfix_r, mfix_n, mfix_a, Option.toList_some, Option.toList_none, List.cons_append, List.nil_append, List.singleton_append, k3000 hi, if_false, q1, if_true]
  by_cases q2 : cnB (tC (iA R (b + 17))) (tF (iA R (b + 17))) (tT (iA R (b + 17))) (z 16) (tC (iA R (b + 19))) (tF (iA R (b + 19))) (tT (iA R (b + 19))) (z 18) k (td + i) = true
  · rw [b01, if_pos q2] at rc ⊢
    simp only [r_il3 c_M_date_84, r_al0 c_M_date_85, r_il1 c_M_date_86, r_al0 c_M_date_87, r_gfSr c_M_date_88 o10 rfl, r_ci c_M_date_91, r_ial c_M_date_92, r_il5 c_M_date_93, r_iadd c_M_date_95, r_cv3 c_M_date_96, r_ifeq c_M_date_99, r_ci c_M_date_102, r_goto c_M_date_103, r_ci c_M_date_106, r_iadd c_M_date_107, r_is3 c_M_date_108, r_inc5 c_M_date_109, r_goto c_M_date_112, ↓reduceIte, hs_h, Option.bind_some, mfix_i, mfix_r, mfix_n, mfix_a, Option.toList_some, Option.toList_none, List.cons_append, List.nil_append, List.singleton_append, mwt, Value.category, Nat.reduceAdd, Nat.reduceLeDiff, true_and, and_true, and_self, m10, mn0 hE, htd.2.2, nI_add, rc, one_nz, if_false, nI_1]
  · rw [b01, if_neg q2] at rc ⊢
    simp only [r_il3 c_M_date_84, r_al0 c_M_date_85, r_il1 c_M_date_86, r_al0 c_M_date_87, r_gfSr c_M_date_88 o10 rfl, r_ci c_M_date_91, r_ial c_M_date_92, r_il5 c_M_date_93, r_iadd c_M_date_95, r_cv3 c_M_date_96, r_ifeq c_M_date_99, r_ci c_M_date_102, r_goto c_M_date_103, r_ci c_M_date_106, r_iadd c_M_date_107, r_is3 c_M_date_108, r_inc5 c_M_date_109, r_goto c_M_date_112, ↓reduceIte, hs_h, Option.bind_some, mfix_i, mfix_r, mfix_n, mfix_a, Option.toList_some, Option.toList_none, List.cons_append, List.nil_append, List.singleton_append, mwt, Value.category, Nat.reduceAdd, Nat.reduceLeDiff, true_and, and_true, and_self, m10, mn0 hE, htd.2.2, nI_add, rc, if_true, nI_1]
theorem M_date_a (hE : okE E) (hR : Rel E R b z t hc pk td B (iA S 94)) (hk : k < 12) (ht : td ≤ 2999) (hr : td + n < td + 3000) (hp : duP R b z t k td (td + n)) (hl : ∀ D, td ≤ D → D < td + n → ¬ duP R b z t k td D) (d : Nat) : ∀ m i, i + m = n → mres cT 97 d 58 [.ref 93, .int (nI k), .int (frS R b z t k), .int (nI (svN R b z k (td + i))), .int (crSum (iA R (b + 21)) (nI k) (nI td) (z 20)), .int (nI i)] [] (hs E S) = some (some (.int (nI (td + n))), hs E S) := by
  have o10 := o_M hE
  have m10 := m_M hE
  have htd := rl_tod hR
  intro m
  induction m with
  | zero =>
    intro i hi
    have e : i = n := by omega
    subst e
    have q1 : ¬ _ := fun e => (du_lt (k := k) hR (show td + i < 100000 by omega)).mp e hp
    simp only [r_il5 c_M_date_58, r_ci c_M_date_60, r_icge c_M_date_63, r_il3 c_M_date_66, r_il4 c_M_date_67, r_iadd c_M_date_69, r_il2 c_M_date_70, r_iclt c_M_date_71, ↓reduceIte, hs_h, Option.bind_some, mfix_i, mfix_r, mfix_n, mfix_a, Option.toList_some, Option.toList_none, List.cons_append, List.nil_append, List.singleton_append, k3000 (show i < 3000 by omega), if_false, q1]
    simp only [r_al0 c_M_date_74, r_gfSr c_M_date_75 o10 rfl, r_ci c_M_date_78, r_ial c_M_date_79, r_il5 c_M_date_80, r_iadd c_M_date_82, r_iret c_M_date_83, ↓reduceIte, hs_h, Option.bind_some, mfix_i, mfix_r, mfix_n, mfix_a, Option.toList_some, Option.toList_none, List.cons_append, List.nil_append, List.singleton_append, mn0 hE, htd.2.2, nI_add]
  | succ m ih =>
    intro i hi
    rw [M_date_st hE hR hk ht (by omega) (hl _ (by omega) (by omega))]
    exact ih (i + 1) (by omega)
theorem M_date_b (hE : okE E) (hR : Rel E R b z t hc pk td B (iA S 94)) (hk : k < 12) (ht : td ≤ 2999) (hl : ∀ D, td ≤ D → D < td + 3000 → ¬ duP R b z t k td D) (d : Nat) : ∀ m i, i + m = 3000 → mres cT 97 d 58 [.ref 93, .int (nI k), .int (frS R b z t k), .int (nI (svN R b z k (td + i))), .int (crSum (iA R (b + 21)) (nI k) (nI td) (z 20)), .int (nI i)] [] (hs E S) = some (some (.int (-1000000005)), hs E S) := by
  intro m
  induction m with
  | zero =>
    intro i hi
    have e : i = 3000 := by omega
    subst e
    simp only [r_il5 c_M_date_58, r_ci c_M_date_60, r_icge c_M_date_63, ↓reduceIte, hs_h, Option.bind_some, mfix_i, mfix_r, mfix_n, mfix_a, Option.toList_some, Option.toList_none, List.cons_append, List.nil_append, List.singleton_append, show ((3000 : Int32) ≤ nI 3000) = True from eq_true (nI_le (a := 3000) (Nat.le_refl _) (by decide)), if_true]
    simp only [r_ci c_M_date_115, r_iret c_M_date_117, ↓reduceIte, hs_h, Option.bind_some, mfix_i, mfix_r, mfix_n, mfix_a, Option.toList_some, Option.toList_none, List.cons_append, List.nil_append, List.singleton_append]
  | succ m ih =>
    intro i hi
    rw [M_date_st hE hR hk ht (by omega) (hl _ (by omega) (by omega))]
    exact ih (i + 1) (by omega)
theorem q_date (h : Inv E S) : opE E S 96 97 2 6 [.int c] := by
  obtain ⟨hE, hpar, ⟨z, t, hc, pk, td, htd, hR⟩, hI, hTp, hWt, hSh, hKy⟩ := id h
  obtain ⟨b, hb1⟩ : ∃ b, b = 1 := ⟨1, rfl⟩
  have hb : bkb b := Or.inl hb1
  rw [← hb1] at hR
  have o9 := o_X hE hb1
  have o0 := o_B hE hb
  have o8 := o_I hE hb
  have o1 := o_L hE hb
  have o5 := o_P hE
  have o10 := o_M hE
  have m10 := m_M hE
  have m9 : ∀ S, misc (hp E S 0) 9 = true := fun S => misc_o o9
  have m0 : ∀ S, misc (hp E S b) 0 = true := fun S => misc_o o0
  have m8 : ∀ S, misc (hp E S (b + 13)) 8 = true := fun S => misc_o o8
  have m1 : ∀ S, misc (hp E S (b + 22)) 1 = true := fun S => misc_o o1
  have m5 : ∀ S, misc (hp E S 79) 5 = true := fun S => misc_o o5
  obtain ⟨n1, n14, n16, n18, n20, n22, n3, n5, n7⟩ := rl_okm hR
  obtain ⟨⟨g1, g3, g5, g7, g14, g16, g18, g20, g22, gt, gw⟩, hH, hP⟩ := rl_okh hR
  have ht := rl_tod hR
  rcases ixc (n := z 1) c (by omega) with hx | ⟨k, hk, rfl, hx⟩
  · refine op_v h (-1000000001) (fun d => ?_) (fun d => ?_)
    · simp only [ment, mfl, List.length, List.replicate, List.cons_append, List.nil_append, Nat.reduceAdd, Nat.reduceSub]; simp only [r_al0 c_X_date_0, r_an0 c_X_date_0, r_gfSr c_X_date_1 o9 rfl, r_gfSr c_X_date_4 o0 rfl, r_il1 c_X_date_7, r_cv2 c_X_date_8, r_ifne c_X_date_11, r_ci c_X_date_14, r_iret c_X_date_16, r_al0 c_X_date_17, r_an0 c_X_date_17, r_gfSr c_X_date_18 o9 rfl, r_il1 c_X_date_21, r_cv2 c_X_date_22, r_iret c_X_date_25, ↓reduceIte, hs_h, Option.bind_some, mfix_i, mfix_r, mfix_n, mfix_a, Option.toList_some, Option.toList_none, List.cons_append, List.nil_append, List.singleton_append, mwt, Value.category, Nat.reduceAdd, Nat.reduceLeDiff, true_and, and_true, and_self, misc_w (w_1 hE hb), has_1 hE hb, g1.1, hx, if_true]
    · simp only [ment, mfl, List.length, List.replicate, List.cons_append, List.nil_append, Nat.reduceAdd, Nat.reduceSub]; simp only [r_al0 c_M_date_0, r_il1 c_M_date_1, r_ci c_M_date_2, r_cv3 c_M_date_3, r_ifne c_M_date_6, r_ci c_M_date_9, r_iret c_M_date_11, ↓reduceIte, hs_h, Option.bind_some, mfix_i, mfix_r, mfix_n, mfix_a, Option.toList_some, Option.toList_none, List.cons_append, List.nil_append, List.singleton_append, mwt, Value.category, Nat.reduceAdd, Nat.reduceLeDiff, true_and, and_true, and_self, m10, mt2 hE, n1.1, th_eq (show z 1 < 2 ^ 31 by omega), hx, if_true]
  have k12 : k < 12 := by omega
  obtain ⟨S1, e1, r1⟩ := B_dateOf_d (k := k) hE hb (rl_okh hR).1 k12
  have hR1 : Rel E S b z t hc pk td (18 * td) (iA S1 94) := by rw [iA, e1 94 (by omega) (by omega)]; exact hR
  have n1' : iA S1 94 2 = nI (z 1) := (rl_okm hR1).1.1
  have c3 : iA S1 94 (20 + 6 * k + 3) = iA S (b + 2) (k * 6 + 3) := rl_c0 hR1 hk (c := 3) (by omega)
  by_cases q3 : iA S (b + 2) (k * 6 + 3) = 0
  · obtain ⟨S2, e2, r2⟩ := M_firstOf_R hE hR1 hk
    have hR2 : Rel E S b z t hc pk td (18 * td) (iA S2 94) := by rw [eqM_94 e2]; exact hR1
    obtain ⟨S3, e3, r3⟩ := M_servedOn_R (k := k) (D := td) hE hR2 (by omega) (by omega)
    have hR3 : Rel E S b z t hc pk td (18 * td) (iA S3 94) := by rw [eqM_94 e3]; exact hR2
    rw [sv_nat hR2 (by omega) (by omega)] at r3
    have st : ∀ d, mres cT 97 d 0 (ment 6 [.ref 93, .int (nI k)]) [] (hs E S1) = mres cT 97 d 58 [.ref 93, .int (nI k), .int (frS S b z t k), .int (nI (svN S b z k (td + 0))), .int (crSum (iA S (b + 21)) (nI k) (nI td) (z 20)), .int (nI 0)] [] (hs E S3) := fun d => by
      simp only [ment, mfl, List.length, List.replicate, List.cons_append, List.nil_append, Nat.reduceAdd, Nat.reduceSub]; simp only [r_al0 c_M_date_0, r_il1 c_M_date_1, r_ci c_M_date_2, r_cv3 c_M_date_3, r_ifne c_M_date_6, r_ci c_M_date_9, r_iret c_M_date_11, r_al0 c_M_date_12, r_il1 c_M_date_13, r_ci c_M_date_14, r_cv3 c_M_date_15, r_ifeq c_M_date_18, r_ci c_M_date_21, r_iret c_M_date_23, r_al0 c_M_date_24, r_il1 c_M_date_25, r_cv2 c_M_date_26, r_is2 c_M_date_29, r_al0 c_M_date_30, r_il1 c_M_date_31, r_al0 c_M_date_32, r_gfSr c_M_date_33 o10 rfl, r_ci c_M_date_36, r_ial c_M_date_37, r_cv3 c_M_date_38, r_is3 c_M_date_41, r_al0 c_M_date_42, r_il1 c_M_date_43, r_al0 c_M_date_44, r_gfSr c_M_date_45 o10 rfl, r_ci c_M_date_48, r_ial c_M_date_49, r_cv3 c_M_date_50, r_is4 c_M_date_53, r_ci c_M_date_55, r_is5 c_M_date_56, ↓reduceIte, hs_h, Option.bind_some, mfix_i, mfix_r, mfix_n, mfix_a, Option.toList_some, Option.toList_none, List.cons_append, List.nil_append, List.singleton_append, mwt, Value.category, Nat.reduceAdd, Nat.reduceLeDiff, true_and, and_true, and_self, m10, mt2 hE, n1', th_eq (show z 1 < 2 ^ 31 by omega), hx, if_false, one_nz, oc3 hE k12, c3, q3, if_true, r2, mn0 hE, (rl_tod hR2).2.2, r3, (rl_tod hR3).2.2, M_creditOf_R hE hR3 (show td < 2147483647 by omega), nI_0, Nat.add_zero]
    refine ⟨dtS S b z t k, S1, S3, fun d _ => ?_, fun d _ => ?_, Inv_q h (by subst hb1; exact e1) (eqM_tr e2 e3)⟩
    · simp only [ment, mfl, List.length, List.replicate, List.cons_append, List.nil_append, Nat.reduceAdd, Nat.reduceSub]; simp only [r_al0 c_X_date_0, r_an0 c_X_date_0, r_gfSr c_X_date_1 o9 rfl, r_gfSr c_X_date_4 o0 rfl, r_il1 c_X_date_7, r_cv2 c_X_date_8, r_ifne c_X_date_11, r_ci c_X_date_14, r_iret c_X_date_16, r_al0 c_X_date_17, r_an0 c_X_date_17, r_gfSr c_X_date_18 o9 rfl, r_il1 c_X_date_21, r_cv2 c_X_date_22, r_iret c_X_date_25, ↓reduceIte, hs_h, Option.bind_some, mfix_i, mfix_r, mfix_n, mfix_a, Option.toList_some, Option.toList_none, List.cons_append, List.nil_append, List.singleton_append, mwt, Value.category, Nat.reduceAdd, Nat.reduceLeDiff, true_and, and_true, and_self, misc_w (w_1 hE hb), has_1 hE hb, g1.1, hx, if_false, one_nz, m0, r1]
    · rw [st]
      rcases dt_main hR k12 htd q3 with ⟨e, hl⟩ | ⟨r, e, hp, hr1, hr2, hl⟩
      · rw [e]; exact M_date_b hE hR3 k12 htd hl d 3000 0 (by omega)
      · have er : r = td + (r - td) := by omega
        rw [e]
        rw [er] at hp hr2 hl ⊢
        exact M_date_a hE hR3 k12 htd hr2 hp hl d (r - td) 0 (by omega)
  · have ed : dtS S b z t k = -1000000005 := by rw [dtS, if_neg q3]
    rw [ed] at r1
    refine ⟨-1000000005, S1, S1, fun d _ => ?_, fun d _ => ?_, Inv_q h (by subst hb1; exact e1) eqM_rf⟩
    · simp only [ment, mfl, List.length, List.replicate, List.cons_append, List.nil_append, Nat.reduceAdd, Nat.reduceSub]; simp only [r_al0 c_X_date_0, r_an0 c_X_date_0, r_gfSr c_X_date_1 o9 rfl, r_gfSr c_X_date_4 o0 rfl, r_il1 c_X_date_7, r_cv2 c_X_date_8, r_ifne c_X_date_11, r_ci c_X_date_14, r_iret c_X_date_16, r_al0 c_X_date_17, r_an0 c_X_date_17, r_gfSr c_X_date_18 o9 rfl, r_il1 c_X_date_21, r_cv2 c_X_date_22, r_iret c_X_date_25, ↓reduceIte, hs_h, Option.bind_some, mfix_i, mfix_r, mfix_n, mfix_a, Option.toList_some, Option.toList_none, List.cons_append, List.nil_append, List.singleton_append, mwt, Value.category, Nat.reduceAdd, Nat.reduceLeDiff, true_and, and_true, and_self, misc_w (w_1 hE hb), has_1 hE hb, g1.1, hx, if_false, one_nz, m0, r1]
    · simp only [ment, mfl, List.length, List.replicate, List.cons_append, List.nil_append, Nat.reduceAdd, Nat.reduceSub]; simp only [r_al0 c_M_date_0, r_il1 c_M_date_1, r_ci c_M_date_2, r_cv3 c_M_date_3, r_ifne c_M_date_6, r_ci c_M_date_9, r_iret c_M_date_11, r_al0 c_M_date_12, r_il1 c_M_date_13, r_ci c_M_date_14, r_cv3 c_M_date_15, r_ifeq c_M_date_18, r_ci c_M_date_21, r_iret c_M_date_23, ↓reduceIte, hs_h, Option.bind_some, mfix_i, mfix_r, mfix_n, mfix_a, Option.toList_some, Option.toList_none, List.cons_append, List.nil_append, List.singleton_append, mwt, Value.category, Nat.reduceAdd, Nat.reduceLeDiff, true_and, and_true, and_self, m10, mt2 hE, n1', th_eq (show z 1 < 2 ^ 31 by omega), hx, if_false, one_nz, oc3 hE k12, c3, q3]
end DATEQ
