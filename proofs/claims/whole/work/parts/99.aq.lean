/-! call: feed -/
section FEED2
variable {E : EE} {R R' S S1 S2 V U : SS} {b d k n m i j p td B a s q : Nat} {c v w x y l : Int32} {z t hc pk : Nat → Nat} {f f' f0 f1 g g' : Nat → Int32}
def fdB (c v w : Int32) (k : Nat) : Int32 := (if k < 4 then c else if k < 8 then v else w) >>> (nI (24 - 8 * (k % 4)) &&& 31)
theorem k12d : ∀ k : Nat, k < 12 → (¬ (12 : Int32) ≤ nI k) ∧ (24 : Int32) - 8 * (nI k - nI k / 4 * 4) = nI (24 - 8 * (k % 4)) := by decide
theorem k12e : ∀ k : Nat, k < 12 → (((4 : Int32) ≤ nI k) = (4 ≤ k)) ∧ ((8 : Int32) ≤ nI k) = (8 ≤ k) := by
  have : ∀ k : Nat, k < 12 → ((4 : Int32) ≤ nI k ↔ 4 ≤ k) ∧ ((8 : Int32) ≤ nI k ↔ 8 ≤ k) := by decide
  exact fun k hk => ⟨propext (this k hk).1, propext (this k hk).2⟩
theorem iM97 (hE : okE E) : isI E 97 96 := ⟨fun S => hp_r (o := 18) hE (by omega), by have := hE.1; omega⟩
theorem M_feed_ok (hE : okE E) (h0 : iF S 93 5 = nI n) (hn : n ≤ 84) : ∀ d, mres cT 101 d 0 (ment 6 [.ref 93, .int c, .int v, .int w]) [] (hs E S) = some (some (.int (nI (n + 12))), hs E (rfor (mlG n (fdB c v w)) 0 12 S)) := fun d => by
  have o10 := o_M hE
  have m10 := m_M hE
  have lp : ∀ m k u, k + m = 12 → mres cT 101 d 18 [.ref 93, .int c, .int v, .int w, .int (nI k), u] [] (hs E (rfor (mlG n (fdB c v w)) 0 k S)) = some (some (.int (nI (n + 12))), hs E (rfor (mlG n (fdB c v w)) 0 12 S)) := by
    intro m
    induction m with
    | zero =>
      intro k u hk
      have e : k = 12 := by omega
      subst e
      have h5 := (ml_all (fB := fdB c v w) h0 12).1
      simp only [r_il4 c_M_feed_18, r_ci c_M_feed_20, r_icge c_M_feed_22, ↓reduceIte, hs_h, Option.bind_some, mfix_i, mfix_r, mfix_n, mfix_a, Option.toList_some, Option.toList_none, List.cons_append, List.nil_append, List.singleton_append, show nI 12 = 12 by decide, show ((12 : Int32) ≤ 12) = True from eq_true (by decide), if_true]
      simp only [r_al0 c_M_feed_91, r_gfS0 c_M_feed_92 o10 rfl, r_iret c_M_feed_95, ↓reduceIte, hs_h, Option.bind_some, mfix_i, mfix_r, mfix_n, mfix_a, Option.toList_some, Option.toList_none, List.cons_append, List.nil_append, List.singleton_append, h5]
    | succ m ih =>
      intro k u hk
      obtain ⟨a1, a2⟩ := k12d k (by omega)
      obtain ⟨a3, a4⟩ := k12e k (by omega)
      have h5 := (ml_all (fB := fdB c v w) h0 k).1
      have ih := fun u => ih (k + 1) u (by omega)
      have e : rfor (mlG n (fdB c v w)) 0 (k + 1) S = mlG n (fdB c v w) k (rfor (mlG n (fdB c v w)) 0 k S) := by rw [rfor_last, Nat.zero_add]
      rw [e, mlG] at ih
      simp only [r_il4 c_M_feed_18, r_ci c_M_feed_20, r_icge c_M_feed_22, ↓reduceIte, hs_h, Option.bind_some, mfix_i, mfix_r, mfix_n, mfix_a, Option.toList_some, Option.toList_none, List.cons_append, List.nil_append, List.singleton_append, a1, if_false]
      rcases (show k < 4 ∨ 4 ≤ k ∧ k < 8 ∨ 8 ≤ k by omega) with q | q | q
      · have f1 : fdB c v w k = c >>> (nI (24 - 8 * (k % 4)) &&& 31) := by rw [fdB, if_pos q]
        rw [f1] at ih
        simp only [r_il4 c_M_feed_25, r_ci c_M_feed_27, r_icge c_M_feed_28, r_il1 c_M_feed_31, r_goto c_M_feed_32, r_il4 c_M_feed_35, r_ci c_M_feed_37, r_icge c_M_feed_39, r_il2 c_M_feed_42, r_goto c_M_feed_43, r_il3 c_M_feed_46, r_is5 c_M_feed_47, r_al0 c_M_feed_49, r_gfSr c_M_feed_50 o10 rfl, r_al0 c_M_feed_53, r_gfS0 c_M_feed_54 o10 rfl, r_il5 c_M_feed_57, r_ci c_M_feed_59, r_ci c_M_feed_61, r_il4 c_M_feed_63, r_ci c_M_feed_65, r_irem c_M_feed_66, r_imul c_M_feed_67, r_isub c_M_feed_68, r_ishr c_M_feed_69, r_ci c_M_feed_70, r_iand c_M_feed_73, r_ias c_M_feed_74, r_al0 c_M_feed_75, r_dupi c_M_feed_76, r_dupr c_M_feed_76, r_gfS0 c_M_feed_77 o10 rfl, r_ci c_M_feed_80, r_iadd c_M_feed_81, r_pfS c_M_feed_82 o10 rfl, r_inc4 c_M_feed_85, r_goto c_M_feed_88, ↓reduceIte, hs_h, Option.bind_some, mfix_i, mfix_r, mfix_n, mfix_a, Option.toList_some, Option.toList_none, List.cons_append, List.nil_append, List.singleton_append, show ¬ (4 : Int32) = 0 by decide, not_false_eq_true, a3, show ¬ 4 ≤ k by omega, if_false, h5, a2, mis_I (iM97 hE) (show n + k < 96 by omega) (by decide), hs_I (iM97 hE), iF_sA, nI_1, ih]
      · have f1 : fdB c v w k = v >>> (nI (24 - 8 * (k % 4)) &&& 31) := by rw [fdB, if_neg (by omega), if_pos q.2]
        rw [f1] at ih
        simp only [r_il4 c_M_feed_25, r_ci c_M_feed_27, r_icge c_M_feed_28, r_il1 c_M_feed_31, r_goto c_M_feed_32, r_il4 c_M_feed_35, r_ci c_M_feed_37, r_icge c_M_feed_39, r_il2 c_M_feed_42, r_goto c_M_feed_43, r_il3 c_M_feed_46, r_is5 c_M_feed_47, r_al0 c_M_feed_49, r_gfSr c_M_feed_50 o10 rfl, r_al0 c_M_feed_53, r_gfS0 c_M_feed_54 o10 rfl, r_il5 c_M_feed_57, r_ci c_M_feed_59, r_ci c_M_feed_61, r_il4 c_M_feed_63, r_ci c_M_feed_65, r_irem c_M_feed_66, r_imul c_M_feed_67, r_isub c_M_feed_68, r_ishr c_M_feed_69, r_ci c_M_feed_70, r_iand c_M_feed_73, r_ias c_M_feed_74, r_al0 c_M_feed_75, r_dupi c_M_feed_76, r_dupr c_M_feed_76, r_gfS0 c_M_feed_77 o10 rfl, r_ci c_M_feed_80, r_iadd c_M_feed_81, r_pfS c_M_feed_82 o10 rfl, r_inc4 c_M_feed_85, r_goto c_M_feed_88, ↓reduceIte, hs_h, Option.bind_some, mfix_i, mfix_r, mfix_n, mfix_a, Option.toList_some, Option.toList_none, List.cons_append, List.nil_append, List.singleton_append, show ¬ (4 : Int32) = 0 by decide, not_false_eq_true, a3, a4, q.1, show ¬ 8 ≤ k by omega, if_true, if_false, h5, a2, mis_I (iM97 hE) (show n + k < 96 by omega) (by decide), hs_I (iM97 hE), iF_sA, nI_1, ih]
      · have f1 : fdB c v w k = w >>> (nI (24 - 8 * (k % 4)) &&& 31) := by rw [fdB, if_neg (by omega), if_neg (by omega)]
        rw [f1] at ih
        simp only [r_il4 c_M_feed_25, r_ci c_M_feed_27, r_icge c_M_feed_28, r_il1 c_M_feed_31, r_goto c_M_feed_32, r_il4 c_M_feed_35, r_ci c_M_feed_37, r_icge c_M_feed_39, r_il2 c_M_feed_42, r_goto c_M_feed_43, r_il3 c_M_feed_46, r_is5 c_M_feed_47, r_al0 c_M_feed_49, r_gfSr c_M_feed_50 o10 rfl, r_al0 c_M_feed_53, r_gfS0 c_M_feed_54 o10 rfl, r_il5 c_M_feed_57, r_ci c_M_feed_59, r_ci c_M_feed_61, r_il4 c_M_feed_63, r_ci c_M_feed_65, r_irem c_M_feed_66, r_imul c_M_feed_67, r_isub c_M_feed_68, r_ishr c_M_feed_69, r_ci c_M_feed_70, r_iand c_M_feed_73, r_ias c_M_feed_74, r_al0 c_M_feed_75, r_dupi c_M_feed_76, r_dupr c_M_feed_76, r_gfS0 c_M_feed_77 o10 rfl, r_ci c_M_feed_80, r_iadd c_M_feed_81, r_pfS c_M_feed_82 o10 rfl, r_inc4 c_M_feed_85, r_goto c_M_feed_88, ↓reduceIte, hs_h, Option.bind_some, mfix_i, mfix_r, mfix_n, mfix_a, Option.toList_some, Option.toList_none, List.cons_append, List.nil_append, List.singleton_append, show ¬ (4 : Int32) = 0 by decide, not_false_eq_true, a3, a4, q, show 4 ≤ k by omega, if_true, h5, a2, mis_I (iM97 hE) (show n + k < 96 by omega) (by decide), hs_I (iM97 hE), iF_sA, nI_1, ih]
  have l0 := fun u => lp 12 0 u (by omega)
  have k1 : nI n + 12 ≤ 96 := by
    have : ∀ n : Nat, n < 85 → nI n + 12 ≤ 96 := by decide
    exact this n (by omega)
  have l0 : ∀ u, mres cT 101 d 18 [.ref 93, .int c, .int v, .int w, .int 0, u] [] (hs E S) = some (some (.int (nI (n + 12))), hs E (rfor (mlG n (fdB c v w)) 0 12 S)) := l0
  simp only [ment, mfl, List.length, List.replicate, List.cons_append, List.nil_append, Nat.reduceAdd, Nat.reduceSub]
  simp only [r_al0 c_M_feed_0, r_gfS0 c_M_feed_1 o10 rfl, r_ci c_M_feed_4, r_iadd c_M_feed_6, r_ci c_M_feed_7, r_icle c_M_feed_9, r_ci c_M_feed_12, r_iret c_M_feed_14, r_ci c_M_feed_15, r_is4 c_M_feed_16, ↓reduceIte, hs_h, Option.bind_some, mfix_i, mfix_r, mfix_n, mfix_a, Option.toList_some, Option.toList_none, List.cons_append, List.nil_append, List.singleton_append, h0, k1, if_true, l0]
theorem byN (y : Int32) : y &&& 255 = nI (y &&& 255).toBitVec.toNat ∧ (y &&& 255).toBitVec.toNat < 256 := by
  obtain ⟨m, h1, h2⟩ := byM y
  have : (nI m).toBitVec.toNat = m := by show m % 2 ^ 32 = m; omega
  rw [h2, this]
  exact ⟨rfl, h1⟩
theorem M_feed_no (hE : okE E) (h0 : iF S 93 5 = nI n) (hn : 84 < n) (hn2 : n ≤ 96) : ∀ d, mres cT 101 d 0 (ment 6 [.ref 93, .int c, .int v, .int w]) [] (hs E S) = some (some (.int (-1000000003)), hs E S) := fun d => by
  have o10 := o_M hE
  have m10 := m_M hE
  have k1 : ¬ nI n + 12 ≤ 96 := by
    have : ∀ n : Nat, n < 97 → 84 < n → ¬ nI n + 12 ≤ 96 := by decide
    exact this n (by omega) hn
  simp only [ment, mfl, List.length, List.replicate, List.cons_append, List.nil_append, Nat.reduceAdd, Nat.reduceSub]
  simp only [r_al0 c_M_feed_0, r_gfS0 c_M_feed_1 o10 rfl, r_ci c_M_feed_4, r_iadd c_M_feed_6, r_ci c_M_feed_7, r_icle c_M_feed_9, r_ci c_M_feed_12, r_iret c_M_feed_14, ↓reduceIte, hs_h, Option.bind_some, mfix_i, mfix_r, mfix_n, mfix_a, Option.toList_some, Option.toList_none, List.cons_append, List.nil_append, List.singleton_append, h0, k1, if_false]
theorem q_feed (h : Inv E S) : opE E S 100 101 4 6 [.int c, .int v, .int w] := by
  obtain ⟨hE, hpar, ⟨z, t, hc, pk, td, htd, hR⟩, hI, hTp, hWt, hSh, hKy⟩ := id h
  obtain ⟨b, hb1⟩ : ∃ b, b = 1 := ⟨1, rfl⟩
  have hb : bkb b := Or.inl hb1
  rw [← hb1] at hR
  have o9 := o_X hE hb1
  have o0 := o_B hE hb
  have o8 := o_I hE hb
  have o1 := o_L hE hb
  have o5 := o_P hE
  have o10 := o_M hE
  have m10 := m_M hE
  have m9 : ∀ S, misc (hp E S 0) 9 = true := fun S => misc_o o9
  have m0 : ∀ S, misc (hp E S b) 0 = true := fun S => misc_o o0
  have m8 : ∀ S, misc (hp E S (b + 13)) 8 = true := fun S => misc_o o8
  have m1 : ∀ S, misc (hp E S (b + 22)) 1 = true := fun S => misc_o o1
  have m5 : ∀ S, misc (hp E S 79) 5 = true := fun S => misc_o o5
  obtain ⟨n1, n14, n16, n18, n20, n22, n3, n5, n7⟩ := rl_okm hR
  obtain ⟨⟨g1, g3, g5, g7, g14, g16, g18, g20, g22, gt, gw⟩, hH, hP⟩ := rl_okh hR
  have ht := rl_tod hR
  obtain ⟨n, T, ⟨t1, t2, t3⟩, t4, t5⟩ := id hTp
  have hr : ∀ d, mres cT 98 d 0 (ment 1 [.ref 79]) [] (hs E S) = some (some (.int (if n ≤ 84 then 1 else 0)), hs E S) := fun d => P_hasRoom_ok hE t1 t2
  by_cases q : n ≤ 84
  · rw [if_pos q] at hr
    have C4 := cl_all (fB := fdB c v w) t1 4
    have C8 := cl_all (fB := fdB c v w) t1 8
    have CC := cl_all (fB := fdB c v w) t1 12
    have r0 : ∀ d, mres cT 99 d 0 (ment 3 [.ref 79, .int c]) [] (hs E S) = some (none, hs E (rfor (clG n (fdB c v w)) 0 4 S)) := fun d => P_append_ok hE t1 (by omega)
    have r1 : ∀ d, mres cT 99 d 0 (ment 3 [.ref 79, .int v]) [] (hs E (rfor (clG n (fdB c v w)) 0 4 S)) = some (none, hs E (rfor (clG n (fdB c v w)) 0 8 S)) := fun d => P_append_ok hE C4.1 (by omega)
    have r2 : ∀ d, mres cT 99 d 0 (ment 3 [.ref 79, .int w]) [] (hs E (rfor (clG n (fdB c v w)) 0 8 S)) = some (none, hs E (rfor (clG n (fdB c v w)) 0 12 S)) := fun d => P_append_ok hE C8.1 (by omega)
    have h93 : iF (rfor (clG n (fdB c v w)) 0 12 S) 93 5 = nI n := by rw [sS_F (CC.2.2 93 (by omega) (by omega))]; exact t4
    have MM := ml_all (fB := fdB c v w) h93 12
    refine ⟨nI (n + 12), _, _, fun d _ => ?_, fun d _ => M_feed_ok hE h93 q d, Inv_T h (fun q h1 h2 h3 h4 => ?_) (fun k hk => ?_) ⟨n + 12, fun j => if j < n then T j else (fdB c v w (j - n) &&& 255).toBitVec.toNat, ⟨?_, by omega, fun j hj => ?_⟩, MM.1, fun j hj => ?_⟩⟩
    · simp only [ment, mfl, List.length, List.replicate, List.cons_append, List.nil_append, Nat.reduceAdd, Nat.reduceSub]; simp only [r_al0 c_X_feed_0, r_an0 c_X_feed_0, r_gfSr c_X_feed_1 o9 rfl, r_cv1 c_X_feed_4, r_ifne c_X_feed_7, r_ci c_X_feed_10, r_iret c_X_feed_12, r_al0 c_X_feed_13, r_an0 c_X_feed_13, r_gfSr c_X_feed_14 o9 rfl, r_il1 c_X_feed_17, r_cv2 c_X_feed_18, r_al0 c_X_feed_21, r_an0 c_X_feed_21, r_gfSr c_X_feed_22 o9 rfl, r_il2 c_X_feed_25, r_cv2 c_X_feed_26, r_al0 c_X_feed_29, r_an0 c_X_feed_29, r_gfSr c_X_feed_30 o9 rfl, r_il3 c_X_feed_33, r_cv2 c_X_feed_34, r_al0 c_X_feed_37, r_an0 c_X_feed_37, r_gfSr c_X_feed_38 o9 rfl, r_gfS0 c_X_feed_41 o5 rfl, r_iret c_X_feed_44, ↓reduceIte, hs_h, Option.bind_some, mfix_i, mfix_r, mfix_n, mfix_a, Option.toList_some, Option.toList_none, List.cons_append, List.nil_append, List.singleton_append, mwt, Value.category, Nat.reduceAdd, Nat.reduceLeDiff, true_and, and_true, and_self, m5, hr, r0, r1, r2, one_nz, if_false, CC.1]
    · rw [MM.2.2.1 q h3 h4, CC.2.2 q h1 h2]
    · rw [MM.2.2.2 k hk, sS_F (CC.2.2 93 (by omega) (by omega))]
    · rw [sS_F (MM.2.2.1 79 (by omega) (by omega)), CC.1]
    · rw [sS_A (MM.2.2.1 80 (by omega) (by omega)), CC.2.1 j]
      by_cases e : j < n
      · rw [if_neg (by omega)]
        simp only [e, if_true]
        exact t3 j e
      · rw [if_pos (by omega), by255]
        simp only [e, if_false]
        exact byN _
    · rw [MM.2.1 j]
      by_cases e : j < n
      · rw [if_neg (by omega), sS_A (CC.2.2 97 (by omega) (by omega))]
        simp only [e, if_true]
        exact t5 j e
      · rw [if_pos (by omega)]
        simp only [e, if_false]
        exact (byN _).1
  · rw [if_neg q] at hr
    refine op_v h (-1000000003) (fun d => ?_) (fun d => M_feed_no hE t4 (by omega) t2 d)
    simp only [ment, mfl, List.length, List.replicate, List.cons_append, List.nil_append, Nat.reduceAdd, Nat.reduceSub]; simp only [r_al0 c_X_feed_0, r_an0 c_X_feed_0, r_gfSr c_X_feed_1 o9 rfl, r_cv1 c_X_feed_4, r_ifne c_X_feed_7, r_ci c_X_feed_10, r_iret c_X_feed_12, r_al0 c_X_feed_13, r_an0 c_X_feed_13, r_gfSr c_X_feed_14 o9 rfl, r_il1 c_X_feed_17, r_cv2 c_X_feed_18, r_al0 c_X_feed_21, r_an0 c_X_feed_21, r_gfSr c_X_feed_22 o9 rfl, r_il2 c_X_feed_25, r_cv2 c_X_feed_26, r_al0 c_X_feed_29, r_an0 c_X_feed_29, r_gfSr c_X_feed_30 o9 rfl, r_il3 c_X_feed_33, r_cv2 c_X_feed_34, r_al0 c_X_feed_37, r_an0 c_X_feed_37, r_gfSr c_X_feed_38 o9 rfl, r_gfS0 c_X_feed_41 o5 rfl, r_iret c_X_feed_44, ↓reduceIte, hs_h, Option.bind_some, mfix_i, mfix_r, mfix_n, mfix_a, Option.toList_some, Option.toList_none, List.cons_append, List.nil_append, List.singleton_append, mwt, Value.category, Nat.reduceAdd, Nat.reduceLeDiff, true_and, and_true, and_self, m5, hr, if_true]
end FEED2
