/-! call: trim -/
section TRIM
variable {E : EE} {R R' S S1 S2 V U : SS} {b d k n m i j p td B a s q : Nat} {c v w x y l : Int32} {z t hc pk : Nat → Nat} {f f' f0 f1 g g' : Nat → Int32}
/-- only the tape has changed -/
theorem Inv_T (h : Inv E S) (e : ∀ q, q ≠ 79 → q ≠ 80 → q ≠ 93 → q ≠ 97 → S1 q = S q) (e1 : ∀ k, k ≠ 5 → iF S1 93 k = iF S 93 k) (hT : InvT S1) : Inv E S1 := by
  obtain ⟨h1, h2, h3, h4, h5, h6, h7, h8⟩ := h
  have e0 : ∀ k, iF S1 0 k = iF S 0 k := fun k => sS_F (e 0 (by omega) (by omega) (by omega) (by omega))
  exact ⟨h1, h2, fr_B (fun q _ => e q (by omega) (by omega) (by omega) (by omega)) h3, fr_I (fun q _ => e q (by omega) (by omega) (by omega) (by omega)) (e0 3) (e1 3 (by omega)) h4, hT, fr_W (fun q _ => e q (by omega) (by omega) (by omega) (by omega)) (e0 8) (e1 7 (by omega)) h6, fr_H (fun q _ => e q (by omega) (by omega) (by omega) (by omega)) h7, fr_K (fun q _ => e q (by omega) (by omega) (by omega) (by omega)) h8⟩
theorem q_trim (h : Inv E S) : opE E S 102 103 2 2 [.int c] := by
  obtain ⟨hE, hpar, ⟨z, t, hc, pk, td, htd, hR⟩, hI, hTp, hWt, hSh, hKy⟩ := id h
  obtain ⟨b, hb1⟩ : ∃ b, b = 1 := ⟨1, rfl⟩
  have hb : bkb b := Or.inl hb1
  rw [← hb1] at hR
  have o9 := o_X hE hb1
  have o0 := o_B hE hb
  have o8 := o_I hE hb
  have o1 := o_L hE hb
  have o5 := o_P hE
  have o10 := o_M hE
  have m10 := m_M hE
  have m9 : ∀ S, misc (hp E S 0) 9 = true := fun S => misc_o o9
  have m0 : ∀ S, misc (hp E S b) 0 = true := fun S => misc_o o0
  have m8 : ∀ S, misc (hp E S (b + 13)) 8 = true := fun S => misc_o o8
  have m1 : ∀ S, misc (hp E S (b + 22)) 1 = true := fun S => misc_o o1
  have m5 : ∀ S, misc (hp E S 79) 5 = true := fun S => misc_o o5
  obtain ⟨n1, n14, n16, n18, n20, n22, n3, n5, n7⟩ := rl_okm hR
  obtain ⟨⟨g1, g3, g5, g7, g14, g16, g18, g20, g22, gt, gw⟩, hH, hP⟩ := rl_okh hR
  have ht := rl_tod hR
  obtain ⟨n, T, ⟨t1, t2, t3⟩, t4, t5⟩ := id hTp
  rcases wic (m := n) c (by omega) with h1 | ⟨k, hk, rfl, h1⟩
  · refine op_v h (-1000000001) (fun d => ?_) (fun d => ?_)
    · simp only [ment, mfl, List.length, List.replicate, List.cons_append, List.nil_append, Nat.reduceAdd, Nat.reduceSub]; simp only [r_il1 c_X_trim_0, r_ci c_X_trim_1, r_al0 c_X_trim_2, r_an0 c_X_trim_2, r_gfSr c_X_trim_3 o9 rfl, r_gfS0 c_X_trim_6 o5 rfl, r_ca3 c_X_trim_9, r_ifne c_X_trim_12, r_ci c_X_trim_15, r_iret c_X_trim_17, r_al0 c_X_trim_18, r_an0 c_X_trim_18, r_gfSr c_X_trim_19 o9 rfl, r_il1 c_X_trim_22, r_pfS c_X_trim_23 o5 rfl, r_il1 c_X_trim_26, r_iret c_X_trim_27, ↓reduceIte, hs_h, Option.bind_some, mfix_i, mfix_r, mfix_n, mfix_a, Option.toList_some, Option.toList_none, List.cons_append, List.nil_append, List.singleton_append, mwt, Value.category, Nat.reduceAdd, Nat.reduceLeDiff, true_and, and_true, and_self, m5, t1, X_within_ok, h1, if_true]
    · simp only [ment, mfl, List.length, List.replicate, List.cons_append, List.nil_append, Nat.reduceAdd, Nat.reduceSub]; simp only [r_il1 c_M_trim_0, r_i2l c_M_trim_1, r_cl c_M_trim_2, r_al0 c_M_trim_3, r_gfS0 c_M_trim_4 o10 rfl, r_i2l c_M_trim_7, r_ca3 c_M_trim_8, r_ifne c_M_trim_11, r_ci c_M_trim_14, r_iret c_M_trim_16, r_al0 c_M_trim_17, r_il1 c_M_trim_18, r_pfS c_M_trim_19 o10 rfl, r_il1 c_M_trim_22, r_iret c_M_trim_23, ↓reduceIte, hs_h, Option.bind_some, mfix_i, mfix_r, mfix_n, mfix_a, Option.toList_some, Option.toList_none, List.cons_append, List.nil_append, List.singleton_append, mwt, Value.category, Nat.reduceAdd, Nat.reduceLeDiff, true_and, and_true, and_self, t4, M_within_0, h1, if_true]
  · refine ⟨nI k, sF S 79 1 (nI k), sF (sF S 79 1 (nI k)) 93 5 (nI k), fun d _ => ?_, fun d _ => ?_, Inv_T h (fun q h1 h2 h3 h4 => ?_) (fun k hk => ?_) ⟨k, T, ⟨?_, by omega, fun j hj => ?_⟩, ?_, fun j hj => ?_⟩⟩
    · simp only [ment, mfl, List.length, List.replicate, List.cons_append, List.nil_append, Nat.reduceAdd, Nat.reduceSub]; simp only [r_il1 c_X_trim_0, r_ci c_X_trim_1, r_al0 c_X_trim_2, r_an0 c_X_trim_2, r_gfSr c_X_trim_3 o9 rfl, r_gfS0 c_X_trim_6 o5 rfl, r_ca3 c_X_trim_9, r_ifne c_X_trim_12, r_ci c_X_trim_15, r_iret c_X_trim_17, r_al0 c_X_trim_18, r_an0 c_X_trim_18, r_gfSr c_X_trim_19 o9 rfl, r_il1 c_X_trim_22, r_pfS c_X_trim_23 o5 rfl, r_il1 c_X_trim_26, r_iret c_X_trim_27, ↓reduceIte, hs_h, Option.bind_some, mfix_i, mfix_r, mfix_n, mfix_a, Option.toList_some, Option.toList_none, List.cons_append, List.nil_append, List.singleton_append, mwt, Value.category, Nat.reduceAdd, Nat.reduceLeDiff, true_and, and_true, and_self, m5, t1, X_within_ok, h1, one_nz, if_false]
    · have c5 : iF (sF S 79 1 (nI k)) 93 5 = nI n := by rw [iF_sF_ne (Or.inl (by omega)), t4]
      simp only [ment, mfl, List.length, List.replicate, List.cons_append, List.nil_append, Nat.reduceAdd, Nat.reduceSub]; simp only [r_il1 c_M_trim_0, r_i2l c_M_trim_1, r_cl c_M_trim_2, r_al0 c_M_trim_3, r_gfS0 c_M_trim_4 o10 rfl, r_i2l c_M_trim_7, r_ca3 c_M_trim_8, r_ifne c_M_trim_11, r_ci c_M_trim_14, r_iret c_M_trim_16, r_al0 c_M_trim_17, r_il1 c_M_trim_18, r_pfS c_M_trim_19 o10 rfl, r_il1 c_M_trim_22, r_iret c_M_trim_23, ↓reduceIte, hs_h, Option.bind_some, mfix_i, mfix_r, mfix_n, mfix_a, Option.toList_some, Option.toList_none, List.cons_append, List.nil_append, List.singleton_append, mwt, Value.category, Nat.reduceAdd, Nat.reduceLeDiff, true_and, and_true, and_self, c5, M_within_0, h1, one_nz, if_false]
    · rw [sF, va_up, if_neg h3, sF, va_up, if_neg h1]
    · rw [iF_sF_ne (Or.inr hk), iF_sF_ne (Or.inl (by omega))]
    · rw [iF_sF_ne (Or.inl (by omega)), iF_sF]
    · rw [iA_sF, iA_sF]; exact t3 j (by omega)
    · rw [iF_sF]
    · rw [iA_sF, iA_sF]; exact t5 j (by omega)
end TRIM
