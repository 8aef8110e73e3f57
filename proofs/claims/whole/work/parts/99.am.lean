/-! what a call leaves alone, piece by piece; call: tell -/
section TELL
variable {E : EE} {R S S1 S2 V U : SS} {b d k n m i j p td B a s q : Nat} {c v w x y l : Int32} {z t hc pk : Nat → Nat} {f f' f0 f1 g g' : Nat → Int32}
theorem fr_B (e : ∀ q, (1 ≤ q ∧ q ≤ 24 ∨ q = 94 ∨ 109 ≤ q) → S1 q = S q) (h : InvB E S 1 94) : InvB E S1 1 94 := by
  obtain ⟨z, t, hc, pk, td, b1, b2⟩ := h
  refine ⟨z, t, hc, pk, td, b1, ?_⟩
  rw [iA, e 94 (by omega)]
  exact Rel_cells (Or.inl rfl) (fun q hq => e q (by omega)) (Nat.le_refl _) b2
theorem fr_I (e : ∀ q, (27 ≤ q ∧ q ≤ 50 ∨ q = 95 ∨ 109 ≤ q) → S1 q = S q) (e0 : iF S1 0 3 = iF S 0 3) (e1 : iF S1 93 3 = iF S 93 3) (h : InvI E S) : InvI E S1 := by
  obtain ⟨i1, i2⟩ := h
  refine ⟨by rw [e0, e1]; exact i1, ?_⟩
  rw [e0]
  refine i2.imp id (fun ⟨q1, z, t, hc, pk, td, q2, q3⟩ => ⟨q1, z, t, hc, pk, td, q2, ?_⟩)
  rw [iA, e 95 (by omega)]
  exact Rel_cells (Or.inr (Or.inl rfl)) (fun q hq => e q (by omega)) (Nat.le_refl _) q3
theorem fr_T (e : ∀ q, (q = 79 ∨ q = 80 ∨ q = 97) → S1 q = S q) (e1 : iF S1 93 5 = iF S 93 5) (h : InvT S) : InvT S1 := by
  obtain ⟨n, T, t1, t2, t3⟩ := h
  refine ⟨n, T, ?_, by rw [e1]; exact t2, ?_⟩
  · unfold tpS at t1 ⊢
    rw [iF, iA, e 79 (by omega), e 80 (by omega)]
    exact t1
  · rw [iA, e 97 (by omega)]; exact t3
theorem fr_W (e : ∀ q, (q = 92 ∨ q = 98) → S1 q = S q) (e0 : iF S1 0 8 = iF S 0 8) (e1 : iF S1 93 7 = iF S 93 7) (h : InvW S) : InvW S1 := by
  obtain ⟨w, w1, w2, w3, w4⟩ := h
  refine ⟨w, w1, by rw [e0]; exact w2, by rw [e1]; exact w3, ?_⟩
  rw [iA, iA, e 92 (by omega), e 98 (by omega)]; exact w4
theorem fr_H (e : ∀ q, (83 ≤ q ∧ q ≤ 91 ∨ 99 ≤ q ∧ q ≤ 101) → S1 q = S q) (h : InvH S) : InvH S1 := fun s hs => by
  have := h s hs
  unfold iQ iF iA iL at this ⊢
  rw [e 83 (by omega), e (84 + 2 * s) (by omega), e (85 + 2 * s) (by omega), e 99 (by omega), e 100 (by omega), e 101 (by omega)]
  exact this
theorem fr_K (e : ∀ q, (q = 24 ∨ q = 50 ∨ q = 104 ∨ q = 105) → S1 q = S q) (h : InvK E S) : InvK E S1 := by
  obtain ⟨k1, k2, k3⟩ := h
  refine ⟨fun j p hj hp => ?_, fun j p hj hp => ?_, fun j hj => ?_⟩
  · rw [iQ, e (1 + 23) (by omega)] at hp
    exact k1 j p hj hp
  · rw [iQ, e (27 + 23) (by omega)] at hp
    exact k2 j p hj hp
  · rw [iQ, iQ, e 104 (by omega), e 105 (by omega)]
    exact k3 j hj
theorem iM92 (hE : okE E) : isI E 92 60 := ⟨fun S => hp_r (o := 13) hE (by omega), by have := hE.1; omega⟩
theorem iM98 (hE : okE E) : isI E 98 60 := ⟨fun S => hp_r (o := 19) hE (by omega), by have := hE.1; omega⟩
theorem k60 : ∀ w : Nat, w < 60 → wiS (nI w) 0 59 = 1 ∧ ¬ nI w = 60 := by decide
theorem q_tell (h : Inv E S) : opE E S 261 262 2 2 [.int c] := by
  obtain ⟨hE, hpar, ⟨z, t, hc, pk, td, htd, hR⟩, hI, hTp, hWt, hSh, hKy⟩ := id h
  obtain ⟨b, hb1⟩ : ∃ b, b = 1 := ⟨1, rfl⟩
  have hb : bkb b := Or.inl hb1
  rw [← hb1] at hR
  have o9 := o_X hE hb1
  have o0 := o_B hE hb
  have o8 := o_I hE hb
  have o1 := o_L hE hb
  have o5 := o_P hE
  have o10 := o_M hE
  have m10 := m_M hE
  have m9 : ∀ S, misc (hp E S 0) 9 = true := fun S => misc_o o9
  have m0 : ∀ S, misc (hp E S b) 0 = true := fun S => misc_o o0
  have m8 : ∀ S, misc (hp E S (b + 13)) 8 = true := fun S => misc_o o8
  have m1 : ∀ S, misc (hp E S (b + 22)) 1 = true := fun S => misc_o o1
  have m5 : ∀ S, misc (hp E S 79) 5 = true := fun S => misc_o o5
  obtain ⟨n1, n14, n16, n18, n20, n22, n3, n5, n7⟩ := rl_okm hR
  obtain ⟨⟨g1, g3, g5, g7, g14, g16, g18, g20, g22, gt, gw⟩, hH, hP⟩ := rl_okh hR
  have ht := rl_tod hR
  obtain ⟨w, w1, w2, w3, w4⟩ := id hWt
  have k59 : (nI 60 - 1 : Int32) = 59 := by decide
  by_cases q : w = 60
  · subst q
    have a1 : wiS (nI 60) 0 59 = 0 := by decide
    refine op_v h (-1000000003) (fun d => ?_) (fun d => ?_)
    · simp only [ment, mfl, List.length, List.replicate, List.cons_append, List.nil_append, Nat.reduceAdd, Nat.reduceSub]; simp only [r_al0 c_X_tell_0, r_an0 c_X_tell_0, r_gfS0 c_X_tell_1 o9 rfl, r_ci c_X_tell_4, r_al0 c_X_tell_5, r_an0 c_X_tell_5, r_gfSr c_X_tell_6 o9 rfl, r_len c_X_tell_9, r_ci c_X_tell_10, r_isub c_X_tell_11, r_ca3 c_X_tell_12, r_ifne c_X_tell_15, r_ci c_X_tell_18, r_iret c_X_tell_20, r_al0 c_X_tell_21, r_an0 c_X_tell_21, r_gfSr c_X_tell_22 o9 rfl, r_al0 c_X_tell_25, r_an0 c_X_tell_25, r_gfS0 c_X_tell_26 o9 rfl, r_il1 c_X_tell_29, r_ias c_X_tell_30, r_al0 c_X_tell_31, r_an0 c_X_tell_31, r_dupi c_X_tell_32, r_dupr c_X_tell_32, r_gfS0 c_X_tell_33 o9 rfl, r_ci c_X_tell_36, r_iadd c_X_tell_37, r_pfS c_X_tell_38 o9 rfl, r_al0 c_X_tell_41, r_an0 c_X_tell_41, r_gfS0 c_X_tell_42 o9 rfl, r_iret c_X_tell_45, ↓reduceIte, hs_h, Option.bind_some, mfix_i, mfix_r, mfix_n, mfix_a, Option.toList_some, Option.toList_none, List.cons_append, List.nil_append, List.singleton_append, mwt, Value.category, Nat.reduceAdd, Nat.reduceLeDiff, true_and, and_true, and_self, w2, mlen_I (iM92 hE), k59, X_within_ok, a1, if_true]
    · simp only [ment, mfl, List.length, List.replicate, List.cons_append, List.nil_append, Nat.reduceAdd, Nat.reduceSub]; simp only [r_al0 c_M_tell_0, r_gfS0 c_M_tell_1 o10 rfl, r_ci c_M_tell_4, r_icne c_M_tell_6, r_ci c_M_tell_9, r_iret c_M_tell_11, r_al0 c_M_tell_12, r_gfSr c_M_tell_13 o10 rfl, r_al0 c_M_tell_16, r_gfS0 c_M_tell_17 o10 rfl, r_il1 c_M_tell_20, r_ias c_M_tell_21, r_al0 c_M_tell_22, r_dupi c_M_tell_23, r_dupr c_M_tell_23, r_gfS0 c_M_tell_24 o10 rfl, r_ci c_M_tell_27, r_iadd c_M_tell_28, r_pfS c_M_tell_29 o10 rfl, r_al0 c_M_tell_32, r_gfS0 c_M_tell_33 o10 rfl, r_iret c_M_tell_36, ↓reduceIte, hs_h, Option.bind_some, mfix_i, mfix_r, mfix_n, mfix_a, Option.toList_some, Option.toList_none, List.cons_append, List.nil_append, List.singleton_append, mwt, Value.category, Nat.reduceAdd, Nat.reduceLeDiff, true_and, and_true, and_self, w3, show nI 60 = 60 by decide, if_true]
  · obtain ⟨a1, a2⟩ := k60 w (by omega)
    refine ⟨nI (w + 1), sF (sA S 92 (upd (iA S 92) w c)) 0 8 (nI (w + 1)), sF (sA (sF (sA S 92 (upd (iA S 92) w c)) 0 8 (nI (w + 1))) 98 (upd (iA S 98) w c)) 93 7 (nI (w + 1)), fun d _ => ?_, fun d _ => ?_, ?_⟩
    · simp only [ment, mfl, List.length, List.replicate, List.cons_append, List.nil_append, Nat.reduceAdd, Nat.reduceSub]; simp only [r_al0 c_X_tell_0, r_an0 c_X_tell_0, r_gfS0 c_X_tell_1 o9 rfl, r_ci c_X_tell_4, r_al0 c_X_tell_5, r_an0 c_X_tell_5, r_gfSr c_X_tell_6 o9 rfl, r_len c_X_tell_9, r_ci c_X_tell_10, r_isub c_X_tell_11, r_ca3 c_X_tell_12, r_ifne c_X_tell_15, r_ci c_X_tell_18, r_iret c_X_tell_20, r_al0 c_X_tell_21, r_an0 c_X_tell_21, r_gfSr c_X_tell_22 o9 rfl, r_al0 c_X_tell_25, r_an0 c_X_tell_25, r_gfS0 c_X_tell_26 o9 rfl, r_il1 c_X_tell_29, r_ias c_X_tell_30, r_al0 c_X_tell_31, r_an0 c_X_tell_31, r_dupi c_X_tell_32, r_dupr c_X_tell_32, r_gfS0 c_X_tell_33 o9 rfl, r_ci c_X_tell_36, r_iadd c_X_tell_37, r_pfS c_X_tell_38 o9 rfl, r_al0 c_X_tell_41, r_an0 c_X_tell_41, r_gfS0 c_X_tell_42 o9 rfl, r_iret c_X_tell_45, ↓reduceIte, hs_h, Option.bind_some, mfix_i, mfix_r, mfix_n, mfix_a, Option.toList_some, Option.toList_none, List.cons_append, List.nil_append, List.singleton_append, mwt, Value.category, Nat.reduceAdd, Nat.reduceLeDiff, true_and, and_true, and_self, w2, mlen_I (iM92 hE), k59, X_within_ok, a1, one_nz, if_false, mis_I (iM92 hE) (show w < 60 by omega) (by decide), hs_I (iM92 hE), iF_sA, iF_sF, nI_1]
    · have c7 : iF (sF (sA S 92 (upd (iA S 92) w c)) 0 8 (nI (w + 1))) 93 7 = nI w := by rw [iF_sF_ne (Or.inl (by omega)), iF_sA, w3]
      have c98 : iA (sF (sA S 92 (upd (iA S 92) w c)) 0 8 (nI (w + 1))) 98 = iA S 98 := by rw [iA_sF, iA_sA_ne (by omega)]
      simp only [ment, mfl, List.length, List.replicate, List.cons_append, List.nil_append, Nat.reduceAdd, Nat.reduceSub]; simp only [r_al0 c_M_tell_0, r_gfS0 c_M_tell_1 o10 rfl, r_ci c_M_tell_4, r_icne c_M_tell_6, r_ci c_M_tell_9, r_iret c_M_tell_11, r_al0 c_M_tell_12, r_gfSr c_M_tell_13 o10 rfl, r_al0 c_M_tell_16, r_gfS0 c_M_tell_17 o10 rfl, r_il1 c_M_tell_20, r_ias c_M_tell_21, r_al0 c_M_tell_22, r_dupi c_M_tell_23, r_dupr c_M_tell_23, r_gfS0 c_M_tell_24 o10 rfl, r_ci c_M_tell_27, r_iadd c_M_tell_28, r_pfS c_M_tell_29 o10 rfl, r_al0 c_M_tell_32, r_gfS0 c_M_tell_33 o10 rfl, r_iret c_M_tell_36, ↓reduceIte, hs_h, Option.bind_some, mfix_i, mfix_r, mfix_n, mfix_a, Option.toList_some, Option.toList_none, List.cons_append, List.nil_append, List.singleton_append, mwt, Value.category, Nat.reduceAdd, Nat.reduceLeDiff, true_and, and_true, and_self, c7, a2, if_false, mis_I (iM98 hE) (show w < 60 by omega) (by decide), hs_I (iM98 hE), c98, iF_sA, iF_sF, nI_1]
    · have hq : ∀ q, q ≠ 0 → q ≠ 92 → q ≠ 93 → q ≠ 98 → sF (sA (sF (sA S 92 (upd (iA S 92) w c)) 0 8 (nI (w + 1))) 98 (upd (iA S 98) w c)) 93 7 (nI (w + 1)) q = S q := fun q h0 h1 h2 h3 => by
        rw [sF, va_up, if_neg h2, sA, va_up, if_neg h3, sF, va_up, if_neg h0, sA, va_up, if_neg h1]
      have e0 : ∀ k, k ≠ 8 → iF (sF (sA (sF (sA S 92 (upd (iA S 92) w c)) 0 8 (nI (w + 1))) 98 (upd (iA S 98) w c)) 93 7 (nI (w + 1))) 0 k = iF S 0 k := fun k hk => by
        rw [iF_sF_ne (Or.inl (by omega)), iF_sA, iF_sF_ne (Or.inr hk), iF_sA]
      have e3 : ∀ k, k ≠ 7 → iF (sF (sA (sF (sA S 92 (upd (iA S 92) w c)) 0 8 (nI (w + 1))) 98 (upd (iA S 98) w c)) 93 7 (nI (w + 1))) 93 k = iF S 93 k := fun k hk => by
        rw [iF_sF_ne (Or.inr hk), iF_sA, iF_sF_ne (Or.inl (by omega)), iF_sA]
      refine ⟨hE, hpar, fr_B (fun q _ => hq q (by omega) (by omega) (by omega) (by omega)) h.2.2.1, fr_I (fun q _ => hq q (by omega) (by omega) (by omega) (by omega)) (e0 3 (by omega)) (e3 3 (by omega)) hI, fr_T (fun q _ => hq q (by omega) (by omega) (by omega) (by omega)) (e3 5 (by omega)) hTp, ⟨w + 1, by omega, ?_, ?_, ?_⟩, fr_H (fun q _ => hq q (by omega) (by omega) (by omega) (by omega)) hSh, fr_K (fun q _ => hq q (by omega) (by omega) (by omega) (by omega)) hKy⟩
      · rw [iF_sF_ne (Or.inl (by omega)), iF_sA, iF_sF]
      · rw [iF_sF]
      · intro j hj
        have e92 : ∀ (W : SS) (G G' : Nat → Int32) (x y : Int32), iA (sF (sA (sF (sA W 92 G) 0 8 x) 98 G') 93 7 y) 92 = G := fun W G G' x y => by rw [iA_sF, iA_sA_ne (by omega), iA_sF, iA_sA]
        have e98 : ∀ (W : SS) (G G' : Nat → Int32) (x y : Int32), iA (sF (sA (sF (sA W 92 G) 0 8 x) 98 G') 93 7 y) 98 = G' := fun W G G' x y => by rw [iA_sF, iA_sA]
        rw [e92, e98]
        by_cases e : j = w
        · rw [e, pk_us, pk_us]
        · rw [pk_un e, pk_un e]; exact w4 j (by omega)
end TELL
