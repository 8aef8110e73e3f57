/-! call: add -/
section ADDQ
variable {E : EE} {S S1 : SS} {b d k n m i j p a s q : Nat} {c v w x y l : Int32} {g : Nat → Int64} {u : Int64}
def shU (S : SS) (s p : Nat) (u : Int64) : SS := sL (sL S (84 + 2 * s + 1) (vp_updL (iL S (84 + 2 * s + 1)) p u)) 101 (vp_updL (iL S 101) (24 * s + p) u)
theorem shU_o (hs4 : s < 4) (h2 : q ≠ 85 + 2 * s) (h5 : q ≠ 101) : shU S s p u q = S q := by
  rw [shU, sL, va_up, if_neg h5, sL, va_up, if_neg (by omega)]
theorem InvH_up (h : InvH S) (hs4 : s < 4) (hp : p < 24) : InvH (shU S s p u) := by
  have e99 : iA (shU S s p u) 99 = iA S 99 := by rw [shU, iA_sL, iA_sL]
  have e100 : iA (shU S s p u) 100 = iA S 100 := by rw [shU, iA_sL, iA_sL]
  have e101 : iL (shU S s p u) 101 = vp_updL (iL S 101) (24 * s + p) u := by rw [shU, iL_sL]
  intro r hr
  obtain ⟨r1, r2, r3, r4, r5⟩ := h r hr
  have eQ : iQ (shU S s p u) 83 r = some (84 + 2 * r) := by rw [sS_Q (shU_o hs4 (by omega) (by omega))]; exact r1
  have eF : ∀ k, iF (shU S s p u) (84 + 2 * r) k = iF S (84 + 2 * r) k := fun k => sS_F (shU_o hs4 (by omega) (by omega))
  rw [e99, e100, e101, eF, eF]
  refine ⟨eQ, r2, r3, r4, fun j hj => ?_⟩
  by_cases e : r = s
  · subst e
    have f1 : iL (shU S r p u) (85 + 2 * r) = vp_updL (iL S (85 + 2 * r)) p u := by
      rw [shU, iL_sL_ne (by omega), show 85 + 2 * r = 84 + 2 * r + 1 by omega, iL_sL]
    rw [f1]
    by_cases e2 : j = p
    · subst e2; simp only [vp_updL, if_true]
    · simp only [vp_updL, e2, show ¬ 24 * r + j = 24 * r + p by omega, if_false]
      exact r5 j hj
  · have g2 : shU S s p u (85 + 2 * r) = S (85 + 2 * r) := shU_o hs4 (by omega) (by omega)
    have g3 : iL (shU S s p u) (85 + 2 * r) = iL S (85 + 2 * r) := by simp only [iL, g2]
    rw [g3]
    simp only [vp_updL, show ¬ 24 * r + j = 24 * s + p by omega, if_false]
    exact r5 j hj
theorem Inv_up (h : Inv E S) (hs4 : s < 4) (hp : p < 24) : Inv E (shU S s p u) :=
  Inv_S h (fun q h1 h2 => shU_o hs4 (by omega) (by omega)) (InvH_up h.2.2.2.2.2.2.1 hs4 hp)
theorem q_add (h : Inv E S) : opE E S 253 254 5 7 [.int c, .int v, .int w] := by
  obtain ⟨hE, hpar, ⟨z, t, hc, pk, td, htd, hR⟩, hI, hTp, hWt, hSh, hKy⟩ := id h
  obtain ⟨b, hb1⟩ : ∃ b, b = 1 := ⟨1, rfl⟩
  have hb : bkb b := Or.inl hb1
  rw [← hb1] at hR
  have o9 := o_X hE hb1
  have o0 := o_B hE hb
  have o8 := o_I hE hb
  have o1 := o_L hE hb
  have o5 := o_P hE
  have o10 := o_M hE
  have m10 := m_M hE
  have m9 : ∀ S, misc (hp E S 0) 9 = true := fun S => misc_o o9
  have m0 : ∀ S, misc (hp E S b) 0 = true := fun S => misc_o o0
  have m8 : ∀ S, misc (hp E S (b + 13)) 8 = true := fun S => misc_o o8
  have m1 : ∀ S, misc (hp E S (b + 22)) 1 = true := fun S => misc_o o1
  have m5 : ∀ S, misc (hp E S 79) 5 = true := fun S => misc_o o5
  obtain ⟨n1, n14, n16, n18, n20, n22, n3, n5, n7⟩ := rl_okm hR
  obtain ⟨⟨g1, g3, g5, g7, g14, g16, g18, g20, g22, gt, gw⟩, hH, hP⟩ := rl_okh hR
  have ht := rl_tod hR
  rcases wic (m := 3) c (by omega) with h1 | ⟨s, hs4, rfl, h1⟩
  · have h1 : wiS c 0 3 = 0 := h1
    refine op_v h (-1000000001) (fun d => ?_) (fun d => ?_)
    · simp only [ment, mfl, List.length, List.replicate, List.cons_append, List.nil_append, Nat.reduceAdd, Nat.reduceSub]; simp only [r_al0 c_X_add_0, r_an0 c_X_add_0, r_il1 c_X_add_1, r_cv2 c_X_add_2, r_as4 c_X_add_5, r_asn4 c_X_add_5, r_al4 c_X_add_7, r_an4 c_X_add_7, r_ifnonnull_r c_X_add_9, r_ifnonnull_n c_X_add_9, r_ci c_X_add_12, r_iret c_X_add_14, r_al4 c_X_add_15, r_an4 c_X_add_15, r_gfS0 c_X_add_17 o3 rfl, r_ci c_X_add_20, r_icne c_X_add_21, r_ci c_X_add_24, r_iret c_X_add_27, r_al4 c_X_add_28, r_an4 c_X_add_28, r_il2 c_X_add_30, r_cv2 c_X_add_31, r_ifne c_X_add_34, r_ci c_X_add_37, r_iret c_X_add_40, r_al4 c_X_add_41, r_an4 c_X_add_41, r_il2 c_X_add_43, r_il3 c_X_add_44, r_cv3 c_X_add_45, r_l2i c_X_add_48, r_iret c_X_add_49, ↓reduceIte, hs_h, Option.bind_some, mfix_i, mfix_r, mfix_n, mfix_a, Option.toList_some, Option.toList_none, List.cons_append, List.nil_append, List.singleton_append, mwt, Value.category, Nat.reduceAdd, Nat.reduceLeDiff, true_and, and_true, and_self, m9, X_sheetAt_n hE h1]
    · simp only [ment, mfl, List.length, List.replicate, List.cons_append, List.nil_append, Nat.reduceAdd, Nat.reduceSub]; simp only [r_il1 c_M_add_0, r_ca1 c_M_add_1, r_ifne c_M_add_4, r_ci c_M_add_7, r_iret c_M_add_9, ↓reduceIte, hs_h, Option.bind_some, mfix_i, mfix_r, mfix_n, mfix_a, Option.toList_some, Option.toList_none, List.cons_append, List.nil_append, List.singleton_append, mwt, Value.category, Nat.reduceAdd, Nat.reduceLeDiff, true_and, and_true, and_self, M_isSheet_ok, h1, if_true]
  have h1 : wiS (nI s) 0 3 = 1 := h1
  have hs4 : s < 4 := by omega
  obtain ⟨u1, u2, ⟨n, hn, u3, u4, u5⟩, u6, u7⟩ := hSh s hs4
  have sa : ∀ d, mres cT 244 d 0 (ment 2 [.ref 0, .int (nI s)]) [] (hs E S) = some (some (.ref (84 + 2 * s)), hs E S) := fun d => X_sheetAt_ok hE hs4 h1 u1
  have hX := shX_s hE hs4
  have o3 := hX.1
  have m3 : ∀ S, misc (hp E S (84 + 2 * s)) 3 = true := fun S => misc_o o3
  by_cases e : iA S 99 s = -1
  · refine op_v h (-1000000011) (fun d => ?_) (fun d => ?_)
    · simp only [ment, mfl, List.length, List.replicate, List.cons_append, List.nil_append, Nat.reduceAdd, Nat.reduceSub]; simp only [r_al0 c_X_add_0, r_an0 c_X_add_0, r_il1 c_X_add_1, r_cv2 c_X_add_2, r_as4 c_X_add_5, r_asn4 c_X_add_5, r_al4 c_X_add_7, r_an4 c_X_add_7, r_ifnonnull_r c_X_add_9, r_ifnonnull_n c_X_add_9, r_ci c_X_add_12, r_iret c_X_add_14, r_al4 c_X_add_15, r_an4 c_X_add_15, r_gfS0 c_X_add_17 o3 rfl, r_ci c_X_add_20, r_icne c_X_add_21, r_ci c_X_add_24, r_iret c_X_add_27, r_al4 c_X_add_28, r_an4 c_X_add_28, r_il2 c_X_add_30, r_cv2 c_X_add_31, r_ifne c_X_add_34, r_ci c_X_add_37, r_iret c_X_add_40, r_al4 c_X_add_41, r_an4 c_X_add_41, r_il2 c_X_add_43, r_il3 c_X_add_44, r_cv3 c_X_add_45, r_l2i c_X_add_48, r_iret c_X_add_49, ↓reduceIte, hs_h, Option.bind_some, mfix_i, mfix_r, mfix_n, mfix_a, Option.toList_some, Option.toList_none, List.cons_append, List.nil_append, List.singleton_append, mwt, Value.category, Nat.reduceAdd, Nat.reduceLeDiff, true_and, and_true, and_self, m9, sa, u2, e, if_true]
    · simp only [ment, mfl, List.length, List.replicate, List.cons_append, List.nil_append, Nat.reduceAdd, Nat.reduceSub]; simp only [r_il1 c_M_add_0, r_ca1 c_M_add_1, r_ifne c_M_add_4, r_ci c_M_add_7, r_iret c_M_add_9, r_al0 c_M_add_10, r_gfSr c_M_add_11 o10 rfl, r_il1 c_M_add_14, r_ial c_M_add_15, r_ifge c_M_add_16, r_ci c_M_add_19, r_iret c_M_add_22, ↓reduceIte, hs_h, Option.bind_some, mfix_i, mfix_r, mfix_n, mfix_a, Option.toList_some, Option.toList_none, List.cons_append, List.nil_append, List.singleton_append, mwt, Value.category, Nat.reduceAdd, Nat.reduceLeDiff, true_and, and_true, and_self, M_isSheet_ok, h1, one_nz, if_false, mia_I (iM99 hE) hs4 (by decide), e, show ((0 : Int32) ≤ -1) = False from eq_false (by decide)]
  have e0 : (0 : Int32) ≤ iA S 99 s := by
    rcases u6 with q | q | q | q
    · exact absurd q e
    · rw [q]; decide
    · rw [q]; decide
    · rw [q]; decide
  rcases ixc (n := n) v (by omega) with hx | ⟨p, hpn, rfl, hx⟩
  · have f1 : shS (nI n) v = 0 := by
      rw [shS]
      rcases hx with hx | hx
      · rw [if_pos hx]
      · by_cases g0 : v < 0
        · rw [if_pos g0]
        · rw [if_neg g0, if_pos hx]
    refine op_v h (-1000000013) (fun d => ?_) (fun d => ?_)
    · simp only [ment, mfl, List.length, List.replicate, List.cons_append, List.nil_append, Nat.reduceAdd, Nat.reduceSub]; simp only [r_al0 c_X_add_0, r_an0 c_X_add_0, r_il1 c_X_add_1, r_cv2 c_X_add_2, r_as4 c_X_add_5, r_asn4 c_X_add_5, r_al4 c_X_add_7, r_an4 c_X_add_7, r_ifnonnull_r c_X_add_9, r_ifnonnull_n c_X_add_9, r_ci c_X_add_12, r_iret c_X_add_14, r_al4 c_X_add_15, r_an4 c_X_add_15, r_gfS0 c_X_add_17 o3 rfl, r_ci c_X_add_20, r_icne c_X_add_21, r_ci c_X_add_24, r_iret c_X_add_27, r_al4 c_X_add_28, r_an4 c_X_add_28, r_il2 c_X_add_30, r_cv2 c_X_add_31, r_ifne c_X_add_34, r_ci c_X_add_37, r_iret c_X_add_40, r_al4 c_X_add_41, r_an4 c_X_add_41, r_il2 c_X_add_43, r_il3 c_X_add_44, r_cv3 c_X_add_45, r_l2i c_X_add_48, r_iret c_X_add_49, ↓reduceIte, hs_h, Option.bind_some, mfix_i, mfix_r, mfix_n, mfix_a, Option.toList_some, Option.toList_none, List.cons_append, List.nil_append, List.singleton_append, mwt, Value.category, Nat.reduceAdd, Nat.reduceLeDiff, true_and, and_true, and_self, m9, sa, u2, e, if_false, m3, S_has_ok hX, u3, f1, if_true]
    · simp only [ment, mfl, List.length, List.replicate, List.cons_append, List.nil_append, Nat.reduceAdd, Nat.reduceSub]; simp only [r_il1 c_M_add_0, r_ca1 c_M_add_1, r_ifne c_M_add_4, r_ci c_M_add_7, r_iret c_M_add_9, r_al0 c_M_add_10, r_gfSr c_M_add_11 o10 rfl, r_il1 c_M_add_14, r_ial c_M_add_15, r_ifge c_M_add_16, r_ci c_M_add_19, r_iret c_M_add_22, r_il2 c_M_add_23, r_i2l c_M_add_24, r_cl c_M_add_25, r_al0 c_M_add_26, r_gfSr c_M_add_27 o10 rfl, r_il1 c_M_add_30, r_ial c_M_add_31, r_ci c_M_add_32, r_isub c_M_add_33, r_i2l c_M_add_34, r_ca3 c_M_add_35, r_ifne c_M_add_38, r_ci c_M_add_41, r_iret c_M_add_44, ↓reduceIte, hs_h, Option.bind_some, mfix_i, mfix_r, mfix_n, mfix_a, Option.toList_some, Option.toList_none, List.cons_append, List.nil_append, List.singleton_append, mwt, Value.category, Nat.reduceAdd, Nat.reduceLeDiff, true_and, and_true, and_self, M_isSheet_ok, h1, one_nz, if_false, mia_I (iM99 hE) hs4 (by decide), mia_I (iM100 hE) hs4 (by decide), e0, if_true, u4, M_within_k (y := 0) (y' := 0) (w := nI n - 1) (by decide) rfl, th_eq (show n < 2 ^ 31 by omega), hx]
  · have f1 : shS (nI n) (nI p) = 1 := by
      rw [shS, if_neg (nI_pos (by omega)), if_neg (nI_ge (by omega) (by omega)), if_neg (nI_ge (by omega) (by omega))]
    have hp4 : p < 24 := by omega
    have e7 : iL S 101 (24 * s + p) = iL S (84 + 2 * s + 1) p := by rw [show 84 + 2 * s + 1 = 85 + 2 * s by omega]; exact (u7 p hp4).symm
    refine ⟨(nwS (iF S (84 + 2 * s) 1) (iL S (84 + 2 * s + 1) p + w.toInt64)).toInt32, sL S (84 + 2 * s + 1) (vp_updL (iL S (84 + 2 * s + 1)) p (nwS (iF S (84 + 2 * s) 1) (iL S (84 + 2 * s + 1) p + w.toInt64))), shU S s p (nwS (iF S (84 + 2 * s) 1) (iL S (84 + 2 * s + 1) p + w.toInt64)), fun d _ => ?_, fun d _ => ?_, Inv_up h hs4 hp4⟩
    · simp only [ment, mfl, List.length, List.replicate, List.cons_append, List.nil_append, Nat.reduceAdd, Nat.reduceSub]; simp only [r_al0 c_X_add_0, r_an0 c_X_add_0, r_il1 c_X_add_1, r_cv2 c_X_add_2, r_as4 c_X_add_5, r_asn4 c_X_add_5, r_al4 c_X_add_7, r_an4 c_X_add_7, r_ifnonnull_r c_X_add_9, r_ifnonnull_n c_X_add_9, r_ci c_X_add_12, r_iret c_X_add_14, r_al4 c_X_add_15, r_an4 c_X_add_15, r_gfS0 c_X_add_17 o3 rfl, r_ci c_X_add_20, r_icne c_X_add_21, r_ci c_X_add_24, r_iret c_X_add_27, r_al4 c_X_add_28, r_an4 c_X_add_28, r_il2 c_X_add_30, r_cv2 c_X_add_31, r_ifne c_X_add_34, r_ci c_X_add_37, r_iret c_X_add_40, r_al4 c_X_add_41, r_an4 c_X_add_41, r_il2 c_X_add_43, r_il3 c_X_add_44, r_cv3 c_X_add_45, r_l2i c_X_add_48, r_iret c_X_add_49, ↓reduceIte, hs_h, Option.bind_some, mfix_i, mfix_r, mfix_n, mfix_a, Option.toList_some, Option.toList_none, List.cons_append, List.nil_append, List.singleton_append, mwt, Value.category, Nat.reduceAdd, Nat.reduceLeDiff, true_and, and_true, and_self, m9, sa, u2, e, if_false, m3, S_has_ok hX, u3, f1, one_nz, S_raise_ok hX u3 hn hpn]
    · have i99 : ∀ g, iA (sL S (84 + 2 * s + 1) g) 99 = iA S 99 := fun g => iA_sL
      have i100 : ∀ g, iA (sL S (84 + 2 * s + 1) g) 100 = iA S 100 := fun g => iA_sL
      have i101 : ∀ g, iL (sL S (84 + 2 * s + 1) g) 101 = iL S 101 := fun g => iL_sL_ne (by omega)
      have hlt : 24 * s + p < 96 := by omega
      simp only [ment, mfl, List.length, List.replicate, List.cons_append, List.nil_append, Nat.reduceAdd, Nat.reduceSub]
      rcases u6 with q | q | q | q
      · exact absurd q e
      all_goals
        rw [u2, q]
        simp only [r_il1 c_M_add_0, r_ca1 c_M_add_1, r_ifne c_M_add_4, r_ci c_M_add_7, r_iret c_M_add_9, r_al0 c_M_add_10, r_gfSr c_M_add_11 o10 rfl, r_il1 c_M_add_14, r_ial c_M_add_15, r_ifge c_M_add_16, r_ci c_M_add_19, r_iret c_M_add_22, r_il2 c_M_add_23, r_i2l c_M_add_24, r_cl c_M_add_25, r_al0 c_M_add_26, r_gfSr c_M_add_27 o10 rfl, r_il1 c_M_add_30, r_ial c_M_add_31, r_ci c_M_add_32, r_isub c_M_add_33, r_i2l c_M_add_34, r_ca3 c_M_add_35, r_ifne c_M_add_38, r_ci c_M_add_41, r_iret c_M_add_44, r_ci c_M_add_45, r_il1 c_M_add_47, r_imul c_M_add_48, r_il2 c_M_add_49, r_iadd c_M_add_50, r_is4 c_M_add_51, r_al0 c_M_add_53, r_gfSr c_M_add_54 o10 rfl, r_il4 c_M_add_57, r_lal c_M_add_59, r_il3 c_M_add_60, r_i2l c_M_add_61, r_ladd c_M_add_62, r_ls5 c_M_add_63, r_al0 c_M_add_65, r_gfSr c_M_add_66 o10 rfl, r_il4 c_M_add_69, r_al0 c_M_add_71, r_gfSr c_M_add_72 o10 rfl, r_il1 c_M_add_75, r_ial c_M_add_76, r_ifne c_M_add_77, r_ll5 c_M_add_80, r_l2i c_M_add_82, r_i2b c_M_add_83, r_i2l c_M_add_84, r_goto c_M_add_85, r_al0 c_M_add_88, r_gfSr c_M_add_89 o10 rfl, r_il1 c_M_add_92, r_ial c_M_add_93, r_ci c_M_add_94, r_icne c_M_add_95, r_ll5 c_M_add_98, r_l2i c_M_add_100, r_i2s c_M_add_101, r_i2l c_M_add_102, r_goto c_M_add_103, r_ll5 c_M_add_106, r_las c_M_add_108, r_al0 c_M_add_109, r_gfSr c_M_add_110 o10 rfl, r_il4 c_M_add_113, r_lal c_M_add_115, r_l2i c_M_add_116, r_iret c_M_add_117, ↓reduceIte, hs_h, Option.bind_some, mfix_i, mfix_r, mfix_n, mfix_a, Option.toList_some, Option.toList_none, List.cons_append, List.nil_append, List.singleton_append, mwt, Value.category, Nat.reduceAdd, Nat.reduceLeDiff, true_and, and_true, and_self, M_isSheet_ok, h1, one_nz, if_false, mia_I (iM99 hE) hs4 (by decide), mia_I (iM100 hE) hs4 (by decide), i99, i100, i101, q, if_true, u4, M_within_k (y := 0) (y' := 0) (w := nI n - 1) (by decide) rfl, th_eq (show n < 2 ^ 31 by omega), hx, k24s s hs4, nI_add, mla_G (gM101 hE) hlt (by decide), mls_G (gM101 hE) hlt (by decide), hs_G (gM101 hE), e7, iL_sL, pk_uLs, show ((0 : Int32) ≤ 0) = True from eq_true (by decide), show ((0 : Int32) ≤ 1) = True from eq_true (by decide), show ((0 : Int32) ≤ 2) = True from eq_true (by decide), show ((2 : Int32) = 0) = False from eq_false (by decide), show ((2 : Int32) = 1) = False from eq_false (by decide), nwS, shU]
end ADDQ
