/-! call: check, both sides -/
section CHECKR
variable {E : EE} {R S S1 S2 U U2 V W : SS} {b d k n m i j p td B a s q N w : Nat} {c v x y l : Int32} {f g : Nat → Int32} {z t hc pk : Nat → Nat} {wt : Nat → Int32}
theorem as_0 : asM S 0 = S := by rw [asM, cpK_0, cpK_0, sA_i, sA_i]
theorem q_check (h : Inv E S) : opE E S 270 273 4 6 [.int c] := by
  obtain ⟨hE, hpar, ⟨z, t, hc, pk, td, htd, hR⟩, hI, hTp, hWt, hSh, hKy⟩ := id h
  obtain ⟨b, hb1⟩ : ∃ b, b = 1 := ⟨1, rfl⟩
  have hb : bkb b := Or.inl hb1
  rw [← hb1] at hR
  have o9 := o_X hE hb1
  have o0 := o_B hE hb
  have o8 := o_I hE hb
  have o1 := o_L hE hb
  have o5 := o_P hE
  have o10 := o_M hE
  have m10 := m_M hE
  have m9 : ∀ S, misc (hp E S 0) 9 = true := fun S => misc_o o9
  have m0 : ∀ S, misc (hp E S b) 0 = true := fun S => misc_o o0
  have m8 : ∀ S, misc (hp E S (b + 13)) 8 = true := fun S => misc_o o8
  have m1 : ∀ S, misc (hp E S (b + 22)) 1 = true := fun S => misc_o o1
  have m5 : ∀ S, misc (hp E S 79) 5 = true := fun S => misc_o o5
  obtain ⟨n1, n14, n16, n18, n20, n22, n3, n5, n7⟩ := rl_okm hR
  obtain ⟨⟨g1, g3, g5, g7, g14, g16, g18, g20, g22, gt, gw⟩, hH, hP⟩ := rl_okh hR
  have ht := rl_tod hR
  obtain ⟨w, hw, w1, w2, w3⟩ := id hWt
  have i03 : iF (sF S 0 8 0) 0 3 = iF S 0 3 := iF_sF_ne (Or.inr (by omega))
  have i93 : ∀ k, iF (sF S 0 8 0) 93 k = iF S 93 k := fun k => iF_sF_ne (Or.inl (by omega))
  have short : Inv E (sF (sF S 0 8 0) 93 7 0) := by
    refine Inv_c h (fun q h0 _ h3 _ _ _ _ _ => by rw [sF, va_up, if_neg h3, sF, va_up, if_neg h0]) (by rw [iF_sF_ne (Or.inl (by omega)), i03]) (by rw [iF_sF_ne (Or.inl (by omega)), iF_sF]) (by rw [iF_sF_ne (Or.inr (by omega)), i93]) (by rw [iF_sF_ne (Or.inr (by omega)), i93]) iF_sF (fun q _ => by rw [iA_sF, iA_sF])
  rcases wi1 (m := 30) c (by omega) with h1 | ⟨N, hN1, hN, rfl, h1⟩
  · have h1 : wiS c 1 30 = 0 := h1
    refine ⟨-1000000001, sF S 0 8 0, sF (sF S 0 8 0) 93 7 0, fun d _ => ?_, fun d _ => ?_, short⟩
    · simp only [ment, mfl, List.length, List.replicate, List.cons_append, List.nil_append, Nat.reduceAdd, Nat.reduceSub]; simp only [r_al0 c_X_check_0, r_an0 c_X_check_0, r_gfS0 c_X_check_1 o9 rfl, r_is2 c_X_check_4, r_al0 c_X_check_5, r_an0 c_X_check_5, r_ci c_X_check_6, r_pfS c_X_check_7 o9 rfl, r_il1 c_X_check_10, r_ci c_X_check_11, r_ci c_X_check_12, r_ca3 c_X_check_14, r_ifne c_X_check_17, r_ci c_X_check_20, r_iret c_X_check_22, ↓reduceIte, hs_h, Option.bind_some, mfix_i, mfix_r, mfix_n, mfix_a, Option.toList_some, Option.toList_none, List.cons_append, List.nil_append, List.singleton_append, mwt, Value.category, Nat.reduceAdd, Nat.reduceLeDiff, true_and, and_true, and_self, w1, X_within_ok, h1, if_true]
    · simp only [ment, mfl, List.length, List.replicate, List.cons_append, List.nil_append, Nat.reduceAdd, Nat.reduceSub]; simp only [r_al0 c_M_check_0, r_gfS0 c_M_check_1 o10 rfl, r_is2 c_M_check_4, r_al0 c_M_check_5, r_ci c_M_check_6, r_pfS c_M_check_7 o10 rfl, r_il1 c_M_check_10, r_i2l c_M_check_11, r_cl c_M_check_12, r_cl c_M_check_13, r_ca3 c_M_check_16, r_ifne c_M_check_19, r_ci c_M_check_22, r_iret c_M_check_24, ↓reduceIte, hs_h, Option.bind_some, mfix_i, mfix_r, mfix_n, mfix_a, Option.toList_some, Option.toList_none, List.cons_append, List.nil_append, List.singleton_append, mwt, Value.category, Nat.reduceAdd, Nat.reduceLeDiff, true_and, and_true, and_self, i93, w2, M_within_k (y := 1) (w := 30) (y' := 1) (w' := 30) (by decide) (by decide), h1, if_true]
  have h1 : wiS (nI N) 1 30 = 1 := h1
  obtain ⟨i1, i2 | ⟨i2, z', t', hc', pk', td', htd', hR'⟩⟩ := id hI
  · have j2 : iF S 93 3 = 0 := i1.symm.trans i2
    refine ⟨-1000000002, sF S 0 8 0, sF (sF S 0 8 0) 93 7 0, fun d _ => ?_, fun d _ => ?_, short⟩
    · simp only [ment, mfl, List.length, List.replicate, List.cons_append, List.nil_append, Nat.reduceAdd, Nat.reduceSub]; simp only [r_al0 c_X_check_0, r_an0 c_X_check_0, r_gfS0 c_X_check_1 o9 rfl, r_is2 c_X_check_4, r_al0 c_X_check_5, r_an0 c_X_check_5, r_ci c_X_check_6, r_pfS c_X_check_7 o9 rfl, r_il1 c_X_check_10, r_ci c_X_check_11, r_ci c_X_check_12, r_ca3 c_X_check_14, r_ifne c_X_check_17, r_ci c_X_check_20, r_iret c_X_check_22, r_al0 c_X_check_23, r_an0 c_X_check_23, r_gfS0 c_X_check_24 o9 rfl, r_ifne c_X_check_27, r_ci c_X_check_30, r_iret c_X_check_32, ↓reduceIte, hs_h, Option.bind_some, mfix_i, mfix_r, mfix_n, mfix_a, Option.toList_some, Option.toList_none, List.cons_append, List.nil_append, List.singleton_append, mwt, Value.category, Nat.reduceAdd, Nat.reduceLeDiff, true_and, and_true, and_self, w1, X_within_ok, h1, one_nz, if_false, i03, i2, if_true]
    · have k3 : iF (sF (sF S 0 8 0) 93 7 0) 93 3 = 0 := by rw [iF_sF_ne (Or.inr (by omega)), i93]; exact j2
      simp only [ment, mfl, List.length, List.replicate, List.cons_append, List.nil_append, Nat.reduceAdd, Nat.reduceSub]; simp only [r_al0 c_M_check_0, r_gfS0 c_M_check_1 o10 rfl, r_is2 c_M_check_4, r_al0 c_M_check_5, r_ci c_M_check_6, r_pfS c_M_check_7 o10 rfl, r_il1 c_M_check_10, r_i2l c_M_check_11, r_cl c_M_check_12, r_cl c_M_check_13, r_ca3 c_M_check_16, r_ifne c_M_check_19, r_ci c_M_check_22, r_iret c_M_check_24, r_al0 c_M_check_25, r_gfS0 c_M_check_26 o10 rfl, r_ifne c_M_check_29, r_ci c_M_check_32, r_iret c_M_check_34, ↓reduceIte, hs_h, Option.bind_some, mfix_i, mfix_r, mfix_n, mfix_a, Option.toList_some, Option.toList_none, List.cons_append, List.nil_append, List.singleton_append, mwt, Value.category, Nat.reduceAdd, Nat.reduceLeDiff, true_and, and_true, and_self, i93, w2, M_within_k (y := 1) (w := 30) (y' := 1) (w' := 30) (by decide) (by decide), h1, one_nz, if_false, k3, if_true]
  · have j2 : iF S 93 3 = 1 := i1.symm.trans i2
    have b27 : bkb 27 := Or.inr (Or.inl rfl)
    have cS : ∀ q, q ≠ 0 → sF S 0 8 0 q = S q := fun q h0 => by rw [sF, va_up, if_neg h0]
    have txo7 : txo E (sF S 0 8 0) 27 := txo_A hE (fun j p hj hp => hKy.2.1 j p hj (by rw [iQ, cS _ (by omega)] at hp; exact hp))
    have rb : ∀ d, mres cT 266 d 0 (ment 2 [.ref 53, .ref 27]) [] (hs E (sF S 0 8 0)) = some (none, hs E (bbS (sF S 0 8 0) 53 27)) := fun d => B_become_ok hE b53 b27 (by omega) txo7
    have m53 : ∀ S, misc (hp E S 53) 0 = true := fun S => misc_o (o_B hE b53)
    have m27 : ∀ S, misc (hp E S 27) 0 = true := fun S => misc_o (o_B hE b27)
    have hRV : Rel E (bbS (sF S 0 8 0) 53 27) 53 z' t' hc' pk' td' (18 * td') (iA S 95) := Rel_copy (bb_copy (by omega) (by omega)) (Rel_cells (R := S) b27 (fun q hq => cS q (by omega)) (Nat.le_refl _) hR')
    obtain ⟨U2, oU, rU⟩ := X_check_lp (S := sF S 0 8 0) (wt := iA S 92) (w := w) (N := N) hE hw hN (by rw [iA_sF]) N 0 (bbS (sF S 0 8 0) 53 27) (bbS (sF S 0 8 0) 53 27) (rl_okh hRV) (fun q hq => bbS_o (by omega)) eqS_rf (by omega)
    rw [nI_0] at rU
    have u93 : ∀ k, iF U2 93 k = iF S 93 k := fun k => by rw [iF, oU 93 (by omega)]; exact i93 k
    have v93 : ∀ k, k ≠ 7 → iF (sF U2 93 7 0) 93 k = iF S 93 k := fun k hk => by rw [iF_sF_ne (Or.inr hk)]; exact u93 k
    have vA : ∀ q, q ≠ 0 → (q < 53 ∨ 79 ≤ q) → iA (sF U2 93 7 0) q = iA S q := fun q h0 hq => by rw [iA_sF, iA, oU q hq, cS q h0]
    have w94 : iA (asM (sF U2 93 7 0) 2578) 94 = cpK (iA S 95) (iA S 94) 2578 := by rw [asM, iA_sA, vA 95 (by omega) (by omega), vA 94 (by omega) (by omega)]
    have w96 : iA (asM (sF U2 93 7 0) 2578) 96 = cpK (iA S 94) (iA S 96) 2578 := by rw [asM, iA_sA_ne (by omega), iA_sA, vA 94 (by omega) (by omega), vA 96 (by omega) (by omega)]
    have wo : ∀ q, q ≠ 93 → q ≠ 94 → q ≠ 96 → asM (sF U2 93 7 0) 2578 q = U2 q := fun q a1 a2 a3 => by rw [asM, sA, va_up, if_neg a2, sA, va_up, if_neg a3, sF, va_up, if_neg a1]
    have hRW : Rel E (bbS (sF S 0 8 0) 53 27) 53 z' t' hc' pk' (td' + 0) (18 * td' + 18 * 0) (iA (asM (sF U2 93 7 0) 2578) 94) := by
      rw [w94]
      exact Rel_f (f := iA S 95) (fun q hq => by rw [cpK, if_pos hq]) hRV
    obtain ⟨W2, r, g, l, nW, fW, rW⟩ := M_check_2 (wt := iA S 92) (w := w) (N := N) hE hw hN N 0 _ (asM (sF U2 93 7 0) 2578) (fun j hj => by rw [iA, wo 98 (by omega) (by omega) (by omega), oU 98 (by omega), cS 98 (by omega)]; exact (w3 j hj).symm) hRW htd' (by omega) (by omega)
    have l1 := fun d => M_check_1 (d := d) (S := sF U2 93 7 0) (x := nI N) (y := nI w) (l4 := .retAddr 0) (l5 := .retAddr 0) hE 2578 0 (by omega)
    rw [as_0, nI_0] at l1
    have l3 := fun d => M_check_3 (d := d) (S := W2) (x := nI N) (y := nI w) (l3 := .int r) (l4 := g) hE 2578 0 (by omega)
    rw [cpK_0, sA_i, nI_0] at l3
    have rW : ∀ d, mres cT 273 d 82 [.ref 93, .int (nI N), .int (nI w), .int 0, .int 1, .int 0] [] (hs E (asM (sF U2 93 7 0) 2578)) = mres cT 273 d 167 [.ref 93, .int (nI N), .int (nI w), .int r, .int g, .int l] [] (hs E W2) := rW
    refine ⟨chV (iA S 92) w N z' t' pk' hc' 0 N (bbS (sF S 0 8 0) 53 27), U2, sA W2 94 (cpK (iA W2 96) (iA W2 94) 2578), fun d _ => ?_, fun d _ => ?_, ?_⟩
    · simp only [ment, mfl, List.length, List.replicate, List.cons_append, List.nil_append, Nat.reduceAdd, Nat.reduceSub]; simp only [r_al0 c_X_check_0, r_an0 c_X_check_0, r_gfS0 c_X_check_1 o9 rfl, r_is2 c_X_check_4, r_al0 c_X_check_5, r_an0 c_X_check_5, r_ci c_X_check_6, r_pfS c_X_check_7 o9 rfl, r_il1 c_X_check_10, r_ci c_X_check_11, r_ci c_X_check_12, r_ca3 c_X_check_14, r_ifne c_X_check_17, r_ci c_X_check_20, r_iret c_X_check_22, r_al0 c_X_check_23, r_an0 c_X_check_23, r_gfS0 c_X_check_24 o9 rfl, r_ifne c_X_check_27, r_ci c_X_check_30, r_iret c_X_check_32, r_al0 c_X_check_33, r_an0 c_X_check_33, r_gfSr c_X_check_34 o9 rfl, r_al0 c_X_check_37, r_an0 c_X_check_37, r_gfSr c_X_check_38 o9 rfl, r_cv2 c_X_check_41, r_ci c_X_check_44, r_is3 c_X_check_45, ↓reduceIte, hs_h, Option.bind_some, mfix_i, mfix_r, mfix_n, mfix_a, Option.toList_some, Option.toList_none, List.cons_append, List.nil_append, List.singleton_append, mwt, Value.category, Nat.reduceAdd, Nat.reduceLeDiff, true_and, and_true, and_self, w1, X_within_ok, h1, one_nz, if_false, i03, i2, m53, m27, rb, rU]
    · rw [← fW, fnM]
      simp only [ment, mfl, List.length, List.replicate, List.cons_append, List.nil_append, Nat.reduceAdd, Nat.reduceSub]; simp only [r_al0 c_M_check_0, r_gfS0 c_M_check_1 o10 rfl, r_is2 c_M_check_4, r_al0 c_M_check_5, r_ci c_M_check_6, r_pfS c_M_check_7 o10 rfl, r_il1 c_M_check_10, r_i2l c_M_check_11, r_cl c_M_check_12, r_cl c_M_check_13, r_ca3 c_M_check_16, r_ifne c_M_check_19, r_ci c_M_check_22, r_iret c_M_check_24, r_al0 c_M_check_25, r_gfS0 c_M_check_26 o10 rfl, r_ifne c_M_check_29, r_ci c_M_check_32, r_iret c_M_check_34, r_ci c_M_check_35, r_is3 c_M_check_36, ↓reduceIte, hs_h, Option.bind_some, mfix_i, mfix_r, mfix_n, mfix_a, Option.toList_some, Option.toList_none, List.cons_append, List.nil_append, List.singleton_append, mwt, Value.category, Nat.reduceAdd, Nat.reduceLeDiff, true_and, and_true, and_self, u93, w2, M_within_k (y := 1) (w := 30) (y' := 1) (w' := 30) (by decide) (by decide), h1, one_nz, if_false, v93 3 (by omega), j2, l1]
      simp only [r_ci c_M_check_74, r_is3 c_M_check_75, r_ci c_M_check_76, r_is4 c_M_check_77, r_ci c_M_check_79, r_is5 c_M_check_80, ↓reduceIte, hs_h, Option.bind_some, mfix_i, mfix_r, mfix_n, mfix_a, Option.toList_some, Option.toList_none, List.cons_append, List.nil_append, List.singleton_append, rW]
      simp only [r_ci c_M_check_167, r_is5 c_M_check_168, ↓reduceIte, hs_h, Option.bind_some, mfix_i, mfix_r, mfix_n, mfix_a, Option.toList_some, Option.toList_none, List.cons_append, List.nil_append, List.singleton_append, l3]
      by_cases g0 : g = 0
      · simp only [r_il4 c_M_check_198, r_ifeq c_M_check_200, r_il2 c_M_check_203, r_ci c_M_check_204, r_il1 c_M_check_205, r_imul c_M_check_206, r_icne c_M_check_207, r_ci c_M_check_210, r_goto c_M_check_211, r_ci c_M_check_214, r_il3 c_M_check_215, r_iadd c_M_check_216, r_iret c_M_check_217, ↓reduceIte, hs_h, Option.bind_some, mfix_i, mfix_r, mfix_n, mfix_a, Option.toList_some, Option.toList_none, List.cons_append, List.nil_append, List.singleton_append, g0, if_true]
      · by_cases e : nI w = nI (2 * N)
        · simp only [r_il4 c_M_check_198, r_ifeq c_M_check_200, r_il2 c_M_check_203, r_ci c_M_check_204, r_il1 c_M_check_205, r_imul c_M_check_206, r_icne c_M_check_207, r_ci c_M_check_210, r_goto c_M_check_211, r_ci c_M_check_214, r_il3 c_M_check_215, r_iadd c_M_check_216, r_iret c_M_check_217, ↓reduceIte, hs_h, Option.bind_some, mfix_i, mfix_r, mfix_n, mfix_a, Option.toList_some, Option.toList_none, List.cons_append, List.nil_append, List.singleton_append, g0, if_false, k2m, e, if_true]
        · simp only [r_il4 c_M_check_198, r_ifeq c_M_check_200, r_il2 c_M_check_203, r_ci c_M_check_204, r_il1 c_M_check_205, r_imul c_M_check_206, r_icne c_M_check_207, r_ci c_M_check_210, r_goto c_M_check_211, r_ci c_M_check_214, r_il3 c_M_check_215, r_iadd c_M_check_216, r_iret c_M_check_217, ↓reduceIte, hs_h, Option.bind_some, mfix_i, mfix_r, mfix_n, mfix_a, Option.toList_some, Option.toList_none, List.cons_append, List.nil_append, List.singleton_append, g0, if_false, k2m, e]
    · have x93 : ∀ k, k ≠ 12 → iF (sA W2 94 (cpK (iA W2 96) (iA W2 94) 2578)) 93 k = iF (sF U2 93 7 0) 93 k := fun k hk => by rw [iF_sA, nW.2 k hk, asM, iF_sA, iF_sA]
      have xo : ∀ q, q ≠ 93 → q ≠ 94 → q ≠ 96 → q ≠ 102 → q ≠ 106 → q ≠ 107 → sA W2 94 (cpK (iA W2 96) (iA W2 94) 2578) q = U2 q := fun q a1 a2 a3 a4 a5 a6 => by rw [sA, va_up, if_neg a2, nW.1 q a1 a2 a4 a5 a6, wo q a1 a2 a3]
      refine Inv_c h (fun q h0 hq h3 h4 h5 h6 h7 h8 => by rw [xo q h3 h4 h5 h6 h7 h8, oU q hq, cS q h0]) ?_ ?_ ?_ ?_ ?_ (fun q hq => ?_)
      · rw [iF, xo 0 (by omega) (by omega) (by omega) (by omega) (by omega) (by omega), oU 0 (by omega)]; exact i03
      · rw [iF, xo 0 (by omega) (by omega) (by omega) (by omega) (by omega) (by omega), oU 0 (by omega)]; exact iF_sF
      · rw [x93 3 (by omega), v93 3 (by omega)]
      · rw [x93 5 (by omega), v93 5 (by omega)]
      · rw [x93 7 (by omega), iF_sF]
      · rw [iA_sA, cpK, if_pos hq, iA, nW.1 96 (by omega) (by omega) (by omega) (by omega) (by omega)]
        have := congrFun w96 q
        rw [cpK, if_pos hq] at this
        exact this
end CHECKR
