/-! calls: keep, restore -/
section KEEP
variable {E : EE} {R S S1 S2 V U : SS} {b d k n m i j p td B a s q : Nat} {c v w x y l : Int32} {z t hc pk : Nat → Nat} {f f' f0 f1 g g' : Nat → Int32}
theorem Rel_f (e : ∀ q, q < 2578 → f' q = f q) (h : Rel E R b z t hc pk td B f) : Rel E R b z t hc pk td B f' := by
  obtain ⟨n1, n14, n16, n18, n20, n22, n3, n5, n7⟩ := rl_okm h
  have htx := rl_tx h
  have fr : ∀ lo hi, hi ≤ 2578 → ∀ q, lo ≤ q → q < hi → f' q = f q := fun lo hi hh q h1 h2 => e q (by omega)
  refine ⟨rl_okh h, cg_okm (fr 2 11 (by omega)) (rl_okm h), ?_, ?_, cg_dou (e 11 (by omega)) (fr 850 890 (by omega)) (rl_dou h), cg_12 (fr 13 17 (by omega)) (rl_put h), cg_20 n1.2 (fr 20 92 (by omega)) (rl_cas h), cg_92 n14.2 (fr 92 164 (by omega)) (rl_sen h), cg_sps n16.2 (fr 164 254 (by omega)) (rl_sps h), rl_spg h, cg_lat n1.2 (fr 20 92 (by omega)) (rl_lat h), ⟨cg_gap n18.2 (fr 254 314 (by omega)) (rl_gap h).1, (rl_gap h).2⟩, cg_314 n20.2 (fr 314 474 (by omega)) (rl_cre h), cg_474 n3.2 (fr 474 634 (by omega)) (rl_pap h), ⟨(rl_mem h).1, cg_634 n5.2 (fr 634 670 (by omega)) (rl_mem h).2⟩, cg_670 n7.2 (fr 670 850 (by omega)) (rl_hea h), rl_unq h, cg_was n7.2 (fr 670 850 (by omega)) (rl_was h), cg_890 (fr 890 914 (by omega)) (rl_tab h), cg_txt (fr 914 2578 (by omega)) htx.1 htx.2.1 htx.2.2 (fun j hj => ⟨rfl, rfl⟩) (rl_txt h)⟩
  · rw [e 0 (by omega)]; exact rl_tod h
  · rw [e 1 (by omega)]; exact rl_see h
def cpK (g h : Nat → Int32) (n : Nat) : Nat → Int32 := fun j => if j < n then g j else h j
theorem cpK_s {h : Nat → Int32} : upd (cpK g h i) i (g i) = cpK g h (i + 1) := by
  funext j
  by_cases e : j = i
  · subst e; rw [pk_us, cpK, if_pos (by omega)]
  · rw [pk_un e, cpK, cpK]
    by_cases e2 : j < i
    · rw [if_pos e2, if_pos (by omega)]
    · rw [if_neg e2, if_neg (by omega)]
theorem cpK_0 {h : Nat → Int32} : cpK g h 0 = h := by funext j; rw [cpK, if_neg (Nat.not_lt_zero j)]
theorem sA_id : sA S a (iA S a) = S := by
  funext q
  by_cases e : q = a
  · subst e; simp only [sA, va_up, if_true, iA]
  · rw [sA, va_up, if_neg e]
theorem iM95 (hE : okE E) : isI E 95 2578 := ⟨fun S => hp_r (o := 16) hE (by omega), by have := hE.1; omega⟩
theorem k2578 : nI 2578 = 2578 := by decide
theorem M_keep_ok (hE : okE E) : ∀ d, mres cT 275 d 0 (ment 2 [.ref 93]) [] (hs E S) = some (some (.int (iA S 94 0)), hs E (sF (sA S 95 (cpK (iA S 94) (iA S 95) 2578)) 93 3 1)) := fun d => by
  have o10 := o_M hE
  have m10 := m_M hE
  have lp : ∀ m i, i + m = 2578 → mres cT 275 d 2 [.ref 93, .int (nI i)] [] (hs E (sA S 95 (cpK (iA S 94) (iA S 95) i))) = some (some (.int (iA S 94 0)), hs E (sF (sA S 95 (cpK (iA S 94) (iA S 95) 2578)) 93 3 1)) := by
    intro m
    induction m with
    | zero =>
      intro i hi
      have ei : i = 2578 := by omega
      subst ei
      simp only [r_il1 c_M_keep_2, r_ci c_M_keep_3, r_icge c_M_keep_6, ↓reduceIte, hs_h, Option.bind_some, mfix_i, mfix_r, mfix_n, mfix_a, Option.toList_some, Option.toList_none, List.cons_append, List.nil_append, List.singleton_append, k2578, show ((2578 : Int32) ≤ 2578) = True from eq_true (by decide), if_true]
      simp only [r_al0 c_M_keep_27, r_ci c_M_keep_28, r_pfZ c_M_keep_29 o10 rfl, r_al0 c_M_keep_32, r_gfSr c_M_keep_33 o10 rfl, r_ci c_M_keep_36, r_ial c_M_keep_37, r_iret c_M_keep_38, ↓reduceIte, hs_h, Option.bind_some, mfix_i, mfix_r, mfix_n, mfix_a, Option.toList_some, Option.toList_none, List.cons_append, List.nil_append, List.singleton_append, mwt, Value.category, Nat.reduceAdd, Nat.reduceLeDiff, true_and, and_true, and_self, or_true, true_or, m10, mn0 hE, iA_sF, iA_sA_ne (show (94 : Nat) ≠ 95 by decide)]
    | succ m ih =>
      intro i hi
      have ih := ih (i + 1) (by omega)
      rw [← cpK_s] at ih
      have a1 : ¬ (2578 : Int32) ≤ nI i := by rw [← k2578]; exact nI_ge (by omega) (by omega)
      simp only [r_il1 c_M_keep_2, r_ci c_M_keep_3, r_icge c_M_keep_6, ↓reduceIte, hs_h, Option.bind_some, mfix_i, mfix_r, mfix_n, mfix_a, Option.toList_some, Option.toList_none, List.cons_append, List.nil_append, List.singleton_append, a1, if_false]
      simp only [r_al0 c_M_keep_9, r_gfSr c_M_keep_10 o10 rfl, r_il1 c_M_keep_13, r_al0 c_M_keep_14, r_gfSr c_M_keep_15 o10 rfl, r_il1 c_M_keep_18, r_ial c_M_keep_19, r_ias c_M_keep_20, r_inc1 c_M_keep_21, r_goto c_M_keep_24, ↓reduceIte, hs_h, Option.bind_some, mfix_i, mfix_r, mfix_n, mfix_a, Option.toList_some, Option.toList_none, List.cons_append, List.nil_append, List.singleton_append, mia_94 hE (show i < 2578 by omega), iA_sA_ne (show (94 : Nat) ≠ 95 by decide), mis_I (iM95 hE) (show i < 2578 by omega) (by decide), hs_I (iM95 hE), iA_sA, sA_sA, nI_1, ih]
  have := lp 2578 0 (by omega)
  rw [cpK_0, sA_id, show nI 0 = 0 by decide] at this
  simp only [ment, mfl, List.length, List.replicate, List.cons_append, List.nil_append, Nat.reduceAdd, Nat.reduceSub]
  simp only [r_ci c_M_keep_0, r_is1 c_M_keep_1, ↓reduceIte, hs_h, Option.bind_some, mfix_i, mfix_r, mfix_n, mfix_a, Option.toList_some, Option.toList_none, List.cons_append, List.nil_append, List.singleton_append, this]
theorem M_restore_ok (hE : okE E) (hk : iF S 93 3 = 1) : ∀ d, mres cT 277 d 0 (ment 2 [.ref 93]) [] (hs E S) = some (some (.int (iA S 95 0)), hs E (sA S 94 (cpK (iA S 95) (iA S 94) 2578))) := fun d => by
  have o10 := o_M hE
  have m10 := m_M hE
  have lp : ∀ m i, i + m = 2578 → mres cT 277 d 12 [.ref 93, .int (nI i)] [] (hs E (sA S 94 (cpK (iA S 95) (iA S 94) i))) = some (some (.int (iA S 95 0)), hs E (sA S 94 (cpK (iA S 95) (iA S 94) 2578))) := by
    intro m
    induction m with
    | zero =>
      intro i hi
      have ei : i = 2578 := by omega
      subst ei
      have e0 : cpK (iA S 95) (iA S 94) 2578 0 = iA S 95 0 := by rw [cpK, if_pos (by decide)]
      simp only [r_il1 c_M_restore_12, r_ci c_M_restore_13, r_icge c_M_restore_16, ↓reduceIte, hs_h, Option.bind_some, mfix_i, mfix_r, mfix_n, mfix_a, Option.toList_some, Option.toList_none, List.cons_append, List.nil_append, List.singleton_append, k2578, show ((2578 : Int32) ≤ 2578) = True from eq_true (by decide), if_true]
      simp only [r_al0 c_M_restore_37, r_gfSr c_M_restore_38 o10 rfl, r_ci c_M_restore_41, r_ial c_M_restore_42, r_iret c_M_restore_43, ↓reduceIte, hs_h, Option.bind_some, mfix_i, mfix_r, mfix_n, mfix_a, Option.toList_some, Option.toList_none, List.cons_append, List.nil_append, List.singleton_append, mn0 hE, iA_sA, e0]
    | succ m ih =>
      intro i hi
      have ih := ih (i + 1) (by omega)
      rw [← cpK_s] at ih
      have a1 : ¬ (2578 : Int32) ≤ nI i := by rw [← k2578]; exact nI_ge (by omega) (by omega)
      simp only [r_il1 c_M_restore_12, r_ci c_M_restore_13, r_icge c_M_restore_16, ↓reduceIte, hs_h, Option.bind_some, mfix_i, mfix_r, mfix_n, mfix_a, Option.toList_some, Option.toList_none, List.cons_append, List.nil_append, List.singleton_append, a1, if_false]
      simp only [r_al0 c_M_restore_19, r_gfSr c_M_restore_20 o10 rfl, r_il1 c_M_restore_23, r_al0 c_M_restore_24, r_gfSr c_M_restore_25 o10 rfl, r_il1 c_M_restore_28, r_ial c_M_restore_29, r_ias c_M_restore_30, r_inc1 c_M_restore_31, r_goto c_M_restore_34, ↓reduceIte, hs_h, Option.bind_some, mfix_i, mfix_r, mfix_n, mfix_a, Option.toList_some, Option.toList_none, List.cons_append, List.nil_append, List.singleton_append, mia_I (iM95 hE) (show i < 2578 by omega) (by decide), iA_sA_ne (show (95 : Nat) ≠ 94 by decide), mis_94 hE (show i < 2578 by omega), hs_94 hE, iA_sA, sA_sA, nI_1, ih]
  have := lp 2578 0 (by omega)
  rw [cpK_0, sA_id, show nI 0 = 0 by decide] at this
  simp only [ment, mfl, List.length, List.replicate, List.cons_append, List.nil_append, Nat.reduceAdd, Nat.reduceSub]
  simp only [r_al0 c_M_restore_0, r_gfS0 c_M_restore_1 o10 rfl, r_ifne c_M_restore_4, r_ci c_M_restore_7, r_iret c_M_restore_9, r_ci c_M_restore_10, r_is1 c_M_restore_11, ↓reduceIte, hs_h, Option.bind_some, mfix_i, mfix_r, mfix_n, mfix_a, Option.toList_some, Option.toList_none, List.cons_append, List.nil_append, List.singleton_append, hk, one_nz, if_false, if_true, this]
/-- only the image and its numbers have changed -/
def chGi (S S' : SS) : Prop := (∀ q, (1 ≤ q ∧ q ≤ 26 ∨ 53 ≤ q) → q ≠ 93 → q ≠ 95 → S' q = S q) ∧ (∀ k, k ≠ 3 → iF S' 93 k = iF S 93 k) ∧ ∀ k, k ≠ 3 → iF S' 0 k = iF S 0 k
theorem Inv_I (h : Inv E S) (e : chGi S S1) (hI : InvI E S1) (hA : txA E S1 27) : Inv E S1 := by
  obtain ⟨h1, h2, ⟨z, t, hc, pk, td, b1, b2⟩, -, ⟨n, T, t1, t2, t3⟩, ⟨w, w1, w2, w3, w4⟩, hH, ⟨k1, -, k3⟩⟩ := h
  obtain ⟨e1, e2, e0⟩ := e
  have ec : ∀ q, 53 ≤ q → q ≠ 93 → q ≠ 95 → S1 q = S q := fun q h => e1 q (Or.inr h)
  refine ⟨h1, h2, ⟨z, t, hc, pk, td, b1, ?_⟩, hI, ⟨n, T, ?_, ?_, ?_⟩, ⟨w, w1, ?_, ?_, ?_⟩, fun s hs => ?_, ⟨?_, hA, ?_⟩⟩
  · have e94 : iA S1 94 = iA S 94 := by rw [iA, ec 94 (by omega) (by omega) (by omega)]
    rw [e94]
    exact Rel_cells (Or.inl rfl) (fun q hq => e1 q (by omega) (by omega) (by omega)) (Nat.le_refl _) b2
  · unfold tpS at t1 ⊢
    rw [iF, iA, ec 79 (by omega) (by omega) (by omega), ec 80 (by omega) (by omega) (by omega)]
    exact t1
  · rw [e2 5 (by omega)]; exact t2
  · rw [iA, ec 97 (by omega) (by omega) (by omega)]; exact t3
  · rw [e0 8 (by omega)]; exact w2
  · rw [e2 7 (by omega)]; exact w3
  · rw [iA, iA, ec 92 (by omega) (by omega) (by omega), ec 98 (by omega) (by omega) (by omega)]; exact w4
  · have := hH s hs
    unfold iQ iF iA iL at this ⊢
    rw [ec 83 (by omega) (by omega) (by omega), ec (84 + 2 * s) (by omega) (by omega) (by omega), ec (85 + 2 * s) (by omega) (by omega) (by omega), ec 99 (by omega) (by omega) (by omega), ec 100 (by omega) (by omega) (by omega), ec 101 (by omega) (by omega) (by omega)]
    exact this
  · intro j p hj hp
    rw [iQ, e1 (1 + 23) (by omega) (by omega) (by omega)] at hp
    exact k1 j p hj hp
  · intro j hj
    rw [iQ, iQ, ec 104 (by omega) (by omega) (by omega), ec 105 (by omega) (by omega) (by omega)]
    exact k3 j hj
theorem q_keep (h : Inv E S) : opE E S 274 275 1 2 [] := by
  obtain ⟨hE, hpar, ⟨z, t, hc, pk, td, htd, hR⟩, hI, hTp, hWt, hSh, hKy⟩ := id h
  obtain ⟨b, hb1⟩ : ∃ b, b = 1 := ⟨1, rfl⟩
  have hb : bkb b := Or.inl hb1
  rw [← hb1] at hR
  have o9 := o_X hE hb1
  have o0 := o_B hE hb
  have o8 := o_I hE hb
  have o1 := o_L hE hb
  have o5 := o_P hE
  have o10 := o_M hE
  have m10 := m_M hE
  have m9 : ∀ S, misc (hp E S 0) 9 = true := fun S => misc_o o9
  have m0 : ∀ S, misc (hp E S b) 0 = true := fun S => misc_o o0
  have m8 : ∀ S, misc (hp E S (b + 13)) 8 = true := fun S => misc_o o8
  have m1 : ∀ S, misc (hp E S (b + 22)) 1 = true := fun S => misc_o o1
  have m5 : ∀ S, misc (hp E S 79) 5 = true := fun S => misc_o o5
  obtain ⟨n1, n14, n16, n18, n20, n22, n3, n5, n7⟩ := rl_okm hR
  obtain ⟨⟨g1, g3, g5, g7, g14, g16, g18, g20, g22, gt, gw⟩, hH, hP⟩ := rl_okh hR
  have ht := rl_tod hR
  have txo1 : txo E S b := by subst hb1; exact txo_A hE hKy.1
  have rb : ∀ d, mres cT 266 d 0 (ment 2 [.ref 27, .ref b]) [] (hs E S) = some (none, hs E (bbS S 27 b)) := fun d => B_become_ok hE (Or.inr (Or.inl rfl)) hb (by omega) txo1
  have m27 : ∀ S, misc (hp E S 27) 0 = true := fun S => misc_o (o_B hE (Or.inr (Or.inl rfl)))
  have c0 : iF (bbS S 27 b) b 8 = iF S b 8 := by rw [iF, bbS_o (by omega)]
  have c1 : iF (sF (bbS S 27 b) 0 3 1) b 8 = iF S b 8 := by rw [iF_sF_ne (Or.inl (by omega)), c0]
  have c94 : iA (sF (bbS S 27 b) 0 3 1) 94 = iA S 94 := by rw [iA_sF, iA, bbS_o (by omega)]
  refine ⟨iF S b 8, sF (bbS S 27 b) 0 3 1, sF (sA (sF (bbS S 27 b) 0 3 1) 95 (cpK (iA S 94) (iA (sF (bbS S 27 b) 0 3 1) 95) 2578)) 93 3 1, fun d _ => ?_, fun d _ => ?_, ?_⟩
  · simp only [ment, mfl, List.length, List.replicate, List.cons_append, List.nil_append, Nat.reduceAdd, Nat.reduceSub]; simp only [r_al0 c_X_keep_0, r_an0 c_X_keep_0, r_gfSr c_X_keep_1 o9 rfl, r_al0 c_X_keep_4, r_an0 c_X_keep_4, r_gfSr c_X_keep_5 o9 rfl, r_cv2 c_X_keep_8, r_al0 c_X_keep_11, r_an0 c_X_keep_11, r_ci c_X_keep_12, r_pfZ c_X_keep_13 o9 rfl, r_al0 c_X_keep_16, r_an0 c_X_keep_16, r_gfSr c_X_keep_17 o9 rfl, r_gfS0 c_X_keep_20 o0 rfl, r_iret c_X_keep_23, ↓reduceIte, hs_h, Option.bind_some, mfix_i, mfix_r, mfix_n, mfix_a, Option.toList_some, Option.toList_none, List.cons_append, List.nil_append, List.singleton_append, mwt, Value.category, Nat.reduceAdd, Nat.reduceLeDiff, true_and, and_true, and_self, m0, m27, rb, or_true, true_or, c1]
  · rw [M_keep_ok hE d, c94, ht.1, ht.2.2]
  · subst hb1
    have hq : ∀ q, q ≠ 0 → q ≠ 93 → q ≠ 95 → sF (sA (sF (bbS S 27 1) 0 3 1) 95 (cpK (iA S 94) (iA (sF (bbS S 27 1) 0 3 1) 95) 2578)) 93 3 1 q = bbS S 27 1 q := fun q h0 h1 h2 => by
      rw [sF, va_up, if_neg h1, sA, va_up, if_neg h2, sF, va_up, if_neg h0]
    refine Inv_I h ⟨fun q h0 h1 h2 => ?_, fun k hk => ?_, fun k hk => ?_⟩ ⟨?_, Or.inr ⟨?_, z, t, hc, pk, td, htd, ?_⟩⟩ ?_
    · rw [hq q (by omega) h1 h2, bbS_o (by omega)]
    · rw [iF_sF_ne (Or.inr hk), iF_sA, iF_sF_ne (Or.inl (by omega)), iF, bbS_o (by omega)]
    · rw [iF_sF_ne (Or.inl (by omega)), iF_sA, iF_sF_ne (Or.inr hk), iF, bbS_o (by omega)]
    · rw [iF_sF, iF_sF_ne (Or.inl (by omega)), iF_sA, iF_sF]
    · rw [iF_sF_ne (Or.inl (by omega)), iF_sA, iF_sF]
    · have eG : ∀ (W : SS) (G : Nat → Int32), iA (sF (sA W 95 G) 93 3 1) 95 = G := fun W G => by rw [iA_sF, iA_sA]
      rw [eG]
      refine Rel_f (f := iA S 94) (fun q hq => by rw [cpK, if_pos hq]) (Rel_cells (R := bbS S 27 1) (Or.inr (Or.inl rfl)) (fun q h1 => hq q (by omega) (by omega) (by omega)) (Nat.le_refl _) (Rel_copy (bb_copy (by omega) (by omega)) hR))
    · intro j p hj hp
      rw [sS_Q (hq (27 + 23) (by omega) (by omega) (by omega)), bb_T (by omega) j hj] at hp
      exact hKy.1 j p hj hp
theorem q_restore (h : Inv E S) : opE E S 276 277 1 2 [] := by
  obtain ⟨hE, hpar, ⟨z, t, hc, pk, td, htd, hR⟩, hI, hTp, hWt, hSh, hKy⟩ := id h
  obtain ⟨b, hb1⟩ : ∃ b, b = 1 := ⟨1, rfl⟩
  have hb : bkb b := Or.inl hb1
  rw [← hb1] at hR
  have o9 := o_X hE hb1
  have o0 := o_B hE hb
  have o8 := o_I hE hb
  have o1 := o_L hE hb
  have o5 := o_P hE
  have o10 := o_M hE
  have m10 := m_M hE
  have m9 : ∀ S, misc (hp E S 0) 9 = true := fun S => misc_o o9
  have m0 : ∀ S, misc (hp E S b) 0 = true := fun S => misc_o o0
  have m8 : ∀ S, misc (hp E S (b + 13)) 8 = true := fun S => misc_o o8
  have m1 : ∀ S, misc (hp E S (b + 22)) 1 = true := fun S => misc_o o1
  have m5 : ∀ S, misc (hp E S 79) 5 = true := fun S => misc_o o5
  obtain ⟨n1, n14, n16, n18, n20, n22, n3, n5, n7⟩ := rl_okm hR
  obtain ⟨⟨g1, g3, g5, g7, g14, g16, g18, g20, g22, gt, gw⟩, hH, hP⟩ := rl_okh hR
  have ht := rl_tod hR
  obtain ⟨i1, i2 | ⟨i2, z', t', hc', pk', td', htd', hR'⟩⟩ := id hI
  · rw [i2] at i1
    refine op_v h (-1000000002) (fun d => ?_) (fun d => ?_)
    · simp only [ment, mfl, List.length, List.replicate, List.cons_append, List.nil_append, Nat.reduceAdd, Nat.reduceSub]; simp only [r_al0 c_X_restore_0, r_an0 c_X_restore_0, r_gfS0 c_X_restore_1 o9 rfl, r_ifne c_X_restore_4, r_ci c_X_restore_7, r_iret c_X_restore_9, r_al0 c_X_restore_10, r_an0 c_X_restore_10, r_gfSr c_X_restore_11 o9 rfl, r_al0 c_X_restore_14, r_an0 c_X_restore_14, r_gfSr c_X_restore_15 o9 rfl, r_cv2 c_X_restore_18, r_al0 c_X_restore_21, r_an0 c_X_restore_21, r_gfSr c_X_restore_22 o9 rfl, r_gfS0 c_X_restore_25 o0 rfl, r_iret c_X_restore_28, ↓reduceIte, hs_h, Option.bind_some, mfix_i, mfix_r, mfix_n, mfix_a, Option.toList_some, Option.toList_none, List.cons_append, List.nil_append, List.singleton_append, mwt, Value.category, Nat.reduceAdd, Nat.reduceLeDiff, true_and, and_true, and_self, i2, if_true]
    · simp only [ment, mfl, List.length, List.replicate, List.cons_append, List.nil_append, Nat.reduceAdd, Nat.reduceSub]; simp only [r_al0 c_M_restore_0, r_gfS0 c_M_restore_1 o10 rfl, r_ifne c_M_restore_4, r_ci c_M_restore_7, r_iret c_M_restore_9, ↓reduceIte, hs_h, Option.bind_some, mfix_i, mfix_r, mfix_n, mfix_a, Option.toList_some, Option.toList_none, List.cons_append, List.nil_append, List.singleton_append, mwt, Value.category, Nat.reduceAdd, Nat.reduceLeDiff, true_and, and_true, and_self, ← i1, if_true]
  · rw [i2] at i1
    have hb7 : bkb 27 := Or.inr (Or.inl rfl)
    have txo7 : txo E S 27 := txo_A hE hKy.2.1
    have rb : ∀ d, mres cT 266 d 0 (ment 2 [.ref b, .ref 27]) [] (hs E S) = some (none, hs E (bbS S b 27)) := fun d => B_become_ok hE hb hb7 (by omega) txo7
    have m27 : ∀ S, misc (hp E S 27) 0 = true := fun S => misc_o (o_B hE hb7)
    have c1 : iF (bbS S b 27) b 8 = iF S 27 8 := bb_K (by omega) 8 (by omega) (by omega)
    have c93 : iF (bbS S b 27) 93 3 = 1 := by rw [iF, bbS_o (by omega)]; exact i1.symm
    have c95 : iA (bbS S b 27) 95 = iA S 95 := by rw [iA, bbS_o (by omega)]
    have ht' := rl_tod hR'
    refine ⟨iF S 27 8, bbS S b 27, sA (bbS S b 27) 94 (cpK (iA S 95) (iA (bbS S b 27) 94) 2578), fun d _ => ?_, fun d _ => ?_, Inv_B h ⟨fun q h0 h1 h2 _ _ _ => ?_, fun k hk => ?_⟩ ⟨z', t', hc', pk', td', htd', ?_⟩ ?_⟩
    · simp only [ment, mfl, List.length, List.replicate, List.cons_append, List.nil_append, Nat.reduceAdd, Nat.reduceSub]; simp only [r_al0 c_X_restore_0, r_an0 c_X_restore_0, r_gfS0 c_X_restore_1 o9 rfl, r_ifne c_X_restore_4, r_ci c_X_restore_7, r_iret c_X_restore_9, r_al0 c_X_restore_10, r_an0 c_X_restore_10, r_gfSr c_X_restore_11 o9 rfl, r_al0 c_X_restore_14, r_an0 c_X_restore_14, r_gfSr c_X_restore_15 o9 rfl, r_cv2 c_X_restore_18, r_al0 c_X_restore_21, r_an0 c_X_restore_21, r_gfSr c_X_restore_22 o9 rfl, r_gfS0 c_X_restore_25 o0 rfl, r_iret c_X_restore_28, ↓reduceIte, hs_h, Option.bind_some, mfix_i, mfix_r, mfix_n, mfix_a, Option.toList_some, Option.toList_none, List.cons_append, List.nil_append, List.singleton_append, mwt, Value.category, Nat.reduceAdd, Nat.reduceLeDiff, true_and, and_true, and_self, i2, one_nz, if_false, m0, m27, rb, c1]
    · rw [M_restore_ok hE c93 d, c95, ht'.1, ht'.2.2]
    · rw [sA, va_up, if_neg h2, bbS_o (by omega)]
    · rw [iF_sA, iF, bbS_o (by omega)]
    · rw [iA_sA]
      subst hb1
      exact Rel_f (f := iA S 95) (fun q hq => by rw [cpK, if_pos hq]) (Rel_cells (R := bbS S 1 27) (Or.inl rfl) (fun q h1 => by rw [sA, va_up, if_neg (by omega)]) (Nat.le_refl _) (Rel_copy (bb_copy (by omega) (by omega)) hR'))
    · intro j p hj hp
      subst hb1
      rw [sS_Q (show sA (bbS S 1 27) 94 (cpK (iA S 95) (iA (bbS S 1 27) 94) 2578) (1 + 23) = bbS S 1 27 (1 + 23) by rw [sA, va_up, if_neg (by omega)]), bb_T (by omega) j hj] at hp
      exact hKy.2.1 j p hj hp
end KEEP
