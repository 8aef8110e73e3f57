/-! call: hearing -/
section HEARQ
variable {E : EE} {R S S1 : SS} {b d k n m i j p a s r q o B td : Nat} {c v w x y l : Int32} {z t hc pk : Nat → Nat} {A A8 f : Nat → Int32}
def zrH (f : Nat → Int32) (o i : Nat) : Nat → Int32 := fun q => if o ≤ q ∧ q < o + i then 0 else f q
theorem zr_s : upd (zrH f o i) (o + i) 0 = zrH f o (i + 1) := by
  funext j
  by_cases e : j = o + i
  · subst e; rw [pk_us, zrH, if_pos (by omega)]
  · rw [pk_un e, zrH, zrH]
    by_cases e2 : o ≤ j ∧ j < o + i
    · rw [if_pos e2, if_pos (by omega)]
    · rw [if_neg e2, if_neg (by omega)]
theorem sA_i : sA S a (iA S a) = S := by
  funext q
  by_cases e : q = a
  · subst e; simp only [sA, va_up, if_true]
  · simp only [sA, va_up, e, if_false]
theorem zr_0 : zrH f o 0 = f := by funext j; rw [zrH, if_neg (by omega)]
theorem k6i : ∀ i : Nat, i < 6 → ¬ (6 : Int32) ≤ nI i := by decide
theorem M_hear_lp (hE : okE E) (hn : n < 30) : ∀ m i, i + m = 6 → mres cT 187 d 70 [.ref 93, .int x, .int y, .int (nI n), .int (nI i)] [] (hs E (sA S 94 (zrH (iA S 94) (670 + 6 * n) i))) = mres cT 187 d 95 [.ref 93, .int x, .int y, .int (nI n), .int 6] [] (hs E (sA S 94 (zrH (iA S 94) (670 + 6 * n) 6))) := by
  have o10 := o_M hE
  have m10 := m_M hE
  intro m
  induction m with
  | zero =>
    intro i hi
    have e : i = 6 := by omega
    subst e
    simp only [r_il4 c_M_hearing_70, r_ci c_M_hearing_72, r_icge c_M_hearing_74, ↓reduceIte, hs_h, Option.bind_some, mfix_i, mfix_r, mfix_n, mfix_a, Option.toList_some, Option.toList_none, List.cons_append, List.nil_append, List.singleton_append, show nI 6 = 6 by decide, show ((6 : Int32) ≤ 6) = True from eq_true (by decide), if_true]
  | succ m ih =>
    intro i hi
    have ih := ih (i + 1) (by omega)
    rw [← zr_s] at ih
    simp only [r_il4 c_M_hearing_70, r_ci c_M_hearing_72, r_icge c_M_hearing_74, ↓reduceIte, hs_h, Option.bind_some, mfix_i, mfix_r, mfix_n, mfix_a, Option.toList_some, Option.toList_none, List.cons_append, List.nil_append, List.singleton_append, k6i i (by omega), if_false]
    simp only [r_al0 c_M_hearing_77, r_gfSr c_M_hearing_78 o10 rfl, r_il3 c_M_hearing_81, r_il4 c_M_hearing_82, r_ca2 c_M_hearing_84, r_ci c_M_hearing_87, r_ias c_M_hearing_88, r_inc4 c_M_hearing_89, r_goto c_M_hearing_92, ↓reduceIte, hs_h, Option.bind_some, mfix_i, mfix_r, mfix_n, mfix_a, Option.toList_some, Option.toList_none, List.cons_append, List.nil_append, List.singleton_append, mwt, Value.category, Nat.reduceAdd, Nat.reduceLeDiff, true_and, and_true, and_self, M_ofHearing_ok, mis_94 hE (show 670 + 6 * n + i < 2578 by omega), hs_94 hE, i94, sA_sA, nI_1, ih]
theorem sh_none {A : Nat → Int32} {c : Int32} : ∀ m i, shF A c i m = -1000000005 → i + m ≤ 30 → ∀ j, i ≤ j → j < i + m → A (j * 5) = c → A (j * 5 + 2) ≠ 0
  | 0, _, _, _, _, _, _, _ => by omega
  | m + 1, i, h, hl, j, h1, h2, h3 => by
    rw [shF] at h
    by_cases e : j = i
    · subst e
      intro e2
      rw [if_pos h3, if_pos e2] at h
      have hj : j < 30 := by omega
      have : ∀ j : Nat, j < 30 → ¬ nI j = -1000000005 := by decide
      exact this j hj h
    · have h' : shF A c (i + 1) m = -1000000005 := by
        by_cases e3 : A (i * 5) = c
        · rw [if_pos e3] at h
          by_cases e4 : A (i * 5 + 2) = 0
          · rw [if_pos e4] at h
            have : ∀ j : Nat, j < 30 → ¬ nI j = -1000000005 := by decide
            exact absurd h (this i (by omega))
          · rw [if_neg e4] at h; exact h
        · rw [if_neg e3] at h; exact h
      exact sh_none m (i + 1) h' (by omega) j (by omega) (by omega) h3
theorem M_set_R (hE : okE E) (hR : Rel E R b z t hc pk td B (iA S 94)) : ∃ v : Int32, (∀ d, mres cT 35 d 0 (ment 3 [.ref 93, .int c]) [] (hs E S) = some (some (.int v), hs E S)) ∧ (v < 0 ↔ shF (iA R (b + 8)) c 0 (z 7) = -1000000005) := by
  obtain ⟨n1, n14, n16, n18, n20, n22, n3, n5, n7⟩ := rl_okm hR
  refine ⟨_, fun d => M_setOf_ok hE n7.1 n7.2, ?_⟩
  have e := so_eq (rl_hea hR) (c := c) (z 7) 0 (by omega)
  rw [← e]
  cases hq : soM (iA S 94) c 0 (z 7) with
  | none => exact ⟨fun _ => rfl, fun _ => by decide⟩
  | some p =>
    have hp := soM_lt hq
    have : ∀ j : Nat, j < 30 → ¬ nI j = -1000000005 := by decide
    exact ⟨fun h => absurd h (nI_pos (by omega)), fun h => absurd h (this p (by omega))⟩
theorem q_hearing (h : Inv E S) : opE E S 185 187 3 5 [.int c, .int v] := by
  obtain ⟨hE, hpar, ⟨z, t, hc, pk, td, htd, hR⟩, hI, hTp, hWt, hSh, hKy⟩ := id h
  obtain ⟨b, hb1⟩ : ∃ b, b = 1 := ⟨1, rfl⟩
  have hb : bkb b := Or.inl hb1
  rw [← hb1] at hR
  have o9 := o_X hE hb1
  have o0 := o_B hE hb
  have o8 := o_I hE hb
  have o1 := o_L hE hb
  have o5 := o_P hE
  have o10 := o_M hE
  have m10 := m_M hE
  have m9 : ∀ S, misc (hp E S 0) 9 = true := fun S => misc_o o9
  have m0 : ∀ S, misc (hp E S b) 0 = true := fun S => misc_o o0
  have m8 : ∀ S, misc (hp E S (b + 13)) 8 = true := fun S => misc_o o8
  have m1 : ∀ S, misc (hp E S (b + 22)) 1 = true := fun S => misc_o o1
  have m5 : ∀ S, misc (hp E S 79) 5 = true := fun S => misc_o o5
  obtain ⟨n1, n14, n16, n18, n20, n22, n3, n5, n7⟩ := rl_okm hR
  obtain ⟨⟨g1, g3, g5, g7, g14, g16, g18, g20, g22, gt, gw⟩, hH, hP⟩ := rl_okh hR
  have ht := rl_tod hR
  rcases ixc (n := z 1) c (by omega) with hx | ⟨k, hk, rfl, hx⟩
  · refine op_v h (-1000000001) (fun d => ?_) (fun d => ?_)
    · simp only [ment, mfl, List.length, List.replicate, List.cons_append, List.nil_append, Nat.reduceAdd, Nat.reduceSub]; simp only [r_al0 c_X_hearing_0, r_an0 c_X_hearing_0, r_gfSr c_X_hearing_1 o9 rfl, r_gfSr c_X_hearing_4 o0 rfl, r_il1 c_X_hearing_7, r_cv2 c_X_hearing_8, r_ifeq c_X_hearing_11, r_il2 c_X_hearing_14, r_al0 c_X_hearing_15, r_an0 c_X_hearing_15, r_gfSr c_X_hearing_16 o9 rfl, r_gfS0 c_X_hearing_19 o0 rfl, r_ci c_X_hearing_22, r_ca3 c_X_hearing_25, r_ifne c_X_hearing_28, r_ci c_X_hearing_31, r_iret c_X_hearing_33, r_al0 c_X_hearing_34, r_an0 c_X_hearing_34, r_gfSr c_X_hearing_35 o9 rfl, r_il1 c_X_hearing_38, r_cv2 c_X_hearing_39, r_ifne c_X_hearing_42, r_al0 c_X_hearing_45, r_an0 c_X_hearing_45, r_gfSr c_X_hearing_46 o9 rfl, r_il1 c_X_hearing_49, r_cv2 c_X_hearing_50, r_ci c_X_hearing_53, r_iceq c_X_hearing_55, r_ci c_X_hearing_58, r_iret c_X_hearing_60, r_al0 c_X_hearing_61, r_an0 c_X_hearing_61, r_gfSr c_X_hearing_62 o9 rfl, r_gfSr c_X_hearing_65 o0 rfl, r_cv1 c_X_hearing_68, r_ifeq c_X_hearing_71, r_ci c_X_hearing_74, r_iret c_X_hearing_76, r_al0 c_X_hearing_77, r_an0 c_X_hearing_77, r_gfSr c_X_hearing_78 o9 rfl, r_gfSr c_X_hearing_81 o0 rfl, r_il1 c_X_hearing_84, r_il2 c_X_hearing_85, r_ci c_X_hearing_86, r_ci c_X_hearing_87, r_cv5 c_X_hearing_88, r_iret c_X_hearing_91, ↓reduceIte, hs_h, Option.bind_some, mfix_i, mfix_r, mfix_n, mfix_a, Option.toList_some, Option.toList_none, List.cons_append, List.nil_append, List.singleton_append, mwt, Value.category, Nat.reduceAdd, Nat.reduceLeDiff, true_and, and_true, and_self, misc_w (w_1 hE hb), has_1 hE hb, g1.1, hx, if_true]
    · simp only [ment, mfl, List.length, List.replicate, List.cons_append, List.nil_append, Nat.reduceAdd, Nat.reduceSub]; simp only [r_al0 c_M_hearing_0, r_il1 c_M_hearing_1, r_ci c_M_hearing_2, r_cv3 c_M_hearing_3, r_ifeq c_M_hearing_6, r_il2 c_M_hearing_9, r_i2l c_M_hearing_10, r_al0 c_M_hearing_11, r_gfSr c_M_hearing_12 o10 rfl, r_ci c_M_hearing_15, r_ial c_M_hearing_16, r_i2l c_M_hearing_17, r_cl c_M_hearing_18, r_ca3 c_M_hearing_21, r_ifne c_M_hearing_24, r_ci c_M_hearing_27, r_iret c_M_hearing_29, ↓reduceIte, hs_h, Option.bind_some, mfix_i, mfix_r, mfix_n, mfix_a, Option.toList_some, Option.toList_none, List.cons_append, List.nil_append, List.singleton_append, mwt, Value.category, Nat.reduceAdd, Nat.reduceLeDiff, true_and, and_true, and_self, m10, mt2 hE, n1.1, th_eq (show z 1 < 2 ^ 31 by omega), hx, if_true]
  have k12 : k < 12 := by omega
  rcases wi01 (x := v) (y := nI td) (w := 2999) with h1 | h1
  · refine op_v h (-1000000001) (fun d => ?_) (fun d => ?_)
    · simp only [ment, mfl, List.length, List.replicate, List.cons_append, List.nil_append, Nat.reduceAdd, Nat.reduceSub]; simp only [r_al0 c_X_hearing_0, r_an0 c_X_hearing_0, r_gfSr c_X_hearing_1 o9 rfl, r_gfSr c_X_hearing_4 o0 rfl, r_il1 c_X_hearing_7, r_cv2 c_X_hearing_8, r_ifeq c_X_hearing_11, r_il2 c_X_hearing_14, r_al0 c_X_hearing_15, r_an0 c_X_hearing_15, r_gfSr c_X_hearing_16 o9 rfl, r_gfS0 c_X_hearing_19 o0 rfl, r_ci c_X_hearing_22, r_ca3 c_X_hearing_25, r_ifne c_X_hearing_28, r_ci c_X_hearing_31, r_iret c_X_hearing_33, r_al0 c_X_hearing_34, r_an0 c_X_hearing_34, r_gfSr c_X_hearing_35 o9 rfl, r_il1 c_X_hearing_38, r_cv2 c_X_hearing_39, r_ifne c_X_hearing_42, r_al0 c_X_hearing_45, r_an0 c_X_hearing_45, r_gfSr c_X_hearing_46 o9 rfl, r_il1 c_X_hearing_49, r_cv2 c_X_hearing_50, r_ci c_X_hearing_53, r_iceq c_X_hearing_55, r_ci c_X_hearing_58, r_iret c_X_hearing_60, r_al0 c_X_hearing_61, r_an0 c_X_hearing_61, r_gfSr c_X_hearing_62 o9 rfl, r_gfSr c_X_hearing_65 o0 rfl, r_cv1 c_X_hearing_68, r_ifeq c_X_hearing_71, r_ci c_X_hearing_74, r_iret c_X_hearing_76, r_al0 c_X_hearing_77, r_an0 c_X_hearing_77, r_gfSr c_X_hearing_78 o9 rfl, r_gfSr c_X_hearing_81 o0 rfl, r_il1 c_X_hearing_84, r_il2 c_X_hearing_85, r_ci c_X_hearing_86, r_ci c_X_hearing_87, r_cv5 c_X_hearing_88, r_iret c_X_hearing_91, ↓reduceIte, hs_h, Option.bind_some, mfix_i, mfix_r, mfix_n, mfix_a, Option.toList_some, Option.toList_none, List.cons_append, List.nil_append, List.singleton_append, mwt, Value.category, Nat.reduceAdd, Nat.reduceLeDiff, true_and, and_true, and_self, misc_w (w_1 hE hb), has_1 hE hb, g1.1, hx, if_false, one_nz, ht.1, X_within_ok, h1, if_true]
    · simp only [ment, mfl, List.length, List.replicate, List.cons_append, List.nil_append, Nat.reduceAdd, Nat.reduceSub]; simp only [r_al0 c_M_hearing_0, r_il1 c_M_hearing_1, r_ci c_M_hearing_2, r_cv3 c_M_hearing_3, r_ifeq c_M_hearing_6, r_il2 c_M_hearing_9, r_i2l c_M_hearing_10, r_al0 c_M_hearing_11, r_gfSr c_M_hearing_12 o10 rfl, r_ci c_M_hearing_15, r_ial c_M_hearing_16, r_i2l c_M_hearing_17, r_cl c_M_hearing_18, r_ca3 c_M_hearing_21, r_ifne c_M_hearing_24, r_ci c_M_hearing_27, r_iret c_M_hearing_29, ↓reduceIte, hs_h, Option.bind_some, mfix_i, mfix_r, mfix_n, mfix_a, Option.toList_some, Option.toList_none, List.cons_append, List.nil_append, List.singleton_append, mwt, Value.category, Nat.reduceAdd, Nat.reduceLeDiff, true_and, and_true, and_self, m10, mt2 hE, n1.1, th_eq (show z 1 < 2 ^ 31 by omega), hx, if_false, one_nz, mn0 hE, ht.2.2, M_within_k (y := nI td) (w := 2999) (w' := 2999) rfl (by decide), h1, if_true]
  have c3 : iA S 94 (20 + 6 * k + 3) = iA S (b + 2) (k * 6 + 3) := rl_c0 hR hk (c := 3) (by omega)
  by_cases q3 : iA S (b + 2) (k * 6 + 3) = 0
  · obtain ⟨sv, rs, es⟩ := M_set_R (c := nI k) hE hR
    by_cases q4 : shF (iA S (b + 8)) (nI k) 0 (z 7) = -1000000005
    · have s0 : sv < 0 := es.mpr q4
      have m7' := fun S => misc_w (S := S) (w_7 hE hb)
      by_cases q : z 7 = 30
      · have q1 : nI 30 ≤ nI (z 7) := (fullS n7.2 (by omega)).mpr q
        have q2 : nI (z 7) = 30 := by rw [q]; rfl
        refine op_v h (-1000000003) (fun d => ?_) (fun d => ?_)
        · simp only [ment, mfl, List.length, List.replicate, List.cons_append, List.nil_append, Nat.reduceAdd, Nat.reduceSub]; simp only [r_al0 c_X_hearing_0, r_an0 c_X_hearing_0, r_gfSr c_X_hearing_1 o9 rfl, r_gfSr c_X_hearing_4 o0 rfl, r_il1 c_X_hearing_7, r_cv2 c_X_hearing_8, r_ifeq c_X_hearing_11, r_il2 c_X_hearing_14, r_al0 c_X_hearing_15, r_an0 c_X_hearing_15, r_gfSr c_X_hearing_16 o9 rfl, r_gfS0 c_X_hearing_19 o0 rfl, r_ci c_X_hearing_22, r_ca3 c_X_hearing_25, r_ifne c_X_hearing_28, r_ci c_X_hearing_31, r_iret c_X_hearing_33, r_al0 c_X_hearing_34, r_an0 c_X_hearing_34, r_gfSr c_X_hearing_35 o9 rfl, r_il1 c_X_hearing_38, r_cv2 c_X_hearing_39, r_ifne c_X_hearing_42, r_al0 c_X_hearing_45, r_an0 c_X_hearing_45, r_gfSr c_X_hearing_46 o9 rfl, r_il1 c_X_hearing_49, r_cv2 c_X_hearing_50, r_ci c_X_hearing_53, r_iceq c_X_hearing_55, r_ci c_X_hearing_58, r_iret c_X_hearing_60, r_al0 c_X_hearing_61, r_an0 c_X_hearing_61, r_gfSr c_X_hearing_62 o9 rfl, r_gfSr c_X_hearing_65 o0 rfl, r_cv1 c_X_hearing_68, r_ifeq c_X_hearing_71, r_ci c_X_hearing_74, r_iret c_X_hearing_76, r_al0 c_X_hearing_77, r_an0 c_X_hearing_77, r_gfSr c_X_hearing_78 o9 rfl, r_gfSr c_X_hearing_81 o0 rfl, r_il1 c_X_hearing_84, r_il2 c_X_hearing_85, r_ci c_X_hearing_86, r_ci c_X_hearing_87, r_cv5 c_X_hearing_88, r_iret c_X_hearing_91, ↓reduceIte, hs_h, Option.bind_some, mfix_i, mfix_r, mfix_n, mfix_a, Option.toList_some, Option.toList_none, List.cons_append, List.nil_append, List.singleton_append, mwt, Value.category, Nat.reduceAdd, Nat.reduceLeDiff, true_and, and_true, and_self, misc_w (w_1 hE hb), has_1 hE hb, g1.1, hx, if_false, one_nz, ht.1, X_within_ok, h1, m0, B_stateOf_ok hE hb k12, q3, B_setHearingOf_ok hE hb g7.1 g7.2, q4, if_true, m7', full_7 hE hb, g7.1, q1]
        · simp only [ment, mfl, List.length, List.replicate, List.cons_append, List.nil_append, Nat.reduceAdd, Nat.reduceSub]; simp only [r_al0 c_M_hearing_0, r_il1 c_M_hearing_1, r_ci c_M_hearing_2, r_cv3 c_M_hearing_3, r_ifeq c_M_hearing_6, r_il2 c_M_hearing_9, r_i2l c_M_hearing_10, r_al0 c_M_hearing_11, r_gfSr c_M_hearing_12 o10 rfl, r_ci c_M_hearing_15, r_ial c_M_hearing_16, r_i2l c_M_hearing_17, r_cl c_M_hearing_18, r_ca3 c_M_hearing_21, r_ifne c_M_hearing_24, r_ci c_M_hearing_27, r_iret c_M_hearing_29, r_al0 c_M_hearing_30, r_il1 c_M_hearing_31, r_ci c_M_hearing_32, r_cv3 c_M_hearing_33, r_ifne c_M_hearing_36, r_al0 c_M_hearing_39, r_il1 c_M_hearing_40, r_cv2 c_M_hearing_41, r_iflt c_M_hearing_44, r_ci c_M_hearing_47, r_iret c_M_hearing_49, r_al0 c_M_hearing_50, r_gfSr c_M_hearing_51 o10 rfl, r_ci c_M_hearing_54, r_ial c_M_hearing_56, r_is3 c_M_hearing_57, r_il3 c_M_hearing_58, r_ci c_M_hearing_59, r_icne c_M_hearing_61, r_ci c_M_hearing_64, r_iret c_M_hearing_66, ↓reduceIte, hs_h, Option.bind_some, mfix_i, mfix_r, mfix_n, mfix_a, Option.toList_some, Option.toList_none, List.cons_append, List.nil_append, List.singleton_append, mwt, Value.category, Nat.reduceAdd, Nat.reduceLeDiff, true_and, and_true, and_self, m10, mt2 hE, n1.1, th_eq (show z 1 < 2 ^ 31 by omega), hx, if_false, one_nz, mn0 hE, ht.2.2, M_within_k (y := nI td) (w := 2999) (w' := 2999) rfl (by decide), h1, oc3 hE k12, c3, q3, rs, s0, if_true, mn10 hE, n7.1, q2]
      · have q0 : z 7 < 30 := by omega
        have q1 : ¬ nI 30 ≤ nI (z 7) := fun e => q ((fullS n7.2 (by omega)).mp e)
        have q2 : ¬ nI (z 7) = 30 := fun e => q ((nI_eq (b := 30) (by omega) (by omega)).mp e)
        have hns : ∀ i, i < z 7 → hc i = k → iA S (b + 8) (i * 5 + 2) ≠ 0 := fun i hi e => sh_none (z 7) 0 q4 (by omega) i (by omega) (by omega) (by rw [(hH i hi).1, e])
        have zz : ∀ j, 2 ≤ j → j < 6 → upd (upd (zrH (iA S 94) (670 + 6 * z 7) 6) (670 + 6 * z 7) (nI k)) (670 + 6 * z 7 + 1) v (670 + 6 * z 7 + j) = 0 := fun j h1 h2 => by
          rw [pk_un (by omega), pk_un (by omega), zrH, if_pos (by omega)]
        have hR2 := Rel_addH (f0 := upd (upd (zrH (iA S 94) (670 + 6 * z 7) 6) (670 + 6 * z 7) (nI k)) (670 + 6 * z 7 + 1) v) (x0 := nI k) (x1 := v) (x2 := 0) (x3 := 0) hb hR q0 (fun q hq => by rw [pk_un (by omega), pk_un (by omega), zrH, if_neg (by omega)]) hk (by rw [pk_un (by omega), pk_us]) pk_us (zz 2 (by omega) (by omega)) (zz 3 (by omega) (by omega)) (zz 4 (by omega) (by omega)) (zz 5 (by omega) (by omega)) rfl rfl rfl hns
        refine ⟨nI (z 7), adR S b 7 (z 7) (rowSet (iA S (b + 8)) (z 7 * 5) 5 [nI k, v, 0, 0]), _, fun d _ => ?_, fun d _ => ?_, Inv_ad h hb1 (a := 7) (by omega) htd hR2⟩
        · simp only [ment, mfl, List.length, List.replicate, List.cons_append, List.nil_append, Nat.reduceAdd, Nat.reduceSub]; simp only [r_al0 c_X_hearing_0, r_an0 c_X_hearing_0, r_gfSr c_X_hearing_1 o9 rfl, r_gfSr c_X_hearing_4 o0 rfl, r_il1 c_X_hearing_7, r_cv2 c_X_hearing_8, r_ifeq c_X_hearing_11, r_il2 c_X_hearing_14, r_al0 c_X_hearing_15, r_an0 c_X_hearing_15, r_gfSr c_X_hearing_16 o9 rfl, r_gfS0 c_X_hearing_19 o0 rfl, r_ci c_X_hearing_22, r_ca3 c_X_hearing_25, r_ifne c_X_hearing_28, r_ci c_X_hearing_31, r_iret c_X_hearing_33, r_al0 c_X_hearing_34, r_an0 c_X_hearing_34, r_gfSr c_X_hearing_35 o9 rfl, r_il1 c_X_hearing_38, r_cv2 c_X_hearing_39, r_ifne c_X_hearing_42, r_al0 c_X_hearing_45, r_an0 c_X_hearing_45, r_gfSr c_X_hearing_46 o9 rfl, r_il1 c_X_hearing_49, r_cv2 c_X_hearing_50, r_ci c_X_hearing_53, r_iceq c_X_hearing_55, r_ci c_X_hearing_58, r_iret c_X_hearing_60, r_al0 c_X_hearing_61, r_an0 c_X_hearing_61, r_gfSr c_X_hearing_62 o9 rfl, r_gfSr c_X_hearing_65 o0 rfl, r_cv1 c_X_hearing_68, r_ifeq c_X_hearing_71, r_ci c_X_hearing_74, r_iret c_X_hearing_76, r_al0 c_X_hearing_77, r_an0 c_X_hearing_77, r_gfSr c_X_hearing_78 o9 rfl, r_gfSr c_X_hearing_81 o0 rfl, r_il1 c_X_hearing_84, r_il2 c_X_hearing_85, r_ci c_X_hearing_86, r_ci c_X_hearing_87, r_cv5 c_X_hearing_88, r_iret c_X_hearing_91, ↓reduceIte, hs_h, Option.bind_some, mfix_i, mfix_r, mfix_n, mfix_a, Option.toList_some, Option.toList_none, List.cons_append, List.nil_append, List.singleton_append, mwt, Value.category, Nat.reduceAdd, Nat.reduceLeDiff, true_and, and_true, and_self, misc_w (w_1 hE hb), has_1 hE hb, g1.1, hx, if_false, one_nz, ht.1, X_within_ok, h1, m0, B_stateOf_ok hE hb k12, q3, B_setHearingOf_ok hE hb g7.1 g7.2, q4, if_true, m7', full_7 hE hb, g7.1, q1, more_7 hE hb g7.1 q0]; rfl
        · have e94 : iA (adR S b 7 (z 7) (rowSet (iA S (b + 8)) (z 7 * 5) 5 [nI k, v, 0, 0])) 94 = iA S 94 := ad_A (by omega)
          obtain ⟨sv', rs', es'⟩ := M_set_R (S := adR S b 7 (z 7) (rowSet (iA S (b + 8)) (z 7 * 5) 5 [nI k, v, 0, 0])) (c := nI k) hE (e94 ▸ hR)
          have s0' : sv' < 0 := es'.mpr q4
          have e10 : upd (upd (zrH (iA S 94) (670 + 6 * z 7) 6) (670 + 6 * z 7) (nI k)) (670 + 6 * z 7 + 1) v 10 = nI (z 7) := by rw [pk_un (by omega), pk_un (by omega), zrH, if_neg (by omega)]; exact n7.1
          have lp := M_hear_lp (S := adR S b 7 (z 7) (rowSet (iA S (b + 8)) (z 7 * 5) 5 [nI k, v, 0, 0])) (d := d) (x := nI k) (y := v) hE q0 6 0 (by omega)
          rw [e94, zr_0, nI_0, ← e94, sA_i, e94] at lp
          simp only [ment, mfl, List.length, List.replicate, List.cons_append, List.nil_append, Nat.reduceAdd, Nat.reduceSub]; simp only [r_al0 c_M_hearing_0, r_il1 c_M_hearing_1, r_ci c_M_hearing_2, r_cv3 c_M_hearing_3, r_ifeq c_M_hearing_6, r_il2 c_M_hearing_9, r_i2l c_M_hearing_10, r_al0 c_M_hearing_11, r_gfSr c_M_hearing_12 o10 rfl, r_ci c_M_hearing_15, r_ial c_M_hearing_16, r_i2l c_M_hearing_17, r_cl c_M_hearing_18, r_ca3 c_M_hearing_21, r_ifne c_M_hearing_24, r_ci c_M_hearing_27, r_iret c_M_hearing_29, r_al0 c_M_hearing_30, r_il1 c_M_hearing_31, r_ci c_M_hearing_32, r_cv3 c_M_hearing_33, r_ifne c_M_hearing_36, r_al0 c_M_hearing_39, r_il1 c_M_hearing_40, r_cv2 c_M_hearing_41, r_iflt c_M_hearing_44, r_ci c_M_hearing_47, r_iret c_M_hearing_49, r_al0 c_M_hearing_50, r_gfSr c_M_hearing_51 o10 rfl, r_ci c_M_hearing_54, r_ial c_M_hearing_56, r_is3 c_M_hearing_57, r_il3 c_M_hearing_58, r_ci c_M_hearing_59, r_icne c_M_hearing_61, r_ci c_M_hearing_64, r_iret c_M_hearing_66, r_ci c_M_hearing_67, r_is4 c_M_hearing_68, ↓reduceIte, hs_h, Option.bind_some, mfix_i, mfix_r, mfix_n, mfix_a, Option.toList_some, Option.toList_none, List.cons_append, List.nil_append, List.singleton_append, mwt, Value.category, Nat.reduceAdd, Nat.reduceLeDiff, true_and, and_true, and_self, m10, mt2 hE, e94, n1.1, th_eq (show z 1 < 2 ^ 31 by omega), hx, if_false, one_nz, mn0 hE, ht.2.2, M_within_k (y := nI td) (w := 2999) (w' := 2999) rfl (by decide), h1, oc3 hE k12, c3, q3, rs', s0', if_true, mn10 hE, n7.1, q2, lp]
          simp only [r_al0 c_M_hearing_95, r_gfSr c_M_hearing_96 o10 rfl, r_il3 c_M_hearing_99, r_ci c_M_hearing_100, r_ca2 c_M_hearing_101, r_il1 c_M_hearing_104, r_ias c_M_hearing_105, r_al0 c_M_hearing_106, r_gfSr c_M_hearing_107 o10 rfl, r_il3 c_M_hearing_110, r_ci c_M_hearing_111, r_ca2 c_M_hearing_112, r_il2 c_M_hearing_115, r_ias c_M_hearing_116, r_al0 c_M_hearing_117, r_gfSr c_M_hearing_118 o10 rfl, r_ci c_M_hearing_121, r_dup2 c_M_hearing_123, r_ial c_M_hearing_124, r_ci c_M_hearing_125, r_iadd c_M_hearing_126, r_ias c_M_hearing_127, r_il3 c_M_hearing_128, r_iret c_M_hearing_129, ↓reduceIte, hs_h, Option.bind_some, mfix_i, mfix_r, mfix_n, mfix_a, Option.toList_some, Option.toList_none, List.cons_append, List.nil_append, List.singleton_append, mwt, Value.category, Nat.reduceAdd, Nat.reduceLeDiff, true_and, and_true, and_self, m10, oh0, oh1, mis_94 hE (show 670 + 6 * z 7 < 2578 by omega), mis_94 hE (show 670 + 6 * z 7 + 1 < 2578 by omega), hs_94 hE, i94, e94, sA_sA, mn10 hE, ms10 hE, e10, nI_1]
    · have s0 : ¬ sv < 0 := fun e => q4 (es.mp e)
      refine op_v h (-1000000002) (fun d => ?_) (fun d => ?_)
      · simp only [ment, mfl, List.length, List.replicate, List.cons_append, List.nil_append, Nat.reduceAdd, Nat.reduceSub]; simp only [r_al0 c_X_hearing_0, r_an0 c_X_hearing_0, r_gfSr c_X_hearing_1 o9 rfl, r_gfSr c_X_hearing_4 o0 rfl, r_il1 c_X_hearing_7, r_cv2 c_X_hearing_8, r_ifeq c_X_hearing_11, r_il2 c_X_hearing_14, r_al0 c_X_hearing_15, r_an0 c_X_hearing_15, r_gfSr c_X_hearing_16 o9 rfl, r_gfS0 c_X_hearing_19 o0 rfl, r_ci c_X_hearing_22, r_ca3 c_X_hearing_25, r_ifne c_X_hearing_28, r_ci c_X_hearing_31, r_iret c_X_hearing_33, r_al0 c_X_hearing_34, r_an0 c_X_hearing_34, r_gfSr c_X_hearing_35 o9 rfl, r_il1 c_X_hearing_38, r_cv2 c_X_hearing_39, r_ifne c_X_hearing_42, r_al0 c_X_hearing_45, r_an0 c_X_hearing_45, r_gfSr c_X_hearing_46 o9 rfl, r_il1 c_X_hearing_49, r_cv2 c_X_hearing_50, r_ci c_X_hearing_53, r_iceq c_X_hearing_55, r_ci c_X_hearing_58, r_iret c_X_hearing_60, r_al0 c_X_hearing_61, r_an0 c_X_hearing_61, r_gfSr c_X_hearing_62 o9 rfl, r_gfSr c_X_hearing_65 o0 rfl, r_cv1 c_X_hearing_68, r_ifeq c_X_hearing_71, r_ci c_X_hearing_74, r_iret c_X_hearing_76, r_al0 c_X_hearing_77, r_an0 c_X_hearing_77, r_gfSr c_X_hearing_78 o9 rfl, r_gfSr c_X_hearing_81 o0 rfl, r_il1 c_X_hearing_84, r_il2 c_X_hearing_85, r_ci c_X_hearing_86, r_ci c_X_hearing_87, r_cv5 c_X_hearing_88, r_iret c_X_hearing_91, ↓reduceIte, hs_h, Option.bind_some, mfix_i, mfix_r, mfix_n, mfix_a, Option.toList_some, Option.toList_none, List.cons_append, List.nil_append, List.singleton_append, mwt, Value.category, Nat.reduceAdd, Nat.reduceLeDiff, true_and, and_true, and_self, misc_w (w_1 hE hb), has_1 hE hb, g1.1, hx, if_false, one_nz, ht.1, X_within_ok, h1, m0, B_stateOf_ok hE hb k12, q3, B_setHearingOf_ok hE hb g7.1 g7.2, q4, if_true]
      · simp only [ment, mfl, List.length, List.replicate, List.cons_append, List.nil_append, Nat.reduceAdd, Nat.reduceSub]; simp only [r_al0 c_M_hearing_0, r_il1 c_M_hearing_1, r_ci c_M_hearing_2, r_cv3 c_M_hearing_3, r_ifeq c_M_hearing_6, r_il2 c_M_hearing_9, r_i2l c_M_hearing_10, r_al0 c_M_hearing_11, r_gfSr c_M_hearing_12 o10 rfl, r_ci c_M_hearing_15, r_ial c_M_hearing_16, r_i2l c_M_hearing_17, r_cl c_M_hearing_18, r_ca3 c_M_hearing_21, r_ifne c_M_hearing_24, r_ci c_M_hearing_27, r_iret c_M_hearing_29, r_al0 c_M_hearing_30, r_il1 c_M_hearing_31, r_ci c_M_hearing_32, r_cv3 c_M_hearing_33, r_ifne c_M_hearing_36, r_al0 c_M_hearing_39, r_il1 c_M_hearing_40, r_cv2 c_M_hearing_41, r_iflt c_M_hearing_44, r_ci c_M_hearing_47, r_iret c_M_hearing_49, ↓reduceIte, hs_h, Option.bind_some, mfix_i, mfix_r, mfix_n, mfix_a, Option.toList_some, Option.toList_none, List.cons_append, List.nil_append, List.singleton_append, mwt, Value.category, Nat.reduceAdd, Nat.reduceLeDiff, true_and, and_true, and_self, m10, mt2 hE, n1.1, th_eq (show z 1 < 2 ^ 31 by omega), hx, if_false, one_nz, mn0 hE, ht.2.2, M_within_k (y := nI td) (w := 2999) (w' := 2999) rfl (by decide), h1, oc3 hE k12, c3, q3, rs, s0, if_true]
  · refine op_v h (-1000000002) (fun d => ?_) (fun d => ?_)
    · simp only [ment, mfl, List.length, List.replicate, List.cons_append, List.nil_append, Nat.reduceAdd, Nat.reduceSub]; simp only [r_al0 c_X_hearing_0, r_an0 c_X_hearing_0, r_gfSr c_X_hearing_1 o9 rfl, r_gfSr c_X_hearing_4 o0 rfl, r_il1 c_X_hearing_7, r_cv2 c_X_hearing_8, r_ifeq c_X_hearing_11, r_il2 c_X_hearing_14, r_al0 c_X_hearing_15, r_an0 c_X_hearing_15, r_gfSr c_X_hearing_16 o9 rfl, r_gfS0 c_X_hearing_19 o0 rfl, r_ci c_X_hearing_22, r_ca3 c_X_hearing_25, r_ifne c_X_hearing_28, r_ci c_X_hearing_31, r_iret c_X_hearing_33, r_al0 c_X_hearing_34, r_an0 c_X_hearing_34, r_gfSr c_X_hearing_35 o9 rfl, r_il1 c_X_hearing_38, r_cv2 c_X_hearing_39, r_ifne c_X_hearing_42, r_al0 c_X_hearing_45, r_an0 c_X_hearing_45, r_gfSr c_X_hearing_46 o9 rfl, r_il1 c_X_hearing_49, r_cv2 c_X_hearing_50, r_ci c_X_hearing_53, r_iceq c_X_hearing_55, r_ci c_X_hearing_58, r_iret c_X_hearing_60, r_al0 c_X_hearing_61, r_an0 c_X_hearing_61, r_gfSr c_X_hearing_62 o9 rfl, r_gfSr c_X_hearing_65 o0 rfl, r_cv1 c_X_hearing_68, r_ifeq c_X_hearing_71, r_ci c_X_hearing_74, r_iret c_X_hearing_76, r_al0 c_X_hearing_77, r_an0 c_X_hearing_77, r_gfSr c_X_hearing_78 o9 rfl, r_gfSr c_X_hearing_81 o0 rfl, r_il1 c_X_hearing_84, r_il2 c_X_hearing_85, r_ci c_X_hearing_86, r_ci c_X_hearing_87, r_cv5 c_X_hearing_88, r_iret c_X_hearing_91, ↓reduceIte, hs_h, Option.bind_some, mfix_i, mfix_r, mfix_n, mfix_a, Option.toList_some, Option.toList_none, List.cons_append, List.nil_append, List.singleton_append, mwt, Value.category, Nat.reduceAdd, Nat.reduceLeDiff, true_and, and_true, and_self, misc_w (w_1 hE hb), has_1 hE hb, g1.1, hx, if_false, one_nz, ht.1, X_within_ok, h1, m0, B_stateOf_ok hE hb k12, q3]
    · simp only [ment, mfl, List.length, List.replicate, List.cons_append, List.nil_append, Nat.reduceAdd, Nat.reduceSub]; simp only [r_al0 c_M_hearing_0, r_il1 c_M_hearing_1, r_ci c_M_hearing_2, r_cv3 c_M_hearing_3, r_ifeq c_M_hearing_6, r_il2 c_M_hearing_9, r_i2l c_M_hearing_10, r_al0 c_M_hearing_11, r_gfSr c_M_hearing_12 o10 rfl, r_ci c_M_hearing_15, r_ial c_M_hearing_16, r_i2l c_M_hearing_17, r_cl c_M_hearing_18, r_ca3 c_M_hearing_21, r_ifne c_M_hearing_24, r_ci c_M_hearing_27, r_iret c_M_hearing_29, r_al0 c_M_hearing_30, r_il1 c_M_hearing_31, r_ci c_M_hearing_32, r_cv3 c_M_hearing_33, r_ifne c_M_hearing_36, r_al0 c_M_hearing_39, r_il1 c_M_hearing_40, r_cv2 c_M_hearing_41, r_iflt c_M_hearing_44, r_ci c_M_hearing_47, r_iret c_M_hearing_49, ↓reduceIte, hs_h, Option.bind_some, mfix_i, mfix_r, mfix_n, mfix_a, Option.toList_some, Option.toList_none, List.cons_append, List.nil_append, List.singleton_append, mwt, Value.category, Nat.reduceAdd, Nat.reduceLeDiff, true_and, and_true, and_self, m10, mt2 hE, n1.1, th_eq (show z 1 < 2 ^ 31 by omega), hx, if_false, one_nz, mn0 hE, ht.2.2, M_within_k (y := nI td) (w := 2999) (w' := 2999) rfl (by decide), h1, oc3 hE k12, c3, q3]
end HEARQ
