/-! calls: flee, gone -/
section LEAVES
variable {E : EE} {R S S1 S2 : SS} {b d k n m i j p td B a s : Nat} {c v w x y : Int32} {z t hc pk : Nat → Nat} {f f0 f1 g g' : Nat → Int32}
theorem upd_same {f : Nat → Int32} {i : Nat} {v : Int32} (h : f i = v) : upd f i v = f := by
  funext j
  by_cases e : j = i
  · subst e; rw [pk_us, h]
  · rw [pk_un e]
theorem sA_same {S : SS} {a : Nat} : sA S a (iA S a) = S := by
  funext q
  by_cases e : q = a
  · subst e; simp only [sA, va_up, if_true]
  · simp only [sA, va_up, e, if_false]
theorem lv_en {v : Int32} (h : iA R (b + 2) (j * 6 + 3) = v) : lvS R b j n v = enS R b n (nI j) (iF R b 8) := by
  rw [lvS, upd_same h, sA_same]
theorem ml_me {o : Option Nat} {x : Int32} (h : f (20 + 6 * j + 3) = v) : mlF f j o x v = meG f j o x := by
  rw [mlF]
  refine upd_same ?_
  cases o with
  | none => rw [meG, pk_un (by omega), h]
  | some s => rw [meG, pk_un (by omega), pk_un (by omega), h]
theorem en_cells {x : Int32} : (∀ q, q ≠ b + 17 → enS R b n c x q = R q) ∧ ∀ q k, iF (enS R b n c x) q k = iF R q k := by
  rcases enS_c (S := R) (b := b) (n := n) (c := c) (x := x) with r | ⟨g, r⟩
  · rw [r]; exact ⟨fun _ _ => rfl, fun _ _ => rfl⟩
  · rw [r]; exact ⟨fun q hq => by rw [sA, va_up, if_neg hq], fun q k => iF_sA⟩
/-- books changed within, model's numbers new: all stays in order -/
theorem Inv_w (h : Inv E S) (hb1 : b = 1) {U : SS} {g' : Nat → Int32} (hU : ∀ q, (q < b ∨ b + 22 ≤ q) → U q = S q) (htd : td ≤ 2999) (hR : Rel E U b z t hc pk td (18 * td) g') : Inv E (sA U 94 g') := by
  subst hb1
  refine Inv_B h ⟨fun q h0 h1 h2 _ _ _ => ?_, fun k _ => ?_⟩ ⟨z, t, hc, pk, td, htd, ?_⟩ ?_
  · rw [sA, va_up, if_neg h2, hU q (by omega)]
  · rw [iF_sA, iF, iF, hU 93 (by omega)]
  · rw [i94]
    exact Rel_cells (Or.inl rfl) (fun q hq => by rw [sA, va_up, if_neg (by omega)]) (Nat.le_refl _) hR
  · intro j p hj hp
    rw [iQ, sA, va_up, if_neg (by omega), hU _ (by omega)] at hp
    exact h.2.2.2.2.2.2.2.1 j p hj hp
theorem q_flee (h : Inv E S) : opE E S 50 52 2 2 [.int c] := by
  obtain ⟨hE, hpar, ⟨z, t, hc, pk, td, htd, hR⟩, hI, hTp, hWt, hSh, hKy⟩ := id h
  obtain ⟨b, hb1⟩ : ∃ b, b = 1 := ⟨1, rfl⟩
  have hb : bkb b := Or.inl hb1
  rw [← hb1] at hR
  have o9 := o_X hE hb1
  have o0 := o_B hE hb
  have o8 := o_I hE hb
  have o1 := o_L hE hb
  have o5 := o_P hE
  have o10 := o_M hE
  have m10 := m_M hE
  have m9 : ∀ S, misc (hp E S 0) 9 = true := fun S => misc_o o9
  have m0 : ∀ S, misc (hp E S b) 0 = true := fun S => misc_o o0
  have m8 : ∀ S, misc (hp E S (b + 13)) 8 = true := fun S => misc_o o8
  have m1 : ∀ S, misc (hp E S (b + 22)) 1 = true := fun S => misc_o o1
  have m5 : ∀ S, misc (hp E S 79) 5 = true := fun S => misc_o o5
  obtain ⟨n1, n14, n16, n18, n20, n22, n3, n5, n7⟩ := rl_okm hR
  obtain ⟨⟨g1, g3, g5, g7, g14, g16, g18, g20, g22, gt, gw⟩, hH, hP⟩ := rl_okh hR
  have ht := rl_tod hR
  rcases ixc (n := z 1) c (by omega) with hx | ⟨k, hk, rfl, hx⟩
  · refine op_v h (-1000000001) (fun d => ?_) (fun d => ?_)
    · simp only [ment, mfl, List.length, List.replicate, List.cons_append, List.nil_append, Nat.reduceAdd, Nat.reduceSub]; simp only [r_al0 c_X_flee_0, r_an0 c_X_flee_0, r_gfSr c_X_flee_1 o9 rfl, r_gfSr c_X_flee_4 o0 rfl, r_il1 c_X_flee_7, r_cv2 c_X_flee_8, r_ifne c_X_flee_11, r_ci c_X_flee_14, r_iret c_X_flee_16, r_al0 c_X_flee_17, r_an0 c_X_flee_17, r_gfSr c_X_flee_18 o9 rfl, r_il1 c_X_flee_21, r_cv2 c_X_flee_22, r_ifne c_X_flee_25, r_al0 c_X_flee_28, r_an0 c_X_flee_28, r_gfSr c_X_flee_29 o9 rfl, r_il1 c_X_flee_32, r_cv2 c_X_flee_33, r_ifeq c_X_flee_36, r_ci c_X_flee_39, r_iret c_X_flee_41, r_al0 c_X_flee_42, r_an0 c_X_flee_42, r_gfSr c_X_flee_43 o9 rfl, r_gfSr c_X_flee_46 o0 rfl, r_il1 c_X_flee_49, r_al0 c_X_flee_50, r_an0 c_X_flee_50, r_gfSr c_X_flee_51 o9 rfl, r_gfS0 c_X_flee_54 o0 rfl, r_cv3 c_X_flee_57, r_ci c_X_flee_60, r_iret c_X_flee_61, ↓reduceIte, hs_h, Option.bind_some, mfix_i, mfix_r, mfix_n, mfix_a, Option.toList_some, Option.toList_none, List.cons_append, List.nil_append, List.singleton_append, mwt, Value.category, Nat.reduceAdd, Nat.reduceLeDiff, true_and, and_true, and_self, misc_w (w_1 hE hb), has_1 hE hb, g1.1, hx, if_true]
    · simp only [ment, mfl, List.length, List.replicate, List.cons_append, List.nil_append, Nat.reduceAdd, Nat.reduceSub]; simp only [r_al0 c_M_flee_0, r_il1 c_M_flee_1, r_ci c_M_flee_2, r_cv3 c_M_flee_3, r_ifne c_M_flee_6, r_ci c_M_flee_9, r_iret c_M_flee_11, r_al0 c_M_flee_12, r_il1 c_M_flee_13, r_ci c_M_flee_14, r_cv3 c_M_flee_15, r_ifne c_M_flee_18, r_al0 c_M_flee_21, r_il1 c_M_flee_22, r_ci c_M_flee_23, r_cv3 c_M_flee_24, r_ifge c_M_flee_27, r_ci c_M_flee_30, r_iret c_M_flee_32, r_al0 c_M_flee_33, r_il1 c_M_flee_34, r_cv2 c_M_flee_35, r_ci c_M_flee_38, r_iret c_M_flee_39, ↓reduceIte, hs_h, Option.bind_some, mfix_i, mfix_r, mfix_n, mfix_a, Option.toList_some, Option.toList_none, List.cons_append, List.nil_append, List.singleton_append, mwt, Value.category, Nat.reduceAdd, Nat.reduceLeDiff, true_and, and_true, and_self, m10, mt2 hE, n1.1, th_eq (show z 1 < 2 ^ 31 by omega), hx, if_true]
  · have k12 : k < 12 := by omega
    have c3 : iA S 94 (20 + 6 * k + 3) = iA S (b + 2) (k * 6 + 3) := rl_c0 hR hk (c := 3) (by omega)
    obtain ⟨s, l1, l2, l3⟩ := rl_lat hR k hk
    have hs30 : s < 30 := by have := (lsq_lt l1).1; omega
    by_cases q3 : iA S (b + 2) (k * 6 + 3) = 0
    · have hf : hfS S b k (z 16) = if iA S (b + 17) (s * 3 + 2) = 2147483647 then 0 else 1 := by rw [hfS, if_pos q3, l1]
      by_cases q5 : iA S (b + 17) (s * 3 + 2) = 2147483647
      · rw [if_pos q5] at hf l2
        have hR2 := Rel_leave (v := 0) hb hR hk l1
        rw [lv_en q3, ml_me (c3.trans q3)] at hR2
        have ho : ∀ S1 : SS, iA S1 94 = iA S 94 → iA S1 94 (20 + 6 * k + 5) = cdF (goO (iA S (b + 17)) s) := fun S1 e => by rw [e, cd_go hs30, if_pos q5]; exact l2
        have e94 : iA (enS S b (z 16) (nI k) (iF S b 8)) 94 = iA S 94 := by rw [iA, en_cells.1 94 (by omega)]
        have re := fun d => M_ends_ok (d := d) (S := enS S b (z 16) (nI k) (iF S b 8)) hE k12 (ho _ e94) (go_lt hs30)
        rw [e94, ht.2.2] at re
        refine ⟨1, enS S b (z 16) (nI k) (iF S b 8), _, fun d _ => ?_, fun d _ => ?_, Inv_w h hb1 (fun q hq => en_cells.1 q (by omega)) htd hR2⟩
        · simp only [ment, mfl, List.length, List.replicate, List.cons_append, List.nil_append, Nat.reduceAdd, Nat.reduceSub]; simp only [r_al0 c_X_flee_0, r_an0 c_X_flee_0, r_gfSr c_X_flee_1 o9 rfl, r_gfSr c_X_flee_4 o0 rfl, r_il1 c_X_flee_7, r_cv2 c_X_flee_8, r_ifne c_X_flee_11, r_ci c_X_flee_14, r_iret c_X_flee_16, r_al0 c_X_flee_17, r_an0 c_X_flee_17, r_gfSr c_X_flee_18 o9 rfl, r_il1 c_X_flee_21, r_cv2 c_X_flee_22, r_ifne c_X_flee_25, r_al0 c_X_flee_28, r_an0 c_X_flee_28, r_gfSr c_X_flee_29 o9 rfl, r_il1 c_X_flee_32, r_cv2 c_X_flee_33, r_ifeq c_X_flee_36, r_ci c_X_flee_39, r_iret c_X_flee_41, r_al0 c_X_flee_42, r_an0 c_X_flee_42, r_gfSr c_X_flee_43 o9 rfl, r_gfSr c_X_flee_46 o0 rfl, r_il1 c_X_flee_49, r_al0 c_X_flee_50, r_an0 c_X_flee_50, r_gfSr c_X_flee_51 o9 rfl, r_gfS0 c_X_flee_54 o0 rfl, r_cv3 c_X_flee_57, r_ci c_X_flee_60, r_iret c_X_flee_61, ↓reduceIte, hs_h, Option.bind_some, mfix_i, mfix_r, mfix_n, mfix_a, Option.toList_some, Option.toList_none, List.cons_append, List.nil_append, List.singleton_append, mwt, Value.category, Nat.reduceAdd, Nat.reduceLeDiff, true_and, and_true, and_self, misc_w (w_1 hE hb), has_1 hE hb, g1.1, hx, if_false, one_nz, m0, B_stateOf_ok hE hb k12, q3, if_true, B_hasFled_ok hE hb k12 g16.1 g16.2, hf, m8, I_endSpan_ok hE hb g16.1 g16.2]
        · simp only [ment, mfl, List.length, List.replicate, List.cons_append, List.nil_append, Nat.reduceAdd, Nat.reduceSub]; simp only [r_al0 c_M_flee_0, r_il1 c_M_flee_1, r_ci c_M_flee_2, r_cv3 c_M_flee_3, r_ifne c_M_flee_6, r_ci c_M_flee_9, r_iret c_M_flee_11, r_al0 c_M_flee_12, r_il1 c_M_flee_13, r_ci c_M_flee_14, r_cv3 c_M_flee_15, r_ifne c_M_flee_18, r_al0 c_M_flee_21, r_il1 c_M_flee_22, r_ci c_M_flee_23, r_cv3 c_M_flee_24, r_ifge c_M_flee_27, r_ci c_M_flee_30, r_iret c_M_flee_32, r_al0 c_M_flee_33, r_il1 c_M_flee_34, r_cv2 c_M_flee_35, r_ci c_M_flee_38, r_iret c_M_flee_39, ↓reduceIte, hs_h, Option.bind_some, mfix_i, mfix_r, mfix_n, mfix_a, Option.toList_some, Option.toList_none, List.cons_append, List.nil_append, List.singleton_append, mwt, Value.category, Nat.reduceAdd, Nat.reduceLeDiff, true_and, and_true, and_self, m10, mt2 hE, e94, n1.1, th_eq (show z 1 < 2 ^ 31 by omega), hx, if_false, one_nz, oc3 hE k12, c3, q3, if_true, oc5 hE k12, l2, show 0 ≤ nI s from nI_pos' (by omega), re]
      · rw [if_neg q5] at hf l2
        refine op_v h (-1000000002) (fun d => ?_) (fun d => ?_)
        · simp only [ment, mfl, List.length, List.replicate, List.cons_append, List.nil_append, Nat.reduceAdd, Nat.reduceSub]; simp only [r_al0 c_X_flee_0, r_an0 c_X_flee_0, r_gfSr c_X_flee_1 o9 rfl, r_gfSr c_X_flee_4 o0 rfl, r_il1 c_X_flee_7, r_cv2 c_X_flee_8, r_ifne c_X_flee_11, r_ci c_X_flee_14, r_iret c_X_flee_16, r_al0 c_X_flee_17, r_an0 c_X_flee_17, r_gfSr c_X_flee_18 o9 rfl, r_il1 c_X_flee_21, r_cv2 c_X_flee_22, r_ifne c_X_flee_25, r_al0 c_X_flee_28, r_an0 c_X_flee_28, r_gfSr c_X_flee_29 o9 rfl, r_il1 c_X_flee_32, r_cv2 c_X_flee_33, r_ifeq c_X_flee_36, r_ci c_X_flee_39, r_iret c_X_flee_41, r_al0 c_X_flee_42, r_an0 c_X_flee_42, r_gfSr c_X_flee_43 o9 rfl, r_gfSr c_X_flee_46 o0 rfl, r_il1 c_X_flee_49, r_al0 c_X_flee_50, r_an0 c_X_flee_50, r_gfSr c_X_flee_51 o9 rfl, r_gfS0 c_X_flee_54 o0 rfl, r_cv3 c_X_flee_57, r_ci c_X_flee_60, r_iret c_X_flee_61, ↓reduceIte, hs_h, Option.bind_some, mfix_i, mfix_r, mfix_n, mfix_a, Option.toList_some, Option.toList_none, List.cons_append, List.nil_append, List.singleton_append, mwt, Value.category, Nat.reduceAdd, Nat.reduceLeDiff, true_and, and_true, and_self, misc_w (w_1 hE hb), has_1 hE hb, g1.1, hx, if_false, one_nz, m0, B_stateOf_ok hE hb k12, q3, if_true, B_hasFled_ok hE hb k12 g16.1 g16.2, hf]
        · simp only [ment, mfl, List.length, List.replicate, List.cons_append, List.nil_append, Nat.reduceAdd, Nat.reduceSub]; simp only [r_al0 c_M_flee_0, r_il1 c_M_flee_1, r_ci c_M_flee_2, r_cv3 c_M_flee_3, r_ifne c_M_flee_6, r_ci c_M_flee_9, r_iret c_M_flee_11, r_al0 c_M_flee_12, r_il1 c_M_flee_13, r_ci c_M_flee_14, r_cv3 c_M_flee_15, r_ifne c_M_flee_18, r_al0 c_M_flee_21, r_il1 c_M_flee_22, r_ci c_M_flee_23, r_cv3 c_M_flee_24, r_ifge c_M_flee_27, r_ci c_M_flee_30, r_iret c_M_flee_32, r_al0 c_M_flee_33, r_il1 c_M_flee_34, r_cv2 c_M_flee_35, r_ci c_M_flee_38, r_iret c_M_flee_39, ↓reduceIte, hs_h, Option.bind_some, mfix_i, mfix_r, mfix_n, mfix_a, Option.toList_some, Option.toList_none, List.cons_append, List.nil_append, List.singleton_append, mwt, Value.category, Nat.reduceAdd, Nat.reduceLeDiff, true_and, and_true, and_self, m10, mt2 hE, n1.1, th_eq (show z 1 < 2 ^ 31 by omega), hx, if_false, one_nz, oc3 hE k12, c3, q3, if_true, oc5 hE k12, l2, show ¬ (0 : Int32) ≤ -1 by decide]
    · refine op_v h (-1000000002) (fun d => ?_) (fun d => ?_)
      · simp only [ment, mfl, List.length, List.replicate, List.cons_append, List.nil_append, Nat.reduceAdd, Nat.reduceSub]; simp only [r_al0 c_X_flee_0, r_an0 c_X_flee_0, r_gfSr c_X_flee_1 o9 rfl, r_gfSr c_X_flee_4 o0 rfl, r_il1 c_X_flee_7, r_cv2 c_X_flee_8, r_ifne c_X_flee_11, r_ci c_X_flee_14, r_iret c_X_flee_16, r_al0 c_X_flee_17, r_an0 c_X_flee_17, r_gfSr c_X_flee_18 o9 rfl, r_il1 c_X_flee_21, r_cv2 c_X_flee_22, r_ifne c_X_flee_25, r_al0 c_X_flee_28, r_an0 c_X_flee_28, r_gfSr c_X_flee_29 o9 rfl, r_il1 c_X_flee_32, r_cv2 c_X_flee_33, r_ifeq c_X_flee_36, r_ci c_X_flee_39, r_iret c_X_flee_41, r_al0 c_X_flee_42, r_an0 c_X_flee_42, r_gfSr c_X_flee_43 o9 rfl, r_gfSr c_X_flee_46 o0 rfl, r_il1 c_X_flee_49, r_al0 c_X_flee_50, r_an0 c_X_flee_50, r_gfSr c_X_flee_51 o9 rfl, r_gfS0 c_X_flee_54 o0 rfl, r_cv3 c_X_flee_57, r_ci c_X_flee_60, r_iret c_X_flee_61, ↓reduceIte, hs_h, Option.bind_some, mfix_i, mfix_r, mfix_n, mfix_a, Option.toList_some, Option.toList_none, List.cons_append, List.nil_append, List.singleton_append, mwt, Value.category, Nat.reduceAdd, Nat.reduceLeDiff, true_and, and_true, and_self, misc_w (w_1 hE hb), has_1 hE hb, g1.1, hx, if_false, one_nz, m0, B_stateOf_ok hE hb k12, q3]
      · simp only [ment, mfl, List.length, List.replicate, List.cons_append, List.nil_append, Nat.reduceAdd, Nat.reduceSub]; simp only [r_al0 c_M_flee_0, r_il1 c_M_flee_1, r_ci c_M_flee_2, r_cv3 c_M_flee_3, r_ifne c_M_flee_6, r_ci c_M_flee_9, r_iret c_M_flee_11, r_al0 c_M_flee_12, r_il1 c_M_flee_13, r_ci c_M_flee_14, r_cv3 c_M_flee_15, r_ifne c_M_flee_18, r_al0 c_M_flee_21, r_il1 c_M_flee_22, r_ci c_M_flee_23, r_cv3 c_M_flee_24, r_ifge c_M_flee_27, r_ci c_M_flee_30, r_iret c_M_flee_32, r_al0 c_M_flee_33, r_il1 c_M_flee_34, r_cv2 c_M_flee_35, r_ci c_M_flee_38, r_iret c_M_flee_39, ↓reduceIte, hs_h, Option.bind_some, mfix_i, mfix_r, mfix_n, mfix_a, Option.toList_some, Option.toList_none, List.cons_append, List.nil_append, List.singleton_append, mwt, Value.category, Nat.reduceAdd, Nat.reduceLeDiff, true_and, and_true, and_self, m10, mt2 hE, n1.1, th_eq (show z 1 < 2 ^ 31 by omega), hx, if_false, one_nz, oc3 hE k12, c3, q3]
theorem q_gone (h : Inv E S) : opE E S 56 57 2 2 [.int c] := by
  obtain ⟨hE, hpar, ⟨z, t, hc, pk, td, htd, hR⟩, hI, hTp, hWt, hSh, hKy⟩ := id h
  obtain ⟨b, hb1⟩ : ∃ b, b = 1 := ⟨1, rfl⟩
  have hb : bkb b := Or.inl hb1
  rw [← hb1] at hR
  have o9 := o_X hE hb1
  have o0 := o_B hE hb
  have o8 := o_I hE hb
  have o1 := o_L hE hb
  have o5 := o_P hE
  have o10 := o_M hE
  have m10 := m_M hE
  have m9 : ∀ S, misc (hp E S 0) 9 = true := fun S => misc_o o9
  have m0 : ∀ S, misc (hp E S b) 0 = true := fun S => misc_o o0
  have m8 : ∀ S, misc (hp E S (b + 13)) 8 = true := fun S => misc_o o8
  have m1 : ∀ S, misc (hp E S (b + 22)) 1 = true := fun S => misc_o o1
  have m5 : ∀ S, misc (hp E S 79) 5 = true := fun S => misc_o o5
  obtain ⟨n1, n14, n16, n18, n20, n22, n3, n5, n7⟩ := rl_okm hR
  obtain ⟨⟨g1, g3, g5, g7, g14, g16, g18, g20, g22, gt, gw⟩, hH, hP⟩ := rl_okh hR
  have ht := rl_tod hR
  rcases ixc (n := z 1) c (by omega) with hx | ⟨k, hk, rfl, hx⟩
  · refine op_v h (-1000000001) (fun d => ?_) (fun d => ?_)
    · simp only [ment, mfl, List.length, List.replicate, List.cons_append, List.nil_append, Nat.reduceAdd, Nat.reduceSub]; simp only [r_al0 c_X_gone_0, r_an0 c_X_gone_0, r_gfSr c_X_gone_1 o9 rfl, r_gfSr c_X_gone_4 o0 rfl, r_il1 c_X_gone_7, r_cv2 c_X_gone_8, r_ifne c_X_gone_11, r_ci c_X_gone_14, r_iret c_X_gone_16, r_al0 c_X_gone_17, r_an0 c_X_gone_17, r_gfSr c_X_gone_18 o9 rfl, r_il1 c_X_gone_21, r_cv2 c_X_gone_22, r_ci c_X_gone_25, r_icne c_X_gone_26, r_ci c_X_gone_29, r_iret c_X_gone_31, r_al0 c_X_gone_32, r_an0 c_X_gone_32, r_gfSr c_X_gone_33 o9 rfl, r_il1 c_X_gone_36, r_ci c_X_gone_37, r_cv3 c_X_gone_38, r_ci c_X_gone_41, r_iret c_X_gone_42, ↓reduceIte, hs_h, Option.bind_some, mfix_i, mfix_r, mfix_n, mfix_a, Option.toList_some, Option.toList_none, List.cons_append, List.nil_append, List.singleton_append, mwt, Value.category, Nat.reduceAdd, Nat.reduceLeDiff, true_and, and_true, and_self, misc_w (w_1 hE hb), has_1 hE hb, g1.1, hx, if_true]
    · simp only [ment, mfl, List.length, List.replicate, List.cons_append, List.nil_append, Nat.reduceAdd, Nat.reduceSub]; simp only [r_al0 c_M_gone_0, r_il1 c_M_gone_1, r_ci c_M_gone_2, r_cv3 c_M_gone_3, r_ifne c_M_gone_6, r_ci c_M_gone_9, r_iret c_M_gone_11, r_al0 c_M_gone_12, r_il1 c_M_gone_13, r_ci c_M_gone_14, r_cv3 c_M_gone_15, r_ci c_M_gone_18, r_icne c_M_gone_19, r_ci c_M_gone_22, r_iret c_M_gone_24, r_al0 c_M_gone_25, r_il1 c_M_gone_26, r_cv2 c_M_gone_27, r_al0 c_M_gone_30, r_il1 c_M_gone_31, r_ci c_M_gone_32, r_ci c_M_gone_33, r_cv4 c_M_gone_34, r_ci c_M_gone_37, r_iret c_M_gone_38, ↓reduceIte, hs_h, Option.bind_some, mfix_i, mfix_r, mfix_n, mfix_a, Option.toList_some, Option.toList_none, List.cons_append, List.nil_append, List.singleton_append, mwt, Value.category, Nat.reduceAdd, Nat.reduceLeDiff, true_and, and_true, and_self, m10, mt2 hE, n1.1, th_eq (show z 1 < 2 ^ 31 by omega), hx, if_true]
  · have k12 : k < 12 := by omega
    have c3 : iA S 94 (20 + 6 * k + 3) = iA S (b + 2) (k * 6 + 3) := rl_c0 hR hk (c := 3) (by omega)
    obtain ⟨s, l1, l2, l3⟩ := rl_lat hR k hk
    have hs30 : s < 30 := by have := (lsq_lt l1).1; omega
    by_cases q3 : iA S (b + 2) (k * 6 + 3) = 2
    · refine op_v h (-1000000002) (fun d => ?_) (fun d => ?_)
      · simp only [ment, mfl, List.length, List.replicate, List.cons_append, List.nil_append, Nat.reduceAdd, Nat.reduceSub]; simp only [r_al0 c_X_gone_0, r_an0 c_X_gone_0, r_gfSr c_X_gone_1 o9 rfl, r_gfSr c_X_gone_4 o0 rfl, r_il1 c_X_gone_7, r_cv2 c_X_gone_8, r_ifne c_X_gone_11, r_ci c_X_gone_14, r_iret c_X_gone_16, r_al0 c_X_gone_17, r_an0 c_X_gone_17, r_gfSr c_X_gone_18 o9 rfl, r_il1 c_X_gone_21, r_cv2 c_X_gone_22, r_ci c_X_gone_25, r_icne c_X_gone_26, r_ci c_X_gone_29, r_iret c_X_gone_31, r_al0 c_X_gone_32, r_an0 c_X_gone_32, r_gfSr c_X_gone_33 o9 rfl, r_il1 c_X_gone_36, r_ci c_X_gone_37, r_cv3 c_X_gone_38, r_ci c_X_gone_41, r_iret c_X_gone_42, ↓reduceIte, hs_h, Option.bind_some, mfix_i, mfix_r, mfix_n, mfix_a, Option.toList_some, Option.toList_none, List.cons_append, List.nil_append, List.singleton_append, mwt, Value.category, Nat.reduceAdd, Nat.reduceLeDiff, true_and, and_true, and_self, misc_w (w_1 hE hb), has_1 hE hb, g1.1, hx, if_false, one_nz, m0, B_stateOf_ok hE hb k12, q3, if_true]
      · simp only [ment, mfl, List.length, List.replicate, List.cons_append, List.nil_append, Nat.reduceAdd, Nat.reduceSub]; simp only [r_al0 c_M_gone_0, r_il1 c_M_gone_1, r_ci c_M_gone_2, r_cv3 c_M_gone_3, r_ifne c_M_gone_6, r_ci c_M_gone_9, r_iret c_M_gone_11, r_al0 c_M_gone_12, r_il1 c_M_gone_13, r_ci c_M_gone_14, r_cv3 c_M_gone_15, r_ci c_M_gone_18, r_icne c_M_gone_19, r_ci c_M_gone_22, r_iret c_M_gone_24, r_al0 c_M_gone_25, r_il1 c_M_gone_26, r_cv2 c_M_gone_27, r_al0 c_M_gone_30, r_il1 c_M_gone_31, r_ci c_M_gone_32, r_ci c_M_gone_33, r_cv4 c_M_gone_34, r_ci c_M_gone_37, r_iret c_M_gone_38, ↓reduceIte, hs_h, Option.bind_some, mfix_i, mfix_r, mfix_n, mfix_a, Option.toList_some, Option.toList_none, List.cons_append, List.nil_append, List.singleton_append, mwt, Value.category, Nat.reduceAdd, Nat.reduceLeDiff, true_and, and_true, and_self, m10, mt2 hE, n1.1, th_eq (show z 1 < 2 ^ 31 by omega), hx, if_false, one_nz, oc3 hE k12, c3, q3, if_true]
    · have hR2 := Rel_leave (v := 2) hb hR hk l1
      have hcl : ∀ q, q ≠ b + 2 → q ≠ b + 17 → lvS S b k (z 16) 2 q = S q := fun q h1 h2 => by rw [lvS, en_cells.1 q h2, sA, va_up, if_neg h1]
      have e94 : iA (lvS S b k (z 16) 2) 94 = iA S 94 := by rw [iA, hcl 94 (by omega) (by omega)]
      have ho : iA (lvS S b k (z 16) 2) 94 (20 + 6 * k + 5) = cdF (goO (iA S (b + 17)) s) := by rw [e94, cd_go hs30]; exact l2
      have re := fun d => M_ends_ok (d := d) (S := lvS S b k (z 16) 2) hE k12 ho (go_lt hs30)
      rw [e94, ht.2.2] at re
      refine ⟨1, lvS S b k (z 16) 2, _, fun d _ => ?_, fun d _ => ?_, Inv_w h hb1 (fun q hq => hcl q (by omega) (by omega)) htd hR2⟩
      · simp only [ment, mfl, List.length, List.replicate, List.cons_append, List.nil_append, Nat.reduceAdd, Nat.reduceSub]; simp only [r_al0 c_X_gone_0, r_an0 c_X_gone_0, r_gfSr c_X_gone_1 o9 rfl, r_gfSr c_X_gone_4 o0 rfl, r_il1 c_X_gone_7, r_cv2 c_X_gone_8, r_ifne c_X_gone_11, r_ci c_X_gone_14, r_iret c_X_gone_16, r_al0 c_X_gone_17, r_an0 c_X_gone_17, r_gfSr c_X_gone_18 o9 rfl, r_il1 c_X_gone_21, r_cv2 c_X_gone_22, r_ci c_X_gone_25, r_icne c_X_gone_26, r_ci c_X_gone_29, r_iret c_X_gone_31, r_al0 c_X_gone_32, r_an0 c_X_gone_32, r_gfSr c_X_gone_33 o9 rfl, r_il1 c_X_gone_36, r_ci c_X_gone_37, r_cv3 c_X_gone_38, r_ci c_X_gone_41, r_iret c_X_gone_42, ↓reduceIte, hs_h, Option.bind_some, mfix_i, mfix_r, mfix_n, mfix_a, Option.toList_some, Option.toList_none, List.cons_append, List.nil_append, List.singleton_append, mwt, Value.category, Nat.reduceAdd, Nat.reduceLeDiff, true_and, and_true, and_self, misc_w (w_1 hE hb), has_1 hE hb, g1.1, hx, if_false, one_nz, m0, B_stateOf_ok hE hb k12, q3, B_leave_ok hE hb k12 g16.1 g16.2]
      · simp only [ment, mfl, List.length, List.replicate, List.cons_append, List.nil_append, Nat.reduceAdd, Nat.reduceSub]; simp only [r_al0 c_M_gone_0, r_il1 c_M_gone_1, r_ci c_M_gone_2, r_cv3 c_M_gone_3, r_ifne c_M_gone_6, r_ci c_M_gone_9, r_iret c_M_gone_11, r_al0 c_M_gone_12, r_il1 c_M_gone_13, r_ci c_M_gone_14, r_cv3 c_M_gone_15, r_ci c_M_gone_18, r_icne c_M_gone_19, r_ci c_M_gone_22, r_iret c_M_gone_24, r_al0 c_M_gone_25, r_il1 c_M_gone_26, r_cv2 c_M_gone_27, r_al0 c_M_gone_30, r_il1 c_M_gone_31, r_ci c_M_gone_32, r_ci c_M_gone_33, r_cv4 c_M_gone_34, r_ci c_M_gone_37, r_iret c_M_gone_38, ↓reduceIte, hs_h, Option.bind_some, mfix_i, mfix_r, mfix_n, mfix_a, Option.toList_some, Option.toList_none, List.cons_append, List.nil_append, List.singleton_append, mwt, Value.category, Nat.reduceAdd, Nat.reduceLeDiff, true_and, and_true, and_self, m10, mt2 hE, e94, n1.1, th_eq (show z 1 < 2 ^ 31 by omega), hx, if_false, one_nz, oc3 hE k12, c3, q3, re, be3 hE k12, i94, sA_sA, mlF]
end LEAVES
