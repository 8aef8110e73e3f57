/-! the books: turns, what comes behind a hearing -/
section UNDO
variable {E : EE} {S S1 : SS} {d b n k : Nat} {c v : Int32} {hc z t : Nat → Nat}
def cuF (f : Nat → Int32) (c : Int32) : Nat → Nat → Int32
  | _, 0 => 1
  | i, m + 1 => if f (i * 5) = c then if f (i * 5 + 2) = 2 then 0 else cuF f c (i + 1) m else cuF f c (i + 1) m
def cuS (S : SS) (b n k : Nat) (hc : Nat → Nat) : Int32 := if iA S (b + 8) (k * 5 + 2) = 2 then if iA S (b + 2) (hc k * 6 + 3) = 1 then cuF (iA S (b + 8)) (nI (hc k)) (k + 1) (n - (k + 1)) else 0 else 0
theorem B_canUnwind_ok (hE : okE E) (hb : bkb b) (hn : iF S (b + 7) 3 = nI n) (hn2 : n ≤ 30) (hH : hcs S b n hc) (hk : k < n) : mres cT 203 d 0 (ment 4 [.ref b, .int (nI k)]) [] (hs E S) = some (some (.int (cuS S b n k hc)), hs E S) := by
  have o0 := o_B hE hb
  have m0 := misc_o (S := S) o0
  have hk2 : k < 30 := by omega
  obtain ⟨hq, hq2⟩ := hH k hk
  have lp : ∀ m i, i + m = n → mres cT 203 d 38 [.ref b, .int (nI k), .int (nI (hc k)), .int (nI i)] [] (hs E S) = some (some (.int (cuF (iA S (b + 8)) (nI (hc k)) i m)), hs E S) := by
    intro m
    induction m with
    | zero =>
      intro i hi
      have h1 : nI n ≤ nI i := nI_le (by omega) (by omega)
      simp only [r_il3 c_B_canUnwind_38, r_al0 c_B_canUnwind_39, r_gfSr c_B_canUnwind_40 o0 rfl, r_gfR3 c_B_canUnwind_43 (w_1 hE hb), r_gfR3 c_B_canUnwind_43 (w_3 hE hb), r_gfR3 c_B_canUnwind_43 (w_5 hE hb), r_gfR3 c_B_canUnwind_43 (w_7 hE hb), r_gfR3 c_B_canUnwind_43 (w_9 hE hb), r_gfR3 c_B_canUnwind_43 (w_11 hE hb), r_gfR3 c_B_canUnwind_43 (w_14 hE hb), r_gfR3 c_B_canUnwind_43 (w_16 hE hb), r_gfR3 c_B_canUnwind_43 (w_18 hE hb), r_gfR3 c_B_canUnwind_43 (w_20 hE hb), r_icge c_B_canUnwind_46, r_ci c_B_canUnwind_83, r_zret c_B_canUnwind_84, ↓reduceIte, hs_h, Option.bind_some, mfix_i, mfix_r, mfix_n, mfix_a, Option.toList_some, Option.toList_none, List.cons_append, List.nil_append, List.singleton_append, hn, h1, if_true, cuF, mz1]
    | succ m ih =>
      intro i hi
      have h1 : ¬ nI n ≤ nI i := nI_ge (by omega) (by omega)
      have hi2 : i < 30 := by omega
      have ih := ih (i + 1) (by omega)
      simp only [r_il3 c_B_canUnwind_38, r_al0 c_B_canUnwind_39, r_gfSr c_B_canUnwind_40 o0 rfl, r_gfR3 c_B_canUnwind_43 (w_1 hE hb), r_gfR3 c_B_canUnwind_43 (w_3 hE hb), r_gfR3 c_B_canUnwind_43 (w_5 hE hb), r_gfR3 c_B_canUnwind_43 (w_7 hE hb), r_gfR3 c_B_canUnwind_43 (w_9 hE hb), r_gfR3 c_B_canUnwind_43 (w_11 hE hb), r_gfR3 c_B_canUnwind_43 (w_14 hE hb), r_gfR3 c_B_canUnwind_43 (w_16 hE hb), r_gfR3 c_B_canUnwind_43 (w_18 hE hb), r_gfR3 c_B_canUnwind_43 (w_20 hE hb), r_icge c_B_canUnwind_46, ↓reduceIte, hs_h, Option.bind_some, mfix_i, mfix_r, mfix_n, mfix_a, Option.toList_some, Option.toList_none, List.cons_append, List.nil_append, List.singleton_append, hn, h1]
      simp only [r_al0 c_B_canUnwind_49, r_gfSr c_B_canUnwind_50 o0 rfl, r_il3 c_B_canUnwind_53, r_ci c_B_canUnwind_54, r_cv3 c_B_canUnwind_55, r_il2 c_B_canUnwind_58, r_icne c_B_canUnwind_59, r_al0 c_B_canUnwind_62, r_gfSr c_B_canUnwind_63 o0 rfl, r_il3 c_B_canUnwind_66, r_ci c_B_canUnwind_67, r_cv3 c_B_canUnwind_68, r_ci c_B_canUnwind_71, r_icne c_B_canUnwind_72, r_ci c_B_canUnwind_75, r_zret c_B_canUnwind_76, r_inc3 c_B_canUnwind_77, r_goto c_B_canUnwind_80, ↓reduceIte, hs_h, Option.bind_some, mfix_i, mfix_r, mfix_n, mfix_a, Option.toList_some, Option.toList_none, List.cons_append, List.nil_append, List.singleton_append, mwt, Value.category, Nat.reduceAdd, Nat.reduceLeDiff, true_and, and_true, and_self, at_7 hE hb, misc_w (w_7 hE hb), ra0 hi2 (show 0 < 5 by decide) (show 30 * 5 ≤ 1000 by decide), ra2 hi2 (show 2 < 5 by decide) (show 30 * 5 ≤ 1000 by decide), nI_1, ih, mz0, ite_out, cuF]
  have lq := lp (n - (k + 1)) (k + 1) (by omega)
  simp only [ment, mfl, List.length, List.replicate, List.cons_append, List.nil_append, Nat.reduceAdd, Nat.reduceSub, cuS]
  simp only [r_al0 c_B_canUnwind_0, r_gfSr c_B_canUnwind_1 o0 rfl, r_il1 c_B_canUnwind_4, r_ci c_B_canUnwind_5, r_cv3 c_B_canUnwind_6, r_is2 c_B_canUnwind_9, r_al0 c_B_canUnwind_10, r_gfSr c_B_canUnwind_11 o0 rfl, r_il1 c_B_canUnwind_14, r_ci c_B_canUnwind_15, r_cv3 c_B_canUnwind_16, r_ci c_B_canUnwind_19, r_icne c_B_canUnwind_20, r_al0 c_B_canUnwind_23, r_il2 c_B_canUnwind_24, r_cv2 c_B_canUnwind_25, r_ci c_B_canUnwind_28, r_iceq c_B_canUnwind_29, r_ci c_B_canUnwind_32, r_zret c_B_canUnwind_33, r_il1 c_B_canUnwind_34, r_ci c_B_canUnwind_35, r_iadd c_B_canUnwind_36, r_is3 c_B_canUnwind_37, ↓reduceIte, hs_h, Option.bind_some, mfix_i, mfix_r, mfix_n, mfix_a, Option.toList_some, Option.toList_none, List.cons_append, List.nil_append, List.singleton_append, mwt, Value.category, Nat.reduceAdd, Nat.reduceLeDiff, true_and, and_true, and_self, at_7 hE hb, misc_w (w_7 hE hb), m0, ra0 hk2 (show 0 < 5 by decide) (show 30 * 5 ≤ 1000 by decide), ra2 hk2 (show 2 < 5 by decide) (show 30 * 5 ≤ 1000 by decide), hq, B_stateOf_ok hE hb hq2, nI_1, lq, mz0, ite_out]
def uwS (S : SS) (b : Nat) (z t : Nat → Nat) (k j : Nat) : Int32 := rlV S b (z 22) t (iA S (b + 2) (j * 6)) 4 (iF S b 8) (iF S b 8 - iA S (b + 8) (k * 5 + 1)) 0 0 0
theorem B_unwindRule_ok (hE : okE E) (hb : bkb b) (hz : okB E S b z t) (hH : hcs S b (z 7) hc) (hk : k < z 7) : ∃ S2, eqS b S S2 ∧ ∀ d, mres cT 204 d 0 (ment 3 [.ref b, .int (nI k)]) [] (hs E S) = some (some (.int (uwS S b z t k (hc k))), hs E S2) := by
  have o0 := o_B hE hb
  have m1 : ∀ S, misc (hp E S (b + 22)) 1 = true := fun S => misc_o (o_L hE hb)
  obtain ⟨h1, h3, h5, h7, h14, h16, h18, h20, h22, ht, hw⟩ := hz
  have hk2 : k < 30 := by omega
  obtain ⟨hq, hq2⟩ := hH k hk
  refine ⟨_, rlS_e (n := z 22) (t := t) (fo := iA S (b + 2) (hc k * 6)) (fk := 4) (dy := iF S b 8) (x0 := iF S b 8 - iA S (b + 8) (k * 5 + 1)) (x1 := 0) (x2 := 0) (x3 := 0), fun d => ?_⟩
  simp only [ment, mfl, List.length, List.replicate, List.cons_append, List.nil_append, Nat.reduceAdd, Nat.reduceSub, uwS]
  simp only [r_al0 c_B_unwindRule_0, r_gfSr c_B_unwindRule_1 o0 rfl, r_al0 c_B_unwindRule_4, r_gfSr c_B_unwindRule_5 o0 rfl, r_il1 c_B_unwindRule_8, r_ci c_B_unwindRule_9, r_cv3 c_B_unwindRule_10, r_ci c_B_unwindRule_13, r_cv3 c_B_unwindRule_14, r_is2 c_B_unwindRule_17, r_al0 c_B_unwindRule_18, r_gfSr c_B_unwindRule_19 o0 rfl, r_il2 c_B_unwindRule_22, r_ci c_B_unwindRule_23, r_al0 c_B_unwindRule_24, r_gfS0 c_B_unwindRule_25 o0 rfl, r_al0 c_B_unwindRule_28, r_gfS0 c_B_unwindRule_29 o0 rfl, r_al0 c_B_unwindRule_32, r_gfSr c_B_unwindRule_33 o0 rfl, r_il1 c_B_unwindRule_36, r_ci c_B_unwindRule_37, r_cv3 c_B_unwindRule_38, r_isub c_B_unwindRule_41, r_ci c_B_unwindRule_42, r_ci c_B_unwindRule_43, r_ci c_B_unwindRule_44, r_cv8 c_B_unwindRule_45, r_iret c_B_unwindRule_48, ↓reduceIte, hs_h, Option.bind_some, mfix_i, mfix_r, mfix_n, mfix_a, Option.toList_some, Option.toList_none, List.cons_append, List.nil_append, List.singleton_append, mwt, Value.category, Nat.reduceAdd, Nat.reduceLeDiff, true_and, and_true, and_self, at_7 hE hb, misc_w (w_7 hE hb), at_1 hE hb, misc_w (w_1 hE hb), m1, ra0 hk2 (show 0 < 5 by decide) (show 30 * 5 ≤ 1000 by decide), ra1 hk2 (show 1 < 5 by decide) (show 30 * 5 ≤ 1000 by decide), hq, ra0 hq2 (show 0 < 6 by decide) (show 12 * 6 ≤ 1000 by decide), L_ruleOf_ok hE hb h22.1 h22.2 ht hw]
def udA (S : SS) (b k j : Nat) : SS := sA (sA S (b + 8) (upd (iA S (b + 8)) (k * 5 + 2) 3)) (b + 2) (upd (iA S (b + 2)) (j * 6 + 3) 0)
theorem B_undo_1 (hE : okE E) (hb : bkb b) (hz : okB E S b z t) (hH : hcs S b (z 7) hc) (hk : k < z 7) : mres cT 206 d 0 (ment 4 [.ref b, .int (nI k), .int 1]) [] (hs E S) = some (none, hs E (reS (udA S b k (hc k)) b (z 16) (nI (hc k)))) := by
  have o0 := o_B hE hb
  have m8 : ∀ S, misc (hp E S (b + 13)) 8 = true := fun S => misc_o (o_I hE hb)
  obtain ⟨h1, h3, h5, h7, h14, h16, h18, h20, h22, ht, hw⟩ := hz
  have hk2 : k < 30 := by omega
  obtain ⟨hq, hq2⟩ := hH k hk
  have e : b + 2 ≠ b + 8 := by omega
  have hn : iF (udA S b k (hc k)) (b + 16) 3 = nI (z 16) := by rw [udA, iF_sA, iF_sA]; exact h16.1
  have hr := fun d => I_reopenSpan_ok (d := d) (c := nI (hc k)) hE hb hn h16.2
  have eU : sA (sA S (b + 8) (upd (iA S (b + 8)) (k * 5 + 2) 3)) (b + 2) (upd (iA (sA S (b + 8) (upd (iA S (b + 8)) (k * 5 + 2) 3)) (b + 2)) (hc k * 6 + 3) 0) = udA S b k (hc k) := by rw [iA_sA_ne e]; rfl
  simp only [ment, mfl, List.length, List.replicate, List.cons_append, List.nil_append, Nat.reduceAdd, Nat.reduceSub]
  simp only [r_al0 c_B_undo_0, r_gfSr c_B_undo_1 o0 rfl, r_il1 c_B_undo_4, r_ci c_B_undo_5, r_cv3 c_B_undo_6, r_is3 c_B_undo_9, r_al0 c_B_undo_10, r_gfSr c_B_undo_11 o0 rfl, r_il1 c_B_undo_14, r_ci c_B_undo_15, r_ci c_B_undo_16, r_cv4 c_B_undo_17, r_al0 c_B_undo_20, r_gfSr c_B_undo_21 o0 rfl, r_il3 c_B_undo_24, r_ci c_B_undo_25, r_ci c_B_undo_26, r_cv4 c_B_undo_27, r_il2 c_B_undo_30, r_ifeq c_B_undo_31, r_al0 c_B_undo_34, r_gfSr c_B_undo_35 o0 rfl, r_il3 c_B_undo_38, r_cv2 c_B_undo_39, r_goto c_B_undo_42, r_al0 c_B_undo_45, r_gfSr c_B_undo_46 o0 rfl, r_il3 c_B_undo_49, r_al0 c_B_undo_50, r_gfS0 c_B_undo_51 o0 rfl, r_cv3 c_B_undo_54, r_vret c_B_undo_57, ↓reduceIte, hs_h, Option.bind_some, mfix_i, mfix_r, mfix_n, mfix_a, Option.toList_some, Option.toList_none, List.cons_append, List.nil_append, List.singleton_append, mwt, Value.category, Nat.reduceAdd, Nat.reduceLeDiff, true_and, and_true, and_self, at_7 hE hb, misc_w (w_7 hE hb), at_1 hE hb, misc_w (w_1 hE hb), m8, ra0 hk2 (show 0 < 5 by decide) (show 30 * 5 ≤ 1000 by decide), hq, put_7 hE hb, put_1 hE hb, pc2 hk2 (show 2 < 5 by decide) (show 30 * 5 ≤ 1000 by decide), pc3 hq2 (show 3 < 6 by decide) (show 12 * 6 ≤ 1000 by decide), one_nz, if_false, eU, hr]
theorem B_undo_0 (hE : okE E) (hb : bkb b) (hz : okB E S b z t) (hH : hcs S b (z 7) hc) (hk : k < z 7) (hs3 : z 16 < 30) : mres cT 206 d 0 (ment 4 [.ref b, .int (nI k), .int 0]) [] (hs E S) = some (none, hs E (sA (sF (udA S b k (hc k)) (b + 16) 3 (nI (z 16 + 1))) (b + 17) (rowSet (iA (udA S b k (hc k)) (b + 17)) (z 16 * 3) 3 [nI (hc k), iF S b 8, 2147483647, 0]))) := by
  have o0 := o_B hE hb
  have m8 : ∀ S, misc (hp E S (b + 13)) 8 = true := fun S => misc_o (o_I hE hb)
  obtain ⟨h1, h3, h5, h7, h14, h16, h18, h20, h22, ht, hw⟩ := hz
  have hk2 : k < 30 := by omega
  obtain ⟨hq, hq2⟩ := hH k hk
  have e : b + 2 ≠ b + 8 := by omega
  have hn : iF (udA S b k (hc k)) (b + 16) 3 = nI (z 16) := by rw [udA, iF_sA, iF_sA]; exact h16.1
  have h8 : iF (udA S b k (hc k)) b 8 = iF S b 8 := by rw [udA, iF_sA, iF_sA]
  have hr := fun d x => I_beginSpan_ok (d := d) (c := nI (hc k)) (x := x) hE hb hn hs3
  have eU : sA (sA S (b + 8) (upd (iA S (b + 8)) (k * 5 + 2) 3)) (b + 2) (upd (iA (sA S (b + 8) (upd (iA S (b + 8)) (k * 5 + 2) 3)) (b + 2)) (hc k * 6 + 3) 0) = udA S b k (hc k) := by rw [iA_sA_ne e]; rfl
  simp only [ment, mfl, List.length, List.replicate, List.cons_append, List.nil_append, Nat.reduceAdd, Nat.reduceSub]
  simp only [r_al0 c_B_undo_0, r_gfSr c_B_undo_1 o0 rfl, r_il1 c_B_undo_4, r_ci c_B_undo_5, r_cv3 c_B_undo_6, r_is3 c_B_undo_9, r_al0 c_B_undo_10, r_gfSr c_B_undo_11 o0 rfl, r_il1 c_B_undo_14, r_ci c_B_undo_15, r_ci c_B_undo_16, r_cv4 c_B_undo_17, r_al0 c_B_undo_20, r_gfSr c_B_undo_21 o0 rfl, r_il3 c_B_undo_24, r_ci c_B_undo_25, r_ci c_B_undo_26, r_cv4 c_B_undo_27, r_il2 c_B_undo_30, r_ifeq c_B_undo_31, r_al0 c_B_undo_34, r_gfSr c_B_undo_35 o0 rfl, r_il3 c_B_undo_38, r_cv2 c_B_undo_39, r_goto c_B_undo_42, r_al0 c_B_undo_45, r_gfSr c_B_undo_46 o0 rfl, r_il3 c_B_undo_49, r_al0 c_B_undo_50, r_gfS0 c_B_undo_51 o0 rfl, r_cv3 c_B_undo_54, r_vret c_B_undo_57, ↓reduceIte, hs_h, Option.bind_some, mfix_i, mfix_r, mfix_n, mfix_a, Option.toList_some, Option.toList_none, List.cons_append, List.nil_append, List.singleton_append, mwt, Value.category, Nat.reduceAdd, Nat.reduceLeDiff, true_and, and_true, and_self, at_7 hE hb, misc_w (w_7 hE hb), at_1 hE hb, misc_w (w_1 hE hb), m8, ra0 hk2 (show 0 < 5 by decide) (show 30 * 5 ≤ 1000 by decide), hq, put_7 hE hb, put_1 hE hb, pc2 hk2 (show 2 < 5 by decide) (show 30 * 5 ≤ 1000 by decide), pc3 hq2 (show 3 < 6 by decide) (show 12 * 6 ≤ 1000 by decide), if_true, eU, h8, hr]
end UNDO
