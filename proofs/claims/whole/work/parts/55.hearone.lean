/-! the books: one is heard -/
section HEARONE
variable {E : EE} {S S1 S' : SS} {d b n k q j : Nat} {c v : Int32} {hc z t : Nat → Nat}
theorem eqS_enS {x : Int32} (h : eqS b S S1) : eqS b (enS S b n c x) (enS S1 b n c x) := by
  have e : iA S1 (b + 17) = iA S (b + 17) := by rw [iA, h _ (by omega) (by omega)]
  rw [enS, enS, e]
  cases lsq (iA S (b + 17)) c n with
  | none => exact h
  | some k =>
    show eqS b (if _ then _ else _) (if _ then _ else _)
    split
    · exact eqS_sA h
    · exact h
theorem eqS_lvS (h : eqS b S S1) : eqS b (lvS S b k n v) (lvS S1 b k n v) := by
  have e : iA S1 (b + 2) = iA S (b + 2) := by rw [iA, h _ (by omega) (by omega)]
  have f : iF S1 b 8 = iF S b 8 := by rw [iF, h _ (by omega) (by omega)]
  rw [lvS, lvS, e, f]
  exact eqS_enS (eqS_sA h)
def leV (S : SS) (b : Nat) (z t : Nat → Nat) (j : Nat) : Int32 := rlV S b (z 22) t (iA S (b + 2) (j * 6)) 2 (iF S b 8) (rkS S b j 0) (iA S (b + 2) (j * 6 + 5)) (crSum (iA S (b + 21)) (nI j) (iF S b 8) (z 20)) (svSum (iA S (b + 17)) (iA S (b + 19)) (z 16) (z 18) (nI j) (iF S b 8))
def hoA (S : SS) (b k j : Nat) (v : Int32) : SS := sA (sA S (b + 2) (upd (iA S (b + 2)) (j * 6 + 5) (iA S (b + 2) (j * 6 + 5) + 1))) (b + 8) (upd (iA S (b + 8)) (k * 5 + 2) v)
def hoS (S : SS) (b : Nat) (z t : Nat → Nat) (k j : Nat) : SS := if leV S b z t j = 0 then hoA S b k j 1 else lvS (hoA S b k j 2) b j (z 16) 1
theorem B_hearOne_ok (hE : okE E) (hb : bkb b) (hz : okB E S b z t) (hH : hcs S b (z 7) hc) (hk : k < z 7) (h : eqS b S S1) : ∃ S2, eqS b (hoS S b z t k (hc k)) S2 ∧ ∀ d, mres cT 216 d 0 (ment 5 [.ref b, .int (nI k)]) [] (hs E S1) = some (none, hs E S2) := by
  have o0 := o_B hE hb
  have m0 : ∀ S, misc (hp E S b) 0 = true := fun S => misc_o o0
  have m8 : ∀ S, misc (hp E S (b + 13)) 8 = true := fun S => misc_o (o_I hE hb)
  have m1 : ∀ S, misc (hp E S (b + 22)) 1 = true := fun S => misc_o (o_L hE hb)
  have z1 := okB_eq hb h hz
  have ht := hz.2.2.2.2.2.2.2.2.2.1
  have hw := hz.2.2.2.2.2.2.2.2.2.2
  have n7 := hz.2.2.2.1.2
  have n16 := hz.2.2.2.2.2.1
  obtain ⟨-, -, -, -, -, g16, g18, g20, g22, gt, gw⟩ := z1
  have hk2 : k < 30 := by omega
  obtain ⟨e0, e1⟩ := hH k hk
  have f8 : iA S1 (b + 8) = iA S (b + 8) := by rw [iA, h _ (by omega) (by omega)]
  have f2 : iA S1 (b + 2) = iA S (b + 2) := by rw [iA, h _ (by omega) (by omega)]
  have f0 : iF S1 b 8 = iF S b 8 := by rw [iF, h _ (by omega) (by omega)]
  have f17 : iA S1 (b + 17) = iA S (b + 17) := by rw [iA, h _ (by omega) (by omega)]
  have f19 : iA S1 (b + 19) = iA S (b + 19) := by rw [iA, h _ (by omega) (by omega)]
  have f21 : iA S1 (b + 21) = iA S (b + 21) := by rw [iA, h _ (by omega) (by omega)]
  have fr : rkS S1 b (hc k) 0 = rkS S b (hc k) 0 := by rw [rkS, rkS, iA, iA, h (b + 2) (by omega) (by omega), h (b + 10) (by omega) (by omega)]
  have hS2 : ∃ S2, eqS b S S2 ∧ ∀ d, mres cT 85 d 0 (ment 9 [.ref (b + 22), .int (iA S (b + 2) (hc k * 6)), .int 2, .int (iF S b 8), .int (rkS S b (hc k) 0), .int (iA S (b + 2) (hc k * 6 + 5)), .int (crSum (iA S (b + 21)) (nI (hc k)) (iF S b 8) (z 20)), .int (svSum (iA S (b + 17)) (iA S (b + 19)) (z 16) (z 18) (nI (hc k)) (iF S b 8))]) [] (hs E S1) = some (some (.int (leV S b z t (hc k))), hs E S2) :=
    ⟨_, eqS_tr h rlS_e, fun d => by rw [L_ruleOf_ok hE hb g22.1 g22.2 gt gw, rlV_eq hb h ht hw]; rfl⟩
  obtain ⟨S2, s2, r2⟩ := hS2
  have k8 : iA S2 (b + 8) = iA S (b + 8) := by rw [iA, s2 _ (by omega) (by omega)]
  have k2 : iA S2 (b + 2) = iA S (b + 2) := by rw [iA, s2 _ (by omega) (by omega)]
  have n82 : b + 8 ≠ b + 2 := by omega
  have kA : ∀ v, sA (sA S2 (b + 2) (upd (iA S (b + 2)) (hc k * 6 + 5) (iA S (b + 2) (hc k * 6 + 5) + 1))) (b + 8) (upd (iA S (b + 8)) (k * 5 + 2) v) = hoA S2 b k (hc k) v := fun v => by rw [hoA, k2, k8]
  have eA : ∀ v, eqS b (hoA S b k (hc k) v) (hoA S2 b k (hc k) v) := fun v => by
    rw [← kA]
    exact eqS_sA (eqS_sA s2)
  have hl : ∀ d, mres cT 55 d 0 (ment 3 [.ref b, .int (nI (hc k)), .int 1]) [] (hs E (hoA S2 b k (hc k) 2)) = some (none, hs E (lvS (hoA S2 b k (hc k) 2) b (hc k) (z 16) 1)) := fun d => by
    refine B_leave_ok hE hb e1 ?_ n16.2
    rw [hoA, iF_sA, iF_sA, iF, s2 _ (by omega) (by omega)]
    exact n16.1
  by_cases hv : leV S b z t (hc k) = 0
  · refine ⟨hoA S2 b k (hc k) 1, by rw [hoS, if_pos hv]; exact eA 1, fun d => ?_⟩
    simp only [ment, mfl, List.length, List.replicate, List.cons_append, List.nil_append, Nat.reduceAdd, Nat.reduceSub]
    simp only [r_al0 c_B_hearOne_0, r_gfSr c_B_hearOne_1 o0 rfl, r_il1 c_B_hearOne_4, r_ci c_B_hearOne_5, r_cv3 c_B_hearOne_6, r_is2 c_B_hearOne_9, r_al0 c_B_hearOne_10, r_gfSr c_B_hearOne_11 o0 rfl, r_il2 c_B_hearOne_14, r_ci c_B_hearOne_15, r_cv3 c_B_hearOne_16, r_is3 c_B_hearOne_19, r_al0 c_B_hearOne_20, r_gfSr c_B_hearOne_21 o0 rfl, r_al0 c_B_hearOne_24, r_gfSr c_B_hearOne_25 o0 rfl, r_il2 c_B_hearOne_28, r_ci c_B_hearOne_29, r_cv3 c_B_hearOne_30, r_ci c_B_hearOne_33, r_al0 c_B_hearOne_34, r_gfS0 c_B_hearOne_35 o0 rfl, r_al0 c_B_hearOne_38, r_il2 c_B_hearOne_39, r_ci c_B_hearOne_40, r_cv3 c_B_hearOne_41, r_il3 c_B_hearOne_44, r_al0 c_B_hearOne_45, r_gfSr c_B_hearOne_46 o0 rfl, r_il2 c_B_hearOne_49, r_al0 c_B_hearOne_50, r_gfS0 c_B_hearOne_51 o0 rfl, r_cv3 c_B_hearOne_54, r_al0 c_B_hearOne_57, r_gfSr c_B_hearOne_58 o0 rfl, r_il2 c_B_hearOne_61, r_al0 c_B_hearOne_62, r_gfS0 c_B_hearOne_63 o0 rfl, r_cv3 c_B_hearOne_66, r_cv8 c_B_hearOne_69, r_is4 c_B_hearOne_72, r_al0 c_B_hearOne_74, r_gfSr c_B_hearOne_75 o0 rfl, r_il2 c_B_hearOne_78, r_ci c_B_hearOne_79, r_il3 c_B_hearOne_80, r_ci c_B_hearOne_81, r_iadd c_B_hearOne_82, r_cv4 c_B_hearOne_83, r_al0 c_B_hearOne_86, r_gfSr c_B_hearOne_87 o0 rfl, r_il1 c_B_hearOne_90, r_ci c_B_hearOne_91, r_il4 c_B_hearOne_92, r_ifne c_B_hearOne_94, r_ci c_B_hearOne_97, r_goto c_B_hearOne_98, r_ci c_B_hearOne_101, r_cv4 c_B_hearOne_102, r_il4 c_B_hearOne_105, r_ifeq c_B_hearOne_107, r_al0 c_B_hearOne_110, r_il2 c_B_hearOne_111, r_ci c_B_hearOne_112, r_cv3 c_B_hearOne_113, r_vret c_B_hearOne_116, ↓reduceIte, hs_h, Option.bind_some, mfix_i, mfix_r, mfix_n, mfix_a, Option.toList_some, Option.toList_none, List.cons_append, List.nil_append, List.singleton_append, mwt, Value.category, Nat.reduceAdd, Nat.reduceLeDiff, true_and, and_true, and_self, at_7 hE hb, misc_w (w_7 hE hb), at_1 hE hb, misc_w (w_1 hE hb), m0, m1, m8, ra0 hk2 (show 0 < 5 by decide) (show 30 * 5 ≤ 1000 by decide), f8, f2, f0, f17, f19, f21, fr, e0, ra0 e1 (show 0 < 6 by decide) (show 12 * 6 ≤ 1000 by decide), ra5 e1 (show 5 < 6 by decide) (show 12 * 6 ≤ 1000 by decide), B_hundredthsFor_ok hE hb e1, I_creditOf_ok hE hb g20.1 g20.2, I_servedOf_ok hE hb g16.1 g16.2 g18.1 g18.2, r2, put_7 hE hb, put_1 hE hb, pc2 hk2 (show 2 < 5 by decide) (show 30 * 5 ≤ 1000 by decide), pc5 e1 (show 5 < 6 by decide) (show 12 * 6 ≤ 1000 by decide), k2, k8, iA_sA_ne n82, kA, hv, if_true]
  · refine ⟨lvS (hoA S2 b k (hc k) 2) b (hc k) (z 16) 1, by rw [hoS, if_neg hv]; exact eqS_lvS (eA 2), fun d => ?_⟩
    simp only [ment, mfl, List.length, List.replicate, List.cons_append, List.nil_append, Nat.reduceAdd, Nat.reduceSub]
    simp only [r_al0 c_B_hearOne_0, r_gfSr c_B_hearOne_1 o0 rfl, r_il1 c_B_hearOne_4, r_ci c_B_hearOne_5, r_cv3 c_B_hearOne_6, r_is2 c_B_hearOne_9, r_al0 c_B_hearOne_10, r_gfSr c_B_hearOne_11 o0 rfl, r_il2 c_B_hearOne_14, r_ci c_B_hearOne_15, r_cv3 c_B_hearOne_16, r_is3 c_B_hearOne_19, r_al0 c_B_hearOne_20, r_gfSr c_B_hearOne_21 o0 rfl, r_al0 c_B_hearOne_24, r_gfSr c_B_hearOne_25 o0 rfl, r_il2 c_B_hearOne_28, r_ci c_B_hearOne_29, r_cv3 c_B_hearOne_30, r_ci c_B_hearOne_33, r_al0 c_B_hearOne_34, r_gfS0 c_B_hearOne_35 o0 rfl, r_al0 c_B_hearOne_38, r_il2 c_B_hearOne_39, r_ci c_B_hearOne_40, r_cv3 c_B_hearOne_41, r_il3 c_B_hearOne_44, r_al0 c_B_hearOne_45, r_gfSr c_B_hearOne_46 o0 rfl, r_il2 c_B_hearOne_49, r_al0 c_B_hearOne_50, r_gfS0 c_B_hearOne_51 o0 rfl, r_cv3 c_B_hearOne_54, r_al0 c_B_hearOne_57, r_gfSr c_B_hearOne_58 o0 rfl, r_il2 c_B_hearOne_61, r_al0 c_B_hearOne_62, r_gfS0 c_B_hearOne_63 o0 rfl, r_cv3 c_B_hearOne_66, r_cv8 c_B_hearOne_69, r_is4 c_B_hearOne_72, r_al0 c_B_hearOne_74, r_gfSr c_B_hearOne_75 o0 rfl, r_il2 c_B_hearOne_78, r_ci c_B_hearOne_79, r_il3 c_B_hearOne_80, r_ci c_B_hearOne_81, r_iadd c_B_hearOne_82, r_cv4 c_B_hearOne_83, r_al0 c_B_hearOne_86, r_gfSr c_B_hearOne_87 o0 rfl, r_il1 c_B_hearOne_90, r_ci c_B_hearOne_91, r_il4 c_B_hearOne_92, r_ifne c_B_hearOne_94, r_ci c_B_hearOne_97, r_goto c_B_hearOne_98, r_ci c_B_hearOne_101, r_cv4 c_B_hearOne_102, r_il4 c_B_hearOne_105, r_ifeq c_B_hearOne_107, r_al0 c_B_hearOne_110, r_il2 c_B_hearOne_111, r_ci c_B_hearOne_112, r_cv3 c_B_hearOne_113, r_vret c_B_hearOne_116, ↓reduceIte, hs_h, Option.bind_some, mfix_i, mfix_r, mfix_n, mfix_a, Option.toList_some, Option.toList_none, List.cons_append, List.nil_append, List.singleton_append, mwt, Value.category, Nat.reduceAdd, Nat.reduceLeDiff, true_and, and_true, and_self, at_7 hE hb, misc_w (w_7 hE hb), at_1 hE hb, misc_w (w_1 hE hb), m0, m1, m8, ra0 hk2 (show 0 < 5 by decide) (show 30 * 5 ≤ 1000 by decide), f8, f2, f0, f17, f19, f21, fr, e0, ra0 e1 (show 0 < 6 by decide) (show 12 * 6 ≤ 1000 by decide), ra5 e1 (show 5 < 6 by decide) (show 12 * 6 ≤ 1000 by decide), B_hundredthsFor_ok hE hb e1, I_creditOf_ok hE hb g20.1 g20.2, I_servedOf_ok hE hb g16.1 g16.2 g18.1 g18.2, r2, put_7 hE hb, put_1 hE hb, pc2 hk2 (show 2 < 5 by decide) (show 30 * 5 ≤ 1000 by decide), pc5 e1 (show 5 < 6 by decide) (show 12 * 6 ≤ 1000 by decide), k2, k8, iA_sA_ne n82, kA, hv, if_false, hl]
end HEARONE
