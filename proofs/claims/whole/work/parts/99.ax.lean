/-! call: same -/
section SAMEQ
variable {E : EE} {S S1 : SS} {b d k n m i j p a s q : Nat} {c v w x y l : Int32} {g : Nat → Int64} {u : Int64}
def smV (S : SS) (p : Nat) (v : Int32) (s : Nat) : Int32 := if shS (iF S (84 + 2 * s) 2) (nI p) = 0 then 0 else if lg_cmp (iL S (85 + 2 * s) p) (nwS (iF S (84 + 2 * s) 1) v.toInt64) = 0 then 1 else 0
theorem sm_n (hn : n ≤ 24) (hp : p < 2 ^ 31) : shS (nI n) (nI p) = if p < n then 1 else 0 := by
  rw [shS, if_neg (nI_pos (by omega))]
  by_cases e : p < n
  · rw [if_neg (nI_ge (by omega) (by omega)), if_neg (nI_ge (by omega) (by omega)), if_pos e]
  · rw [if_pos (nI_le (by omega) (by omega)), if_neg e]
theorem S_holds_S (hE : okE E) (hs4 : s < 4) (hSh : InvH S) (hp : p < 2 ^ 31) : mres cT 258 d 0 (ment 3 [.ref (84 + 2 * s), .int (nI p), .int v]) [] (hs E S) = some (some (.int (smV S p v s)), hs E S) := by
  obtain ⟨u1, u2, ⟨n, hn, u3, u4, u5⟩, u6, u7⟩ := hSh s hs4
  by_cases e : p < n
  · rw [S_holds_ok (shX_s hE hs4) u3 hn e, smV, u3, sm_n hn hp, if_pos e, if_neg (show ¬ (1 : Int32) = 0 by decide), show 84 + 2 * s + 1 = 85 + 2 * s by omega]
  · have e1 : shS (iF S (84 + 2 * s) 2) (nI p) = 0 := by rw [u3, sm_n hn hp, if_neg e]
    rw [S_holds_n (shX_s hE hs4) e1, smV, if_pos e1]
theorem sm_01 : smV S p v s = 0 ∨ smV S p v s = 1 := by
  unfold smV
  split
  · exact Or.inl rfl
  · split
    · exact Or.inr rfl
    · exact Or.inl rfl
theorem k4s : ∀ s : Nat, s < 4 → ¬ (4 : Int32) ≤ nI s := by decide
theorem k3s : ∀ s : Nat, s < 4 → wiS (nI s) 0 3 = 1 := by decide
def smS (S : SS) (p : Nat) (v : Int32) : Nat → Nat → Int32 → Int32
  | _, 0, a => a
  | i, m + 1, a => smS S p v (i + 1) m (a + smV S p v i)
theorem X_same_lp (hE : okE E) (hSh : InvH S) (hp : p < 2 ^ 31) : ∀ m i a l, i + m = 4 → mres cT 259 d 12 [.ref 0, .int (nI p), .int v, .int a, .int (nI i), l] [] (hs E S) = some (some (.int (smS S p v i m a)), hs E S) := by
  have o9 := o_X hE rfl
  have m9 : ∀ S, misc (CHearingBoardsLaw_law_r3500_07b002.hp E S 0) 9 = true := fun S => misc_o o9
  intro m
  induction m with
  | zero =>
    intro i a l hi
    have e : i = 4 := by omega
    subst e
    simp only [r_il4 c_X_same_12, r_ci c_X_same_14, r_icge c_X_same_15, ↓reduceIte, hs_h, Option.bind_some, mfix_i, mfix_r, mfix_n, mfix_a, Option.toList_some, Option.toList_none, List.cons_append, List.nil_append, List.singleton_append, show nI 4 = 4 by decide, show ((4 : Int32) ≤ 4) = True from eq_true (by decide), if_true]
    simp only [r_il3 c_X_same_50, r_iret c_X_same_51, ↓reduceIte, hs_h, Option.bind_some, mfix_i, mfix_r, mfix_n, mfix_a, Option.toList_some, Option.toList_none, List.cons_append, List.nil_append, List.singleton_append, smS]
  | succ m ih =>
    intro i a l hi
    have hs4 : i < 4 := by omega
    have m3 : ∀ S, misc (CHearingBoardsLaw_law_r3500_07b002.hp E S (84 + 2 * i)) 3 = true := fun S => misc_o (shX_s hE hs4).1
    simp only [r_il4 c_X_same_12, r_ci c_X_same_14, r_icge c_X_same_15, ↓reduceIte, hs_h, Option.bind_some, mfix_i, mfix_r, mfix_n, mfix_a, Option.toList_some, Option.toList_none, List.cons_append, List.nil_append, List.singleton_append, k4s i hs4, if_false]
    rcases sm_01 (S := S) (p := p) (v := v) (s := i) with h | h
    · simp only [r_al0 c_X_same_18, r_an0 c_X_same_18, r_il4 c_X_same_19, r_cv2 c_X_same_21, r_as5 c_X_same_24, r_asn5 c_X_same_24, r_al5 c_X_same_26, r_an5 c_X_same_26, r_ifnull_r c_X_same_28, r_ifnull_n c_X_same_28, r_al5 c_X_same_31, r_an5 c_X_same_31, r_il1 c_X_same_33, r_il2 c_X_same_34, r_cv3 c_X_same_35, r_ifeq c_X_same_38, r_inc3 c_X_same_41, r_inc4 c_X_same_44, r_goto c_X_same_47, ↓reduceIte, hs_h, Option.bind_some, mfix_i, mfix_r, mfix_n, mfix_a, Option.toList_some, Option.toList_none, List.cons_append, List.nil_append, List.singleton_append, mwt, Value.category, Nat.reduceAdd, Nat.reduceLeDiff, true_and, and_true, and_self, m9, m3, X_sheetAt_ok hE hs4 (k3s i hs4) (hSh i hs4).1, S_holds_S hE hs4 hSh hp, h, if_true, nI_1, ih (i + 1) _ _ (by omega), smS, Int32.add_zero]
    · simp only [r_al0 c_X_same_18, r_an0 c_X_same_18, r_il4 c_X_same_19, r_cv2 c_X_same_21, r_as5 c_X_same_24, r_asn5 c_X_same_24, r_al5 c_X_same_26, r_an5 c_X_same_26, r_ifnull_r c_X_same_28, r_ifnull_n c_X_same_28, r_al5 c_X_same_31, r_an5 c_X_same_31, r_il1 c_X_same_33, r_il2 c_X_same_34, r_cv3 c_X_same_35, r_ifeq c_X_same_38, r_inc3 c_X_same_41, r_inc4 c_X_same_44, r_goto c_X_same_47, ↓reduceIte, hs_h, Option.bind_some, mfix_i, mfix_r, mfix_n, mfix_a, Option.toList_some, Option.toList_none, List.cons_append, List.nil_append, List.singleton_append, mwt, Value.category, Nat.reduceAdd, Nat.reduceLeDiff, true_and, and_true, and_self, m9, m3, X_sheetAt_ok hE hs4 (k3s i hs4) (hSh i hs4).1, S_holds_S hE hs4 hSh hp, h, one_nz, if_false, nI_1, ih (i + 1) _ _ (by omega), smS]
theorem M_same_lp (hE : okE E) (hSh : InvH S) (hp : p < 2 ^ 31) : ∀ m i a l1 l2, i + m = 4 → mres cT 260 d 12 [.ref 93, .int (nI p), .int v, .int a, .int (nI i), l1, l2] [] (hs E S) = some (some (.int (smS S p v i m a)), hs E S) := by
  have o10 := o_M hE
  have m10 := m_M hE
  intro m
  induction m with
  | zero =>
    intro i a l1 l2 hi
    have e : i = 4 := by omega
    subst e
    simp only [r_il4 c_M_same_12, r_ci c_M_same_14, r_icge c_M_same_15, ↓reduceIte, hs_h, Option.bind_some, mfix_i, mfix_r, mfix_n, mfix_a, Option.toList_some, Option.toList_none, List.cons_append, List.nil_append, List.singleton_append, show nI 4 = 4 by decide, show ((4 : Int32) ≤ 4) = True from eq_true (by decide), if_true]
    simp only [r_il3 c_M_same_98, r_iret c_M_same_99, ↓reduceIte, hs_h, Option.bind_some, mfix_i, mfix_r, mfix_n, mfix_a, Option.toList_some, Option.toList_none, List.cons_append, List.nil_append, List.singleton_append, smS]
  | succ m ih =>
    intro i a l1 l2 hi
    have hs4 : i < 4 := by omega
    obtain ⟨u1, u2, ⟨n, hn, u3, u4, u5⟩, u6, u7⟩ := hSh i hs4
    have nw : ∀ {x : Int32}, iA S 99 i = x → smV S p v i = if p < n then if lg_cmp (iL S 101 (24 * i + p)) (nwS x v.toInt64) = 0 then 1 else 0 else 0 := fun {x} hx => by
      rw [smV, u3, sm_n hn hp, u2, hx]
      by_cases e : p < n
      · rw [if_pos e, if_neg (by decide), if_pos e, u7 p (by omega)]
      · rw [if_neg e, if_pos rfl, if_neg e]
    have fin : ∀ u l1 l2, smV S p v i = (if p < n then if lg_cmp (iL S 101 (24 * i + p)) u = 0 then 1 else 0 else 0) → mres cT 260 d 53 [.ref 93, .int (nI p), .int v, .int a, .int (nI i), l1, l2] [.long u] (hs E S) = some (some (.int (smS S p v i (m + 1) a)), hs E S) := fun u l1 l2 hu => by
      by_cases e : p < n
      · rw [if_pos e] at hu
        have hlt : 24 * i + p < 96 := by omega
        by_cases e2 : lg_cmp (iL S 101 (24 * i + p)) u = 0
        · rw [if_pos e2] at hu
          simp only [r_ls5 c_M_same_53, r_il3 c_M_same_55, r_il1 c_M_same_56, r_al0 c_M_same_57, r_gfSr c_M_same_58 o10 rfl, r_il4 c_M_same_61, r_ial c_M_same_63, r_icge c_M_same_64, r_al0 c_M_same_67, r_gfSr c_M_same_68 o10 rfl, r_ci c_M_same_71, r_il4 c_M_same_73, r_imul c_M_same_75, r_il1 c_M_same_76, r_iadd c_M_same_77, r_lal c_M_same_78, r_ll5 c_M_same_79, r_lcmp c_M_same_81, r_ifne c_M_same_82, r_ci c_M_same_85, r_goto c_M_same_86, r_ci c_M_same_89, r_iadd c_M_same_90, r_is3 c_M_same_91, r_inc4 c_M_same_92, r_goto c_M_same_95, ↓reduceIte, hs_h, Option.bind_some, mfix_i, mfix_r, mfix_n, mfix_a, Option.toList_some, Option.toList_none, List.cons_append, List.nil_append, List.singleton_append, mwt, Value.category, Nat.reduceAdd, Nat.reduceLeDiff, true_and, and_true, and_self, mia_I (iM100 hE) hs4 (by decide), u4, nI_ge e (show n < 2 ^ 31 by omega), if_false, k24s i hs4, nI_add, mla_G (gM101 hE) hlt (by decide), e2, if_true, nI_1, ih (i + 1) _ _ _ (by omega), smS, hu]
        · rw [if_neg e2] at hu
          simp only [r_ls5 c_M_same_53, r_il3 c_M_same_55, r_il1 c_M_same_56, r_al0 c_M_same_57, r_gfSr c_M_same_58 o10 rfl, r_il4 c_M_same_61, r_ial c_M_same_63, r_icge c_M_same_64, r_al0 c_M_same_67, r_gfSr c_M_same_68 o10 rfl, r_ci c_M_same_71, r_il4 c_M_same_73, r_imul c_M_same_75, r_il1 c_M_same_76, r_iadd c_M_same_77, r_lal c_M_same_78, r_ll5 c_M_same_79, r_lcmp c_M_same_81, r_ifne c_M_same_82, r_ci c_M_same_85, r_goto c_M_same_86, r_ci c_M_same_89, r_iadd c_M_same_90, r_is3 c_M_same_91, r_inc4 c_M_same_92, r_goto c_M_same_95, ↓reduceIte, hs_h, Option.bind_some, mfix_i, mfix_r, mfix_n, mfix_a, Option.toList_some, Option.toList_none, List.cons_append, List.nil_append, List.singleton_append, mwt, Value.category, Nat.reduceAdd, Nat.reduceLeDiff, true_and, and_true, and_self, mia_I (iM100 hE) hs4 (by decide), u4, nI_ge e (show n < 2 ^ 31 by omega), if_false, k24s i hs4, nI_add, mla_G (gM101 hE) hlt (by decide), e2, nI_1, ih (i + 1) _ _ _ (by omega), smS, hu]
      · rw [if_neg e] at hu
        simp only [r_ls5 c_M_same_53, r_il3 c_M_same_55, r_il1 c_M_same_56, r_al0 c_M_same_57, r_gfSr c_M_same_58 o10 rfl, r_il4 c_M_same_61, r_ial c_M_same_63, r_icge c_M_same_64, r_al0 c_M_same_67, r_gfSr c_M_same_68 o10 rfl, r_ci c_M_same_71, r_il4 c_M_same_73, r_imul c_M_same_75, r_il1 c_M_same_76, r_iadd c_M_same_77, r_lal c_M_same_78, r_ll5 c_M_same_79, r_lcmp c_M_same_81, r_ifne c_M_same_82, r_ci c_M_same_85, r_goto c_M_same_86, r_ci c_M_same_89, r_iadd c_M_same_90, r_is3 c_M_same_91, r_inc4 c_M_same_92, r_goto c_M_same_95, ↓reduceIte, hs_h, Option.bind_some, mfix_i, mfix_r, mfix_n, mfix_a, Option.toList_some, Option.toList_none, List.cons_append, List.nil_append, List.singleton_append, mwt, Value.category, Nat.reduceAdd, Nat.reduceLeDiff, true_and, and_true, and_self, mia_I (iM100 hE) hs4 (by decide), u4, nI_le (show n ≤ p by omega) (by omega), if_true, nI_1, ih (i + 1) _ _ _ (by omega), smS, hu]
    simp only [r_il4 c_M_same_12, r_ci c_M_same_14, r_icge c_M_same_15, ↓reduceIte, hs_h, Option.bind_some, mfix_i, mfix_r, mfix_n, mfix_a, Option.toList_some, Option.toList_none, List.cons_append, List.nil_append, List.singleton_append, k4s i hs4, if_false]
    rcases u6 with e | e | e | e
    all_goals
      have nw := nw e
      simp only [nwS, Int32.toInt32_toInt64, show ((-1 : Int32) = 0) = False from eq_false (by decide), show ((-1 : Int32) = 1) = False from eq_false (by decide), show ((1 : Int32) = 0) = False from eq_false (by decide), show ((2 : Int32) = 0) = False from eq_false (by decide), show ((2 : Int32) = 1) = False from eq_false (by decide), if_false, if_true] at nw
      simp only [r_al0 c_M_same_18, r_gfSr c_M_same_19 o10 rfl, r_il4 c_M_same_22, r_ial c_M_same_24, r_ifne c_M_same_25, r_il2 c_M_same_28, r_i2b c_M_same_29, r_i2l c_M_same_30, r_goto c_M_same_31, r_al0 c_M_same_34, r_gfSr c_M_same_35 o10 rfl, r_il4 c_M_same_38, r_ial c_M_same_40, r_ci c_M_same_41, r_icne c_M_same_42, r_il2 c_M_same_45, r_i2s c_M_same_46, r_i2l c_M_same_47, r_goto c_M_same_48, r_il2 c_M_same_51, r_i2l c_M_same_52, ↓reduceIte, hs_h, Option.bind_some, mfix_i, mfix_r, mfix_n, mfix_a, Option.toList_some, Option.toList_none, List.cons_append, List.nil_append, List.singleton_append, mwt, Value.category, Nat.reduceAdd, Nat.reduceLeDiff, true_and, and_true, and_self, mia_I (iM99 hE) hs4 (by decide), e, show ((-1 : Int32) = 0) = False from eq_false (by decide), show ((-1 : Int32) = 1) = False from eq_false (by decide), show ((1 : Int32) = 0) = False from eq_false (by decide), show ((2 : Int32) = 0) = False from eq_false (by decide), show ((2 : Int32) = 1) = False from eq_false (by decide), if_false, if_true, fin _ _ _ nw]
theorem q_same (h : Inv E S) : opE E S 259 260 6 7 [.int c, .int v] := by
  obtain ⟨hE, hpar, ⟨z, t, hc, pk, td, htd, hR⟩, hI, hTp, hWt, hSh, hKy⟩ := id h
  obtain ⟨b, hb1⟩ : ∃ b, b = 1 := ⟨1, rfl⟩
  have hb : bkb b := Or.inl hb1
  rw [← hb1] at hR
  have o9 := o_X hE hb1
  have o0 := o_B hE hb
  have o8 := o_I hE hb
  have o1 := o_L hE hb
  have o5 := o_P hE
  have o10 := o_M hE
  have m10 := m_M hE
  have m9 : ∀ S, misc (hp E S 0) 9 = true := fun S => misc_o o9
  have m0 : ∀ S, misc (hp E S b) 0 = true := fun S => misc_o o0
  have m8 : ∀ S, misc (hp E S (b + 13)) 8 = true := fun S => misc_o o8
  have m1 : ∀ S, misc (hp E S (b + 22)) 1 = true := fun S => misc_o o1
  have m5 : ∀ S, misc (hp E S 79) 5 = true := fun S => misc_o o5
  obtain ⟨n1, n14, n16, n18, n20, n22, n3, n5, n7⟩ := rl_okm hR
  obtain ⟨⟨g1, g3, g5, g7, g14, g16, g18, g20, g22, gt, gw⟩, hH, hP⟩ := rl_okh hR
  have ht := rl_tod hR
  by_cases h0 : c < 0
  · have h1 : ¬ 0 ≤ c := Int32.not_le.2 h0
    refine op_v h (-1000000001) (fun d => ?_) (fun d => ?_)
    · simp only [ment, mfl, List.length, List.replicate, List.cons_append, List.nil_append, Nat.reduceAdd, Nat.reduceSub]; simp only [r_il1 c_X_same_0, r_ifge c_X_same_1, r_ci c_X_same_4, r_iret c_X_same_6, ↓reduceIte, hs_h, Option.bind_some, mfix_i, mfix_r, mfix_n, mfix_a, Option.toList_some, Option.toList_none, List.cons_append, List.nil_append, List.singleton_append, h1, if_false]
    · simp only [ment, mfl, List.length, List.replicate, List.cons_append, List.nil_append, Nat.reduceAdd, Nat.reduceSub]; simp only [r_il1 c_M_same_0, r_ifge c_M_same_1, r_ci c_M_same_4, r_iret c_M_same_6, ↓reduceIte, hs_h, Option.bind_some, mfix_i, mfix_r, mfix_n, mfix_a, Option.toList_some, Option.toList_none, List.cons_append, List.nil_append, List.singleton_append, h1, if_false]
  · have h1 : 0 ≤ c := Int32.not_lt.1 h0
    obtain ⟨p, hp2, rfl⟩ := nI_of h0
    have e0 : (0 : Int32) = nI 0 := by decide
    refine op_v h (smS S p v 0 4 0) (fun d => ?_) (fun d => ?_)
    · have l0 := X_same_lp (d := d) (v := v) hE hSh hp2 4 0 0 (.retAddr 0) (by omega)
      rw [nI_0] at l0
      simp only [ment, mfl, List.length, List.replicate, List.cons_append, List.nil_append, Nat.reduceAdd, Nat.reduceSub]; simp only [r_il1 c_X_same_0, r_ifge c_X_same_1, r_ci c_X_same_4, r_iret c_X_same_6, r_ci c_X_same_7, r_is3 c_X_same_8, r_ci c_X_same_9, r_is4 c_X_same_10, ↓reduceIte, hs_h, Option.bind_some, mfix_i, mfix_r, mfix_n, mfix_a, Option.toList_some, Option.toList_none, List.cons_append, List.nil_append, List.singleton_append, h1, if_true, l0]
    · have l0 := M_same_lp (d := d) (v := v) hE hSh hp2 4 0 0 (.retAddr 0) (.retAddr 0) (by omega)
      rw [nI_0] at l0
      simp only [ment, mfl, List.length, List.replicate, List.cons_append, List.nil_append, Nat.reduceAdd, Nat.reduceSub]; simp only [r_il1 c_M_same_0, r_ifge c_M_same_1, r_ci c_M_same_4, r_iret c_M_same_6, r_ci c_M_same_7, r_is3 c_M_same_8, r_ci c_M_same_9, r_is4 c_M_same_10, ↓reduceIte, hs_h, Option.bind_some, mfix_i, mfix_r, mfix_n, mfix_a, Option.toList_some, Option.toList_none, List.cons_append, List.nil_append, List.singleton_append, h1, if_true, l0]
end SAMEQ
