/-! check: its pieces -/
section CHECKP
variable {E : EE} {R S S1 S2 U U2 V W : SS} {b d k n m i j p td B a s q N w : Nat} {c v x y l : Int32} {f g : Nat → Int32} {z t hc pk : Nat → Nat} {wt : Nat → Int32}
theorem Inv_c (h : Inv E S) (e : ∀ q, q ≠ 0 → (q < 53 ∨ 79 ≤ q) → q ≠ 93 → q ≠ 94 → q ≠ 96 → q ≠ 102 → q ≠ 106 → q ≠ 107 → S1 q = S q) (e0 : iF S1 0 3 = iF S 0 3) (e8 : iF S1 0 8 = 0) (e3 : iF S1 93 3 = iF S 93 3) (e5 : iF S1 93 5 = iF S 93 5) (e7 : iF S1 93 7 = 0) (e94 : ∀ q, q < 2578 → iA S1 94 q = iA S 94 q) : Inv E S1 := by
  obtain ⟨h1, h2, ⟨z, t, hc, pk, td, b1, b2⟩, h4, h5, h6, h7, h8⟩ := h
  refine ⟨h1, h2, ⟨z, t, hc, pk, td, b1, Rel_f e94 (Rel_cells (Or.inl rfl) (fun q hq => e q (by omega) (by omega) (by omega) (by omega) (by omega) (by omega) (by omega) (by omega)) (Nat.le_refl _) b2)⟩, fr_I (fun q hq => e q (by omega) (by omega) (by omega) (by omega) (by omega) (by omega) (by omega) (by omega)) e0 e3 h4, fr_T (fun q hq => e q (by omega) (by omega) (by omega) (by omega) (by omega) (by omega) (by omega) (by omega)) e5 h5, ⟨0, by omega, e8.trans nI_0.symm, e7.trans nI_0.symm, fun j hj => absurd hj (Nat.not_lt_zero j)⟩, fr_H (fun q hq => e q (by omega) (by omega) (by omega) (by omega) (by omega) (by omega) (by omega) (by omega)) h7, fr_K (fun q hq => e q (by omega) (by omega) (by omega) (by omega) (by omega) (by omega) (by omega) (by omega)) h8⟩
theorem iM96 (hE : okE E) : isI E 96 2578 := ⟨fun S => hp_r (o := 17) hE (by omega), by have := hE.1; omega⟩
theorem k2578i (h : i < 2578) : ¬ (2578 : Int32) ≤ nI i := by rw [← k2578]; exact nI_ge (by omega) (by omega)
theorem cpK_n {h : Nat → Int32} : cpK g h i i = h i := by rw [cpK, if_neg (Nat.lt_irrefl i)]
/-- the numbers aside, the image's in their place -/
def asM (S : SS) (i : Nat) : SS := sA (sA S 96 (cpK (iA S 94) (iA S 96) i)) 94 (cpK (iA S 95) (iA S 94) i)
theorem sA_sw {g h : Nat → Int32} (hn : a ≠ b) : sA (sA S a g) b h = sA (sA S b h) a g := by
  funext q
  by_cases e1 : q = a
  · subst e1
    simp only [sA, va_up, hn, if_true, if_false]
  · by_cases e2 : q = b
    · subst e2
      simp only [sA, va_up, e1, if_true, if_false]
    · simp only [sA, va_up, e1, e2, if_false]
theorem M_check_1 (hE : okE E) {l4 l5 : Value} : ∀ m i, i + m = 2578 → mres cT 273 d 37 [.ref 93, .int x, .int y, .int (nI i), l4, l5] [] (hs E (asM S i)) = mres cT 273 d 74 [.ref 93, .int x, .int y, .int (nI 2578), l4, l5] [] (hs E (asM S 2578)) := by
  have o10 := o_M hE
  have m10 := m_M hE
  intro m
  induction m with
  | zero =>
    intro i hi
    have ei : i = 2578 := by omega
    subst ei
    simp only [r_il3 c_M_check_37, r_ci c_M_check_38, r_icge c_M_check_41, ↓reduceIte, hs_h, Option.bind_some, mfix_i, mfix_r, mfix_n, mfix_a, Option.toList_some, Option.toList_none, List.cons_append, List.nil_append, List.singleton_append, k2578, show ((2578 : Int32) ≤ 2578) = True from eq_true (by decide), if_true]
  | succ m ih =>
    intro i hi
    have ih := ih (i + 1) (by omega)
    have hi2 : i < 2578 := by omega
    have a94 : iA (asM S i) 94 = cpK (iA S 95) (iA S 94) i := by rw [asM, iA_sA]
    have a96 : iA (asM S i) 96 = cpK (iA S 94) (iA S 96) i := by rw [asM, iA_sA_ne (by omega), iA_sA]
    have a95 : iA (asM S i) 95 = iA S 95 := by rw [asM, iA_sA_ne (by omega), iA_sA_ne (by omega)]
    have st : sA (sA (asM S i) 96 (upd (cpK (iA S 94) (iA S 96) i) i (iA S 94 i))) 94 (upd (cpK (iA S 95) (iA S 94) i) i (iA S 95 i)) = asM S (i + 1) := by
      rw [cpK_s, cpK_s, asM, sA_sw (show (96 : Nat) ≠ 94 by decide), sA_sA, sA_sw (show (94 : Nat) ≠ 96 by decide), sA_sA, asM]
    simp only [r_il3 c_M_check_37, r_ci c_M_check_38, r_icge c_M_check_41, ↓reduceIte, hs_h, Option.bind_some, mfix_i, mfix_r, mfix_n, mfix_a, Option.toList_some, Option.toList_none, List.cons_append, List.nil_append, List.singleton_append, k2578i hi2, if_false]
    simp only [r_al0 c_M_check_44, r_gfSr c_M_check_45 o10 rfl, r_il3 c_M_check_48, r_al0 c_M_check_49, r_gfSr c_M_check_50 o10 rfl, r_il3 c_M_check_53, r_ial c_M_check_54, r_ias c_M_check_55, r_al0 c_M_check_56, r_gfSr c_M_check_57 o10 rfl, r_il3 c_M_check_60, r_al0 c_M_check_61, r_gfSr c_M_check_62 o10 rfl, r_il3 c_M_check_65, r_ial c_M_check_66, r_ias c_M_check_67, r_inc3 c_M_check_68, r_goto c_M_check_71, ↓reduceIte, hs_h, Option.bind_some, mfix_i, mfix_r, mfix_n, mfix_a, Option.toList_some, Option.toList_none, List.cons_append, List.nil_append, List.singleton_append, mia_94 hE hi2, a94, cpK_n, mis_I (iM96 hE) hi2 (by decide), hs_I (iM96 hE), a96, mia_I (iM95 hE) hi2 (by decide), iA_sA_ne (show (95 : Nat) ≠ 96 by decide), iA_sA_ne (show (94 : Nat) ≠ 96 by decide), a95, mis_94 hE hi2, hs_94 hE, st, nI_1, ih]
theorem M_check_3 (hE : okE E) {l3 : Value} {l4 : Int32} : ∀ m i, i + m = 2578 → mres cT 273 d 170 [.ref 93, .int x, .int y, l3, .int l4, .int (nI i)] [] (hs E (sA S 94 (cpK (iA S 96) (iA S 94) i))) = mres cT 273 d 198 [.ref 93, .int x, .int y, l3, .int l4, .int (nI 2578)] [] (hs E (sA S 94 (cpK (iA S 96) (iA S 94) 2578))) := by
  have o10 := o_M hE
  have m10 := m_M hE
  intro m
  induction m with
  | zero =>
    intro i hi
    have ei : i = 2578 := by omega
    subst ei
    simp only [r_il5 c_M_check_170, r_ci c_M_check_172, r_icge c_M_check_175, ↓reduceIte, hs_h, Option.bind_some, mfix_i, mfix_r, mfix_n, mfix_a, Option.toList_some, Option.toList_none, List.cons_append, List.nil_append, List.singleton_append, k2578, show ((2578 : Int32) ≤ 2578) = True from eq_true (by decide), if_true]
  | succ m ih =>
    intro i hi
    have ih := ih (i + 1) (by omega)
    rw [← cpK_s] at ih
    have hi2 : i < 2578 := by omega
    simp only [r_il5 c_M_check_170, r_ci c_M_check_172, r_icge c_M_check_175, ↓reduceIte, hs_h, Option.bind_some, mfix_i, mfix_r, mfix_n, mfix_a, Option.toList_some, Option.toList_none, List.cons_append, List.nil_append, List.singleton_append, k2578i hi2, if_false]
    simp only [r_al0 c_M_check_178, r_gfSr c_M_check_179 o10 rfl, r_il5 c_M_check_182, r_al0 c_M_check_184, r_gfSr c_M_check_185 o10 rfl, r_il5 c_M_check_188, r_ial c_M_check_190, r_ias c_M_check_191, r_inc5 c_M_check_192, r_goto c_M_check_195, ↓reduceIte, hs_h, Option.bind_some, mfix_i, mfix_r, mfix_n, mfix_a, Option.toList_some, Option.toList_none, List.cons_append, List.nil_append, List.singleton_append, mia_I (iM96 hE) hi2 (by decide), iA_sA_ne (show (96 : Nat) ≠ 94 by decide), mis_94 hE hi2, hs_94 hE, iA_sA, sA_sA, nI_1, ih]
theorem M_servedAll_R (hE : okE E) (hR : Rel E R b z t hc pk td B (iA S 94)) : ∃ S2, eqM S S2 ∧ ∀ d, mres cT 271 d 0 (ment 3 [.ref 93]) [] (hs E S) = some (some (.int (rfor (saG R b (z 16) (z 18)) 0 (z 1) 0)), hs E S2) := by
  have o10 := o_M hE
  have m10 := m_M hE
  have n1 := (rl_okm hR).1
  have ht := rl_tod hR
  have lp : ∀ m i x S1, eqM S S1 → i + m = z 1 → ∃ S2, eqM S S2 ∧ ∀ d, mres cT 271 d 4 [.ref 93, .int x, .int (nI i)] [] (hs E S1) = some (some (.int (rfor (saG R b (z 16) (z 18)) i m x)), hs E S2) := by
    intro m
    induction m with
    | zero =>
      intro i x S1 e hi
      have h1 : nI (z 1) ≤ nI i := nI_le (by omega) (by omega)
      have e2 : iA S1 94 2 = nI (z 1) := by rw [eqM_94 e]; exact n1.1
      refine ⟨S1, e, fun d => ?_⟩
      simp only [r_il2 c_M_servedAll_4, r_al0 c_M_servedAll_5, r_gfSr c_M_servedAll_6 o10 rfl, r_ci c_M_servedAll_9, r_ial c_M_servedAll_10, r_icge c_M_servedAll_11, r_il1 c_M_servedAll_34, r_iret c_M_servedAll_35, ↓reduceIte, hs_h, Option.bind_some, mfix_i, mfix_r, mfix_n, mfix_a, Option.toList_some, Option.toList_none, List.cons_append, List.nil_append, List.singleton_append, mn2 hE, e2, h1, if_true, rfor]
    | succ m ih =>
      intro i x S1 e hi
      have h1 : ¬ nI (z 1) ≤ nI i := nI_ge (by omega) (by omega)
      have hR1 : Rel E R b z t hc pk td B (iA S1 94) := by rw [eqM_94 e]; exact hR
      obtain ⟨S2, e2, r2⟩ := M_servedOn_R (k := i) (D := td) hE hR1 (by omega) (by omega)
      obtain ⟨S3, e3, r3⟩ := ih (i + 1) (x + svSum (iA R (b + 17)) (iA R (b + 19)) (z 16) (z 18) (nI i) (nI td)) S2 (eqM_tr e e2) (by omega)
      refine ⟨S3, e3, fun d => ?_⟩
      simp only [r_il2 c_M_servedAll_4, r_al0 c_M_servedAll_5, r_gfSr c_M_servedAll_6 o10 rfl, r_ci c_M_servedAll_9, r_ial c_M_servedAll_10, r_icge c_M_servedAll_11, ↓reduceIte, hs_h, Option.bind_some, mfix_i, mfix_r, mfix_n, mfix_a, Option.toList_some, Option.toList_none, List.cons_append, List.nil_append, List.singleton_append, mn2 hE, (rl_okm hR1).1.1, h1, if_false]
      simp only [r_il1 c_M_servedAll_14, r_al0 c_M_servedAll_15, r_il2 c_M_servedAll_16, r_al0 c_M_servedAll_17, r_gfSr c_M_servedAll_18 o10 rfl, r_ci c_M_servedAll_21, r_ial c_M_servedAll_22, r_cv3 c_M_servedAll_23, r_iadd c_M_servedAll_26, r_is1 c_M_servedAll_27, r_inc2 c_M_servedAll_28, r_goto c_M_servedAll_31, ↓reduceIte, hs_h, Option.bind_some, mfix_i, mfix_r, mfix_n, mfix_a, Option.toList_some, Option.toList_none, List.cons_append, List.nil_append, List.singleton_append, mwt, Value.category, Nat.reduceAdd, Nat.reduceLeDiff, true_and, and_true, and_self, m10, mn0 hE, (rl_tod hR1).2.2, r2, nI_1, r3, rfor, saG, ht.1]
  obtain ⟨S2, e2, r2⟩ := lp (z 1) 0 0 S eqM_rf (by omega)
  rw [nI_0] at r2
  refine ⟨S2, e2, fun d => ?_⟩
  simp only [ment, mfl, List.length, List.replicate, List.cons_append, List.nil_append, Nat.reduceAdd, Nat.reduceSub]
  simp only [r_ci c_M_servedAll_0, r_is1 c_M_servedAll_1, r_ci c_M_servedAll_2, r_is2 c_M_servedAll_3, ↓reduceIte, hs_h, Option.bind_some, mfix_i, mfix_r, mfix_n, mfix_a, Option.toList_some, Option.toList_none, List.cons_append, List.nil_append, List.singleton_append, r2]
/-- a number that waits is the one asked for -/
abbrev ckO (wt : Nat → Int32) (w p : Nat) (v : Int32) : Prop := p < w ∧ wt p = v
theorem X_waits_ok (hE : okE E) (hw : w ≤ 60) (hp9 : p < 1000) (hwt : iA U 92 = wt) : (ckO wt w p v → ∀ d, mres cT 268 d 0 (ment 4 [.ref 0, .int (nI p), .int (nI w), .int v]) [] (hs E U) = some (some (.int 1), hs E U)) ∧ (¬ ckO wt w p v → ∀ d, mres cT 268 d 0 (ment 4 [.ref 0, .int (nI p), .int (nI w), .int v]) [] (hs E U) = some (some (.int 0), hs E U)) := by
  have o9 := o_X hE rfl
  have l60 : ∀ S, mlen (hp E S 92) = some 60 := fun S => mlen_I (iM92 hE)
  have k59 : (nI 60 - 1 : Int32) = 59 := by decide
  have w59 : p < 60 → wiS (nI p) 0 59 = 1 := fun h => (k60 p h).1
  refine ⟨fun ⟨h1, h2⟩ d => ?_, fun hn d => ?_⟩
  · have h3 : ¬ nI w ≤ nI p := nI_ge h1 (by omega)
    simp only [ment, mfl, List.length, List.replicate, List.cons_append, List.nil_append, Nat.reduceAdd, Nat.reduceSub]
    simp only [r_il1 c_X_waits_0, r_il2 c_X_waits_1, r_icge c_X_waits_2, r_il1 c_X_waits_5, r_ci c_X_waits_6, r_al0 c_X_waits_7, r_an0 c_X_waits_7, r_gfSr c_X_waits_8 o9 rfl, r_len c_X_waits_11, r_ci c_X_waits_12, r_isub c_X_waits_13, r_ca3 c_X_waits_14, r_ifeq c_X_waits_17, r_al0 c_X_waits_20, r_an0 c_X_waits_20, r_gfSr c_X_waits_21 o9 rfl, r_il1 c_X_waits_24, r_ial c_X_waits_25, r_il3 c_X_waits_26, r_icne c_X_waits_27, r_ci c_X_waits_30, r_goto c_X_waits_31, r_ci c_X_waits_34, r_zret c_X_waits_35, ↓reduceIte, hs_h, Option.bind_some, mfix_i, mfix_r, mfix_n, mfix_a, Option.toList_some, Option.toList_none, List.cons_append, List.nil_append, List.singleton_append, mwt, Value.category, Nat.reduceAdd, Nat.reduceLeDiff, true_and, and_true, and_self, h3, if_false, l60, k59, X_within_ok, w59 (by omega), one_nz, mia_I (iM92 hE) (show p < 60 by omega) (by decide), hwt, h2, if_true, mz1]
  · by_cases h1 : p < w
    · have h3 : ¬ nI w ≤ nI p := nI_ge h1 (by omega)
      have h2 : ¬ wt p = v := fun e => hn ⟨h1, e⟩
      simp only [ment, mfl, List.length, List.replicate, List.cons_append, List.nil_append, Nat.reduceAdd, Nat.reduceSub]
      simp only [r_il1 c_X_waits_0, r_il2 c_X_waits_1, r_icge c_X_waits_2, r_il1 c_X_waits_5, r_ci c_X_waits_6, r_al0 c_X_waits_7, r_an0 c_X_waits_7, r_gfSr c_X_waits_8 o9 rfl, r_len c_X_waits_11, r_ci c_X_waits_12, r_isub c_X_waits_13, r_ca3 c_X_waits_14, r_ifeq c_X_waits_17, r_al0 c_X_waits_20, r_an0 c_X_waits_20, r_gfSr c_X_waits_21 o9 rfl, r_il1 c_X_waits_24, r_ial c_X_waits_25, r_il3 c_X_waits_26, r_icne c_X_waits_27, r_ci c_X_waits_30, r_goto c_X_waits_31, r_ci c_X_waits_34, r_zret c_X_waits_35, ↓reduceIte, hs_h, Option.bind_some, mfix_i, mfix_r, mfix_n, mfix_a, Option.toList_some, Option.toList_none, List.cons_append, List.nil_append, List.singleton_append, mwt, Value.category, Nat.reduceAdd, Nat.reduceLeDiff, true_and, and_true, and_self, h3, if_false, l60, k59, X_within_ok, w59 (by omega), one_nz, mia_I (iM92 hE) (show p < 60 by omega) (by decide), hwt, h2, mz0]
    · have h3 : nI w ≤ nI p := nI_le (by omega) (by omega)
      simp only [ment, mfl, List.length, List.replicate, List.cons_append, List.nil_append, Nat.reduceAdd, Nat.reduceSub]
      simp only [r_il1 c_X_waits_0, r_il2 c_X_waits_1, r_icge c_X_waits_2, r_il1 c_X_waits_5, r_ci c_X_waits_6, r_al0 c_X_waits_7, r_an0 c_X_waits_7, r_gfSr c_X_waits_8 o9 rfl, r_len c_X_waits_11, r_ci c_X_waits_12, r_isub c_X_waits_13, r_ca3 c_X_waits_14, r_ifeq c_X_waits_17, r_al0 c_X_waits_20, r_an0 c_X_waits_20, r_gfSr c_X_waits_21 o9 rfl, r_il1 c_X_waits_24, r_ial c_X_waits_25, r_il3 c_X_waits_26, r_icne c_X_waits_27, r_ci c_X_waits_30, r_goto c_X_waits_31, r_ci c_X_waits_34, r_zret c_X_waits_35, ↓reduceIte, hs_h, Option.bind_some, mfix_i, mfix_r, mfix_n, mfix_a, Option.toList_some, Option.toList_none, List.cons_append, List.nil_append, List.singleton_append, mwt, Value.category, Nat.reduceAdd, Nat.reduceLeDiff, true_and, and_true, and_self, h3, if_true, mz0]
end CHECKP
