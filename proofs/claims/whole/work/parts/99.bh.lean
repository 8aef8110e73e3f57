/-! unwind: its pieces -/
section UNW
variable {E : EE} {R S S1 S2 U U2 : SS} {b d k n m i j p td B a s : Nat} {c v w x y : Int32} {z t hc pk : Nat → Nat} {f f0 f1 g g' A A' : Nat → Int32}
theorem Inv_u (h : Inv E S) (hb1 : b = 1) (hU : ∀ q, (q = 0 ∨ 27 ≤ q ∨ q = 24) → U q = S q) (e2 : eqM U U2) (htd : td ≤ 2999) (hR : Rel E U b z t hc pk td (18 * td) g') : Inv E (sA U2 94 g') := by
  subst hb1
  obtain ⟨e2, e3⟩ := e2
  refine Inv_B h ⟨fun q h0 h1 h2 h3 h4 h5 => ?_, fun k hk => ?_⟩ ⟨z, t, hc, pk, td, htd, ?_⟩ ?_
  · rw [sA, va_up, if_neg h2, e2 q h1 h3 h4 h5, hU q (by omega)]
  · rw [iF_sA, e3 k hk, iF, hU 93 (by omega)]
  · rw [iA_sA]
    refine Rel_cells (Or.inl rfl) (fun q hq => ?_) (Nat.le_refl _) hR
    rw [sA, va_up, if_neg (by omega), e2 q (by omega) (by omega) (by omega) (by omega)]
  · intro j p hj hp
    rw [iQ, sA, va_up, if_neg (by omega), e2 _ (by omega) (by omega) (by omega) (by omega), hU _ (by omega)] at hp
    exact h.2.2.2.2.2.2.2.1 j p hj hp
/-- the latest hearing of a case that is LET -/
def llq (A : Nat → Int32) (c : Int32) : Nat → Option Nat
  | 0 => none
  | n + 1 => if A (n * 5) = c ∧ A (n * 5 + 2) = 2 then some n else llq A c n
theorem llq_lt : ∀ {n : Nat}, llq A c n = some k → k < n
  | 0, h => by cases h
  | n + 1, h => by
    rw [llq] at h
    by_cases e : A (n * 5) = c ∧ A (n * 5 + 2) = 2
    · rw [if_pos e] at h; cases h; omega
    · rw [if_neg e] at h; have := llq_lt h; omega
theorem cuF_l : ∀ m i, cuF A c i (m + 1) = if A ((i + m) * 5) = c ∧ A ((i + m) * 5 + 2) = 2 then 0 else cuF A c i m
  | 0, i => by
    rw [cuF, cuF, Nat.add_zero]
    by_cases e1 : A (i * 5) = c
    · by_cases e2 : A (i * 5 + 2) = 2
      · rw [if_pos e1, if_pos e2, if_pos ⟨e1, e2⟩]
      · rw [if_pos e1, if_neg e2, if_neg (fun h => e2 h.2)]; rfl
    · rw [if_neg e1, if_neg (fun h => e1 h.1)]; rfl
  | m + 1, i => by
    rw [cuF, cuF_l m (i + 1), show i + 1 + m = i + (m + 1) by omega]
    by_cases e : A ((i + (m + 1)) * 5) = c ∧ A ((i + (m + 1)) * 5 + 2) = 2
    · rw [if_pos e, ite_self, ite_self, if_pos e]
    · rw [if_neg e, if_neg e, cuF]
theorem cu_ll (h2 : A (k * 5) = c) (h3 : A (k * 5 + 2) = 2) : ∀ m, cuF A c (k + 1) m = if llq A c (k + 1 + m) = some k then 1 else 0
  | 0 => by rw [cuF, Nat.add_zero, llq, if_pos (show A (k * 5) = c ∧ A (k * 5 + 2) = 2 from ⟨h2, h3⟩), if_pos rfl]
  | m + 1 => by
    rw [cuF_l, show k + 1 + (m + 1) = k + 1 + m + 1 by omega, llq]
    by_cases e : A ((k + 1 + m) * 5) = c ∧ A ((k + 1 + m) * 5 + 2) = 2
    · rw [if_pos e, if_pos e, if_neg (fun h => by have := Option.some.inj h; omega)]
    · rw [if_neg e, if_neg e]
      exact cu_ll h2 h3 m
theorem ll_c : ∀ {n : Nat}, llq A c n = some k → A (k * 5) = c ∧ A (k * 5 + 2) = 2
  | 0, h => by cases h
  | n + 1, h => by
    rw [llq] at h
    by_cases e : A (n * 5) = c ∧ A (n * 5 + 2) = 2
    · rw [if_pos e] at h; cases h; exact e
    · rw [if_neg e] at h; exact ll_c h
theorem cu_S (hk : k < n) (hc0 : iA S (b + 8) (k * 5) = nI (hc k)) : cuS S b n k hc = if llq (iA S (b + 8)) (nI (hc k)) n = some k ∧ iA S (b + 2) (hc k * 6 + 3) = 1 then 1 else 0 := by
  rw [cuS]
  by_cases e1 : iA S (b + 8) (k * 5 + 2) = 2
  · rw [if_pos e1]
    by_cases e2 : iA S (b + 2) (hc k * 6 + 3) = 1
    · rw [if_pos e2, cu_ll hc0 e1, show k + 1 + (n - (k + 1)) = n by omega]
      by_cases e3 : llq (iA S (b + 8)) (nI (hc k)) n = some k
      · rw [if_pos e3, if_pos ⟨e3, e2⟩]
      · rw [if_neg e3, if_neg (fun h => e3 h.1)]
    · rw [if_neg e2, if_neg (fun h => e2 h.2)]
  · rw [if_neg e1, if_neg (fun h => e1 (ll_c h.1).2)]
theorem cd_eq (hk : k < 30) {o : Option Nat} (ho : ∀ s, o = some s → s < 30) : cdF o = nI k ↔ o = some k := by
  cases o with
  | none =>
    have : ∀ k : Nat, k < 30 → ¬ (-1 : Int32) = nI k := by decide
    exact ⟨fun h => absurd h (this k hk), fun h => by cases h⟩
  | some s =>
    have hs := ho s rfl
    exact ⟨fun h => by rw [(nI_eq (by omega) (by omega)).mp h], fun h => by cases h; rfl⟩
theorem M_unw_1 (hE : okE E) (hR : Rel E R b z t hc pk td B (iA S 94)) (hj : j < 12) : ∀ m i, i + m = z 7 → mres cT 208 d 29 [.ref 93, .int x, .int (nI j), .int (cdF (llq (iA R (b + 8)) (nI j) i)), .int (nI i), .retAddr 0] [] (hs E S) = mres cT 208 d 84 [.ref 93, .int x, .int (nI j), .int (cdF (llq (iA R (b + 8)) (nI j) (z 7))), .int (nI (z 7)), .retAddr 0] [] (hs E S) := by
  have o10 := o_M hE
  have m10 := m_M hE
  obtain ⟨n1, n14, n16, n18, n20, n22, n3, n5, n7⟩ := rl_okm hR
  intro m
  induction m with
  | zero =>
    intro i hi
    have h1 : nI (z 7) ≤ nI i := nI_le (by omega) (by omega)
    rw [show i = z 7 by omega] at h1 ⊢
    simp only [r_il4 c_M_unwind_29, r_al0 c_M_unwind_31, r_gfSr c_M_unwind_32 o10 rfl, r_ci c_M_unwind_35, r_ial c_M_unwind_37, r_icge c_M_unwind_38, ↓reduceIte, hs_h, Option.bind_some, mfix_i, mfix_r, mfix_n, mfix_a, Option.toList_some, Option.toList_none, List.cons_append, List.nil_append, List.singleton_append, mn10 hE, n7.1, h1, if_true]
  | succ m ih =>
    intro i hi
    have hi7 : i < z 7 := by omega
    have hz7 := n7.2
    have h1 : ¬ nI (z 7) ≤ nI i := nI_ge hi7 (by omega)
    have a0 : iA S 94 (670 + 6 * i) = iA R (b + 8) (i * 5) := rl_hea hR i hi7 0 (by omega)
    have a2 : iA S 94 (670 + 6 * i + 2) = iA R (b + 8) (i * 5 + 2) := rl_hea hR i hi7 2 (by omega)
    have ih := ih (i + 1) (by omega)
    rw [llq] at ih
    simp only [r_il4 c_M_unwind_29, r_al0 c_M_unwind_31, r_gfSr c_M_unwind_32 o10 rfl, r_ci c_M_unwind_35, r_ial c_M_unwind_37, r_icge c_M_unwind_38, ↓reduceIte, hs_h, Option.bind_some, mfix_i, mfix_r, mfix_n, mfix_a, Option.toList_some, Option.toList_none, List.cons_append, List.nil_append, List.singleton_append, mn10 hE, n7.1, h1, if_false]
    by_cases e1 : iA R (b + 8) (i * 5) = nI j
    · by_cases e2 : iA R (b + 8) (i * 5 + 2) = 2
      · rw [if_pos ⟨e1, e2⟩] at ih
        simp only [r_al0 c_M_unwind_41, r_gfSr c_M_unwind_42 o10 rfl, r_il4 c_M_unwind_45, r_ci c_M_unwind_47, r_ca2 c_M_unwind_48, r_ial c_M_unwind_51, r_il2 c_M_unwind_52, r_icne c_M_unwind_53, r_al0 c_M_unwind_56, r_gfSr c_M_unwind_57 o10 rfl, r_il4 c_M_unwind_60, r_ci c_M_unwind_62, r_ca2 c_M_unwind_63, r_ial c_M_unwind_66, r_ci c_M_unwind_67, r_icne c_M_unwind_68, r_il4 c_M_unwind_71, r_goto c_M_unwind_73, r_il3 c_M_unwind_76, r_is3 c_M_unwind_77, r_inc4 c_M_unwind_78, r_goto c_M_unwind_81, ↓reduceIte, hs_h, Option.bind_some, mfix_i, mfix_r, mfix_n, mfix_a, Option.toList_some, Option.toList_none, List.cons_append, List.nil_append, List.singleton_append, mwt, Value.category, Nat.reduceAdd, Nat.reduceLeDiff, true_and, and_true, and_self, oh0, oh2, mia_94 hE (show 670 + 6 * i < 2578 by omega), mia_94 hE (show 670 + 6 * i + 2 < 2578 by omega), a0, a2, e1, e2, if_true, nI_1]
        exact ih
      · rw [if_neg (fun h => e2 h.2)] at ih
        simp only [r_al0 c_M_unwind_41, r_gfSr c_M_unwind_42 o10 rfl, r_il4 c_M_unwind_45, r_ci c_M_unwind_47, r_ca2 c_M_unwind_48, r_ial c_M_unwind_51, r_il2 c_M_unwind_52, r_icne c_M_unwind_53, r_al0 c_M_unwind_56, r_gfSr c_M_unwind_57 o10 rfl, r_il4 c_M_unwind_60, r_ci c_M_unwind_62, r_ca2 c_M_unwind_63, r_ial c_M_unwind_66, r_ci c_M_unwind_67, r_icne c_M_unwind_68, r_il4 c_M_unwind_71, r_goto c_M_unwind_73, r_il3 c_M_unwind_76, r_is3 c_M_unwind_77, r_inc4 c_M_unwind_78, r_goto c_M_unwind_81, ↓reduceIte, hs_h, Option.bind_some, mfix_i, mfix_r, mfix_n, mfix_a, Option.toList_some, Option.toList_none, List.cons_append, List.nil_append, List.singleton_append, mwt, Value.category, Nat.reduceAdd, Nat.reduceLeDiff, true_and, and_true, and_self, oh0, oh2, mia_94 hE (show 670 + 6 * i < 2578 by omega), mia_94 hE (show 670 + 6 * i + 2 < 2578 by omega), a0, a2, e1, e2, if_true, if_false, nI_1]
        exact ih
    · rw [if_neg (fun h => e1 h.1)] at ih
      simp only [r_al0 c_M_unwind_41, r_gfSr c_M_unwind_42 o10 rfl, r_il4 c_M_unwind_45, r_ci c_M_unwind_47, r_ca2 c_M_unwind_48, r_ial c_M_unwind_51, r_il2 c_M_unwind_52, r_icne c_M_unwind_53, r_al0 c_M_unwind_56, r_gfSr c_M_unwind_57 o10 rfl, r_il4 c_M_unwind_60, r_ci c_M_unwind_62, r_ca2 c_M_unwind_63, r_ial c_M_unwind_66, r_ci c_M_unwind_67, r_icne c_M_unwind_68, r_il4 c_M_unwind_71, r_goto c_M_unwind_73, r_il3 c_M_unwind_76, r_is3 c_M_unwind_77, r_inc4 c_M_unwind_78, r_goto c_M_unwind_81, ↓reduceIte, hs_h, Option.bind_some, mfix_i, mfix_r, mfix_n, mfix_a, Option.toList_some, Option.toList_none, List.cons_append, List.nil_append, List.singleton_append, mwt, Value.category, Nat.reduceAdd, Nat.reduceLeDiff, true_and, and_true, and_self, oh0, oh2, mia_94 hE (show 670 + 6 * i < 2578 by omega), mia_94 hE (show 670 + 6 * i + 2 < 2578 by omega), a0, a2, e1, if_false, nI_1]
      exact ih
def clF (A f : Nat → Int32) (j i : Nat) : Nat → Int32 := match lsq A (nI j) i with
  | none => f
  | some s => upd f (20 + 6 * j + 5) (nI s)
theorem cl_u {v : Int32} : upd (clF A f j i) (20 + 6 * j + 5) v = upd f (20 + 6 * j + 5) v := by
  rw [clF]
  split
  · rfl
  · funext q
    by_cases e : q = 20 + 6 * j + 5
    · subst e; rw [pk_us, pk_us]
    · rw [pk_un e, pk_un e, pk_un e]
theorem cl_o (h : i ≠ 20 + 6 * j + 5) : clF A f j n i = f i := by
  unfold clF
  cases lsq A (nI j) n with
  | none => rfl
  | some s => exact pk_un h
theorem M_unw_2 (hE : okE E) (hn : f 4 = nI n) (hn2 : n ≤ 30) (hs3 : ∀ i, i < n → f (164 + 3 * i) = A (i * 3)) (hj : j < 12) : ∀ m i, i + m = n → mres cT 208 d 195 [.ref 93, .int x, .int (nI j), .int y, .int w, .int (nI i)] [] (hs E (sA S 94 (clF A f j i))) = mres cT 208 d 237 [.ref 93, .int x, .int (nI j), .int y, .int w, .int (nI n)] [] (hs E (sA S 94 (clF A f j n))) := by
  have o10 := o_M hE
  have m10 := m_M hE
  intro m
  induction m with
  | zero =>
    intro i hi
    have h1 : nI n ≤ nI i := nI_le (by omega) (by omega)
    rw [show i = n by omega] at h1 ⊢
    simp only [r_il5 c_M_unwind_195, r_al0 c_M_unwind_197, r_gfSr c_M_unwind_198 o10 rfl, r_ci c_M_unwind_201, r_ial c_M_unwind_202, r_icge c_M_unwind_203, ↓reduceIte, hs_h, Option.bind_some, mfix_i, mfix_r, mfix_n, mfix_a, Option.toList_some, Option.toList_none, List.cons_append, List.nil_append, List.singleton_append, mn4 hE, i94, cl_o (show 4 ≠ 20 + 6 * j + 5 by omega), hn, h1, if_true]
  | succ m ih =>
    intro i hi
    have h1 : ¬ nI n ≤ nI i := nI_ge (by omega) (by omega)
    have ih := ih (i + 1) (by omega)
    simp only [r_il5 c_M_unwind_195, r_al0 c_M_unwind_197, r_gfSr c_M_unwind_198 o10 rfl, r_ci c_M_unwind_201, r_ial c_M_unwind_202, r_icge c_M_unwind_203, ↓reduceIte, hs_h, Option.bind_some, mfix_i, mfix_r, mfix_n, mfix_a, Option.toList_some, Option.toList_none, List.cons_append, List.nil_append, List.singleton_append, mn4 hE, i94, cl_o (show 4 ≠ 20 + 6 * j + 5 by omega), hn, h1, if_false]
    have a0 : clF A f j i (164 + 3 * i) = A (i * 3) := by rw [cl_o (by omega)]; exact hs3 i (by omega)
    by_cases e1 : A (i * 3) = nI j
    · have ec : clF A f j (i + 1) = upd f (20 + 6 * j + 5) (nI i) := by rw [clF, lsq, if_pos e1]
      rw [ec] at ih
      simp only [r_al0 c_M_unwind_206, r_gfSr c_M_unwind_207 o10 rfl, r_ci c_M_unwind_210, r_ci c_M_unwind_213, r_il5 c_M_unwind_214, r_imul c_M_unwind_216, r_iadd c_M_unwind_217, r_ial c_M_unwind_218, r_il2 c_M_unwind_219, r_icne c_M_unwind_220, r_al0 c_M_unwind_223, r_il2 c_M_unwind_224, r_ci c_M_unwind_225, r_il5 c_M_unwind_226, r_cv4 c_M_unwind_228, r_inc5 c_M_unwind_231, r_goto c_M_unwind_234, ↓reduceIte, hs_h, Option.bind_some, mfix_i, mfix_r, mfix_n, mfix_a, Option.toList_some, Option.toList_none, List.cons_append, List.nil_append, List.singleton_append, mwt, Value.category, Nat.reduceAdd, Nat.reduceLeDiff, true_and, and_true, and_self, km2, km3, km4, km6, km104, km24, ka20, ka92, ka164, ka254, ka314, ka474, ka634, ka670, ka850, ka890, ka914, ka12, kr2, kr3, kr4, kr5, nI_1, nI_add, m10, mia_94 hE (show 164 + 3 * i < 2578 by omega), i94, a0, e1, if_true, be5 hE hj, cl_u, sA_sA, ih]
    · have ec : clF A f j (i + 1) = clF A f j i := by rw [clF, lsq, if_neg e1, clF]
      rw [ec] at ih
      simp only [r_al0 c_M_unwind_206, r_gfSr c_M_unwind_207 o10 rfl, r_ci c_M_unwind_210, r_ci c_M_unwind_213, r_il5 c_M_unwind_214, r_imul c_M_unwind_216, r_iadd c_M_unwind_217, r_ial c_M_unwind_218, r_il2 c_M_unwind_219, r_icne c_M_unwind_220, r_al0 c_M_unwind_223, r_il2 c_M_unwind_224, r_ci c_M_unwind_225, r_il5 c_M_unwind_226, r_cv4 c_M_unwind_228, r_inc5 c_M_unwind_231, r_goto c_M_unwind_234, ↓reduceIte, hs_h, Option.bind_some, mfix_i, mfix_r, mfix_n, mfix_a, Option.toList_some, Option.toList_none, List.cons_append, List.nil_append, List.singleton_append, mwt, Value.category, Nat.reduceAdd, Nat.reduceLeDiff, true_and, and_true, and_self, km2, km3, km4, km6, km104, km24, ka20, ka92, ka164, ka254, ka314, ka474, ka634, ka670, ka850, ka890, ka914, ka12, kr2, kr3, kr4, kr5, nI_1, nI_add, m10, mia_94 hE (show 164 + 3 * i < 2578 by omega), i94, a0, e1, if_false, ih]
end UNW
