/-! time: free days, served -/
section TIME4
variable {E : EE} {S : SS} {d b n ng : Nat} {c : Int32}
def gpG (f : Nat → Int32) (c day : Int32) (i : Nat) (s : Int32 × Int32) : Int32 × Int32 :=
  if f (i * 3) = c then if day < f (i * 3 + 1) then (s.1, (if f (i * 3 + 1) < s.2 then f (i * 3 + 1) else s.2)) else ((if s.1 < f (i * 3 + 2) then f (i * 3 + 2) else s.1), s.2) else s
def fdL (f : Nat → Int32) (n : Nat) (c to : Int32) : Nat → Int32 → Int32 → Int32
  | 0, free, _ => free
  | k + 1, free, day => if to ≤ day then free else
    if (rfor (gpG f c day) 0 n (day, to)).1 = day then fdL f n c to k (free + ((rfor (gpG f c day) 0 n (day, to)).2 - day)) (rfor (gpG f c day) 0 n (day, to)).2
    else fdL f n c to k free (rfor (gpG f c day) 0 n (day, to)).1
theorem I_freeDays_ok (hE : okE E) (hb : bkb b) (hn : iF S (b + 18) 3 = nI n) (hn2 : n ≤ 20) {fr to : Int32} : mres cT 59 d 0 (ment 11 [.ref (b + 13), .int c, .int fr, .int to]) [] (hs E S) = some (some (.int (fdL (iA S (b + 19)) n c to 42 0 fr)), hs E S) := by
  have o8 := o_I hE hb
  have ilp : ∀ (free day : Int32) (ed : Int32) (m i : Nat) (e nx : Int32) (z : Value), i + m = n → ∃ z', mres cT 59 d 41 [.ref (b + 13), .int c, .int fr, .int to, .int free, .int day, .int ed, .int e, .int nx, .int (nI i), z] [] (hs E S) = mres cT 59 d 124 [.ref (b + 13), .int c, .int fr, .int to, .int free, .int day, .int ed, .int (rfor (gpG (iA S (b + 19)) c day) i m (e, nx)).1, .int (rfor (gpG (iA S (b + 19)) c day) i m (e, nx)).2, .int (nI n), z'] [] (hs E S) := by
    intro free day ed m
    induction m with
    | zero =>
      intro i e nx z hi
      have h1 : nI n ≤ nI i := nI_le (by omega) (by omega)
      refine ⟨z, ?_⟩
      simp only [r_il9 c_I_freeDays_41, r_al0 c_I_freeDays_43, r_gfSr c_I_freeDays_44 o8 rfl, r_gfR3 c_I_freeDays_47 (w_1 hE hb), r_gfR3 c_I_freeDays_47 (w_3 hE hb), r_gfR3 c_I_freeDays_47 (w_5 hE hb), r_gfR3 c_I_freeDays_47 (w_7 hE hb), r_gfR3 c_I_freeDays_47 (w_9 hE hb), r_gfR3 c_I_freeDays_47 (w_11 hE hb), r_gfR3 c_I_freeDays_47 (w_14 hE hb), r_gfR3 c_I_freeDays_47 (w_16 hE hb), r_gfR3 c_I_freeDays_47 (w_18 hE hb), r_gfR3 c_I_freeDays_47 (w_20 hE hb), r_icge c_I_freeDays_50, ↓reduceIte, hs_h, Option.bind_some, mfix_i, mfix_r, mfix_n, mfix_a, Option.toList_some, Option.toList_none, List.cons_append, List.nil_append, List.singleton_append, hn, h1, if_true, rfor]
      rw [show i = n by omega]
    | succ m ih =>
      intro i e nx z hi
      have h1 : ¬ nI n ≤ nI i := nI_ge (by omega) (by omega)
      have hi2 : i < 20 := by omega
      have ih := fun e nx z => ih (i + 1) e nx z (by omega)
      simp only [r_il9 c_I_freeDays_41, r_al0 c_I_freeDays_43, r_gfSr c_I_freeDays_44 o8 rfl, r_gfR3 c_I_freeDays_47 (w_1 hE hb), r_gfR3 c_I_freeDays_47 (w_3 hE hb), r_gfR3 c_I_freeDays_47 (w_5 hE hb), r_gfR3 c_I_freeDays_47 (w_7 hE hb), r_gfR3 c_I_freeDays_47 (w_9 hE hb), r_gfR3 c_I_freeDays_47 (w_11 hE hb), r_gfR3 c_I_freeDays_47 (w_14 hE hb), r_gfR3 c_I_freeDays_47 (w_16 hE hb), r_gfR3 c_I_freeDays_47 (w_18 hE hb), r_gfR3 c_I_freeDays_47 (w_20 hE hb), r_icge c_I_freeDays_50, ↓reduceIte, hs_h, Option.bind_some, mfix_i, mfix_r, mfix_n, mfix_a, Option.toList_some, Option.toList_none, List.cons_append, List.nil_append, List.singleton_append, hn, h1]
      simp only [r_al0 c_I_freeDays_53, r_gfSr c_I_freeDays_54 o8 rfl, r_il9 c_I_freeDays_57, r_ci c_I_freeDays_59, r_cv3 c_I_freeDays_60, r_il1 c_I_freeDays_63, r_iceq c_I_freeDays_64, r_goto c_I_freeDays_67, r_al0 c_I_freeDays_70, r_gfSr c_I_freeDays_71 o8 rfl, r_il9 c_I_freeDays_74, r_ci c_I_freeDays_76, r_cv3 c_I_freeDays_77, r_is10 c_I_freeDays_80, r_il10 c_I_freeDays_82, r_il5 c_I_freeDays_84, r_icgt c_I_freeDays_86, r_il7 c_I_freeDays_89, r_al0 c_I_freeDays_91, r_gfSr c_I_freeDays_92 o8 rfl, r_il9 c_I_freeDays_95, r_ci c_I_freeDays_97, r_cv3 c_I_freeDays_98, r_ca2 c_I_freeDays_101, r_is7 c_I_freeDays_104, r_goto c_I_freeDays_106, r_il8 c_I_freeDays_109, r_il10 c_I_freeDays_111, r_ca2 c_I_freeDays_113, r_is8 c_I_freeDays_116, r_inc9 c_I_freeDays_118, r_goto c_I_freeDays_121, ↓reduceIte, hs_h, Option.bind_some, mfix_i, mfix_r, mfix_n, mfix_a, Option.toList_some, Option.toList_none, List.cons_append, List.nil_append, List.singleton_append, mwt, Value.category, Nat.reduceAdd, Nat.reduceLeDiff, true_and, and_true, and_self, at_18 hE hb, misc_w (w_18 hE hb), JM_max_ok, JM_min_ok, nI_1, ra0 hi2 (show 0 < 3 by decide) (by decide), ra1 hi2 (show 1 < 3 by decide) (by decide), ra2 hi2 (show 2 < 3 by decide) (by decide), rfor, gpG]
      split
      · split
        · exact ih _ _ _
        · exact ih _ _ _
      · exact ih _ _ _
  have lp : ∀ k e free day z7 z8 z9 z10, e + k = 42 → mres cT 59 d 9 [.ref (b + 13), .int c, .int fr, .int to, .int free, .int day, .int (nI e), z7, z8, z9, z10] [] (hs E S) = some (some (.int (fdL (iA S (b + 19)) n c to k free day)), hs E S) := by
    intro k
    have hl : (2 : Int32) * nI 20 + 1 = nI 41 := by decide
    induction k with
    | zero =>
      intro e free day z7 z8 z9 z10 hk
      have h2 : ¬ nI e ≤ nI 41 := nI_ge (by omega) (by omega)
      have h3 : nI 41 < nI e := nI_lt (by omega) (by omega)
      by_cases h : to ≤ day
      · simp only [r_il5 c_I_freeDays_9, r_il3 c_I_freeDays_11, r_icge c_I_freeDays_12, r_il4 c_I_freeDays_163, r_iret c_I_freeDays_165, ↓reduceIte, hs_h, Option.bind_some, mfix_i, mfix_r, mfix_n, mfix_a, Option.toList_some, Option.toList_none, List.cons_append, List.nil_append, List.singleton_append, h, if_true, fdL]
      · simp only [r_il5 c_I_freeDays_9, r_il3 c_I_freeDays_11, r_icge c_I_freeDays_12, r_il6 c_I_freeDays_15, r_ci c_I_freeDays_17, r_al0 c_I_freeDays_18, r_gfSr c_I_freeDays_19 o8 rfl, r_gfR0 c_I_freeDays_22 (w_1 hE hb), r_gfR0 c_I_freeDays_22 (w_3 hE hb), r_gfR0 c_I_freeDays_22 (w_5 hE hb), r_gfR0 c_I_freeDays_22 (w_7 hE hb), r_gfR0 c_I_freeDays_22 (w_9 hE hb), r_gfR0 c_I_freeDays_22 (w_11 hE hb), r_gfR0 c_I_freeDays_22 (w_14 hE hb), r_gfR0 c_I_freeDays_22 (w_16 hE hb), r_gfR0 c_I_freeDays_22 (w_18 hE hb), r_gfR0 c_I_freeDays_22 (w_20 hE hb), r_imul c_I_freeDays_25, r_ci c_I_freeDays_26, r_iadd c_I_freeDays_27, r_icgt c_I_freeDays_28, r_il4 c_I_freeDays_163, r_iret c_I_freeDays_165, ↓reduceIte, hs_h, Option.bind_some, mfix_i, mfix_r, mfix_n, mfix_a, Option.toList_some, Option.toList_none, List.cons_append, List.nil_append, List.singleton_append, h, if_true, if_false, hl, h2, h3, fdL]
    | succ k ih =>
      intro e free day z7 z8 z9 z10 hk
      have h2 : nI e ≤ nI 41 := nI_le (by omega) (by omega)
      have h3 : ¬ nI 41 < nI e := nI_nlt (by omega) (by omega)
      have ih := fun free day z7 z8 z9 z10 => ih (e + 1) free day z7 z8 z9 z10 (by omega)
      by_cases h : to ≤ day
      · simp only [r_il5 c_I_freeDays_9, r_il3 c_I_freeDays_11, r_icge c_I_freeDays_12, r_il4 c_I_freeDays_163, r_iret c_I_freeDays_165, ↓reduceIte, hs_h, Option.bind_some, mfix_i, mfix_r, mfix_n, mfix_a, Option.toList_some, Option.toList_none, List.cons_append, List.nil_append, List.singleton_append, h, if_true, fdL]
      · simp only [r_il5 c_I_freeDays_9, r_il3 c_I_freeDays_11, r_icge c_I_freeDays_12, r_il6 c_I_freeDays_15, r_ci c_I_freeDays_17, r_al0 c_I_freeDays_18, r_gfSr c_I_freeDays_19 o8 rfl, r_gfR0 c_I_freeDays_22 (w_1 hE hb), r_gfR0 c_I_freeDays_22 (w_3 hE hb), r_gfR0 c_I_freeDays_22 (w_5 hE hb), r_gfR0 c_I_freeDays_22 (w_7 hE hb), r_gfR0 c_I_freeDays_22 (w_9 hE hb), r_gfR0 c_I_freeDays_22 (w_11 hE hb), r_gfR0 c_I_freeDays_22 (w_14 hE hb), r_gfR0 c_I_freeDays_22 (w_16 hE hb), r_gfR0 c_I_freeDays_22 (w_18 hE hb), r_gfR0 c_I_freeDays_22 (w_20 hE hb), r_imul c_I_freeDays_25, r_ci c_I_freeDays_26, r_iadd c_I_freeDays_27, r_icgt c_I_freeDays_28, r_il5 c_I_freeDays_31, r_is7 c_I_freeDays_33, r_il3 c_I_freeDays_35, r_is8 c_I_freeDays_36, r_ci c_I_freeDays_38, r_is9 c_I_freeDays_39, ↓reduceIte, hs_h, Option.bind_some, mfix_i, mfix_r, mfix_n, mfix_a, Option.toList_some, Option.toList_none, List.cons_append, List.nil_append, List.singleton_append, h, if_true, if_false, hl, h2, h3]
        obtain ⟨z', hz⟩ := ilp free day (nI e) n 0 day to z10 (by omega)
        rw [nI_0] at hz
        rw [hz]
        by_cases he : (rfor (gpG (iA S (b + 19)) c day) 0 n (day, to)).1 = day
        · simp only [r_il7 c_I_freeDays_124, r_il5 c_I_freeDays_126, r_icne c_I_freeDays_128, r_il4 c_I_freeDays_131, r_il8 c_I_freeDays_133, r_il5 c_I_freeDays_135, r_isub c_I_freeDays_137, r_iadd c_I_freeDays_138, r_is4 c_I_freeDays_139, r_il7 c_I_freeDays_141, r_il5 c_I_freeDays_143, r_icne c_I_freeDays_145, r_il8 c_I_freeDays_148, r_goto c_I_freeDays_150, r_il7 c_I_freeDays_153, r_is5 c_I_freeDays_155, r_inc6 c_I_freeDays_157, r_goto c_I_freeDays_160, ↓reduceIte, hs_h, Option.bind_some, mfix_i, mfix_r, mfix_n, mfix_a, Option.toList_some, Option.toList_none, List.cons_append, List.nil_append, List.singleton_append, he, ne_eq, not_true_eq_false, if_true, if_false, nI_1, ih, fdL, h]
        · simp only [r_il7 c_I_freeDays_124, r_il5 c_I_freeDays_126, r_icne c_I_freeDays_128, r_il4 c_I_freeDays_131, r_il8 c_I_freeDays_133, r_il5 c_I_freeDays_135, r_isub c_I_freeDays_137, r_iadd c_I_freeDays_138, r_is4 c_I_freeDays_139, r_il7 c_I_freeDays_141, r_il5 c_I_freeDays_143, r_icne c_I_freeDays_145, r_il8 c_I_freeDays_148, r_goto c_I_freeDays_150, r_il7 c_I_freeDays_153, r_is5 c_I_freeDays_155, r_inc6 c_I_freeDays_157, r_goto c_I_freeDays_160, ↓reduceIte, hs_h, Option.bind_some, mfix_i, mfix_r, mfix_n, mfix_a, Option.toList_some, Option.toList_none, List.cons_append, List.nil_append, List.singleton_append, he, ne_eq, not_false_eq_true, if_true, if_false, nI_1, ih, fdL, h]
  simp only [ment, mfl, List.length, List.replicate, List.cons_append, List.nil_append, Nat.reduceAdd, Nat.reduceSub]
  simp only [r_ci c_I_freeDays_0, r_is4 c_I_freeDays_1, r_il2 c_I_freeDays_3, r_is5 c_I_freeDays_4, r_ci c_I_freeDays_6, r_is6 c_I_freeDays_7, ↓reduceIte, hs_h, Option.bind_some, mfix_i, mfix_r, mfix_n, mfix_a, Option.toList_some, Option.toList_none, List.cons_append, List.nil_append, List.singleton_append]
  exact lp 42 0 0 fr _ _ _ _ (by omega)
def svG (f g : Nat → Int32) (ng : Nat) (c day : Int32) (i : Nat) (s : Int32) : Int32 :=
  if f (i * 3) = c then s + fdL g ng c (if f (i * 3 + 2) < day then f (i * 3 + 2) else day) 42 0 (f (i * 3 + 1)) else s
def svSum (f g : Nat → Int32) (n ng : Nat) (c day : Int32) : Int32 := rfor (svG f g ng c day) 0 n 0
theorem I_servedOf_ok (hE : okE E) (hb : bkb b) (hn : iF S (b + 16) 3 = nI n) (hn2 : n ≤ 30) (hg : iF S (b + 18) 3 = nI ng) (hg2 : ng ≤ 20) {day : Int32} : mres cT 60 d 0 (ment 5 [.ref (b + 13), .int c, .int day]) [] (hs E S) = some (some (.int (svSum (iA S (b + 17)) (iA S (b + 19)) n ng c day)), hs E S) := by
  have o8 := o_I hE hb
  have m8 : misc (hp E S (b + 13)) 8 = true := misc_o o8
  have lp : ∀ m i s, i + m = n → mres cT 60 d 5 [.ref (b + 13), .int c, .int day, .int s, .int (nI i)] [] (hs E S) = some (some (.int (rfor (svG (iA S (b + 17)) (iA S (b + 19)) ng c day) i m s)), hs E S) := by
    intro m
    induction m with
    | zero =>
      intro i s hi
      have h1 : nI n ≤ nI i := nI_le (by omega) (by omega)
      simp only [r_il4 c_I_servedOf_5, r_al0 c_I_servedOf_7, r_gfSr c_I_servedOf_8 o8 rfl, r_gfR3 c_I_servedOf_11 (w_1 hE hb), r_gfR3 c_I_servedOf_11 (w_3 hE hb), r_gfR3 c_I_servedOf_11 (w_5 hE hb), r_gfR3 c_I_servedOf_11 (w_7 hE hb), r_gfR3 c_I_servedOf_11 (w_9 hE hb), r_gfR3 c_I_servedOf_11 (w_11 hE hb), r_gfR3 c_I_servedOf_11 (w_14 hE hb), r_gfR3 c_I_servedOf_11 (w_16 hE hb), r_gfR3 c_I_servedOf_11 (w_18 hE hb), r_gfR3 c_I_servedOf_11 (w_20 hE hb), r_icge c_I_servedOf_14, r_il3 c_I_servedOf_72, r_iret c_I_servedOf_73, ↓reduceIte, hs_h, Option.bind_some, mfix_i, mfix_r, mfix_n, mfix_a, Option.toList_some, Option.toList_none, List.cons_append, List.nil_append, List.singleton_append, hn, h1, if_true, rfor]
    | succ m ih =>
      intro i s hi
      have h1 : ¬ nI n ≤ nI i := nI_ge (by omega) (by omega)
      have hi2 : i < 30 := by omega
      have ih := fun s => ih (i + 1) s (by omega)
      simp only [r_il4 c_I_servedOf_5, r_al0 c_I_servedOf_7, r_gfSr c_I_servedOf_8 o8 rfl, r_gfR3 c_I_servedOf_11 (w_1 hE hb), r_gfR3 c_I_servedOf_11 (w_3 hE hb), r_gfR3 c_I_servedOf_11 (w_5 hE hb), r_gfR3 c_I_servedOf_11 (w_7 hE hb), r_gfR3 c_I_servedOf_11 (w_9 hE hb), r_gfR3 c_I_servedOf_11 (w_11 hE hb), r_gfR3 c_I_servedOf_11 (w_14 hE hb), r_gfR3 c_I_servedOf_11 (w_16 hE hb), r_gfR3 c_I_servedOf_11 (w_18 hE hb), r_gfR3 c_I_servedOf_11 (w_20 hE hb), r_icge c_I_servedOf_14, ↓reduceIte, hs_h, Option.bind_some, mfix_i, mfix_r, mfix_n, mfix_a, Option.toList_some, Option.toList_none, List.cons_append, List.nil_append, List.singleton_append, hn, h1]
      simp only [r_al0 c_I_servedOf_17, r_gfSr c_I_servedOf_18 o8 rfl, r_il4 c_I_servedOf_21, r_ci c_I_servedOf_23, r_cv3 c_I_servedOf_24, r_il1 c_I_servedOf_27, r_iceq c_I_servedOf_28, r_goto c_I_servedOf_31, r_il3 c_I_servedOf_34, r_al0 c_I_servedOf_35, r_il1 c_I_servedOf_36, r_al0 c_I_servedOf_37, r_gfSr c_I_servedOf_38 o8 rfl, r_il4 c_I_servedOf_41, r_ci c_I_servedOf_43, r_cv3 c_I_servedOf_44, r_il2 c_I_servedOf_47, r_al0 c_I_servedOf_48, r_gfSr c_I_servedOf_49 o8 rfl, r_il4 c_I_servedOf_52, r_ci c_I_servedOf_54, r_cv3 c_I_servedOf_55, r_ca2 c_I_servedOf_58, r_cv4 c_I_servedOf_61, r_iadd c_I_servedOf_64, r_is3 c_I_servedOf_65, r_inc4 c_I_servedOf_66, r_goto c_I_servedOf_69, ↓reduceIte, hs_h, Option.bind_some, mfix_i, mfix_r, mfix_n, mfix_a, Option.toList_some, Option.toList_none, List.cons_append, List.nil_append, List.singleton_append, mwt, Value.category, Nat.reduceAdd, Nat.reduceLeDiff, true_and, and_true, and_self, at_16 hE hb, misc_w (w_16 hE hb), m8, JM_min_ok, I_freeDays_ok hE hb hg hg2, nI_1, ih, ra0 hi2 (show 0 < 3 by decide) (by decide), ra1 hi2 (show 1 < 3 by decide) (by decide), ra2 hi2 (show 2 < 3 by decide) (by decide), rfor, svG]
      split <;> rfl
  simp only [ment, mfl, List.length, List.replicate, List.cons_append, List.nil_append, Nat.reduceAdd, Nat.reduceSub]
  simp only [r_ci c_I_servedOf_0, r_is3 c_I_servedOf_1, r_ci c_I_servedOf_2, r_is4 c_I_servedOf_3, ↓reduceIte, hs_h, Option.bind_some, mfix_i, mfix_r, mfix_n, mfix_a, Option.toList_some, Option.toList_none, List.cons_append, List.nil_append, List.singleton_append]
  exact lp n 0 0 (by omega)
end TIME4
