/-! time: what a span is, what was served -/
section TIME3
variable {E : EE} {S : SS} {d b n ng : Nat} {c x : Int32}
theorem one_nz : ((1 : Int32) = 0) = False := eq_false (by decide)
def lsq (f : Nat → Int32) (c : Int32) : Nat → Option Nat
  | 0 => none
  | n + 1 => if f (n * 3) = c then some n else lsq f c n
theorem lsq_lt {f : Nat → Int32} {k : Nat} : ∀ {n : Nat}, lsq f c n = some k → k < n ∧ f (k * 3) = c
  | 0, h => by cases h
  | n + 1, h => by
    rw [lsq] at h
    by_cases e : f (n * 3) = c
    · rw [if_pos e] at h
      cases h
      exact ⟨by omega, e⟩
    · rw [if_neg e] at h
      have := lsq_lt h
      exact ⟨by omega, this.2⟩
theorem lsp_n {f : Nat → Int32} : ∀ {n : Nat}, lsq f c n = none → lsp f c n = -1000000005
  | 0, _ => rfl
  | n + 1, h => by
    rw [lsq] at h
    by_cases e : f (n * 3) = c
    · rw [if_pos e] at h
      cases h
    · rw [if_neg e] at h
      rw [lsp, if_neg e, lsp_n h]
theorem lsp_s {f : Nat → Int32} {k : Nat} : ∀ {n : Nat}, lsq f c n = some k → lsp f c n = nI k
  | 0, h => by cases h
  | n + 1, h => by
    rw [lsq] at h
    by_cases e : f (n * 3) = c
    · rw [if_pos e] at h
      cases h
      rw [lsp, if_pos e]
    · rw [if_neg e] at h
      rw [lsp, if_neg e, lsp_s h]
theorem I_goesOn_ok (hE : okE E) (hb : bkb b) (hn : iF S (b + 16) 3 = nI n) {s : Int32} : mres cT 47 d 0 (ment 2 [.ref (b + 13), .int s]) [] (hs E S) = some (some (.int (if s < 0 ∨ nI n ≤ s then 0 else if rwAt 30 3 (iA S (b + 17)) s 2 = 2147483647 then 1 else 0)), hs E S) := by
  have o8 := o_I hE hb
  simp only [ment, mfl, List.length, List.replicate, List.cons_append, List.nil_append, Nat.reduceAdd, Nat.reduceSub]
  simp only [r_al0 c_I_goesOn_0, r_gfSr c_I_goesOn_1 o8 rfl, r_il1 c_I_goesOn_4, r_cv2 c_I_goesOn_5, r_ifeq c_I_goesOn_8, r_al0 c_I_goesOn_11, r_gfSr c_I_goesOn_12 o8 rfl, r_il1 c_I_goesOn_15, r_ci c_I_goesOn_16, r_cv3 c_I_goesOn_17, r_ci c_I_goesOn_20, r_icne c_I_goesOn_22, r_ci c_I_goesOn_25, r_goto c_I_goesOn_26, r_ci c_I_goesOn_29, r_zret c_I_goesOn_30, ↓reduceIte, hs_h, Option.bind_some, mfix_i, mfix_r, mfix_n, mfix_a, Option.toList_some, Option.toList_none, List.cons_append, List.nil_append, List.singleton_append, mwt, Value.category, Nat.reduceAdd, Nat.reduceLeDiff, true_and, and_true, and_self, at_16 hE hb, misc_w (w_16 hE hb), has_16 hE hb, hn, mz0, mz1]
  by_cases h : s < 0 ∨ nI n ≤ s
  · simp only [h, if_true]
  · simp only [h, if_false, one_nz]
    by_cases h2 : rwAt 30 3 (iA S (b + 17)) s 2 = 2147483647
    · simp only [h2, if_true, ne_eq, not_true_eq_false, if_false]
    · simp only [h2, if_false, ne_eq, not_false_eq_true, if_true]
def goS (f : Nat → Int32) (k : Nat) : Int32 := if f (k * 3 + 2) = 2147483647 then 1 else 0
theorem goesOn_n (hE : okE E) (hb : bkb b) (hn : iF S (b + 16) 3 = nI n) : mres cT 47 d 0 (ment 2 [.ref (b + 13), .int (-1000000005)]) [] (hs E S) = some (some (.int 0), hs E S) := by
  rw [I_goesOn_ok hE hb hn, if_pos (Or.inl (by decide))]
theorem goesOn_s {k : Nat} (hE : okE E) (hb : bkb b) (hn : iF S (b + 16) 3 = nI n) (hk : k < n) (hn2 : n ≤ 30) : mres cT 47 d 0 (ment 2 [.ref (b + 13), .int (nI k)]) [] (hs E S) = some (some (.int (goS (iA S (b + 17)) k)), hs E S) := by
  have h1 : ¬ (nI k < 0 ∨ nI n ≤ nI k) := by
    have h1 := nI_pos (n := k) (by omega)
    have h2 := nI_ge hk (by omega)
    exact fun h => h.elim h1 h2
  rw [I_goesOn_ok hE hb hn, if_neg h1, ra2 (show k < 30 by omega) (by decide) (by decide), goS]
theorem I_beginSpan_ok (hE : okE E) (hb : bkb b) (hn : iF S (b + 16) 3 = nI n) (hn2 : n < 30) : mres cT 15 d 0 (ment 3 [.ref (b + 13), .int c, .int x]) [] (hs E S) = some (none, hs E (sA (sF S (b + 16) 3 (nI (n + 1))) (b + 17) (rowSet (iA S (b + 17)) (n * 3) 3 [c, x, 2147483647, 0]))) := by
  have o8 := o_I hE hb
  simp only [ment, mfl, List.length, List.replicate, List.cons_append, List.nil_append, Nat.reduceAdd, Nat.reduceSub]
  simp only [r_al0 c_I_beginSpan_0, r_gfSr c_I_beginSpan_1 o8 rfl, r_il1 c_I_beginSpan_4, r_il2 c_I_beginSpan_5, r_ci c_I_beginSpan_6, r_ci c_I_beginSpan_8, r_cv5 c_I_beginSpan_9, r_popi c_I_beginSpan_12, r_popr c_I_beginSpan_12, r_vret c_I_beginSpan_13, ↓reduceIte, hs_h, Option.bind_some, mfix_i, mfix_r, mfix_n, mfix_a, Option.toList_some, Option.toList_none, List.cons_append, List.nil_append, List.singleton_append, mwt, Value.category, Nat.reduceAdd, Nat.reduceLeDiff, true_and, and_true, and_self, at_16 hE hb, misc_w (w_16 hE hb), more_16 hE hb hn hn2]
def enS (S : SS) (b n : Nat) (c x : Int32) : SS := match lsq (iA S (b + 17)) c n with
  | none => S
  | some k => if iA S (b + 17) (k * 3 + 2) = 2147483647 then sA S (b + 17) (upd (iA S (b + 17)) (k * 3 + 2) x) else S
def reS (S : SS) (b n : Nat) (c : Int32) : SS := match lsq (iA S (b + 17)) c n with
  | none => S
  | some k => sA S (b + 17) (upd (iA S (b + 17)) (k * 3 + 2) 2147483647)
theorem I_endSpan_ok (hE : okE E) (hb : bkb b) (hn : iF S (b + 16) 3 = nI n) (hn2 : n ≤ 30) : mres cT 49 d 0 (ment 4 [.ref (b + 13), .int c, .int x]) [] (hs E S) = some (none, hs E (enS S b n c x)) := by
  have o8 := o_I hE hb
  have m8 : misc (hp E S (b + 13)) 8 = true := misc_o o8
  simp only [ment, mfl, List.length, List.replicate, List.cons_append, List.nil_append, Nat.reduceAdd, Nat.reduceSub]
  cases q : lsq (iA S (b + 17)) c n with
  | none =>
    simp only [r_al0 c_I_endSpan_0, r_il1 c_I_endSpan_1, r_cv2 c_I_endSpan_2, r_is3 c_I_endSpan_5, r_al0 c_I_endSpan_6, r_il3 c_I_endSpan_7, r_cv2 c_I_endSpan_8, r_ifeq c_I_endSpan_11, r_al0 c_I_endSpan_14, r_gfSr c_I_endSpan_15 o8 rfl, r_il3 c_I_endSpan_18, r_ci c_I_endSpan_19, r_il2 c_I_endSpan_20, r_cv4 c_I_endSpan_21, r_vret c_I_endSpan_24, ↓reduceIte, hs_h, Option.bind_some, mfix_i, mfix_r, mfix_n, mfix_a, Option.toList_some, Option.toList_none, List.cons_append, List.nil_append, List.singleton_append, mwt, Value.category, Nat.reduceAdd, Nat.reduceLeDiff, true_and, and_true, and_self, m8, I_latestSpan_ok hE hb hn hn2, lsp_n q, goesOn_n hE hb hn, if_true, enS, q]
  | some k =>
    have hk := (lsq_lt q).1
    have hk2 : k < 30 := by omega
    by_cases h : iA S (b + 17) (k * 3 + 2) = 2147483647
    · have hg : goS (iA S (b + 17)) k = 1 := if_pos h
      simp only [r_al0 c_I_endSpan_0, r_il1 c_I_endSpan_1, r_cv2 c_I_endSpan_2, r_is3 c_I_endSpan_5, r_al0 c_I_endSpan_6, r_il3 c_I_endSpan_7, r_cv2 c_I_endSpan_8, r_ifeq c_I_endSpan_11, r_al0 c_I_endSpan_14, r_gfSr c_I_endSpan_15 o8 rfl, r_il3 c_I_endSpan_18, r_ci c_I_endSpan_19, r_il2 c_I_endSpan_20, r_cv4 c_I_endSpan_21, r_vret c_I_endSpan_24, ↓reduceIte, hs_h, Option.bind_some, mfix_i, mfix_r, mfix_n, mfix_a, Option.toList_some, Option.toList_none, List.cons_append, List.nil_append, List.singleton_append, mwt, Value.category, Nat.reduceAdd, Nat.reduceLeDiff, true_and, and_true, and_self, at_16 hE hb, misc_w (w_16 hE hb), m8, I_latestSpan_ok hE hb hn hn2, lsp_s q, goesOn_s hE hb hn hk hn2, hg, one_nz, if_false, put_16 hE hb, pc2 hk2 (show 2 < 3 by decide) (show 30 * 3 ≤ 1000 by decide), enS, q, h, if_true]
    · have hg : goS (iA S (b + 17)) k = 0 := if_neg h
      simp only [r_al0 c_I_endSpan_0, r_il1 c_I_endSpan_1, r_cv2 c_I_endSpan_2, r_is3 c_I_endSpan_5, r_al0 c_I_endSpan_6, r_il3 c_I_endSpan_7, r_cv2 c_I_endSpan_8, r_ifeq c_I_endSpan_11, r_al0 c_I_endSpan_14, r_gfSr c_I_endSpan_15 o8 rfl, r_il3 c_I_endSpan_18, r_ci c_I_endSpan_19, r_il2 c_I_endSpan_20, r_cv4 c_I_endSpan_21, r_vret c_I_endSpan_24, ↓reduceIte, hs_h, Option.bind_some, mfix_i, mfix_r, mfix_n, mfix_a, Option.toList_some, Option.toList_none, List.cons_append, List.nil_append, List.singleton_append, mwt, Value.category, Nat.reduceAdd, Nat.reduceLeDiff, true_and, and_true, and_self, m8, I_latestSpan_ok hE hb hn hn2, lsp_s q, goesOn_s hE hb hn hk hn2, hg, if_true, enS, q, h, if_false]
theorem I_reopenSpan_ok (hE : okE E) (hb : bkb b) (hn : iF S (b + 16) 3 = nI n) (hn2 : n ≤ 30) : mres cT 205 d 0 (ment 3 [.ref (b + 13), .int c]) [] (hs E S) = some (none, hs E (reS S b n c)) := by
  have o8 := o_I hE hb
  have m8 : misc (hp E S (b + 13)) 8 = true := misc_o o8
  simp only [ment, mfl, List.length, List.replicate, List.cons_append, List.nil_append, Nat.reduceAdd, Nat.reduceSub]
  cases q : lsq (iA S (b + 17)) c n with
  | none =>
    have h1 : (-1000000005 : Int32) < 0 ∨ nI n ≤ -1000000005 := Or.inl (by decide)
    simp only [r_al0 c_I_reopenSpan_0, r_il1 c_I_reopenSpan_1, r_cv2 c_I_reopenSpan_2, r_is2 c_I_reopenSpan_5, r_al0 c_I_reopenSpan_6, r_gfSr c_I_reopenSpan_7 o8 rfl, r_il2 c_I_reopenSpan_10, r_cv2 c_I_reopenSpan_11, r_ifeq c_I_reopenSpan_14, r_al0 c_I_reopenSpan_17, r_gfSr c_I_reopenSpan_18 o8 rfl, r_il2 c_I_reopenSpan_21, r_ci c_I_reopenSpan_22, r_ci c_I_reopenSpan_23, r_cv4 c_I_reopenSpan_25, r_vret c_I_reopenSpan_28, ↓reduceIte, hs_h, Option.bind_some, mfix_i, mfix_r, mfix_n, mfix_a, Option.toList_some, Option.toList_none, List.cons_append, List.nil_append, List.singleton_append, mwt, Value.category, Nat.reduceAdd, Nat.reduceLeDiff, true_and, and_true, and_self, at_16 hE hb, misc_w (w_16 hE hb), m8, I_latestSpan_ok hE hb hn hn2, lsp_n q, has_16 hE hb, hn, h1, if_true, reS, q]
  | some k =>
    have hk := (lsq_lt q).1
    have hk2 : k < 30 := by omega
    have h1 : ¬ (nI k < 0 ∨ nI n ≤ nI k) := by
      have h1 := nI_pos (n := k) (by omega)
      have h2 := nI_ge hk (by omega)
      exact fun h => h.elim h1 h2
    simp only [r_al0 c_I_reopenSpan_0, r_il1 c_I_reopenSpan_1, r_cv2 c_I_reopenSpan_2, r_is2 c_I_reopenSpan_5, r_al0 c_I_reopenSpan_6, r_gfSr c_I_reopenSpan_7 o8 rfl, r_il2 c_I_reopenSpan_10, r_cv2 c_I_reopenSpan_11, r_ifeq c_I_reopenSpan_14, r_al0 c_I_reopenSpan_17, r_gfSr c_I_reopenSpan_18 o8 rfl, r_il2 c_I_reopenSpan_21, r_ci c_I_reopenSpan_22, r_ci c_I_reopenSpan_23, r_cv4 c_I_reopenSpan_25, r_vret c_I_reopenSpan_28, ↓reduceIte, hs_h, Option.bind_some, mfix_i, mfix_r, mfix_n, mfix_a, Option.toList_some, Option.toList_none, List.cons_append, List.nil_append, List.singleton_append, mwt, Value.category, Nat.reduceAdd, Nat.reduceLeDiff, true_and, and_true, and_self, at_16 hE hb, misc_w (w_16 hE hb), m8, I_latestSpan_ok hE hb hn hn2, lsp_s q, has_16 hE hb, hn, h1, if_false, one_nz, put_16 hE hb, pc2 hk2 (show 2 < 3 by decide) (show 30 * 3 ≤ 1000 by decide), reS, q]
end TIME3
