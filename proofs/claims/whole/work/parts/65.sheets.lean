/-! sheets -/
section SHEETS
variable {E : EE} {S : SS} {d a k p len j : Nat} {c v x y : Int32} {u w : Int64} {g : Nat → Int64}
def isG (E : EE) (a len : Nat) : Prop := (∀ S : SS, hp E S a = shL len (S a)) ∧ a < E.1
theorem mla_G (h : isG E a len) (hj : j < len) (hl : len ≤ 10000) : mla (hp E S a) (nI j) = some (iL S a j) := by
  rw [h.1 S, shL, mla, if_pos ⟨rfl, nI_in hj (by omega)⟩, nI_clamp (by omega)]
theorem mls_G (h : isG E a len) (hj : j < len) (hl : len ≤ 10000) : mls (hp E S a) (nI j) u = some (.inl (2, len, .inr (.inl (vp_updL (iL S a) j u)))) := by
  rw [h.1 S, shL, mls, if_pos ⟨rfl, nI_in hj (by omega)⟩, nI_clamp (by omega)]
theorem mlen_G (h : isG E a len) : mlen (hp E S a) = some len := by rw [h.1 S]; rfl
theorem hs_G (h : isG E a len) : mset (hs E S) a (.inl (2, len, .inr (.inl g))) = hs E (sL S a g) := by
  refine hs_set h.2 ?_
  rw [h.1, va_up, if_pos rfl]
  rfl
theorem iL_sL : iL (sL S a g) a = g := by simp only [iL, sL, va_up, if_true]
theorem iL_sL_ne {q : Nat} (h : q ≠ a) : iL (sL S a g) q = iL S q := by simp only [iL, sL, va_up, h, if_false]
theorem iF_sL {q i : Nat} : iF (sL S a g) q i = iF S q i := by
  by_cases h : q = a
  · subst h; simp only [iF, sL, va_up, if_true]
  · simp only [iF, sL, va_up, h, if_false]
theorem iA_sL {q : Nat} : iA (sL S a g) q = iA S q := by
  by_cases h : q = a
  · subst h; simp only [iA, sL, va_up, if_true]
  · simp only [iA, sL, va_up, h, if_false]
theorem iL_sF {q i : Nat} : iL (sF S a i v) q = iL S q := by
  by_cases h : q = a
  · subst h; simp only [iL, sF, va_up, if_true]
  · simp only [iL, sF, va_up, h, if_false]
theorem sL_sL {h : Nat → Int64} : sL (sL S a g) a h = sL S a h := by
  funext q
  by_cases e : q = a
  · subst e; simp only [sL, va_up, if_true]
  · simp only [sL, va_up, e, if_false]
theorem sL_self : sL S a (iL S a) = S := by
  funext q
  by_cases e : q = a
  · subst e; simp only [sL, va_up, if_true]
  · simp only [sL, va_up, e, if_false]
def flL (g : Nat → Int64) (u : Int64) (n : Nat) : Nat → Int64 := fun j => if j < n then u else g j
theorem flL_s : vp_updL (flL g u j) j u = flL g u (j + 1) := by
  funext i
  simp only [vp_updL, flL]
  by_cases e : i = j
  · rw [if_pos e, if_pos (by omega)]
  · rw [if_neg e]
    by_cases l : i < j
    · rw [if_pos l, if_pos (by omega)]
    · rw [if_neg l, if_neg (by omega)]
theorem JA_fill_ok (h : isG E a len) (hl : len ≤ 10000) : mres cT 245 d 0 (ment 5 [.ref a, .long u]) [] (hs E S) = some (none, hs E (sL S a (flL (iL S a) u len))) := by
  have lp : ∀ m i, i + m = len → mres cT 245 d 6 [.ref a, .long u, .retAddr 0, .int (nI i), .int (nI len)] [] (hs E (sL S a (flL (iL S a) u i))) = some (none, hs E (sL S a (flL (iL S a) u len))) := by
    intro m
    induction m with
    | zero =>
      intro i hi
      have h1 : nI len ≤ nI i := nI_le (by omega) (by omega)
      simp only [r_il3 c_JA_fill_6, r_il4 c_JA_fill_7, r_icge c_JA_fill_9, r_vret c_JA_fill_22, ↓reduceIte, hs_h, Option.bind_some, mfix_i, mfix_r, mfix_n, mfix_a, Option.toList_some, Option.toList_none, List.cons_append, List.nil_append, List.singleton_append, h1, if_true]
      rw [show i = len by omega]
    | succ m ih =>
      intro i hi
      have h1 : ¬ nI len ≤ nI i := nI_ge (by omega) (by omega)
      have ih := ih (i + 1) (by omega)
      simp only [r_il3 c_JA_fill_6, r_il4 c_JA_fill_7, r_icge c_JA_fill_9, ↓reduceIte, hs_h, Option.bind_some, mfix_i, mfix_r, mfix_n, mfix_a, Option.toList_some, Option.toList_none, List.cons_append, List.nil_append, List.singleton_append, h1]
      simp only [r_al0 c_JA_fill_12, r_il3 c_JA_fill_13, r_ll1 c_JA_fill_14, r_las c_JA_fill_15, r_inc3 c_JA_fill_16, r_goto c_JA_fill_19, ↓reduceIte, hs_h, Option.bind_some, mfix_i, mfix_r, mfix_n, mfix_a, Option.toList_some, Option.toList_none, List.cons_append, List.nil_append, List.singleton_append, if_false, mls_G h (show i < len by omega) hl, hs_G h, iL_sL, sL_sL, flL_s, nI_1, ih]
  have e0 : flL (iL S a) u 0 = iL S a := by funext j; rw [flL, if_neg (Nat.not_lt_zero j)]
  have lq := lp len 0 (by omega)
  rw [e0, sL_self, nI_0] at lq
  simp only [ment, mfl, List.length, List.replicate, List.cons_append, List.nil_append, Nat.reduceAdd, Nat.reduceSub]
  simp only [r_ci c_JA_fill_0, r_is3 c_JA_fill_1, r_al0 c_JA_fill_2, r_len c_JA_fill_3, r_is4 c_JA_fill_4, ↓reduceIte, hs_h, Option.bind_some, mfix_i, mfix_r, mfix_n, mfix_a, Option.toList_some, Option.toList_none, List.cons_append, List.nil_append, List.singleton_append, mlen_G h, lq]
def shX (E : EE) (a : Nat) : Prop := isO E a 3 [a + 3, 0, 0] ∧ isG E (a + 1) 24
def sbS (S : SS) (a : Nat) (x y : Int32) : SS := sL (sF (sF S a 1 x) a 2 y) (a + 1) (flL (iL S (a + 1)) 0 24)
theorem S_become_ok (h : shX E a) : mres cT 246 d 0 (ment 3 [.ref a, .int x, .int y]) [] (hs E S) = some (none, hs E (sbS S a x y)) := by
  have o3 := h.1
  simp only [ment, mfl, List.length, List.replicate, List.cons_append, List.nil_append, Nat.reduceAdd, Nat.reduceSub]
  simp only [r_al0 c_S_become_0, r_il1 c_S_become_1, r_pfS c_S_become_2 o3 rfl, r_pfS c_S_become_2 o3 rfl, r_al0 c_S_become_5, r_il2 c_S_become_6, r_pfS c_S_become_7 o3 rfl, r_pfS c_S_become_7 o3 rfl, r_al0 c_S_become_10, r_gfSr c_S_become_11 o3 rfl, r_cl c_S_become_14, r_ca2 c_S_become_15, r_vret c_S_become_18, ↓reduceIte, hs_h, Option.bind_some, mfix_i, mfix_r, mfix_n, mfix_a, Option.toList_some, Option.toList_none, List.cons_append, List.nil_append, List.singleton_append, mwt, Value.category, Nat.reduceAdd, Nat.reduceLeDiff, true_and, and_true, and_self, JA_fill_ok h.2 (show 24 ≤ 10000 by decide), iL_sF, sbS]
def shS (z p : Int32) : Int32 := if p < 0 then 0 else if z ≤ p then 0 else if nI 24 ≤ p then 0 else 1
theorem S_has_ok (h : shX E a) : mres cT 250 d 0 (ment 2 [.ref a, .int c]) [] (hs E S) = some (some (.int (shS (iF S a 2) c)), hs E S) := by
  have o3 := h.1
  simp only [ment, mfl, List.length, List.replicate, List.cons_append, List.nil_append, Nat.reduceAdd, Nat.reduceSub]
  simp only [r_il1 c_S_has_0, r_iflt c_S_has_1, r_il1 c_S_has_4, r_al0 c_S_has_5, r_gfS0 c_S_has_6 o3 rfl, r_icge c_S_has_9, r_il1 c_S_has_12, r_al0 c_S_has_13, r_gfSr c_S_has_14 o3 rfl, r_len c_S_has_17, r_icge c_S_has_18, r_ci c_S_has_21, r_goto c_S_has_22, r_ci c_S_has_25, r_zret c_S_has_26, ↓reduceIte, hs_h, Option.bind_some, mfix_i, mfix_r, mfix_n, mfix_a, Option.toList_some, Option.toList_none, List.cons_append, List.nil_append, List.singleton_append, mlen_G h.2, mz0, mz1, ite_out, shS]
def nwS (s : Int32) (v : Int64) : Int64 := if s = 0 then v.toInt32.toInt8.toInt32.toInt64 else if s = 1 then v.toInt32.toInt16.toInt32.toInt64 else v
theorem S_narrowed_ok (h : shX E a) : mres cT 251 d 0 (ment 3 [.ref a, .long u]) [] (hs E S) = some (some (.long (nwS (iF S a 1) u)), hs E S) := by
  have o3 := h.1
  simp only [ment, mfl, List.length, List.replicate, List.cons_append, List.nil_append, Nat.reduceAdd, Nat.reduceSub]
  simp only [r_al0 c_S_narrowed_0, r_gfS0 c_S_narrowed_1 o3 rfl, r_ifne c_S_narrowed_4, r_ll1 c_S_narrowed_7, r_l2i c_S_narrowed_8, r_i2b c_S_narrowed_9, r_i2l c_S_narrowed_10, r_lret c_S_narrowed_11, r_al0 c_S_narrowed_12, r_gfS0 c_S_narrowed_13 o3 rfl, r_ci c_S_narrowed_16, r_icne c_S_narrowed_17, r_ll1 c_S_narrowed_20, r_l2i c_S_narrowed_21, r_i2s c_S_narrowed_22, r_i2l c_S_narrowed_23, r_goto c_S_narrowed_24, r_ll1 c_S_narrowed_27, r_lret c_S_narrowed_28, ↓reduceIte, hs_h, Option.bind_some, mfix_i, mfix_r, mfix_n, mfix_a, Option.toList_some, Option.toList_none, List.cons_append, List.nil_append, List.singleton_append, nwS]
  split
  · rfl
  · split <;> rfl
theorem S_raise_ok (h : shX E a) (hz : iF S a 2 = nI k) (hk : k ≤ 24) (hpk : p < k) : mres cT 252 d 0 (ment 3 [.ref a, .int (nI p), .int v]) [] (hs E S) = some (some (.long (nwS (iF S a 1) (iL S (a + 1) p + v.toInt64))), hs E (sL S (a + 1) (vp_updL (iL S (a + 1)) p (nwS (iF S a 1) (iL S (a + 1) p + v.toInt64))))) := by
  have o3 := h.1
  have m3 : ∀ S, misc (hp E S a) 3 = true := fun S => misc_o o3
  have e1 : shS (nI k) (nI p) = 1 := by
    rw [shS, if_neg (nI_pos (by omega)), if_neg (nI_ge (by omega) (by omega)), if_neg (nI_ge (by omega) (by omega))]
  have hp4 : p < 24 := by omega
  simp only [ment, mfl, List.length, List.replicate, List.cons_append, List.nil_append, Nat.reduceAdd, Nat.reduceSub]
  simp only [r_al0 c_S_raise_0, r_il1 c_S_raise_1, r_cv2 c_S_raise_2, r_ifne c_S_raise_5, r_cl c_S_raise_8, r_lret c_S_raise_9, r_al0 c_S_raise_10, r_gfSr c_S_raise_11 o3 rfl, r_il1 c_S_raise_14, r_al0 c_S_raise_15, r_al0 c_S_raise_16, r_gfSr c_S_raise_17 o3 rfl, r_il1 c_S_raise_20, r_lal c_S_raise_21, r_il2 c_S_raise_22, r_i2l c_S_raise_23, r_ladd c_S_raise_24, r_cv2 c_S_raise_25, r_las c_S_raise_28, r_al0 c_S_raise_29, r_gfSr c_S_raise_30 o3 rfl, r_il1 c_S_raise_33, r_lal c_S_raise_34, r_lret c_S_raise_35, ↓reduceIte, hs_h, Option.bind_some, mfix_i, mfix_r, mfix_n, mfix_a, Option.toList_some, Option.toList_none, List.cons_append, List.nil_append, List.singleton_append, mwt, Value.category, Nat.reduceAdd, Nat.reduceLeDiff, true_and, and_true, and_self, m3, S_has_ok h, hz, e1, one_nz, if_false, mla_G h.2 hp4 (by decide), S_narrowed_ok h, mls_G h.2 hp4 (by decide), hs_G h.2, iL_sL, pk_uLs]
def hrS (z p m : Int32) : Int32 := if p < 0 then 0 else if m < 0 then 0 else if z < p then 0 else if z - p < m then 0 else if nI 24 < z then 0 else 1
theorem S_hasRow_ok (h : shX E a) : mres cT 255 d 0 (ment 3 [.ref a, .int x, .int y]) [] (hs E S) = some (some (.int (hrS (iF S a 2) x y)), hs E S) := by
  have o3 := h.1
  simp only [ment, mfl, List.length, List.replicate, List.cons_append, List.nil_append, Nat.reduceAdd, Nat.reduceSub]
  simp only [r_il1 c_S_hasRow_0, r_iflt c_S_hasRow_1, r_il2 c_S_hasRow_4, r_iflt c_S_hasRow_5, r_il1 c_S_hasRow_8, r_al0 c_S_hasRow_9, r_gfS0 c_S_hasRow_10 o3 rfl, r_icgt c_S_hasRow_13, r_il2 c_S_hasRow_16, r_al0 c_S_hasRow_17, r_gfS0 c_S_hasRow_18 o3 rfl, r_il1 c_S_hasRow_21, r_isub c_S_hasRow_22, r_icgt c_S_hasRow_23, r_al0 c_S_hasRow_26, r_gfS0 c_S_hasRow_27 o3 rfl, r_al0 c_S_hasRow_30, r_gfSr c_S_hasRow_31 o3 rfl, r_len c_S_hasRow_34, r_icgt c_S_hasRow_35, r_ci c_S_hasRow_38, r_goto c_S_hasRow_39, r_ci c_S_hasRow_42, r_zret c_S_hasRow_43, ↓reduceIte, hs_h, Option.bind_some, mfix_i, mfix_r, mfix_n, mfix_a, Option.toList_some, Option.toList_none, List.cons_append, List.nil_append, List.singleton_append, mlen_G h.2, mz0, mz1, ite_out, hrS]
theorem S_holds_n (h : shX E a) (hq : shS (iF S a 2) c = 0) : mres cT 258 d 0 (ment 3 [.ref a, .int c, .int v]) [] (hs E S) = some (some (.int 0), hs E S) := by
  have o3 := h.1
  have m3 : ∀ S, misc (hp E S a) 3 = true := fun S => misc_o o3
  simp only [ment, mfl, List.length, List.replicate, List.cons_append, List.nil_append, Nat.reduceAdd, Nat.reduceSub]
  simp only [r_al0 c_S_holds_0, r_il1 c_S_holds_1, r_cv2 c_S_holds_2, r_ifeq c_S_holds_5, r_al0 c_S_holds_8, r_gfSr c_S_holds_9 o3 rfl, r_il1 c_S_holds_12, r_lal c_S_holds_13, r_al0 c_S_holds_14, r_il2 c_S_holds_15, r_i2l c_S_holds_16, r_cv2 c_S_holds_17, r_lcmp c_S_holds_20, r_ifne c_S_holds_21, r_ci c_S_holds_24, r_goto c_S_holds_25, r_ci c_S_holds_28, r_zret c_S_holds_29, ↓reduceIte, hs_h, Option.bind_some, mfix_i, mfix_r, mfix_n, mfix_a, Option.toList_some, Option.toList_none, List.cons_append, List.nil_append, List.singleton_append, mwt, Value.category, Nat.reduceAdd, Nat.reduceLeDiff, true_and, and_true, and_self, m3, S_has_ok h, hq, if_true, mz0]
theorem S_holds_ok (h : shX E a) (hz : iF S a 2 = nI k) (hk : k ≤ 24) (hpk : p < k) : mres cT 258 d 0 (ment 3 [.ref a, .int (nI p), .int v]) [] (hs E S) = some (some (.int (if lg_cmp (iL S (a + 1) p) (nwS (iF S a 1) v.toInt64) = 0 then 1 else 0)), hs E S) := by
  have o3 := h.1
  have m3 : ∀ S, misc (hp E S a) 3 = true := fun S => misc_o o3
  have e1 : shS (nI k) (nI p) = 1 := by
    rw [shS, if_neg (nI_pos (by omega)), if_neg (nI_ge (by omega) (by omega)), if_neg (nI_ge (by omega) (by omega))]
  have hp4 : p < 24 := by omega
  simp only [ment, mfl, List.length, List.replicate, List.cons_append, List.nil_append, Nat.reduceAdd, Nat.reduceSub]
  simp only [r_al0 c_S_holds_0, r_il1 c_S_holds_1, r_cv2 c_S_holds_2, r_ifeq c_S_holds_5, r_al0 c_S_holds_8, r_gfSr c_S_holds_9 o3 rfl, r_il1 c_S_holds_12, r_lal c_S_holds_13, r_al0 c_S_holds_14, r_il2 c_S_holds_15, r_i2l c_S_holds_16, r_cv2 c_S_holds_17, r_lcmp c_S_holds_20, r_ifne c_S_holds_21, r_ci c_S_holds_24, r_goto c_S_holds_25, r_ci c_S_holds_28, r_zret c_S_holds_29, ↓reduceIte, hs_h, Option.bind_some, mfix_i, mfix_r, mfix_n, mfix_a, Option.toList_some, Option.toList_none, List.cons_append, List.nil_append, List.singleton_append, mwt, Value.category, Nat.reduceAdd, Nat.reduceLeDiff, true_and, and_true, and_self, m3, S_has_ok h, hz, e1, one_nz, if_false, mla_G h.2 hp4 (by decide), S_narrowed_ok h, mz0, mz1, ite_out]
end SHEETS
