/-! call: copy -/
section COPYQ
variable {E : EE} {S S1 : SS} {b d k n m i j p a s r q o : Nat} {c v w x y l : Int32} {g : Nat → Int64} {u : Int64}
theorem Inv_S8 (h : Inv E S) (e : ∀ q, ¬ (84 ≤ q ∧ q ≤ 91) → ¬ (99 ≤ q ∧ q ≤ 101) → q ≠ 108 → S1 q = S q) (hH : InvH S1) : Inv E S1 := by
  obtain ⟨h1, h2, h3, h4, h5, h6, h7, h8⟩ := h
  have e0 : ∀ k, iF S1 0 k = iF S 0 k := fun k => sS_F (e 0 (by omega) (by omega) (by omega))
  have e1 : ∀ k, iF S1 93 k = iF S 93 k := fun k => sS_F (e 93 (by omega) (by omega) (by omega))
  exact ⟨h1, h2, fr_B (fun q _ => e q (by omega) (by omega) (by omega)) h3, fr_I (fun q _ => e q (by omega) (by omega) (by omega)) (e0 3) (e1 3) h4, fr_T (fun q _ => e q (by omega) (by omega) (by omega)) (e1 5) h5, fr_W (fun q _ => e q (by omega) (by omega) (by omega)) (e0 8) (e1 7) h6, hH, fr_K (fun q _ => e q (by omega) (by omega) (by omega)) h8⟩
theorem cpy_s {f g : Nat → Int64} {sp dp : Nat} : vp_updL (va_cpy f g sp dp k) (dp + k) (f (sp + k)) = va_cpy f g sp dp (k + 1) := by
  funext j
  by_cases e : j = dp + k
  · subst e
    simp only [vp_updL, if_true, va_cpy, if_pos (show dp ≤ dp + k ∧ dp + k < dp + (k + 1) by omega), show sp + (dp + k - dp) = sp + k by omega]
  · simp only [vp_updL, e, if_false, va_cpy]
    by_cases e2 : dp ≤ j ∧ j < dp + k
    · rw [if_pos e2, if_pos (by omega)]
    · rw [if_neg e2, if_neg (by omega)]
theorem cpy_0 {f g : Nat → Int64} {sp dp : Nat} : va_cpy f g sp dp 0 = g := by
  funext j; rw [va_cpy, if_neg (by omega)]
theorem gM108 (hE : okE E) : isG E 108 24 := ⟨fun S => hp_r (o := 29) hE (by omega), by have := hE.1; omega⟩
theorem hr_n (hn : n ≤ 24) (hi : i < 2 ^ 31) (hk : k < 2 ^ 31) : hrS (nI n) (nI i) (nI k) = if i + k ≤ n then 1 else 0 := by
  rw [hrS, if_neg (nI_pos hi), if_neg (nI_pos hk)]
  by_cases e : n < i
  · rw [if_pos ((nI_ltI (by omega) hi).mpr e), if_neg (by omega)]
  · rw [if_neg (fun h => e ((nI_ltI (by omega) hi).mp h))]
    have es : nI n - nI i = nI (n - i) := by
      have : nI n = nI (n - i) + nI i := by rw [nI_add, show n - i + i = n by omega]
      rw [this, Int32.add_sub_cancel]
    rw [es]
    by_cases e2 : n - i < k
    · rw [if_pos ((nI_ltI (by omega) hk).mpr e2), if_neg (by omega)]
    · rw [if_neg (fun h => e2 ((nI_ltI (by omega) hk).mp h)), if_neg (fun h => by have := (nI_ltI (by omega) (by omega)).mp h; omega), if_pos (by omega)]
theorem lc_a (hn : n ≤ 24) (hi : i < 2 ^ 31) (hk : k < 2 ^ 31) : 0 < lg_cmp ((nI i).toInt64 + (nI k).toInt64) (nI n).toInt64 ↔ n < i + k := by
  have h0 : ((nI i).toInt64 + (nI k).toInt64).toInt = i + k := by
    rw [Int64.toInt_add, Int32.toInt_toInt64, Int32.toInt_toInt64, nI_toInt hi, nI_toInt hk, Int.bmod_eq_of_le (by omega) (by omega)]
  have h1 : (nI n).toInt64 < (nI i).toInt64 + (nI k).toInt64 ↔ n < i + k := by
    rw [Int64.lt_iff_toInt_lt, h0, Int32.toInt_toInt64, nI_toInt (by omega)]; omega
  unfold lg_cmp
  by_cases a : n < i + k
  · rw [if_pos (h1.mpr a)]
    exact ⟨fun _ => a, fun _ => by decide⟩
  · rw [if_neg (fun h => a (h1.mp h))]
    refine ⟨fun h => ?_, fun h => absurd h a⟩
    split at h <;> exact absurd h (by decide)
theorem M_copy_1 (hE : okE E) (hs4 : s < 4) (hn : p + n ≤ 24) : ∀ m i, i + m = n → mres cT 257 d 113 [.ref 93, .int (nI s), .int (nI p), .int x, .int y, .int (nI n), .int (nI i)] [] (hs E (sL S 108 (va_cpy (iL S 101) (iL S 108) (24 * s + p) 0 i))) = mres cT 257 d 147 [.ref 93, .int (nI s), .int (nI p), .int x, .int y, .int (nI n), .int (nI n)] [] (hs E (sL S 108 (va_cpy (iL S 101) (iL S 108) (24 * s + p) 0 n))) := by
  have o10 := o_M hE
  have m10 := m_M hE
  intro m
  induction m with
  | zero =>
    intro i hi
    have e : i = n := by omega
    subst e
    simp only [r_il6 c_M_copy_113, r_il5 c_M_copy_115, r_icge c_M_copy_117, ↓reduceIte, hs_h, Option.bind_some, mfix_i, mfix_r, mfix_n, mfix_a, Option.toList_some, Option.toList_none, List.cons_append, List.nil_append, List.singleton_append, nI_le (Nat.le_refl i) (show i < 2 ^ 31 by omega), if_true]
  | succ m ih =>
    intro i hi
    have ih := ih (i + 1) (by omega)
    rw [← cpy_s, show 0 + i = i by omega] at ih
    simp only [r_il6 c_M_copy_113, r_il5 c_M_copy_115, r_icge c_M_copy_117, ↓reduceIte, hs_h, Option.bind_some, mfix_i, mfix_r, mfix_n, mfix_a, Option.toList_some, Option.toList_none, List.cons_append, List.nil_append, List.singleton_append, nI_ge (show i < n by omega) (show n < 2 ^ 31 by omega), if_false]
    simp only [r_al0 c_M_copy_120, r_gfSr c_M_copy_121 o10 rfl, r_il6 c_M_copy_124, r_al0 c_M_copy_126, r_gfSr c_M_copy_127 o10 rfl, r_ci c_M_copy_130, r_il1 c_M_copy_132, r_imul c_M_copy_133, r_il2 c_M_copy_134, r_iadd c_M_copy_135, r_il6 c_M_copy_136, r_iadd c_M_copy_138, r_lal c_M_copy_139, r_las c_M_copy_140, r_inc6 c_M_copy_141, r_goto c_M_copy_144, ↓reduceIte, hs_h, Option.bind_some, mfix_i, mfix_r, mfix_n, mfix_a, Option.toList_some, Option.toList_none, List.cons_append, List.nil_append, List.singleton_append, k24s s hs4, nI_add, mla_G (gM101 hE) (show 24 * s + p + i < 96 by omega) (by decide), mls_G (gM108 hE) (show i < 24 by omega) (by decide), hs_G (gM108 hE), iL_sL, iL_sL_ne (show (101 : Nat) ≠ 108 by decide), sL_sL, nI_1, ih]
theorem M_copy_2 {B : Nat → Int64} (hE : okE E) (hs4 : r < 4) (hn : o + n ≤ 24) (hB : iL S 108 = B) : ∀ m i, i + m = n → mres cT 257 d 150 [.ref 93, .int x, .int y, .int (nI r), .int (nI o), .int (nI n), .int (nI i)] [] (hs E (sL S 101 (va_cpy B (iL S 101) 0 (24 * r + o) i))) = some (some (.int (nI n)), hs E (sL S 101 (va_cpy B (iL S 101) 0 (24 * r + o) n))) := by
  have o10 := o_M hE
  have m10 := m_M hE
  intro m
  induction m with
  | zero =>
    intro i hi
    have e : i = n := by omega
    subst e
    simp only [r_il6 c_M_copy_150, r_il5 c_M_copy_152, r_icge c_M_copy_154, ↓reduceIte, hs_h, Option.bind_some, mfix_i, mfix_r, mfix_n, mfix_a, Option.toList_some, Option.toList_none, List.cons_append, List.nil_append, List.singleton_append, nI_le (Nat.le_refl i) (show i < 2 ^ 31 by omega), if_true]
    simp only [r_il5 c_M_copy_185, r_iret c_M_copy_187, ↓reduceIte, hs_h, Option.bind_some, mfix_i, mfix_r, mfix_n, mfix_a, Option.toList_some, Option.toList_none, List.cons_append, List.nil_append, List.singleton_append]
  | succ m ih =>
    intro i hi
    have ih := ih (i + 1) (by omega)
    rw [← cpy_s, show 0 + i = i by omega] at ih
    simp only [r_il6 c_M_copy_150, r_il5 c_M_copy_152, r_icge c_M_copy_154, ↓reduceIte, hs_h, Option.bind_some, mfix_i, mfix_r, mfix_n, mfix_a, Option.toList_some, Option.toList_none, List.cons_append, List.nil_append, List.singleton_append, nI_ge (show i < n by omega) (show n < 2 ^ 31 by omega), if_false]
    simp only [r_al0 c_M_copy_157, r_gfSr c_M_copy_158 o10 rfl, r_ci c_M_copy_161, r_il3 c_M_copy_163, r_imul c_M_copy_164, r_il4 c_M_copy_165, r_iadd c_M_copy_167, r_il6 c_M_copy_168, r_iadd c_M_copy_170, r_al0 c_M_copy_171, r_gfSr c_M_copy_172 o10 rfl, r_il6 c_M_copy_175, r_lal c_M_copy_177, r_las c_M_copy_178, r_inc6 c_M_copy_179, r_goto c_M_copy_182, ↓reduceIte, hs_h, Option.bind_some, mfix_i, mfix_r, mfix_n, mfix_a, Option.toList_some, Option.toList_none, List.cons_append, List.nil_append, List.singleton_append, k24s r hs4, nI_add, mla_G (gM108 hE) (show i < 24 by omega) (by decide), mls_G (gM101 hE) (show 24 * r + o + i < 96 by omega) (by decide), hs_G (gM101 hE), iL_sL, iL_sL_ne (show (108 : Nat) ≠ 101 by decide), hB, sL_sL, nI_1, ih]
end COPYQ
