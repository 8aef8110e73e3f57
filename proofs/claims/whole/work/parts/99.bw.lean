/-! the model: a text is laid down -/
section MLAY
variable {E E' : EE} {R R' S W : SS} {b d n p q i j l k kn m len td B : Nat} {T z z' t t' hc pk : Nat → Nat} {c v x y fr tt so ft br nt cc pa x0 x1 x2 x3 : Int32} {σ ρ : PT} {f f' g g' cf : Nat → Int32}
theorem mp94 : iA (mpS S fr tt so ft br nt cc pa g) 94 = iA S 94 := by rw [iA, mp_o (by omega) (by omega)]
theorem M_text_bad (hE : okE E) (h : wiS c 0 8 = 0 ∨ wiS v 0 2999 = 0) {w3 w4 w5 w6 w7 : Value} : mres cT 154 d 143 [.ref 93, .int c, .int v, w3, w4, w5, w6, w7] [] (hs E (mpS S fr tt so ft br nt cc pa g)) = some (some (.int (-1000000001)), hs E (mpS (sF S 93 5 0) fr tt so ft br nt cc pa g)) := by
  have o10 := o_M hE
  by_cases h1 : wiS c 0 8 = 0
  · simp only [r_al0 c_M_text_143, r_gfS0 c_M_text_144 o10 rfl, r_is4 c_M_text_147, r_al0 c_M_text_149, r_ci c_M_text_150, r_pfS c_M_text_151 o10 rfl, r_il1 c_M_text_154, r_i2l c_M_text_155, r_cl c_M_text_156, r_cl c_M_text_157, r_ca3 c_M_text_160, r_ifeq c_M_text_163, r_il2 c_M_text_166, r_i2l c_M_text_167, r_cl c_M_text_168, r_cl c_M_text_169, r_ca3 c_M_text_172, r_ifne c_M_text_175, r_ci c_M_text_178, r_iret c_M_text_180, ↓reduceIte, hs_h, Option.bind_some, mfix_i, mfix_r, mfix_n, mfix_a, Option.toList_some, Option.toList_none, List.cons_append, List.nil_append, List.singleton_append, mwt, Value.category, Nat.reduceAdd, Nat.reduceLeDiff, true_and, and_true, and_self, mp13, mu5, M_within_k (y := 0) (w := 8) (y' := 0) (w' := 8) (by decide) (by decide), h1, if_true]
  · have h2 : wiS v 0 2999 = 0 := h.resolve_left h1
    simp only [r_al0 c_M_text_143, r_gfS0 c_M_text_144 o10 rfl, r_is4 c_M_text_147, r_al0 c_M_text_149, r_ci c_M_text_150, r_pfS c_M_text_151 o10 rfl, r_il1 c_M_text_154, r_i2l c_M_text_155, r_cl c_M_text_156, r_cl c_M_text_157, r_ca3 c_M_text_160, r_ifeq c_M_text_163, r_il2 c_M_text_166, r_i2l c_M_text_167, r_cl c_M_text_168, r_cl c_M_text_169, r_ca3 c_M_text_172, r_ifne c_M_text_175, r_ci c_M_text_178, r_iret c_M_text_180, ↓reduceIte, hs_h, Option.bind_some, mfix_i, mfix_r, mfix_n, mfix_a, Option.toList_some, Option.toList_none, List.cons_append, List.nil_append, List.singleton_append, mwt, Value.category, Nat.reduceAdd, Nat.reduceLeDiff, true_and, and_true, and_self, mp13, mu5, M_within_k (y := 0) (w := 8) (y' := 0) (w' := 8) (by decide) (by decide), h1, if_false, M_within_k (y := 0) (w := 2999) (y' := 0) (w' := 2999) (by decide) (by decide), h2, if_true]
theorem M_text_flt (hE : okE E) (h1 : wiS c 0 8 = 1) (h2 : wiS v 0 2999 = 1) {w3 w4 w5 w6 w7 : Value} : mres cT 154 d 143 [.ref 93, .int c, .int v, w3, w4, w5, w6, w7] [] (hs E (mpS S fr tt so 1 br nt cc pa g)) = some (some (.int (-100 - fr)), hs E (mpS (sF S 93 5 0) fr tt so 1 br nt cc pa g)) := by
  have o10 := o_M hE
  simp only [r_al0 c_M_text_143, r_gfS0 c_M_text_144 o10 rfl, r_is4 c_M_text_147, r_al0 c_M_text_149, r_ci c_M_text_150, r_pfS c_M_text_151 o10 rfl, r_il1 c_M_text_154, r_i2l c_M_text_155, r_cl c_M_text_156, r_cl c_M_text_157, r_ca3 c_M_text_160, r_ifeq c_M_text_163, r_il2 c_M_text_166, r_i2l c_M_text_167, r_cl c_M_text_168, r_cl c_M_text_169, r_ca3 c_M_text_172, r_ifne c_M_text_175, r_ci c_M_text_178, r_iret c_M_text_180, r_al0 c_M_text_181, r_gfS0 c_M_text_182 o10 rfl, r_ifeq c_M_text_185, r_ci c_M_text_188, r_il4 c_M_text_190, r_isub c_M_text_192, r_iret c_M_text_193, ↓reduceIte, hs_h, Option.bind_some, mfix_i, mfix_r, mfix_n, mfix_a, Option.toList_some, Option.toList_none, List.cons_append, List.nil_append, List.singleton_append, mwt, Value.category, Nat.reduceAdd, Nat.reduceLeDiff, true_and, and_true, and_self, mp13, mu5, M_within_k (y := 0) (w := 8) (y' := 0) (w' := 8) (by decide) (by decide), h1, M_within_k (y := 0) (w := 2999) (y' := 0) (w' := 2999) (by decide) (by decide), h2, one_nz, if_false, mp16]
theorem M_text_full (hE : okE E) (h1 : wiS c 0 8 = 1) (h2 : wiS v 0 2999 = 1) (hn : iA S 94 7 = nI 16) {w3 w4 w5 w6 w7 : Value} : mres cT 154 d 143 [.ref 93, .int c, .int v, w3, w4, w5, w6, w7] [] (hs E (mpS S fr tt so 0 br nt cc pa g)) = some (some (.int (-1000000003)), hs E (mpS (sF S 93 5 0) fr tt so 0 br nt cc pa g)) := by
  have o10 := o_M hE
  have e : iA (sF S 93 5 0) 94 7 = 16 := by rw [iA_sF, hn]; decide
  simp only [r_al0 c_M_text_143, r_gfS0 c_M_text_144 o10 rfl, r_is4 c_M_text_147, r_al0 c_M_text_149, r_ci c_M_text_150, r_pfS c_M_text_151 o10 rfl, r_il1 c_M_text_154, r_i2l c_M_text_155, r_cl c_M_text_156, r_cl c_M_text_157, r_ca3 c_M_text_160, r_ifeq c_M_text_163, r_il2 c_M_text_166, r_i2l c_M_text_167, r_cl c_M_text_168, r_cl c_M_text_169, r_ca3 c_M_text_172, r_ifne c_M_text_175, r_ci c_M_text_178, r_iret c_M_text_180, r_al0 c_M_text_181, r_gfS0 c_M_text_182 o10 rfl, r_ifeq c_M_text_185, r_ci c_M_text_188, r_il4 c_M_text_190, r_isub c_M_text_192, r_iret c_M_text_193, r_al0 c_M_text_194, r_gfSr c_M_text_195 o10 rfl, r_ci c_M_text_198, r_ial c_M_text_200, r_is5 c_M_text_201, r_il5 c_M_text_203, r_ci c_M_text_205, r_icne c_M_text_207, r_ci c_M_text_210, r_iret c_M_text_212, ↓reduceIte, hs_h, Option.bind_some, mfix_i, mfix_r, mfix_n, mfix_a, Option.toList_some, Option.toList_none, List.cons_append, List.nil_append, List.singleton_append, mwt, Value.category, Nat.reduceAdd, Nat.reduceLeDiff, true_and, and_true, and_self, mp13, mu5, M_within_k (y := 0) (w := 8) (y' := 0) (w' := 8) (by decide) (by decide), h1, M_within_k (y := 0) (w := 2999) (y' := 0) (w' := 2999) (by decide) (by decide), h2, one_nz, if_false, mp16, if_true, mn7 hE, mp94, e]
/-- m cells of g laid at a -/
def cpC (f g : Nat → Int32) (a m : Nat) : Nat → Int32 := fun q => if a ≤ q ∧ q < a + m then g (q - a) else f q
theorem cpC_0 {a : Nat} : cpC f g a 0 = f := by
  funext q
  rw [cpC, if_neg (by omega)]
theorem cpC_s {a : Nat} : upd (cpC f g a i) (a + i) (g i) = cpC f g a (i + 1) := by
  funext q
  by_cases e : q = a + i
  · subst e
    rw [pk_us, cpC, if_pos (by omega), show a + i - a = i by omega]
  · rw [pk_un e, cpC, cpC]
    by_cases e2 : a ≤ q ∧ q < a + i
    · rw [if_pos e2, if_pos (by omega)]
    · rw [if_neg e2, if_neg (by omega)]
def txF (f : Nat → Int32) (k : Nat) (x0 x1 x2 x3 : Int32) (g : Nat → Int32) (m : Nat) : Nat → Int32 := upd (cpC (upd (upd (upd (upd f (914 + 104 * k) x0) (914 + 104 * k + 1) x1) (914 + 104 * k + 2) x2) (914 + 104 * k + 3) x3) g (914 + 104 * k + 4) m) 7 (nI (k + 1))
theorem M_text_add (hE : okE E) (h1 : wiS c 0 8 = 1) (h2 : wiS v 0 2999 = 1) (hn : iA S 94 7 = nI k) (hk : k < 16) (hm : m ≤ 100) {w4 w5 w6 w7 : Value} : mres cT 154 d 143 [.ref 93, .int c, .int v, .int x0, w4, w5, w6, w7] [] (hs E (mpS S fr tt so 0 br nt (nI m) pa g)) = some (some (.int (nI k)), hs E (sA (mpS (sF S 93 5 0) fr tt so 0 br nt (nI m) pa g) 94 (txF (iA S 94) k x0 c v pa g m))) := by
  have o10 := o_M hE
  obtain ⟨V, hV⟩ : ∃ V, V = mpS (sF S 93 5 0) fr tt so 0 br nt (nI m) pa g := ⟨_, rfl⟩
  have v94 : iA V 94 = iA S 94 := by rw [hV, mp94, iA_sF]
  have v103 : iA V 103 = g := by rw [hV, mpA]
  have v16 : iF V 93 16 = 0 := by rw [hV, mp16]
  have v21 : iF V 93 21 = nI m := by rw [hV, mp21]
  have v22 : iF V 93 22 = pa := by rw [hV, mp22]
  obtain ⟨F, hF⟩ : ∃ F, F = upd (upd (upd (upd (iA S 94) (914 + 104 * k) x0) (914 + 104 * k + 1) c) (914 + 104 * k + 2) v) (914 + 104 * k + 3) pa := ⟨_, rfl⟩
  have F7 : ∀ i, cpC F g (914 + 104 * k + 4) i 7 = nI k := fun i => by
    rw [cpC, if_neg (by omega), hF, pk_un (by omega), pk_un (by omega), pk_un (by omega), pk_un (by omega)]; exact hn
  have k16 : ¬ nI k = 16 := fun e => by have := (nI_eq (b := 16) (by omega) (by omega)).mp e; omega
  have lp : ∀ r i, i + r = m → mres cT 154 d 268 [.ref 93, .int c, .int v, .int x0, .int fr, .int (nI k), .int (nI (914 + 104 * k)), .int (nI i)] [] (hs E (sA V 94 (cpC F g (914 + 104 * k + 4) i))) = some (some (.int (nI k)), hs E (sA V 94 (upd (cpC F g (914 + 104 * k + 4) m) 7 (nI (k + 1))))) := by
    intro r
    induction r with
    | zero =>
      intro i hi
      have e : i = m := by omega
      subst e
      have a1 : nI i ≤ nI i := nI_le (Nat.le_refl _) (by omega)
      simp only [r_il7 c_M_text_268, r_al0 c_M_text_270, r_gfS0 c_M_text_271 o10 rfl, r_icge c_M_text_274, ↓reduceIte, hs_h, Option.bind_some, mfix_i, mfix_r, mfix_n, mfix_a, Option.toList_some, Option.toList_none, List.cons_append, List.nil_append, List.singleton_append, iF_sA, v21, a1, if_true]
      simp only [r_al0 c_M_text_302, r_gfSr c_M_text_303 o10 rfl, r_ci c_M_text_306, r_dup2 c_M_text_308, r_ial c_M_text_309, r_ci c_M_text_310, r_iadd c_M_text_311, r_ias c_M_text_312, r_il5 c_M_text_313, r_iret c_M_text_315, ↓reduceIte, hs_h, Option.bind_some, mfix_i, mfix_r, mfix_n, mfix_a, Option.toList_some, Option.toList_none, List.cons_append, List.nil_append, List.singleton_append, mn7 hE, ms7 hE, iA_sA, F7, nI_1, hs_94 hE, sA_sA]
    | succ r ih =>
      intro i hi
      have a1 : ¬ nI m ≤ nI i := nI_ge (by omega) (by omega)
      have ih := ih (i + 1) (by omega)
      rw [← cpC_s] at ih
      have e103 : ∀ G, iA (sA V 94 G) 103 i = g i := fun G => by rw [iA_sA_ne (by omega), v103]
      simp only [r_il7 c_M_text_268, r_al0 c_M_text_270, r_gfS0 c_M_text_271 o10 rfl, r_icge c_M_text_274, ↓reduceIte, hs_h, Option.bind_some, mfix_i, mfix_r, mfix_n, mfix_a, Option.toList_some, Option.toList_none, List.cons_append, List.nil_append, List.singleton_append, iF_sA, v21, a1, if_false]
      simp only [r_al0 c_M_text_277, r_gfSr c_M_text_278 o10 rfl, r_il6 c_M_text_281, r_ci c_M_text_283, r_iadd c_M_text_284, r_il7 c_M_text_285, r_iadd c_M_text_287, r_al0 c_M_text_288, r_gfSr c_M_text_289 o10 rfl, r_il7 c_M_text_292, r_ial c_M_text_294, r_ias c_M_text_295, r_inc7 c_M_text_296, r_goto c_M_text_299, ↓reduceIte, hs_h, Option.bind_some, mfix_i, mfix_r, mfix_n, mfix_a, Option.toList_some, Option.toList_none, List.cons_append, List.nil_append, List.singleton_append, kr4, nI_add, mia_I (i_103 hE) (show i < 100 by omega) (by decide), e103, mis_94 hE (show 914 + 104 * k + 4 + i < 2578 by omega), iA_sA, hs_94 hE, sA_sA, nI_1, ih]
  have lq := lp m 0 (by omega)
  rw [cpC_0, nI_0, hF] at lq
  rw [txF]
  have c13 : iF (mpS S fr tt so 0 br nt (nI m) pa g) 93 13 = fr := mp13
  simp only [r_al0 c_M_text_143, r_gfS0 c_M_text_144 o10 rfl, r_is4 c_M_text_147, r_al0 c_M_text_149, r_ci c_M_text_150, r_pfS c_M_text_151 o10 rfl, r_il1 c_M_text_154, r_i2l c_M_text_155, ↓reduceIte, hs_h, Option.bind_some, mfix_i, mfix_r, mfix_n, mfix_a, Option.toList_some, Option.toList_none, List.cons_append, List.nil_append, List.singleton_append, mwt, Value.category, Nat.reduceAdd, Nat.reduceLeDiff, true_and, and_true, and_self, c13, mu5]
  rw [← hV]
  simp only [r_cl c_M_text_156, r_cl c_M_text_157, r_ca3 c_M_text_160, r_ifeq c_M_text_163, r_il2 c_M_text_166, r_i2l c_M_text_167, r_cl c_M_text_168, r_cl c_M_text_169, r_ca3 c_M_text_172, r_ifne c_M_text_175, r_ci c_M_text_178, r_iret c_M_text_180, r_al0 c_M_text_181, r_gfS0 c_M_text_182 o10 rfl, r_ifeq c_M_text_185, r_ci c_M_text_188, r_il4 c_M_text_190, r_isub c_M_text_192, r_iret c_M_text_193, r_al0 c_M_text_194, r_gfSr c_M_text_195 o10 rfl, r_ci c_M_text_198, r_ial c_M_text_200, r_is5 c_M_text_201, r_il5 c_M_text_203, r_ci c_M_text_205, r_icne c_M_text_207, r_ci c_M_text_210, r_iret c_M_text_212, r_ci c_M_text_213, r_ci c_M_text_216, r_il5 c_M_text_218, r_imul c_M_text_220, r_iadd c_M_text_221, r_is6 c_M_text_222, r_al0 c_M_text_224, r_gfSr c_M_text_225 o10 rfl, r_il6 c_M_text_228, r_il3 c_M_text_230, r_ias c_M_text_231, r_al0 c_M_text_232, r_gfSr c_M_text_233 o10 rfl, r_il6 c_M_text_236, r_ci c_M_text_238, r_iadd c_M_text_239, r_il1 c_M_text_240, r_ias c_M_text_241, r_al0 c_M_text_242, r_gfSr c_M_text_243 o10 rfl, r_il6 c_M_text_246, r_ci c_M_text_248, r_iadd c_M_text_249, r_il2 c_M_text_250, r_ias c_M_text_251, r_al0 c_M_text_252, r_gfSr c_M_text_253 o10 rfl, r_il6 c_M_text_256, r_ci c_M_text_258, r_iadd c_M_text_259, r_al0 c_M_text_260, r_gfS0 c_M_text_261 o10 rfl, r_ias c_M_text_264, r_ci c_M_text_265, r_is7 c_M_text_266, ↓reduceIte, hs_h, Option.bind_some, mfix_i, mfix_r, mfix_n, mfix_a, Option.toList_some, Option.toList_none, List.cons_append, List.nil_append, List.singleton_append, mwt, Value.category, Nat.reduceAdd, Nat.reduceLeDiff, true_and, and_true, and_self, M_within_k (y := 0) (w := 8) (y' := 0) (w' := 8) (by decide) (by decide), h1, M_within_k (y := 0) (w := 2999) (y' := 0) (w' := 2999) (by decide) (by decide), h2, one_nz, if_false, v16, if_true, mn7 hE, v94, hn, k16, km104, ka914, mis_94 hE (show 914 + 104 * k < 2578 by omega), mis_94 hE (show 914 + 104 * k + 1 < 2578 by omega), mis_94 hE (show 914 + 104 * k + 2 < 2578 by omega), mis_94 hE (show 914 + 104 * k + 3 < 2578 by omega), hs_94 hE, nI_1, kr2, kr3, iA_sA, sA_sA, iF_sA, v22, lq]
/-- one text more -/
theorem Rel_addT (hb : bkb b) (h : Rel E R b z t hc pk td B f) (hl : z 22 < 16) (hEE : E.1 + 2 ≤ E'.1) (hod : E.1 % 2 = 1) (h109 : 109 ≤ E.1) (hz : ∀ c, c ≠ 22 → z' c = z c) (hz22 : z' 22 = z 22 + 1) (ht' : ∀ j, j < z 22 → t' j = t j) (ht22 : t' (z 22) = E.1)
    (eb : ∀ c, c ≤ 21 → R' (b + c) = R (b + c)) (e22 : iF R' (b + 22) 1 = nI (z 22 + 1)) (eQ : iQ R' (b + 23) = va_up (iQ R (b + 23)) (z 22) (some E.1)) (eT : ∀ q, 109 ≤ q → q < E.1 → R' q = R q)
    (t0 : iF R' E.1 0 = x0) (t1 : iF R' E.1 1 = x1) (t2 : iF R' E.1 2 = x2) (t3 : iF R' E.1 3 = x3) (hx2 : 0 ≤ x2) (tl : iF R' (E.1 + 1) 0 = nI len) (hlen : len ≤ 96) (tw : wfc (iA R' (E.1 + 1)) len) (tv : ∀ i, i < len → vcd (iA R' (E.1 + 1) i))
    (f7 : f' 7 = nI (z 22 + 1)) (ff : ∀ q, q ≠ 7 → (q < 914 + 104 * z 22 ∨ 914 + 104 * z 22 + 104 ≤ q) → f' q = f q)
    (g0 : f' (914 + 104 * z 22) = x0) (g1 : f' (914 + 104 * z 22 + 1) = x1) (g2 : f' (914 + 104 * z 22 + 2) = x2) (g3 : f' (914 + 104 * z 22 + 3) = x3) (gc : ∀ i, i < len → f' (914 + 104 * z 22 + 4 + i) = mcd (iA R' (E.1 + 1) i)) (ge : f' (914 + 104 * z 22 + 4 + len) = 300000) : Rel E' R' b z' t' hc pk td B f' := by
  obtain ⟨n1, n14, n16, n18, n20, n22, n3, n5, n7⟩ := rl_okm h
  obtain ⟨⟨h1, h3, h5, h7, h14, h16, h18, h20, h22, ht, hw⟩, hH, hP⟩ := rl_okh h
  have eA : ∀ c, c ≤ 21 → iA R' (b + c) = iA R (b + c) := fun c hc => by rw [iA, eb c hc]
  have eF : ∀ k, iF R' b k = iF R b k := fun k => by
    have := eb 0 (by omega)
    rw [Nat.add_zero] at this
    rw [iF, this]
  have eG : ∀ c, c ≤ 21 → iF R' (b + c) 3 = iF R (b + c) 3 := fun c hc => by rw [iF, eb c hc]
  have cl : (nI len).toNatClampNeg = len := nI_clamp (by omega)
  have fr : ∀ lo hi, (8 ≤ lo ∧ hi ≤ 914) → ∀ q, lo ≤ q → q < hi → f' q = f q := fun lo hi hh q h1 h2 => ff q (by omega) (by omega)
  have fs : ∀ q, q < 7 → f' q = f q := fun q hq => ff q (by omega) (by omega)
  refine ⟨⟨⟨?_, ?_, ?_, ?_, ?_, ?_, ?_, ?_, ?_, fun j hj => ?_, fun j hj => ?_⟩, fun i hi => ?_, fun i hi => ?_⟩, ⟨?_, ?_, ?_, ?_, ?_, ?_, ?_, ?_, ?_⟩, ?_, ?_, ?_, ?_, ?_, ?_, ?_, ?_, ?_, ?_, ?_, ?_, ?_, ?_, ?_, ?_, ?_, ?_⟩
  · rw [eG 1 (by omega), hz 1 (by omega)]; exact h1
  · rw [eG 3 (by omega), hz 3 (by omega)]; exact h3
  · rw [eG 5 (by omega), hz 5 (by omega)]; exact h5
  · rw [eG 7 (by omega), hz 7 (by omega)]; exact h7
  · rw [eG 14 (by omega), hz 14 (by omega)]; exact h14
  · rw [eG 16 (by omega), hz 16 (by omega)]; exact h16
  · rw [eG 18 (by omega), hz 18 (by omega)]; exact h18
  · rw [eG 20 (by omega), hz 20 (by omega)]; exact h20
  · rw [e22, hz22]; exact ⟨rfl, by omega⟩
  · rw [hz22] at hj
    rw [eQ]
    by_cases e : j = z 22
    · subst e
      rw [va_up, if_pos rfl, ht22]
      exact ⟨rfl, h109, hod, by omega⟩
    · obtain ⟨q1, q2, q3, q4⟩ := ht j (by omega)
      rw [va_up, if_neg e, ht' j (by omega)]
      exact ⟨q1, q2, q3, by omega⟩
  · rw [hz22] at hj
    by_cases e : j = z 22
    · subst e
      rw [ht22, tl, cl]
      exact ⟨hlen, tw⟩
    · obtain ⟨q1, q2, q3, q4⟩ := ht j (by omega)
      rw [ht' j (by omega), iF, iA, eT _ (by omega) (by omega)]
      exact hw j (by omega)
  · rw [hz 7 (by omega)] at hi
    rw [eA 8 (by omega)]; exact hH i hi
  · rw [hz 3 (by omega)] at hi
    rw [eA 4 (by omega)]; exact hP i hi
  · rw [fs 2 (by omega), hz 1 (by omega)]; exact n1
  · rw [fs 3 (by omega), hz 14 (by omega)]; exact n14
  · rw [fs 4 (by omega), hz 16 (by omega)]; exact n16
  · rw [fs 5 (by omega), hz 18 (by omega)]; exact n18
  · rw [fs 6 (by omega), hz 20 (by omega)]; exact n20
  · rw [f7, hz22]; exact ⟨rfl, by omega⟩
  · rw [ff 8 (by omega) (by omega), hz 3 (by omega)]; exact n3
  · rw [ff 9 (by omega) (by omega), hz 5 (by omega)]; exact n5
  · rw [ff 10 (by omega) (by omega), hz 7 (by omega)]; exact n7
  · rw [eF 8, fs 0 (by omega)]; exact rl_tod h
  · rw [eF 9, fs 1 (by omega)]; exact rl_see h
  · rw [eF 10, eF 11]; exact cg_dou (ff 11 (by omega) (by omega)) (fr 850 890 (by omega)) (rl_dou h)
  · rw [eA 12 (by omega)]; exact cg_12 (fr 13 17 (by omega)) (rl_put h)
  · rw [eA 2 (by omega), hz 1 (by omega)]; exact cg_20 n1.2 (fr 20 92 (by omega)) (rl_cas h)
  · rw [eA 15 (by omega), hz 14 (by omega)]; exact cg_92 n14.2 (fr 92 164 (by omega)) (rl_sen h)
  · rw [eA 17 (by omega), hz 16 (by omega)]; exact cg_sps n16.2 (fr 164 254 (by omega)) (rl_sps h)
  · rw [eA 17 (by omega), hz 16 (by omega), hz 1 (by omega)]; exact rl_spg h
  · rw [eA 2 (by omega), eA 17 (by omega), hz 16 (by omega), hz 1 (by omega)]; exact cg_lat n1.2 (fr 20 92 (by omega)) (rl_lat h)
  · rw [eA 19 (by omega), hz 18 (by omega)]; exact ⟨cg_gap n18.2 (fr 254 314 (by omega)) (rl_gap h).1, (rl_gap h).2⟩
  · rw [eA 21 (by omega), hz 20 (by omega)]; exact cg_314 n20.2 (fr 314 474 (by omega)) (rl_cre h)
  · rw [eA 4 (by omega), hz 3 (by omega)]; exact cg_474 n3.2 (fr 474 634 (by omega)) (rl_pap h)
  · rw [eA 6 (by omega), hz 5 (by omega)]; exact ⟨(rl_mem h).1, cg_634 n5.2 (fr 634 670 (by omega)) (rl_mem h).2⟩
  · rw [eA 8 (by omega), hz 7 (by omega)]; exact cg_670 n7.2 (fr 670 850 (by omega)) (rl_hea h)
  · rw [eA 8 (by omega), hz 7 (by omega), hz 1 (by omega)]; exact rl_unq h
  · rw [eA 2 (by omega), eA 8 (by omega), hz 7 (by omega), hz 1 (by omega)]; exact cg_was n7.2 (fr 670 850 (by omega)) (rl_was h)
  · rw [eA 10 (by omega)]; exact cg_890 (fr 890 914 (by omega)) (rl_tab h)
  · rw [hz22]
    intro j hj
    by_cases e : j = z 22
    · subst e
      rw [ht22, t0, t1, t2, t3, tl, cl]
      exact ⟨g0, g1, g2, g3, hx2, fun i hi => ⟨gc i hi, tv i hi⟩, ge⟩
    · have hj2 : j < z 22 := by omega
      obtain ⟨q1, q2, q3, q4⟩ := ht j hj2
      obtain ⟨w1, w2⟩ := hw j hj2
      have w1 : ((R (t j + 1)).1 0).toNatClampNeg ≤ 96 := w1
      obtain ⟨p0, p1, p2, p3, p4, p5, p6⟩ := rl_txt h j hj2
      have r1 := eT (t j) (by omega) (by omega)
      have r2 := eT (t j + 1) (by omega) (by omega)
      rw [ht' j hj2, iF, iF, iF, iF, iF, iA, r1, r2, ff _ (by omega) (by omega), ff _ (by omega) (by omega), ff _ (by omega) (by omega), ff _ (by omega) (by omega), ff _ (by omega) (by omega)]
      refine ⟨p0, p1, p2, p3, p4, fun i hi => ?_, p6⟩
      have hi : i < ((R (t j + 1)).1 0).toNatClampNeg := hi
      rw [ff _ (by omega) (by omega)]
      exact p5 i hi
end MLAY
