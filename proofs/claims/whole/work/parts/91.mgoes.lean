/-! the model: a prison goes, a day goes -/
section MGOES
variable {E : EE} {R R0 S S1 U : SS} {b d k n i j td q B s p : Nat} {z t hc pk : Nat → Nat} {c v l : Int32} {f f' A A' : Nat → Int32} {Q : Nat → Prop}
theorem puts_R (hE : okE E) (hb : bkb b) (hl0 : ∀ j, j < z 7 → btI l j = true → btI c j = true ∧ ¬ Q j) : ∀ m i R S, i + m = z 7 → Rel E R b z t hc pk td B (iA S 94) → dayI R0 b z hc c Q R → (∀ j, j < z 7 → btI l j = true → iA R (b + 2) (hc j * 6 + 3) = 0) →
    ∃ S2, eqN S S2 ∧ Rel E (rfor (paG b z t hc l) i m R) b z t hc pk td B (iA S2 94) ∧ dayI R0 b z hc c Q (rfor (paG b z t hc l) i m R) ∧ ∀ d w3 w6, mres cT 224 d 123 [.ref 93, .int (nI p), .int l, w3, .int (-1), .int (nI i), w6] [] (hs E S) = some (none, hs E S2) := by
  have o10 := o_M hE
  have m10 := m_M hE
  intro m
  induction m with
  | zero =>
    intro i R S hi h hD hin
    have n7 := (rl_okm h).2.2.2.2.2.2.2.2
    have h1 : nI (z 7) ≤ nI i := nI_le (by omega) (by omega)
    refine ⟨S, eqN_rf, h, hD, fun d w3 w6 => ?_⟩
    simp only [r_il5 c_M_prisonGoes_123, r_al0 c_M_prisonGoes_125, r_gfSr c_M_prisonGoes_126 o10 rfl, r_ci c_M_prisonGoes_129, r_ial c_M_prisonGoes_131, r_icge c_M_prisonGoes_132, r_il4 c_M_prisonGoes_162, r_iflt c_M_prisonGoes_164, r_vret c_M_prisonGoes_276, ↓reduceIte, hs_h, Option.bind_some, mfix_i, mfix_r, mfix_n, mfix_a, Option.toList_some, Option.toList_none, List.cons_append, List.nil_append, List.singleton_append, mn10 hE, n7.1, h1, if_true, show ((-1 : Int32) < 0) = True from eq_true (by decide)]
  | succ m ih =>
    intro i R S hi h hD hin
    have n7 := (rl_okm h).2.2.2.2.2.2.2.2
    have h1 : ¬ nI (z 7) ≤ nI i := nI_ge (by omega) (by omega)
    have hi7 : i < z 7 := by omega
    rw [rfor, paG]
    cases qb : btI l i with
    | true =>
      have q1 : l >>> (nI i &&& 31) &&& 1 = 1 := (has_iff (by omega)).mpr qb
      obtain ⟨y1, y2⟩ := hl0 i hi7 qb
      have y3 := hin i hi7 qb
      obtain ⟨S2, e2, h2, r2⟩ := M_putOff_R (q := 4) hE hb h hi7 (by omega) (by omega)
      have r2 : ∀ d, mres cT 222 d 0 (ment 4 [.ref 93, .int (nI i), .int 4]) [] (hs E S) = some (none, hs E S2) := r2
      have e2' : iA (poS R b z t i (hc i) 4) (b + 2) = iA R (b + 2) := by rw [poS, iA_sA_ne (by omega), iA_sA_ne (by omega)]
      obtain ⟨S3, a1, a2, a3, a4⟩ := ih (i + 1) _ S2 (by omega) h2 (dayI_po hD y1 y2 y3) (fun j hj hb => by rw [e2']; exact hin j hj hb)
      rw [if_pos q1]
      refine ⟨S3, eqN_tr e2 a1, a2, a3, fun d w3 w6 => ?_⟩
      have eh : hsS l (nI i) = 1 := by rw [hsS, if_pos q1]
      simp only [r_il5 c_M_prisonGoes_123, r_al0 c_M_prisonGoes_125, r_gfSr c_M_prisonGoes_126 o10 rfl, r_ci c_M_prisonGoes_129, r_ial c_M_prisonGoes_131, r_icge c_M_prisonGoes_132, ↓reduceIte, hs_h, Option.bind_some, mfix_i, mfix_r, mfix_n, mfix_a, Option.toList_some, Option.toList_none, List.cons_append, List.nil_append, List.singleton_append, mn10 hE, n7.1, h1, if_false]
      simp only [r_il4 c_M_prisonGoes_135, r_ifge c_M_prisonGoes_137, r_il2 c_M_prisonGoes_140, r_il5 c_M_prisonGoes_141, r_ca2 c_M_prisonGoes_143, r_ifeq c_M_prisonGoes_146, r_al0 c_M_prisonGoes_149, r_il5 c_M_prisonGoes_150, r_ci c_M_prisonGoes_152, r_cv3 c_M_prisonGoes_153, r_inc5 c_M_prisonGoes_156, r_goto c_M_prisonGoes_159, ↓reduceIte, hs_h, Option.bind_some, mfix_i, mfix_r, mfix_n, mfix_a, Option.toList_some, Option.toList_none, List.cons_append, List.nil_append, List.singleton_append, mwt, Value.category, Nat.reduceAdd, Nat.reduceLeDiff, true_and, and_true, and_self, m10, show ((0 : Int32) ≤ -1) = False from eq_false (by decide), if_false, M_has_ok, eh, one_nz, r2, nI_1, a4]
    | false =>
      have q1 : ¬ l >>> (nI i &&& 31) &&& 1 = 1 := fun e => by rw [(has_iff (by omega)).mp e] at qb; cases qb
      obtain ⟨S3, a1, a2, a3, a4⟩ := ih (i + 1) R S (by omega) h hD hin
      rw [if_neg q1]
      refine ⟨S3, a1, a2, a3, fun d w3 w6 => ?_⟩
      have eh : hsS l (nI i) = 0 := by rw [hsS, if_neg q1]
      simp only [r_il5 c_M_prisonGoes_123, r_al0 c_M_prisonGoes_125, r_gfSr c_M_prisonGoes_126 o10 rfl, r_ci c_M_prisonGoes_129, r_ial c_M_prisonGoes_131, r_icge c_M_prisonGoes_132, ↓reduceIte, hs_h, Option.bind_some, mfix_i, mfix_r, mfix_n, mfix_a, Option.toList_some, Option.toList_none, List.cons_append, List.nil_append, List.singleton_append, mn10 hE, n7.1, h1, if_false]
      simp only [r_il4 c_M_prisonGoes_135, r_ifge c_M_prisonGoes_137, r_il2 c_M_prisonGoes_140, r_il5 c_M_prisonGoes_141, r_ca2 c_M_prisonGoes_143, r_ifeq c_M_prisonGoes_146, r_al0 c_M_prisonGoes_149, r_il5 c_M_prisonGoes_150, r_ci c_M_prisonGoes_152, r_cv3 c_M_prisonGoes_153, r_inc5 c_M_prisonGoes_156, r_goto c_M_prisonGoes_159, ↓reduceIte, hs_h, Option.bind_some, mfix_i, mfix_r, mfix_n, mfix_a, Option.toList_some, Option.toList_none, List.cons_append, List.nil_append, List.singleton_append, mwt, Value.category, Nat.reduceAdd, Nat.reduceLeDiff, true_and, and_true, and_self, m10, show ((0 : Int32) ≤ -1) = False from eq_false (by decide), if_false, M_has_ok, eh, if_true, nI_1, a4]
theorem hears_R (hE : okE E) (hb : bkb b) (hl0 : ∀ j, j < z 7 → btI l j = true → btI c j = true ∧ ¬ Q j) : ∀ m i R S, i + m = z 7 → Rel E R b z t hc pk td B (iA S 94) → dayI R0 b z hc c Q R → (∀ j, i ≤ j → j < z 7 → btI l j = true → iA R (b + 8) (j * 5 + 2) = 0) →
    ∃ S2, eqN S S2 ∧ Rel E (rfor (haG b z t hc l) i m R) b z t hc pk td B (iA S2 94) ∧ dayI R0 b z hc c Q (rfor (haG b z t hc l) i m R) ∧ ∀ d w1 w3 w4 w6, mres cT 224 d 243 [.ref 93, w1, .int l, w3, w4, .int (nI i), w6] [] (hs E S) = some (none, hs E S2) := by
  have o10 := o_M hE
  have m10 := m_M hE
  intro m
  induction m with
  | zero =>
    intro i R S hi h hD hin
    have n7 := (rl_okm h).2.2.2.2.2.2.2.2
    have h1 : nI (z 7) ≤ nI i := nI_le (by omega) (by omega)
    refine ⟨S, eqN_rf, h, hD, fun d w1 w3 w4 w6 => ?_⟩
    simp only [r_il5 c_M_prisonGoes_243, r_al0 c_M_prisonGoes_245, r_gfSr c_M_prisonGoes_246 o10 rfl, r_ci c_M_prisonGoes_249, r_ial c_M_prisonGoes_251, r_icge c_M_prisonGoes_252, r_vret c_M_prisonGoes_276, ↓reduceIte, hs_h, Option.bind_some, mfix_i, mfix_r, mfix_n, mfix_a, Option.toList_some, Option.toList_none, List.cons_append, List.nil_append, List.singleton_append, mn10 hE, n7.1, h1, if_true]
  | succ m ih =>
    intro i R S hi h hD hin
    have n7 := (rl_okm h).2.2.2.2.2.2.2.2
    have h1 : ¬ nI (z 7) ≤ nI i := nI_ge (by omega) (by omega)
    have hi7 : i < z 7 := by omega
    rw [rfor, haG]
    cases qb : btI l i with
    | true =>
      have q1 : l >>> (nI i &&& 31) &&& 1 = 1 := (has_iff (by omega)).mpr qb
      obtain ⟨y1, y2⟩ := hl0 i hi7 qb
      have y3 := hin i (Nat.le_refl i) hi7 qb
      obtain ⟨S2, e2, h2, r2⟩ := M_hear_R hE hb h hi7 y3
      obtain ⟨v, hv, e8, -, -⟩ := ho_cells (R := R) (b := b) (z := z) (t := t) (i := i) (hc := hc)
      obtain ⟨S3, a1, a2, a3, a4⟩ := ih (i + 1) _ S2 (by omega) h2 (dayI_ho hD y1 y2 hi7 y3 (rl_unq h).2) (fun j hj1 hj hb => by rw [e8, pk_un (by omega)]; exact hin j (by omega) hj hb)
      rw [if_pos q1]
      refine ⟨S3, eqN_tr e2 a1, a2, a3, fun d w1 w3 w4 w6 => ?_⟩
      have eh : hsS l (nI i) = 1 := by rw [hsS, if_pos q1]
      simp only [r_il5 c_M_prisonGoes_243, r_al0 c_M_prisonGoes_245, r_gfSr c_M_prisonGoes_246 o10 rfl, r_ci c_M_prisonGoes_249, r_ial c_M_prisonGoes_251, r_icge c_M_prisonGoes_252, ↓reduceIte, hs_h, Option.bind_some, mfix_i, mfix_r, mfix_n, mfix_a, Option.toList_some, Option.toList_none, List.cons_append, List.nil_append, List.singleton_append, mn10 hE, n7.1, h1, if_false]
      simp only [r_il2 c_M_prisonGoes_255, r_il5 c_M_prisonGoes_256, r_ca2 c_M_prisonGoes_258, r_ifeq c_M_prisonGoes_261, r_al0 c_M_prisonGoes_264, r_il5 c_M_prisonGoes_265, r_cv2 c_M_prisonGoes_267, r_inc5 c_M_prisonGoes_270, r_goto c_M_prisonGoes_273, ↓reduceIte, hs_h, Option.bind_some, mfix_i, mfix_r, mfix_n, mfix_a, Option.toList_some, Option.toList_none, List.cons_append, List.nil_append, List.singleton_append, mwt, Value.category, Nat.reduceAdd, Nat.reduceLeDiff, true_and, and_true, and_self, m10, M_has_ok, eh, one_nz, if_false, r2, nI_1, a4]
    | false =>
      have q1 : ¬ l >>> (nI i &&& 31) &&& 1 = 1 := fun e => by rw [(has_iff (by omega)).mp e] at qb; cases qb
      obtain ⟨S3, a1, a2, a3, a4⟩ := ih (i + 1) R S (by omega) h hD (fun j hj1 hj hb => hin j (by omega) hj hb)
      rw [if_neg q1]
      refine ⟨S3, a1, a2, a3, fun d w1 w3 w4 w6 => ?_⟩
      have eh : hsS l (nI i) = 0 := by rw [hsS, if_neg q1]
      simp only [r_il5 c_M_prisonGoes_243, r_al0 c_M_prisonGoes_245, r_gfSr c_M_prisonGoes_246 o10 rfl, r_ci c_M_prisonGoes_249, r_ial c_M_prisonGoes_251, r_icge c_M_prisonGoes_252, ↓reduceIte, hs_h, Option.bind_some, mfix_i, mfix_r, mfix_n, mfix_a, Option.toList_some, Option.toList_none, List.cons_append, List.nil_append, List.singleton_append, mn10 hE, n7.1, h1, if_false]
      simp only [r_il2 c_M_prisonGoes_255, r_il5 c_M_prisonGoes_256, r_ca2 c_M_prisonGoes_258, r_ifeq c_M_prisonGoes_261, r_al0 c_M_prisonGoes_264, r_il5 c_M_prisonGoes_265, r_cv2 c_M_prisonGoes_267, r_inc5 c_M_prisonGoes_270, r_goto c_M_prisonGoes_273, ↓reduceIte, hs_h, Option.bind_some, mfix_i, mfix_r, mfix_n, mfix_a, Option.toList_some, Option.toList_none, List.cons_append, List.nil_append, List.singleton_append, mwt, Value.category, Nat.reduceAdd, Nat.reduceLeDiff, true_and, and_true, and_self, m10, M_has_ok, eh, if_true, nI_1, a4]
theorem dayI_ad (h : dayI R0 b z hc c Q R) : dayI R0 b z hc c Q (adT R b k) := by
  have e8 : iA (adT R b k) (b + 8) = iA R (b + 8) := by rw [adT, iA_sA_ne (by omega)]
  have e2 : iA (adT R b k) (b + 2) = iA R (b + 2) := by rw [adT, iA_sA_ne (by omega)]
  unfold dayI at h ⊢
  rw [e8, e2]
  exact h
theorem M_prison_R (hE : okE E) (hb : bkb b) (h0 : iF R0 b 8 = nI td) (hp : p < 6) (hc0 : ∀ j, j < z 7 → btI c j = decide (iA R0 (b + 8) (j * 5 + 1) = nI td ∧ iA R0 (b + 8) (j * 5 + 2) = 0)) (h : Rel E R b z t hc pk td B (iA S 94)) (hB : B + 3 ≤ 100000) (hD : dayI R0 b z hc c (npQ R0 b hc p) R) :
    ∃ S2, eqN S S2 ∧ Rel E (pdG b z t pk hc c p R) b z t hc pk td (B + 3) (iA S2 94) ∧ dayI R0 b z hc c (npQ R0 b hc (p + 1)) (pdG b z t pk hc c p R) ∧ ∀ d, mres cT 224 d 0 (ment 7 [.ref 93, .int (nI p)]) [] (hs E S) = some (none, hs E S2) := by
  have o10 := o_M hE
  have m10 := m_M hE
  obtain ⟨S2, v5, v6, e1, h2, D2, L2, r2⟩ := sift_R hE hb h0 hp hc0 (z 7) 0 0 R S (.retAddr 0) (.retAddr 0) (by omega) h (dayI_Q hD (fun j hj _ e => e.1)) ⟨fun j _ _ => bt_0, fun j hj => by omega⟩
  have r2 : ∀ d, mres cT 224 d 7 [.ref 93, .int (nI p), .int 0, .int 0, .int 0, .retAddr 0, .retAddr 0] [] (hs E S) = _ := r2
  rw [pdG]
  generalize rfor (siG b z t pk hc c (nI p)) 0 (z 7) (0, R) = s at h2 D2 L2 r2 ⊢
  obtain ⟨l, U⟩ := s
  simp only at h2 D2 L2 r2
  have D3 : dayI R0 b z hc c (npQ R0 b hc (p + 1)) U := dayI_Q D2 (fun j hj _ e => ⟨fun p' hp' => e p' (by omega), Or.inr (e p (by omega))⟩)
  obtain ⟨n1, n14, n16, n18, n20, n22, n3, n5, n7⟩ := rl_okm h2
  have ht := rl_tod h2
  have hl0 : ∀ j, j < z 7 → btI l j = true → btI c j = true ∧ ¬ npQ R0 b hc (p + 1) j := fun j hj hb => by
    obtain ⟨y1, y2, -⟩ := L2.2 j hj hb
    exact ⟨y1, fun e => e p (by omega) y2⟩
  have ecs : rfor (csN hc l) 0 (z 7) 0 = rfor (coG (iA U (b + 8)) l) 0 (z 7) 0 := (co_cs (rl_okh h2).2.1 n7.2).symm
  have ebo := bo_eq (pe := rfor (csN hc l) 0 (z 7) 0) (pr := nI p) (dy := nI td) (rl_mem h2).2 n5.2 (by have := (rl_mem h2).1; omega)
  have ebl : boS (iA U (b + 6)) (z 5) (mfS (iA U (b + 6)) (z 5) (rfor (csN hc l) 0 (z 7) 0) (nI p) (nI td)) = blS U b z l p := by rw [blS, ecs, ht.1]
  rw [ebl] at ebo
  have rb := fun d => M_boardFor_ok (d := d) (S := S2) (pe := rfor (csN hc l) 0 (z 7) 0) (pr := nI p) (dy := nI td) hE n5.1 n5.2
  rw [ebo] at rb
  have hbd : bdp (blS U b z l p) := boS_p n5.2
  have st : ∀ d, mres cT 224 d 0 (ment 7 [.ref 93, .int (nI p)]) [] (hs E S) = mres cT 224 d 123 [.ref 93, .int (nI p), .int l, .int (rfor (csN hc l) 0 (z 7) 0), .int (if blS U b z l p = -1000000005 then -1 else blS U b z l p), .int 0, v6] [] (hs E S2) := fun d => by
    simp only [ment, mfl, List.length, List.replicate, List.cons_append, List.nil_append, Nat.reduceAdd, Nat.reduceSub]
    simp only [r_ci c_M_prisonGoes_0, r_is2 c_M_prisonGoes_1, r_ci c_M_prisonGoes_2, r_is3 c_M_prisonGoes_3, r_ci c_M_prisonGoes_4, r_is4 c_M_prisonGoes_5, ↓reduceIte, hs_h, Option.bind_some, mfix_i, mfix_r, mfix_n, mfix_a, Option.toList_some, Option.toList_none, List.cons_append, List.nil_append, List.singleton_append, r2]
    simp only [r_al0 c_M_prisonGoes_106, r_il3 c_M_prisonGoes_107, r_il1 c_M_prisonGoes_108, r_al0 c_M_prisonGoes_109, r_gfSr c_M_prisonGoes_110 o10 rfl, r_ci c_M_prisonGoes_113, r_ial c_M_prisonGoes_114, r_cv4 c_M_prisonGoes_115, r_is4 c_M_prisonGoes_118, r_ci c_M_prisonGoes_120, r_is5 c_M_prisonGoes_121, ↓reduceIte, hs_h, Option.bind_some, mfix_i, mfix_r, mfix_n, mfix_a, Option.toList_some, Option.toList_none, List.cons_append, List.nil_append, List.singleton_append, mwt, Value.category, Nat.reduceAdd, Nat.reduceLeDiff, true_and, and_true, and_self, m10, mn0 hE, ht.2.2, rb]
  rw [lhS]
  show ∃ S2, eqN S S2 ∧ Rel E (if l = 0 then U else if blS U b z l p = -1000000005 then rfor (paG b z t hc l) 0 (z 7) U else rfor (haG b z t hc l) 0 (z 7) (tkT U b (blS U b z l p))) b z t hc pk td (B + 3) (iA S2 94) ∧ dayI R0 b z hc c (npQ R0 b hc (p + 1)) (if l = 0 then U else if blS U b z l p = -1000000005 then rfor (paG b z t hc l) 0 (z 7) U else rfor (haG b z t hc l) 0 (z 7) (tkT U b (blS U b z l p))) ∧ _
  by_cases qn : blS U b z l p = -1000000005
  · obtain ⟨S3, a1, a2, a3, a4⟩ := puts_R (p := p) hE hb hl0 (z 7) 0 U S2 (by omega) h2 D3 (fun j hj hb => (L2.2 j hj hb).2.2.2)
    rw [nI_0] at a4
    have eU : (if l = 0 then U else if blS U b z l p = -1000000005 then rfor (paG b z t hc l) 0 (z 7) U else rfor (haG b z t hc l) 0 (z 7) (tkT U b (blS U b z l p))) = rfor (paG b z t hc l) 0 (z 7) U := by
      by_cases ql : l = 0
      · rw [if_pos ql]
        refine (rfor_id (fun i => ?_) _ _).symm
        rw [paG, if_neg]
        rw [ql, Int32.zero_shiftRight, Int32.zero_and]
        decide
      · rw [if_neg ql, if_pos qn]
    rw [eU]
    refine ⟨S3, eqN_tr e1 a1, Rel_B (by omega) hB a2, a3, fun d => ?_⟩
    rw [st, if_pos qn, a4]
  · have nn : ¬ blS U b z l p < 0 := by
      obtain ⟨x, y, w, hx, hy, hw, e⟩ := hbd.resolve_left qn
      rw [e]; exact nI_pos (by omega)
    have st2 : ∀ d, mres cT 224 d 123 [.ref 93, .int (nI p), .int l, .int (rfor (csN hc l) 0 (z 7) 0), .int (blS U b z l p), .int 0, v6] [] (hs E S2) = mres cT 224 d 162 [.ref 93, .int (nI p), .int l, .int (rfor (csN hc l) 0 (z 7) 0), .int (blS U b z l p), .int 0, v6] [] (hs E S2) := fun d => by
      by_cases q0 : nI (z 7) ≤ 0
      · simp only [r_il5 c_M_prisonGoes_123, r_al0 c_M_prisonGoes_125, r_gfSr c_M_prisonGoes_126 o10 rfl, r_ci c_M_prisonGoes_129, r_ial c_M_prisonGoes_131, r_icge c_M_prisonGoes_132, ↓reduceIte, hs_h, Option.bind_some, mfix_i, mfix_r, mfix_n, mfix_a, Option.toList_some, Option.toList_none, List.cons_append, List.nil_append, List.singleton_append, mn10 hE, n7.1, q0, if_true]
      · simp only [r_il5 c_M_prisonGoes_123, r_al0 c_M_prisonGoes_125, r_gfSr c_M_prisonGoes_126 o10 rfl, r_ci c_M_prisonGoes_129, r_ial c_M_prisonGoes_131, r_icge c_M_prisonGoes_132, r_il4 c_M_prisonGoes_135, r_ifge c_M_prisonGoes_137, ↓reduceIte, hs_h, Option.bind_some, mfix_i, mfix_r, mfix_n, mfix_a, Option.toList_some, Option.toList_none, List.cons_append, List.nil_append, List.singleton_append, mn10 hE, n7.1, q0, if_false, show (0 : Int32) ≤ blS U b z l p from Int32.not_lt.mp nn, if_true]
    by_cases ql : l = 0
    · rw [if_pos ql]
      refine ⟨S2, e1, Rel_B (by omega) hB h2, D3, fun d => ?_⟩
      rw [st, if_neg qn, st2]
      simp only [r_il4 c_M_prisonGoes_162, r_iflt c_M_prisonGoes_164, r_il2 c_M_prisonGoes_167, r_ifeq c_M_prisonGoes_168, r_vret c_M_prisonGoes_276, ↓reduceIte, hs_h, Option.bind_some, mfix_i, mfix_r, mfix_n, mfix_a, Option.toList_some, Option.toList_none, List.cons_append, List.nil_append, List.singleton_append, nn, ql, if_true, if_false, ite_self]
    · obtain ⟨x, y, w, hx, hy, hw, e⟩ := hbd.resolve_left qn
      have t1 := Rel_turn hb h2 hx (by omega)
      have t2 := Rel_turn hb t1 hy (by omega)
      have t3 := Rel_turn hb t2 hw (by omega)
      have eT : tkT U b (blS U b z l p) = adT (adT (adT U b x) b y) b w := by
        rw [tkT, e, bd_1 hx hy hw, bd_2 hx hy hw, bd_3 hx hy hw, nI_clamp (by omega), nI_clamp (by omega), nI_clamp (by omega)]
      rw [if_neg ql, if_neg qn, eT]
      have DT : dayI R0 b z hc c (npQ R0 b hc (p + 1)) (adT (adT (adT U b x) b y) b w) := dayI_ad (dayI_ad (dayI_ad D3))
      have e8 : iA (adT (adT (adT U b x) b y) b w) (b + 8) = iA U (b + 8) := by rw [adT, iA_sA_ne (by omega), adT, iA_sA_ne (by omega), adT, iA_sA_ne (by omega)]
      obtain ⟨S3, a1, a2, a3, a4⟩ := hears_R hE hb hl0 (z 7) 0 (adT (adT (adT U b x) b y) b w) (sA S2 94 (mtF (mtF (mtF (iA S2 94) x) y) w)) (by omega) (by rw [i94]; exact t3) DT (fun j _ hj hb => by rw [e8]; exact (L2.2 j hj hb).2.2.1)
      rw [nI_0] at a4
      refine ⟨S3, eqN_tr e1 (eqN_tr eqN_94 a1), a2, a3, fun d => ?_⟩
      rw [st, if_neg qn, st2]
      have h10 : ¬ (10 : Int32) = 0 := by decide
      have h100 : ¬ (100 : Int32) = 0 := by decide
      simp only [r_il4 c_M_prisonGoes_162, r_iflt c_M_prisonGoes_164, r_il2 c_M_prisonGoes_167, r_ifeq c_M_prisonGoes_168, ↓reduceIte, hs_h, Option.bind_some, mfix_i, mfix_r, mfix_n, mfix_a, Option.toList_some, Option.toList_none, List.cons_append, List.nil_append, List.singleton_append, nn, ql, if_false]
      simp only [e, r_al0 c_M_prisonGoes_171, r_gfSr c_M_prisonGoes_172 o10 rfl, r_ci c_M_prisonGoes_175, r_ci c_M_prisonGoes_178, r_il4 c_M_prisonGoes_179, r_ci c_M_prisonGoes_181, r_idiv c_M_prisonGoes_183 h100, r_imul c_M_prisonGoes_184, r_iadd c_M_prisonGoes_185, r_ci c_M_prisonGoes_186, r_iadd c_M_prisonGoes_187, r_dup2 c_M_prisonGoes_188, r_ial c_M_prisonGoes_189, r_ci c_M_prisonGoes_190, r_iadd c_M_prisonGoes_191, r_ias c_M_prisonGoes_192, r_al0 c_M_prisonGoes_193, r_gfSr c_M_prisonGoes_194 o10 rfl, r_ci c_M_prisonGoes_197, r_ci c_M_prisonGoes_200, r_il4 c_M_prisonGoes_201, r_ci c_M_prisonGoes_203, r_idiv c_M_prisonGoes_205 h10, r_ci c_M_prisonGoes_206, r_irem c_M_prisonGoes_208 h10, r_imul c_M_prisonGoes_209, r_iadd c_M_prisonGoes_210, r_ci c_M_prisonGoes_211, r_iadd c_M_prisonGoes_212, r_dup2 c_M_prisonGoes_213, r_ial c_M_prisonGoes_214, r_ci c_M_prisonGoes_215, r_iadd c_M_prisonGoes_216, r_ias c_M_prisonGoes_217, r_al0 c_M_prisonGoes_218, r_gfSr c_M_prisonGoes_219 o10 rfl, r_ci c_M_prisonGoes_222, r_ci c_M_prisonGoes_225, r_il4 c_M_prisonGoes_226, r_ci c_M_prisonGoes_228, r_irem c_M_prisonGoes_230 h10, r_imul c_M_prisonGoes_231, r_iadd c_M_prisonGoes_232, r_ci c_M_prisonGoes_233, r_iadd c_M_prisonGoes_234, r_dup2 c_M_prisonGoes_235, r_ial c_M_prisonGoes_236, r_ci c_M_prisonGoes_237, r_iadd c_M_prisonGoes_238, r_ias c_M_prisonGoes_239, r_ci c_M_prisonGoes_240, r_is5 c_M_prisonGoes_241, ↓reduceIte, hs_h, Option.bind_some, mfix_i, mfix_r, mfix_n, mfix_a, Option.toList_some, Option.toList_none, List.cons_append, List.nil_append, List.singleton_append, bd_1 hx hy hw, bd_2 hx hy hw, bd_3 hx hy hw, km2, km3, km4, km6, km104, km24, ka20, ka92, ka164, ka254, ka314, ka474, ka634, ka670, ka850, ka890, ka914, ka12, kr2, kr3, kr4, kr5, nI_1, nI_add, mia_94 hE (show 634 + 4 * x + 3 < 2578 by omega), mia_94 hE (show 634 + 4 * y + 3 < 2578 by omega), mia_94 hE (show 634 + 4 * w + 3 < 2578 by omega), mis_94 hE (show 634 + 4 * x + 3 < 2578 by omega), mis_94 hE (show 634 + 4 * y + 3 < 2578 by omega), mis_94 hE (show 634 + 4 * w + 3 < 2578 by omega), hs_94 hE, i94, sA_sA]
      exact a4 d _ _ _ _
end MGOES
