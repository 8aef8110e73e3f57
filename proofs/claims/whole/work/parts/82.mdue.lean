/-! the model tells what the books tell: due, causes -/
section MDUE
variable {E : EE} {R S S1 : SS} {b d k n D td kd w B : Nat} {z t hc pk : Nat → Nat} {c : Int32}
theorem M_total_R (hE : okE E) (h : Rel E R b z t hc pk td B (iA S 94)) : mres cT 30 d 0 (ment 6 [.ref 93, .int c]) [] (hs E S) = some (some (.int (ttSum (iA R (b + 15)) c (z 14))), hs E S) := by
  have hm := (rl_okm h).2.1
  rw [M_total_ok hE hm.1 hm.2, tt_sum (rl_sen h)]
theorem M_heardOf_R (hE : okE E) (h : Rel E R b z t hc pk td B (iA S 94)) (hk : k < z 1) : mres cT 31 d 0 (ment 4 [.ref 93, .int (nI k)]) [] (hs E S) = some (some (.int (iA R (b + 2) (k * 6 + 5))), hs E S) := by
  have hm := (rl_okm h).2.2.2.2.2.2.2.2
  rw [M_heardOf_ok hE hm.1 hm.2, (rl_was h).2 k hk]
theorem M_creditOf_R (hE : okE E) (h : Rel E R b z t hc pk td B (iA S 94)) (hk : kd < 2147483647) : mres cT 72 d 0 (ment 7 [.ref 93, .int c, .int (nI kd)]) [] (hs E S) = some (some (.int (crSum (iA R (b + 21)) c (nI kd) (z 20))), hs E S) := by
  have hm := (rl_okm h).2.2.2.2.1
  have ht := (rl_tod h).2.1
  rw [M_creditOf_ok hE hm.1 hm.2, cr_sum (rl_cre h) (by omega) hk]
/-- days served, as a number -/
def svN (R : SS) (b : Nat) (z : Nat → Nat) (k D : Nat) : Nat := cN (cnB (tC (iA R (b + 17))) (tF (iA R (b + 17))) (tT (iA R (b + 17))) (z 16) (tC (iA R (b + 19))) (tF (iA R (b + 19))) (tT (iA R (b + 19))) (z 18) k) 0 D
theorem sv_nat {f : Nat → Int32} (h : Rel E R b z t hc pk td B f) (hk : k < 2 ^ 31) (hD : D < 2 ^ 31) : svSum (iA R (b + 17)) (iA R (b + 19)) (z 16) (z 18) (nI k) (nI D) = nI (svN R b z k D) := by
  have hs := rl_spg h
  exact sv_main hs.1 (rl_gap h).2 (rl_okm h).2.2.2.1.2 hk hD hs.2.2
theorem M_servedOn_R (hE : okE E) (h : Rel E R b z t hc pk td B (iA S 94)) (hk : k < 2 ^ 31) (hD : D < 2147483647) : ∃ S2, eqM S S2 ∧ ∀ d, mres cT 64 d 0 (ment 5 [.ref 93, .int (nI k), .int (nI D)]) [] (hs E S) = some (some (.int (svSum (iA R (b + 17)) (iA R (b + 19)) (z 16) (z 18) (nI k) (nI D))), hs E S2) := by
  have h4 := (rl_okm h).2.2.1
  have h5 := (rl_okm h).2.2.2.1
  refine ⟨_, eqM_pt (p := (poM (iA S 94) (z 16) (z 18) (nI k) (nI D) (iA S 102)).1) (m := (poM (iA S 94) (z 16) (z 18) (nI k) (nI D) (iA S 102)).2), fun d => ?_⟩
  rw [M_servedOn_ok hE h4.1 h4.2 h5.1 h5.2, se_main (rl_sps h) (rl_gap h).1 hk hD, sv_nat h hk (by omega)]
  rfl
theorem M_rule_R (hE : okE E) (h : Rel E R b z t hc pk td B (iA S 94)) {fo fk x0 x1 x2 x3 : Int32} (hk : fk = 0 ∨ fk = 1 ∨ fk = 2 ∨ fk = 3 ∨ fk = 4) : ∃ S2, eqM S S2 ∧ ∀ d, mres cT 91 d 0 (ment 12 [.ref 93, .int fo, .int fk, .int x0, .int x1, .int x2, .int x3]) [] (hs E S) = some (some (.int (rlV R b (z 22) t fo fk (iF R b 8) x0 x1 x2 x3)), hs E S2) := by
  have h7 := (rl_okm h).2.2.2.2.2.1
  have ho := (rl_okh h).1
  refine M_ruled_ok hE h7.1 h7.2 ?_ (rl_txt h) ho.2.2.2.2.2.2.2.2.2.2 hk
  rw [(rl_tod h).2.2, (rl_tod h).1]
theorem rl_c0 {f : Nat → Int32} (h : Rel E R b z t hc pk td B f) (hk : k < z 1) {c : Nat} (hc5 : c < 5) : f (20 + 6 * k + c) = iA R (b + 2) (k * 6 + c) := (rl_cas h k hk).1 c hc5
theorem M_firstOf_R (hE : okE E) (h : Rel E R b z t hc pk td B (iA S 94)) (hk : k < z 1) : ∃ S2, eqM S S2 ∧ ∀ d, mres cT 92 d 0 (ment 2 [.ref 93, .int (nI k)]) [] (hs E S) = some (some (.int (frS R b z t k)), hs E S2) := by
  have o10 := o_M hE
  have m10 := m_M hE
  have k12 : k < 12 := Nat.lt_of_lt_of_le hk (rl_okm h).1.2
  have ht := rl_tod h
  obtain ⟨S2, e2, r2⟩ := M_rule_R (fo := iA R (b + 2) (k * 6)) (fk := 0) (x0 := ttSum (iA R (b + 15)) (nI k) (z 14)) (x1 := crSum (iA R (b + 21)) (nI k) (nI td) (z 20)) (x2 := iA R (b + 2) (k * 6 + 5)) (x3 := 0) hE h (Or.inl rfl)
  refine ⟨S2, e2, fun d => ?_⟩
  have c0 : iA S 94 (20 + 6 * k + 0) = iA R (b + 2) (k * 6) := rl_c0 h hk (c := 0) (by omega)
  simp only [ment, mfl, List.length, List.replicate, List.cons_append, List.nil_append, Nat.reduceAdd, Nat.reduceSub, frS]
  simp only [r_al0 c_M_firstOf_0, r_al0 c_M_firstOf_1, r_il1 c_M_firstOf_2, r_ci c_M_firstOf_3, r_cv3 c_M_firstOf_4, r_ci c_M_firstOf_7, r_al0 c_M_firstOf_8, r_il1 c_M_firstOf_9, r_cv2 c_M_firstOf_10, r_al0 c_M_firstOf_13, r_il1 c_M_firstOf_14, r_al0 c_M_firstOf_15, r_gfSr c_M_firstOf_16 o10 rfl, r_ci c_M_firstOf_19, r_ial c_M_firstOf_20, r_cv3 c_M_firstOf_21, r_al0 c_M_firstOf_24, r_il1 c_M_firstOf_25, r_cv2 c_M_firstOf_26, r_ci c_M_firstOf_29, r_cv7 c_M_firstOf_30, r_iret c_M_firstOf_33, ↓reduceIte, hs_h, Option.bind_some, mfix_i, mfix_r, mfix_n, mfix_a, Option.toList_some, Option.toList_none, List.cons_append, List.nil_append, List.singleton_append, mwt, Value.category, Nat.reduceAdd, Nat.reduceLeDiff, true_and, and_true, and_self, m10, oc0 hE k12, c0, M_total_R hE h, mn0 hE, ht.2.2, M_creditOf_R hE h (show td < 2147483647 by omega), M_heardOf_R hE h hk, r2, ht.1]
theorem M_isDue_R (hE : okE E) (h : Rel E R b z t hc pk td B (iA S 94)) (hk : k < z 1) (hD : D < 2147483647) : ∃ S2, eqM S S2 ∧ ∀ d, mres cT 93 d 0 (ment 3 [.ref 93, .int (nI k), .int (nI D)]) [] (hs E S) = some (some (.int (duS R b z t k (nI D))), hs E S2) := by
  have o10 := o_M hE
  have m10 := m_M hE
  have k12 : k < 12 := Nat.lt_of_lt_of_le hk (rl_okm h).1.2
  obtain ⟨S2, e2, r2⟩ := M_servedOn_R (D := D) (k := k) hE h (by omega) hD
  have h2 : Rel E R b z t hc pk td B (iA S2 94) := by rw [eqM_94 e2]; exact h
  obtain ⟨S3, e3, r3⟩ := M_firstOf_R hE h2 hk
  refine ⟨S3, eqM_tr e2 e3, fun d => ?_⟩
  simp only [ment, mfl, List.length, List.replicate, List.cons_append, List.nil_append, Nat.reduceAdd, Nat.reduceSub, duS, dySum]
  simp only [r_al0 c_M_isDue_0, r_il1 c_M_isDue_1, r_il2 c_M_isDue_2, r_cv3 c_M_isDue_3, r_al0 c_M_isDue_6, r_il1 c_M_isDue_7, r_il2 c_M_isDue_8, r_cv3 c_M_isDue_9, r_iadd c_M_isDue_12, r_al0 c_M_isDue_13, r_il1 c_M_isDue_14, r_cv2 c_M_isDue_15, r_iclt c_M_isDue_18, r_ci c_M_isDue_21, r_goto c_M_isDue_22, r_ci c_M_isDue_25, r_zret c_M_isDue_26, ↓reduceIte, hs_h, Option.bind_some, mfix_i, mfix_r, mfix_n, mfix_a, Option.toList_some, Option.toList_none, List.cons_append, List.nil_append, List.singleton_append, mwt, Value.category, Nat.reduceAdd, Nat.reduceLeDiff, true_and, and_true, and_self, m10, r2, M_creditOf_R hE h2 hD, r3, mz0, mz1, ite_out]
  rfl
theorem ud1 : ∀ p : Nat, p < 5 → (udO 5 (some p) 1 = 0 ↔ ¬ (p = 1 ∨ p = 2)) := by decide
theorem ud3 : ∀ p : Nat, p < 5 → (udO 5 (some p) 3 = 0 ↔ ¬ p = 3) := by decide
theorem M_hasReport_R (hE : okE E) (h : Rel E R b z t hc pk td B (iA S 94)) : mres cT 194 d 0 (ment 6 [.ref 93, .int c]) [] (hs E S) = some (some (.int (hrF (iA R (b + 4)) pk c (iF R b 8) 0 (z 3))), hs E S) := by
  have o10 := o_M hE
  have h8 := (rl_okm h).2.2.2.2.2.2.1
  have ht := rl_tod h
  have hP := (rl_okh h).2.2
  have lp : ∀ m i s w4 w5, (s = 0 ∨ s = 1) → i + m = z 3 → mres cT 194 d 4 [.ref 93, .int c, .int s, .int (nI i), w4, w5] [] (hs E S) = some (some (.int (if s = 0 then hrF (iA R (b + 4)) pk c (iF R b 8) i m else 1)), hs E S) := by
    intro m
    induction m with
    | zero =>
      intro i s w4 w5 h01 hi
      have h1 : nI (z 3) ≤ nI i := nI_le (by omega) (by omega)
      rcases h01 with rfl | rfl
      · simp only [r_il3 c_M_hasReport_4, r_al0 c_M_hasReport_5, r_gfSr c_M_hasReport_6 o10 rfl, r_ci c_M_hasReport_9, r_ial c_M_hasReport_11, r_icge c_M_hasReport_12, r_il2 c_M_hasReport_115, r_zret c_M_hasReport_116, ↓reduceIte, hs_h, Option.bind_some, mfix_i, mfix_r, mfix_n, mfix_a, Option.toList_some, Option.toList_none, List.cons_append, List.nil_append, List.singleton_append, mn8 hE, h8.1, h1, if_true, mz0, hrF]
      · simp only [r_il3 c_M_hasReport_4, r_al0 c_M_hasReport_5, r_gfSr c_M_hasReport_6 o10 rfl, r_ci c_M_hasReport_9, r_ial c_M_hasReport_11, r_icge c_M_hasReport_12, r_il2 c_M_hasReport_115, r_zret c_M_hasReport_116, ↓reduceIte, hs_h, Option.bind_some, mfix_i, mfix_r, mfix_n, mfix_a, Option.toList_some, Option.toList_none, List.cons_append, List.nil_append, List.singleton_append, mn8 hE, h8.1, h1, if_true, one_nz, if_false, mz1]
    | succ m ih =>
      intro i s w4 w5 h01 hi
      have h1 : ¬ nI (z 3) ≤ nI i := nI_ge (by omega) (by omega)
      obtain ⟨p1, a, w, pa, pw, pA, pW⟩ := rl_pap h i (by omega)
      obtain ⟨q0, q5⟩ := hP i (by omega)
      have f0 : iA S 94 (474 + 4 * i) = nI (pk i) := by rw [← q0]; exact p1 0 (by omega)
      have f1 : iA S 94 (474 + 4 * i + 1) = iA R (b + 4) (i * 4 + 1) := p1 1 (by omega)
      have f2 : iA S 94 (474 + 4 * i + 2) = nI a := by rw [p1 2 (by omega), pA]
      have f3 : iA S 94 (474 + 4 * i + 3) = nI w := by rw [p1 3 (by omega), pW]
      have e1 : nI (pk i) = 1 ↔ pk i = 1 := nI_eq (b := 1) (by omega) (by omega)
      have e2 : nI (pk i) = 2 ↔ pk i = 2 := nI_eq (b := 2) (by omega) (by omega)
      have el : iA R (b + 4) (i * 4 + 3) + iA R (b + 4) (i * 4 + 2) - 1 < iF R b 8 ↔ ¬ td < w + a := by
        rw [pA, pW, nI_add, ht.1]
        by_cases q : w + a = 0
        · rw [q]
          have : nI 0 - 1 < nI td := Int32.lt_of_lt_of_le (show nI 0 - 1 < 0 by decide) (nI_pos' (by omega))
          simp [this]
        · obtain ⟨r, hr⟩ : ∃ r, w + a = r + 1 := ⟨w + a - 1, by omega⟩
          rw [hr, nI_pm, nI_ltI (by omega) (by omega)]
          omega
      have em : nI (w + a) ≤ nI td ↔ ¬ td < w + a := by rw [nI_leI (by omega) (by omega)]; omega
      have ihn := fun s h01 w4 w5 => ih (i + 1) s w4 w5 h01 (by omega)
      have ih0 := ihn 0 (Or.inl rfl)
      have ih1 := ihn 1 (Or.inr rfl)
      simp only [if_true] at ih0
      simp only [one_nz, if_false] at ih1
      simp only [r_il3 c_M_hasReport_4, r_al0 c_M_hasReport_5, r_gfSr c_M_hasReport_6 o10 rfl, r_ci c_M_hasReport_9, r_ial c_M_hasReport_11, r_icge c_M_hasReport_12, ↓reduceIte, hs_h, Option.bind_some, mfix_i, mfix_r, mfix_n, mfix_a, Option.toList_some, Option.toList_none, List.cons_append, List.nil_append, List.singleton_append, mn8 hE, h8.1, h1, if_false]
      rw [hrF]
      have st : ∀ (sv : Int32), sv = (if (pk i = 1 ∨ pk i = 2) ∧ td < w + a then 1 else 0) → mres cT 194 d 15 [.ref 93, .int c, .int s, .int (nI i), w4, w5] [] (hs E S) = mres cT 194 d 81 [.ref 93, .int c, .int s, .int (nI i), .int (nI (474 + 4 * i)), .int sv] [] (hs E S) := by
        intro sv hsv
        by_cases c3 : td < w + a
        · have c3' : ¬ nI (w + a) ≤ nI td := fun h => (em.mp h) c3
          by_cases c1 : pk i = 1
          · rw [if_pos ⟨Or.inl c1, c3⟩] at hsv
            simp only [r_ci c_M_hasReport_15, r_ci c_M_hasReport_18, r_il3 c_M_hasReport_19, r_imul c_M_hasReport_20, r_iadd c_M_hasReport_21, r_is4 c_M_hasReport_22, r_al0 c_M_hasReport_24, r_gfSr c_M_hasReport_25 o10 rfl, r_il4 c_M_hasReport_28, r_ial c_M_hasReport_30, r_ci c_M_hasReport_31, r_iceq c_M_hasReport_32, r_al0 c_M_hasReport_35, r_gfSr c_M_hasReport_36 o10 rfl, r_il4 c_M_hasReport_39, r_ial c_M_hasReport_41, r_ci c_M_hasReport_42, r_icne c_M_hasReport_43, r_al0 c_M_hasReport_46, r_gfSr c_M_hasReport_47 o10 rfl, r_ci c_M_hasReport_50, r_ial c_M_hasReport_51, r_al0 c_M_hasReport_52, r_gfSr c_M_hasReport_53 o10 rfl, r_il4 c_M_hasReport_56, r_ci c_M_hasReport_58, r_iadd c_M_hasReport_59, r_ial c_M_hasReport_60, r_al0 c_M_hasReport_61, r_gfSr c_M_hasReport_62 o10 rfl, r_il4 c_M_hasReport_65, r_ci c_M_hasReport_67, r_iadd c_M_hasReport_68, r_ial c_M_hasReport_69, r_iadd c_M_hasReport_70, r_icge c_M_hasReport_71, r_ci c_M_hasReport_74, r_goto c_M_hasReport_75, r_ci c_M_hasReport_78, r_is5 c_M_hasReport_79, ↓reduceIte, hs_h, Option.bind_some, mfix_i, mfix_r, mfix_n, mfix_a, Option.toList_some, Option.toList_none, List.cons_append, List.nil_append, List.singleton_append, km2, km3, km4, km6, km104, km24, ka20, ka92, ka164, ka254, ka314, ka474, ka634, ka670, ka850, ka890, ka914, ka12, kr2, kr3, kr4, kr5, nI_1, nI_add, mia_94 hE (show 474 + 4 * i < 2578 by omega), mia_94 hE (show 474 + 4 * i + 2 < 2578 by omega), mia_94 hE (show 474 + 4 * i + 3 < 2578 by omega), mn0 hE, f0, f2, f3, e1.mpr c1, ht.2.2, nI_add, c3', if_true, if_false, hsv]
          · by_cases c2 : pk i = 2
            · have c1' : ¬ nI (pk i) = 1 := fun h => c1 (e1.mp h)
              rw [if_pos ⟨Or.inr c2, c3⟩] at hsv
              simp only [r_ci c_M_hasReport_15, r_ci c_M_hasReport_18, r_il3 c_M_hasReport_19, r_imul c_M_hasReport_20, r_iadd c_M_hasReport_21, r_is4 c_M_hasReport_22, r_al0 c_M_hasReport_24, r_gfSr c_M_hasReport_25 o10 rfl, r_il4 c_M_hasReport_28, r_ial c_M_hasReport_30, r_ci c_M_hasReport_31, r_iceq c_M_hasReport_32, r_al0 c_M_hasReport_35, r_gfSr c_M_hasReport_36 o10 rfl, r_il4 c_M_hasReport_39, r_ial c_M_hasReport_41, r_ci c_M_hasReport_42, r_icne c_M_hasReport_43, r_al0 c_M_hasReport_46, r_gfSr c_M_hasReport_47 o10 rfl, r_ci c_M_hasReport_50, r_ial c_M_hasReport_51, r_al0 c_M_hasReport_52, r_gfSr c_M_hasReport_53 o10 rfl, r_il4 c_M_hasReport_56, r_ci c_M_hasReport_58, r_iadd c_M_hasReport_59, r_ial c_M_hasReport_60, r_al0 c_M_hasReport_61, r_gfSr c_M_hasReport_62 o10 rfl, r_il4 c_M_hasReport_65, r_ci c_M_hasReport_67, r_iadd c_M_hasReport_68, r_ial c_M_hasReport_69, r_iadd c_M_hasReport_70, r_icge c_M_hasReport_71, r_ci c_M_hasReport_74, r_goto c_M_hasReport_75, r_ci c_M_hasReport_78, r_is5 c_M_hasReport_79, ↓reduceIte, hs_h, Option.bind_some, mfix_i, mfix_r, mfix_n, mfix_a, Option.toList_some, Option.toList_none, List.cons_append, List.nil_append, List.singleton_append, km2, km3, km4, km6, km104, km24, ka20, ka92, ka164, ka254, ka314, ka474, ka634, ka670, ka850, ka890, ka914, ka12, kr2, kr3, kr4, kr5, nI_1, nI_add, mia_94 hE (show 474 + 4 * i < 2578 by omega), mia_94 hE (show 474 + 4 * i + 2 < 2578 by omega), mia_94 hE (show 474 + 4 * i + 3 < 2578 by omega), mn0 hE, f0, f2, f3, eq_true (e2.mpr c2), eq_false c1', ht.2.2, nI_add, c3', if_true, if_false, hsv]
            · have c1' : ¬ nI (pk i) = 1 := fun h => c1 (e1.mp h)
              have c2' : ¬ nI (pk i) = 2 := fun h => c2 (e2.mp h)
              rw [if_neg (fun h => h.1.elim c1 c2)] at hsv
              simp only [r_ci c_M_hasReport_15, r_ci c_M_hasReport_18, r_il3 c_M_hasReport_19, r_imul c_M_hasReport_20, r_iadd c_M_hasReport_21, r_is4 c_M_hasReport_22, r_al0 c_M_hasReport_24, r_gfSr c_M_hasReport_25 o10 rfl, r_il4 c_M_hasReport_28, r_ial c_M_hasReport_30, r_ci c_M_hasReport_31, r_iceq c_M_hasReport_32, r_al0 c_M_hasReport_35, r_gfSr c_M_hasReport_36 o10 rfl, r_il4 c_M_hasReport_39, r_ial c_M_hasReport_41, r_ci c_M_hasReport_42, r_icne c_M_hasReport_43, r_al0 c_M_hasReport_46, r_gfSr c_M_hasReport_47 o10 rfl, r_ci c_M_hasReport_50, r_ial c_M_hasReport_51, r_al0 c_M_hasReport_52, r_gfSr c_M_hasReport_53 o10 rfl, r_il4 c_M_hasReport_56, r_ci c_M_hasReport_58, r_iadd c_M_hasReport_59, r_ial c_M_hasReport_60, r_al0 c_M_hasReport_61, r_gfSr c_M_hasReport_62 o10 rfl, r_il4 c_M_hasReport_65, r_ci c_M_hasReport_67, r_iadd c_M_hasReport_68, r_ial c_M_hasReport_69, r_iadd c_M_hasReport_70, r_icge c_M_hasReport_71, r_ci c_M_hasReport_74, r_goto c_M_hasReport_75, r_ci c_M_hasReport_78, r_is5 c_M_hasReport_79, ↓reduceIte, hs_h, Option.bind_some, mfix_i, mfix_r, mfix_n, mfix_a, Option.toList_some, Option.toList_none, List.cons_append, List.nil_append, List.singleton_append, km2, km3, km4, km6, km104, km24, ka20, ka92, ka164, ka254, ka314, ka474, ka634, ka670, ka850, ka890, ka914, ka12, kr2, kr3, kr4, kr5, nI_1, nI_add, mia_94 hE (show 474 + 4 * i < 2578 by omega), f0, eq_false c2', eq_false c1', if_false, hsv]
        · have c3' : nI (w + a) ≤ nI td := em.mpr c3
          rw [if_neg (fun h => c3 h.2)] at hsv
          by_cases c1 : pk i = 1
          · simp only [r_ci c_M_hasReport_15, r_ci c_M_hasReport_18, r_il3 c_M_hasReport_19, r_imul c_M_hasReport_20, r_iadd c_M_hasReport_21, r_is4 c_M_hasReport_22, r_al0 c_M_hasReport_24, r_gfSr c_M_hasReport_25 o10 rfl, r_il4 c_M_hasReport_28, r_ial c_M_hasReport_30, r_ci c_M_hasReport_31, r_iceq c_M_hasReport_32, r_al0 c_M_hasReport_35, r_gfSr c_M_hasReport_36 o10 rfl, r_il4 c_M_hasReport_39, r_ial c_M_hasReport_41, r_ci c_M_hasReport_42, r_icne c_M_hasReport_43, r_al0 c_M_hasReport_46, r_gfSr c_M_hasReport_47 o10 rfl, r_ci c_M_hasReport_50, r_ial c_M_hasReport_51, r_al0 c_M_hasReport_52, r_gfSr c_M_hasReport_53 o10 rfl, r_il4 c_M_hasReport_56, r_ci c_M_hasReport_58, r_iadd c_M_hasReport_59, r_ial c_M_hasReport_60, r_al0 c_M_hasReport_61, r_gfSr c_M_hasReport_62 o10 rfl, r_il4 c_M_hasReport_65, r_ci c_M_hasReport_67, r_iadd c_M_hasReport_68, r_ial c_M_hasReport_69, r_iadd c_M_hasReport_70, r_icge c_M_hasReport_71, r_ci c_M_hasReport_74, r_goto c_M_hasReport_75, r_ci c_M_hasReport_78, r_is5 c_M_hasReport_79, ↓reduceIte, hs_h, Option.bind_some, mfix_i, mfix_r, mfix_n, mfix_a, Option.toList_some, Option.toList_none, List.cons_append, List.nil_append, List.singleton_append, km2, km3, km4, km6, km104, km24, ka20, ka92, ka164, ka254, ka314, ka474, ka634, ka670, ka850, ka890, ka914, ka12, kr2, kr3, kr4, kr5, nI_1, nI_add, mia_94 hE (show 474 + 4 * i < 2578 by omega), mia_94 hE (show 474 + 4 * i + 2 < 2578 by omega), mia_94 hE (show 474 + 4 * i + 3 < 2578 by omega), mn0 hE, f0, f2, f3, e1.mpr c1, ht.2.2, nI_add, c3', if_true, hsv]
          · by_cases c2 : pk i = 2
            · have c1' : ¬ nI (pk i) = 1 := fun h => c1 (e1.mp h)
              simp only [r_ci c_M_hasReport_15, r_ci c_M_hasReport_18, r_il3 c_M_hasReport_19, r_imul c_M_hasReport_20, r_iadd c_M_hasReport_21, r_is4 c_M_hasReport_22, r_al0 c_M_hasReport_24, r_gfSr c_M_hasReport_25 o10 rfl, r_il4 c_M_hasReport_28, r_ial c_M_hasReport_30, r_ci c_M_hasReport_31, r_iceq c_M_hasReport_32, r_al0 c_M_hasReport_35, r_gfSr c_M_hasReport_36 o10 rfl, r_il4 c_M_hasReport_39, r_ial c_M_hasReport_41, r_ci c_M_hasReport_42, r_icne c_M_hasReport_43, r_al0 c_M_hasReport_46, r_gfSr c_M_hasReport_47 o10 rfl, r_ci c_M_hasReport_50, r_ial c_M_hasReport_51, r_al0 c_M_hasReport_52, r_gfSr c_M_hasReport_53 o10 rfl, r_il4 c_M_hasReport_56, r_ci c_M_hasReport_58, r_iadd c_M_hasReport_59, r_ial c_M_hasReport_60, r_al0 c_M_hasReport_61, r_gfSr c_M_hasReport_62 o10 rfl, r_il4 c_M_hasReport_65, r_ci c_M_hasReport_67, r_iadd c_M_hasReport_68, r_ial c_M_hasReport_69, r_iadd c_M_hasReport_70, r_icge c_M_hasReport_71, r_ci c_M_hasReport_74, r_goto c_M_hasReport_75, r_ci c_M_hasReport_78, r_is5 c_M_hasReport_79, ↓reduceIte, hs_h, Option.bind_some, mfix_i, mfix_r, mfix_n, mfix_a, Option.toList_some, Option.toList_none, List.cons_append, List.nil_append, List.singleton_append, km2, km3, km4, km6, km104, km24, ka20, ka92, ka164, ka254, ka314, ka474, ka634, ka670, ka850, ka890, ka914, ka12, kr2, kr3, kr4, kr5, nI_1, nI_add, mia_94 hE (show 474 + 4 * i < 2578 by omega), mia_94 hE (show 474 + 4 * i + 2 < 2578 by omega), mia_94 hE (show 474 + 4 * i + 3 < 2578 by omega), mn0 hE, f0, f2, f3, eq_true (e2.mpr c2), eq_false c1', ht.2.2, nI_add, c3', if_true, if_false, hsv]
            · have c1' : ¬ nI (pk i) = 1 := fun h => c1 (e1.mp h)
              have c2' : ¬ nI (pk i) = 2 := fun h => c2 (e2.mp h)
              simp only [r_ci c_M_hasReport_15, r_ci c_M_hasReport_18, r_il3 c_M_hasReport_19, r_imul c_M_hasReport_20, r_iadd c_M_hasReport_21, r_is4 c_M_hasReport_22, r_al0 c_M_hasReport_24, r_gfSr c_M_hasReport_25 o10 rfl, r_il4 c_M_hasReport_28, r_ial c_M_hasReport_30, r_ci c_M_hasReport_31, r_iceq c_M_hasReport_32, r_al0 c_M_hasReport_35, r_gfSr c_M_hasReport_36 o10 rfl, r_il4 c_M_hasReport_39, r_ial c_M_hasReport_41, r_ci c_M_hasReport_42, r_icne c_M_hasReport_43, r_al0 c_M_hasReport_46, r_gfSr c_M_hasReport_47 o10 rfl, r_ci c_M_hasReport_50, r_ial c_M_hasReport_51, r_al0 c_M_hasReport_52, r_gfSr c_M_hasReport_53 o10 rfl, r_il4 c_M_hasReport_56, r_ci c_M_hasReport_58, r_iadd c_M_hasReport_59, r_ial c_M_hasReport_60, r_al0 c_M_hasReport_61, r_gfSr c_M_hasReport_62 o10 rfl, r_il4 c_M_hasReport_65, r_ci c_M_hasReport_67, r_iadd c_M_hasReport_68, r_ial c_M_hasReport_69, r_iadd c_M_hasReport_70, r_icge c_M_hasReport_71, r_ci c_M_hasReport_74, r_goto c_M_hasReport_75, r_ci c_M_hasReport_78, r_is5 c_M_hasReport_79, ↓reduceIte, hs_h, Option.bind_some, mfix_i, mfix_r, mfix_n, mfix_a, Option.toList_some, Option.toList_none, List.cons_append, List.nil_append, List.singleton_append, km2, km3, km4, km6, km104, km24, ka20, ka92, ka164, ka254, ka314, ka474, ka634, ka670, ka850, ka890, ka914, ka12, kr2, kr3, kr4, kr5, nI_1, nI_add, mia_94 hE (show 474 + 4 * i < 2578 by omega), f0, eq_false c2', eq_false c1', if_false, hsv]
      rw [st _ rfl]
      have u1 := ud1 (pk i) q5
      rcases h01 with rfl | rfl
      · rw [if_pos rfl]
        by_cases c0 : pk i = 1 ∨ pk i = 2
        · rw [if_neg (fun h => (u1.mp h) c0)]
          by_cases c4 : iA R (b + 4) (i * 4 + 1) = c
          · rw [if_pos c4]
            by_cases c3 : td < w + a
            · rw [if_neg (fun h => (el.mp h) c3), if_pos ⟨c0, c3⟩]
              simp only [r_il2 c_M_hasReport_81, r_ifne c_M_hasReport_82, r_il5 c_M_hasReport_85, r_ifeq c_M_hasReport_87, r_al0 c_M_hasReport_90, r_gfSr c_M_hasReport_91 o10 rfl, r_il4 c_M_hasReport_94, r_ci c_M_hasReport_96, r_iadd c_M_hasReport_97, r_ial c_M_hasReport_98, r_il1 c_M_hasReport_99, r_icne c_M_hasReport_100, r_ci c_M_hasReport_103, r_goto c_M_hasReport_104, r_ci c_M_hasReport_107, r_is2 c_M_hasReport_108, r_inc3 c_M_hasReport_109, r_goto c_M_hasReport_112, ↓reduceIte, hs_h, Option.bind_some, mfix_i, mfix_r, mfix_n, mfix_a, Option.toList_some, Option.toList_none, List.cons_append, List.nil_append, List.singleton_append, km2, km3, km4, km6, km104, km24, ka20, ka92, ka164, ka254, ka314, ka474, ka634, ka670, ka850, ka890, ka914, ka12, kr2, kr3, kr4, kr5, nI_1, nI_add, mia_94 hE (show 474 + 4 * i + 1 < 2578 by omega), f1, c4, one_nz, if_true, if_false, ih1]
            · rw [if_pos (el.mpr c3), if_neg (fun h => c3 h.2)]
              simp only [r_il2 c_M_hasReport_81, r_ifne c_M_hasReport_82, r_il5 c_M_hasReport_85, r_ifeq c_M_hasReport_87, r_al0 c_M_hasReport_90, r_gfSr c_M_hasReport_91 o10 rfl, r_il4 c_M_hasReport_94, r_ci c_M_hasReport_96, r_iadd c_M_hasReport_97, r_ial c_M_hasReport_98, r_il1 c_M_hasReport_99, r_icne c_M_hasReport_100, r_ci c_M_hasReport_103, r_goto c_M_hasReport_104, r_ci c_M_hasReport_107, r_is2 c_M_hasReport_108, r_inc3 c_M_hasReport_109, r_goto c_M_hasReport_112, ↓reduceIte, hs_h, Option.bind_some, mfix_i, mfix_r, mfix_n, mfix_a, Option.toList_some, Option.toList_none, List.cons_append, List.nil_append, List.singleton_append, km2, km3, km4, km6, km104, km24, ka20, ka92, ka164, ka254, ka314, ka474, ka634, ka670, ka850, ka890, ka914, ka12, kr2, kr3, kr4, kr5, nI_1, nI_add, if_true, ih0]
          · rw [if_neg c4]
            by_cases c3 : td < w + a
            · rw [if_pos ⟨c0, c3⟩]
              simp only [r_il2 c_M_hasReport_81, r_ifne c_M_hasReport_82, r_il5 c_M_hasReport_85, r_ifeq c_M_hasReport_87, r_al0 c_M_hasReport_90, r_gfSr c_M_hasReport_91 o10 rfl, r_il4 c_M_hasReport_94, r_ci c_M_hasReport_96, r_iadd c_M_hasReport_97, r_ial c_M_hasReport_98, r_il1 c_M_hasReport_99, r_icne c_M_hasReport_100, r_ci c_M_hasReport_103, r_goto c_M_hasReport_104, r_ci c_M_hasReport_107, r_is2 c_M_hasReport_108, r_inc3 c_M_hasReport_109, r_goto c_M_hasReport_112, ↓reduceIte, hs_h, Option.bind_some, mfix_i, mfix_r, mfix_n, mfix_a, Option.toList_some, Option.toList_none, List.cons_append, List.nil_append, List.singleton_append, km2, km3, km4, km6, km104, km24, ka20, ka92, ka164, ka254, ka314, ka474, ka634, ka670, ka850, ka890, ka914, ka12, kr2, kr3, kr4, kr5, nI_1, nI_add, mia_94 hE (show 474 + 4 * i + 1 < 2578 by omega), f1, c4, one_nz, if_true, if_false, ih0]
            · rw [if_neg (fun h => c3 h.2)]
              simp only [r_il2 c_M_hasReport_81, r_ifne c_M_hasReport_82, r_il5 c_M_hasReport_85, r_ifeq c_M_hasReport_87, r_al0 c_M_hasReport_90, r_gfSr c_M_hasReport_91 o10 rfl, r_il4 c_M_hasReport_94, r_ci c_M_hasReport_96, r_iadd c_M_hasReport_97, r_ial c_M_hasReport_98, r_il1 c_M_hasReport_99, r_icne c_M_hasReport_100, r_ci c_M_hasReport_103, r_goto c_M_hasReport_104, r_ci c_M_hasReport_107, r_is2 c_M_hasReport_108, r_inc3 c_M_hasReport_109, r_goto c_M_hasReport_112, ↓reduceIte, hs_h, Option.bind_some, mfix_i, mfix_r, mfix_n, mfix_a, Option.toList_some, Option.toList_none, List.cons_append, List.nil_append, List.singleton_append, km2, km3, km4, km6, km104, km24, ka20, ka92, ka164, ka254, ka314, ka474, ka634, ka670, ka850, ka890, ka914, ka12, kr2, kr3, kr4, kr5, nI_1, nI_add, if_true, ih0]
        · rw [if_pos (u1.mpr c0), if_neg (fun h => c0 h.1)]
          simp only [r_il2 c_M_hasReport_81, r_ifne c_M_hasReport_82, r_il5 c_M_hasReport_85, r_ifeq c_M_hasReport_87, r_al0 c_M_hasReport_90, r_gfSr c_M_hasReport_91 o10 rfl, r_il4 c_M_hasReport_94, r_ci c_M_hasReport_96, r_iadd c_M_hasReport_97, r_ial c_M_hasReport_98, r_il1 c_M_hasReport_99, r_icne c_M_hasReport_100, r_ci c_M_hasReport_103, r_goto c_M_hasReport_104, r_ci c_M_hasReport_107, r_is2 c_M_hasReport_108, r_inc3 c_M_hasReport_109, r_goto c_M_hasReport_112, ↓reduceIte, hs_h, Option.bind_some, mfix_i, mfix_r, mfix_n, mfix_a, Option.toList_some, Option.toList_none, List.cons_append, List.nil_append, List.singleton_append, km2, km3, km4, km6, km104, km24, ka20, ka92, ka164, ka254, ka314, ka474, ka634, ka670, ka850, ka890, ka914, ka12, kr2, kr3, kr4, kr5, nI_1, nI_add, if_true, ih0]
      · simp only [r_il2 c_M_hasReport_81, r_ifne c_M_hasReport_82, r_il5 c_M_hasReport_85, r_ifeq c_M_hasReport_87, r_al0 c_M_hasReport_90, r_gfSr c_M_hasReport_91 o10 rfl, r_il4 c_M_hasReport_94, r_ci c_M_hasReport_96, r_iadd c_M_hasReport_97, r_ial c_M_hasReport_98, r_il1 c_M_hasReport_99, r_icne c_M_hasReport_100, r_ci c_M_hasReport_103, r_goto c_M_hasReport_104, r_ci c_M_hasReport_107, r_is2 c_M_hasReport_108, r_inc3 c_M_hasReport_109, r_goto c_M_hasReport_112, ↓reduceIte, hs_h, Option.bind_some, mfix_i, mfix_r, mfix_n, mfix_a, Option.toList_some, Option.toList_none, List.cons_append, List.nil_append, List.singleton_append, km2, km3, km4, km6, km104, km24, ka20, ka92, ka164, ka254, ka314, ka474, ka634, ka670, ka850, ka890, ka914, ka12, kr2, kr3, kr4, kr5, nI_1, nI_add, one_nz, if_false, ih1]
  have lq := fun w4 w5 => lp (z 3) 0 0 w4 w5 (Or.inl rfl) (by omega)
  rw [nI_0] at lq
  simp only [if_true] at lq
  simp only [ment, mfl, List.length, List.replicate, List.cons_append, List.nil_append, Nat.reduceAdd, Nat.reduceSub]
  simp only [r_ci c_M_hasReport_0, r_is2 c_M_hasReport_1, r_ci c_M_hasReport_2, r_is3 c_M_hasReport_3, ↓reduceIte, hs_h, Option.bind_some, mfix_i, mfix_r, mfix_n, mfix_a, Option.toList_some, Option.toList_none, List.cons_append, List.nil_append, List.singleton_append, lq]
end MDUE
