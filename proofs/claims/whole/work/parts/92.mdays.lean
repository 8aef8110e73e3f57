/-! the model: a day goes -/
section MDAYS
variable {E : EE} {R R0 S S1 U : SS} {b d k n i j td q B s p : Nat} {z t hc pk : Nat → Nat} {c v l : Int32} {f f' A A' : Nat → Int32} {Q : Nat → Prop}
theorem Rel_void (hb : bkb b) (h : Rel E R b z t hc pk td B f) (hi : i < z 7) : Rel E (sA R (b + 8) (upd (iA R (b + 8)) (i * 5 + 2) 3)) b z t hc pk td B (upd f (670 + 6 * i + 2) 3) := by
  obtain ⟨n1, n14, n16, n18, n20, n22, n3, n5, n7⟩ := rl_okm h
  have bl := bkb_lt hb
  have ht := rl_tod h
  have htx := rl_tx h
  have eA : ∀ c, c ≠ 8 → iA (sA R (b + 8) (upd (iA R (b + 8)) (i * 5 + 2) 3)) (b + c) = iA R (b + c) := fun c h1 => by rw [iA_sA_ne (by omega)]
  have e8 : iA (sA R (b + 8) (upd (iA R (b + 8)) (i * 5 + 2) 3)) (b + 8) = upd (iA R (b + 8)) (i * 5 + 2) 3 := iA_sA
  have eF : ∀ c, iF (sA R (b + 8) (upd (iA R (b + 8)) (i * 5 + 2) 3)) b c = iF R b c := fun c => iF_sA
  have ff : ∀ x, x ≠ 670 + 6 * i + 2 → upd f (670 + 6 * i + 2) 3 x = f x := fun x h1 => pk_un h1
  have fr : ∀ lo hi, (hi ≤ 670 ∨ 850 ≤ lo) → ∀ x, lo ≤ x → x < hi → upd f (670 + 6 * i + 2) 3 x = f x := fun lo hi hh x h1 h2 => ff x (by omega)
  have hO : okH E (sA R (b + 8) (upd (iA R (b + 8)) (i * 5 + 2) 3)) b z t hc pk := ⟨okB_sA (by omega) (rl_okh h).1, hcs_8 (hcs_up (by omega) (by omega) (rl_okh h).2.1), pks_sA (by omega) (rl_okh h).2.2⟩
  refine ⟨hO, cg_okm (fr 2 11 (by omega)) (rl_okm h), ?_, ?_, ?_, ?_, ?_, ?_, ?_, ?_, ?_, ?_, ?_, ?_, ?_, ?_, ?_, ?_, ?_, ?_⟩
  · rw [eF, ff 0 (by omega)]; exact ht
  · rw [eF, ff 1 (by omega)]; exact rl_see h
  · rw [eF, eF]; exact cg_dou (ff 11 (by omega)) (fr 850 890 (by omega)) (rl_dou h)
  · rw [eA 12 (by omega)]; exact cg_12 (fr 13 17 (by omega)) (rl_put h)
  · rw [eA 2 (by omega)]; exact cg_20 n1.2 (fr 20 92 (by omega)) (rl_cas h)
  · rw [eA 15 (by omega)]; exact cg_92 n14.2 (fr 92 164 (by omega)) (rl_sen h)
  · rw [eA 17 (by omega)]; exact cg_sps n16.2 (fr 164 254 (by omega)) (rl_sps h)
  · rw [eA 17 (by omega)]; exact rl_spg h
  · rw [eA 2 (by omega), eA 17 (by omega)]; exact cg_lat n1.2 (fr 20 92 (by omega)) (rl_lat h)
  · rw [eA 19 (by omega)]; exact ⟨cg_gap n18.2 (fr 254 314 (by omega)) (rl_gap h).1, (rl_gap h).2⟩
  · rw [eA 21 (by omega)]; exact cg_314 n20.2 (fr 314 474 (by omega)) (rl_cre h)
  · rw [eA 4 (by omega)]; exact cg_474 n3.2 (fr 474 634 (by omega)) (rl_pap h)
  · rw [eA 6 (by omega)]; exact ⟨(rl_mem h).1, cg_634 n5.2 (fr 634 670 (by omega)) (rl_mem h).2⟩
  · rw [e8]
    intro j hj c hc
    by_cases a : j = i ∧ c = 2
    · obtain ⟨rfl, rfl⟩ := a
      rw [pk_us, pk_us]
    · rw [ff _ (by omega), pk_un (by omega)]
      exact rl_hea h j hj c hc
  · rw [e8]
    refine ⟨(rl_unq h).1, fun j k hj hk h1 h2 h3 => ?_⟩
    by_cases a : j = i
    · subst a; rw [pk_us] at h1; exact absurd h1 (by decide)
    · by_cases a2 : k = i
      · subst a2; rw [pk_us] at h2; exact absurd h2 (by decide)
      · rw [pk_un (by omega)] at h1 h2
        exact (rl_unq h).2 j k hj hk h1 h2 h3
  · rw [e8, eA 2 (by omega)]
    obtain ⟨w1, w2⟩ := rl_was h
    refine ⟨fun j hj hz => ?_, fun p hp => ?_⟩
    · by_cases a : j = i
      · subst a; rw [pk_us] at hz; exact absurd hz (by decide)
      · rw [pk_un (by omega)] at hz
        rw [ff _ (by omega)]
        exact w1 j hj hz
    · rw [← w2 p hp]
      refine rfor_congr _ 0 0 fun j s _ hj => ?_
      rw [hoM, hoM, ff _ (by omega), ff _ (by omega)]
  · rw [eA 10 (by omega)]; exact cg_890 (fr 890 914 (by omega)) (rl_tab h)
  · refine cg_txt (fr 914 2578 (by omega)) htx.1 htx.2.1 htx.2.2 (fun j hj => ?_) (rl_txt h)
    have := htx.2.2 j hj
    refine ⟨?_, ?_⟩
    · rw [sA, va_up, if_neg (by omega)]
    · rw [sA, va_up, if_neg (by omega)]
theorem Rel_next (hb : bkb b) (h : Rel E R b z t hc pk td B f) (hd : td < 3030) : Rel E (sF R b 8 (nI (td + 1))) b z t hc pk (td + 1) B (upd f 0 (nI (td + 1))) := by
  obtain ⟨n1, n14, n16, n18, n20, n22, n3, n5, n7⟩ := rl_okm h
  have bl := bkb_lt hb
  have htx := rl_tx h
  have eA : ∀ c, iA (sF R b 8 (nI (td + 1))) (b + c) = iA R (b + c) := fun c => iA_sF
  have eF : ∀ c, c ≠ 8 → iF (sF R b 8 (nI (td + 1))) b c = iF R b c := fun c hc => iF_sF_ne (Or.inr hc)
  have ff : ∀ x, x ≠ 0 → upd f 0 (nI (td + 1)) x = f x := fun x h1 => pk_un h1
  have fr : ∀ lo hi, 1 ≤ lo → ∀ x, lo ≤ x → x < hi → upd f 0 (nI (td + 1)) x = f x := fun lo hi hh x h1 h2 => ff x (by omega)
  refine ⟨okH_sF hb (rl_okh h), cg_okm (fr 2 11 (by omega)) (rl_okm h), ?_, ?_, ?_, ?_, ?_, ?_, ?_, ?_, ?_, ?_, ?_, ?_, ?_, ?_, ?_, ?_, ?_, ?_⟩
  · exact ⟨iF_sF, by omega, pk_us⟩
  · rw [eF 9 (by omega), ff 1 (by omega)]; exact rl_see h
  · rw [eF 10 (by omega), eF 11 (by omega)]; exact cg_dou (ff 11 (by omega)) (fr 850 890 (by omega)) (rl_dou h)
  · rw [eA 12]; exact cg_12 (fr 13 17 (by omega)) (rl_put h)
  · rw [eA 2]; exact cg_20 n1.2 (fr 20 92 (by omega)) (rl_cas h)
  · rw [eA 15]; exact cg_92 n14.2 (fr 92 164 (by omega)) (rl_sen h)
  · rw [eA 17]; exact cg_sps n16.2 (fr 164 254 (by omega)) (rl_sps h)
  · rw [eA 17]
    obtain ⟨g1, g2, g3⟩ := rl_spg h
    refine ⟨g1, fun i hi => ?_, g3⟩
    obtain ⟨q1, q2, q3⟩ := g2 i hi
    exact ⟨q1, by omega, q3.imp (fun h => by omega) id⟩
  · rw [eA 2, eA 17]; exact cg_lat n1.2 (fr 20 92 (by omega)) (rl_lat h)
  · rw [eA 19]; exact ⟨cg_gap n18.2 (fr 254 314 (by omega)) (rl_gap h).1, (rl_gap h).2⟩
  · rw [eA 21]
    have hc := cg_314 n20.2 (fr 314 474 (by omega)) (rl_cre h)
    intro i hi
    obtain ⟨q0, q1, q2, q3, q4, ⟨w, q5, q6⟩, q7⟩ := hc i hi
    exact ⟨q0, q1, q2, q3, q4, ⟨w, by omega, q6⟩, q7.imp id (fun ⟨w, a, b⟩ => ⟨w, by omega, b⟩)⟩
  · rw [eA 4]; exact cg_474 n3.2 (fr 474 634 (by omega)) (rl_pap h)
  · rw [eA 6]; exact ⟨(rl_mem h).1, cg_634 n5.2 (fr 634 670 (by omega)) (rl_mem h).2⟩
  · rw [eA 8]; exact cg_670 n7.2 (fr 670 850 (by omega)) (rl_hea h)
  · rw [eA 8]; exact rl_unq h
  · rw [eA 2, eA 8]; exact cg_was n7.2 (fr 670 850 (by omega)) (rl_was h)
  · rw [eA 10]; exact cg_890 (fr 890 914 (by omega)) (rl_tab h)
  · refine cg_txt (fr 914 2578 (by omega)) htx.1 htx.2.1 htx.2.2 (fun j hj => ?_) (rl_txt h)
    have := htx.2.2 j hj
    refine ⟨?_, ?_⟩
    · rw [sF, va_up, if_neg (by omega)]
    · rw [sF, va_up, if_neg (by omega)]
theorem dayI_vl (h : dayI R0 b z hc c (fun _ => False) R) (hc1 : btI c i = true) : dayI R0 b z hc c (fun _ => False) (sA R (b + 8) (upd (iA R (b + 8)) (i * 5 + 2) 3)) := by
  have e2 : iA (sA R (b + 8) (upd (iA R (b + 8)) (i * 5 + 2) 3)) (b + 2) = iA R (b + 2) := iA_sA_ne (by omega)
  refine ⟨fun j hj h1 => ?_, fun k hk => by rw [e2]; exact h.2.1 k hk, fun j hj h1 h2 => ?_⟩
  · have : j ≠ i := fun e => by
      subst e
      rcases h1 with h1 | h1
      · rw [hc1] at h1; cases h1
      · exact h1
    rw [iA_sA, pk_un (by omega), pk_un (by omega)]
    exact h.1 j hj h1
  · rw [e2]
    rw [iA_sA] at h2 ⊢
    by_cases a : j = i
    · subst a; rw [pk_us] at h2; exact absurd h2 (by decide)
    · rw [pk_un (by omega)] at h2 ⊢
      exact h.2.2 j hj h1 h2
theorem M_day_R (hE : okE E) (hb : bkb b) (h : Rel E R b z t hc pk td B (iA S 94)) (hd : td < 3030) (hB : B + 18 ≤ 100000) : ∃ S2, eqN S S2 ∧ Rel E (pdS b z t pk hc R) b z t hc pk (td + 1) (B + 18) (iA S2 94) ∧ ∀ d, mres cT 225 d 0 (ment 2 [.ref 93]) [] (hs E S) = some (none, hs E S2) := by
  have o10 := o_M hE
  have m10 := m_M hE
  have h0 := (rl_tod h).1
  have n7 := (rl_okm h).2.2.2.2.2.2.2.2.2
  have hc0 : ∀ j, j < z 7 → btI (tdS R b (z 7)) j = decide (iA R (b + 8) (j * 5 + 1) = nI td ∧ iA R (b + 8) (j * 5 + 2) = 0) := fun j hj => by
    rw [tdS, td_bits n7 (z 7) (Nat.le_refl _) j (by omega), h0, decide_eq_decide]
    exact ⟨fun q => q.2, fun q => ⟨hj, q⟩⟩
  have hD0 : dayI R b z hc (tdS R b (z 7)) (npQ R b hc 0) R := ⟨fun j _ _ => ⟨rfl, rfl⟩, fun k _ => rfl, fun j hj h1 _ => Or.inl (by
    rw [hc0 j hj] at h1
    rw [h0]
    exact (of_decide_eq_true h1).1)⟩
  have lp : ∀ m p V S, p + m = 6 → Rel E V b z t hc pk td (B + 3 * p) (iA S 94) → dayI R b z hc (tdS R b (z 7)) (npQ R b hc p) V → ∃ S2, eqN S S2 ∧ Rel E (rfor (pdG b z t pk hc (tdS R b (z 7))) p m V) b z t hc pk td (B + 18) (iA S2 94) ∧ dayI R b z hc (tdS R b (z 7)) (fun _ => False) (rfor (pdG b z t pk hc (tdS R b (z 7))) p m V) ∧ ∀ d, mres cT 225 d 2 [.ref 93, .int (nI p)] [] (hs E S) = mres cT 225 d 19 [.ref 93, .int (nI 6)] [] (hs E S2) := by
    intro m
    induction m with
    | zero =>
      intro p V S hp hV hD
      have h1 : (6 : Int32) ≤ nI p := nI_le (a := 6) (by omega) (by omega)
      have e : p = 6 := by omega
      subst e
      refine ⟨S, eqN_rf, hV, dayI_Q hD (fun _ _ _ h => h.elim), fun d => ?_⟩
      simp only [r_il1 c_M_dayGoes_2, r_ci c_M_dayGoes_3, r_icge c_M_dayGoes_5, ↓reduceIte, hs_h, Option.bind_some, mfix_i, mfix_r, mfix_n, mfix_a, Option.toList_some, Option.toList_none, List.cons_append, List.nil_append, List.singleton_append, h1, if_true]
    | succ m ih =>
      intro p V S hp hV hD
      have h1 : ¬ (6 : Int32) ≤ nI p := nI_ge (b := 6) (by omega) (by omega)
      obtain ⟨S2, e2, h2, D2, r2⟩ := M_prison_R hE hb h0 (show p < 6 by omega) hc0 hV (by omega) hD
      obtain ⟨S3, a1, a2, a3, a4⟩ := ih (p + 1) _ S2 (by omega) h2 D2
      rw [rfor]
      refine ⟨S3, eqN_tr e2 a1, a2, a3, fun d => ?_⟩
      rw [← a4]
      have key : mres cT 225 d 8 [.ref 93, .int (nI p)] [] (hs E S) = mres cT 225 d 2 [.ref 93, .int (nI (p + 1))] [] (hs E S2) := by
        simp only [r_al0 c_M_dayGoes_8, r_il1 c_M_dayGoes_9, r_cv2 c_M_dayGoes_10, r_inc1 c_M_dayGoes_13, r_goto c_M_dayGoes_16, ↓reduceIte, hs_h, Option.bind_some, mfix_i, mfix_r, mfix_n, mfix_a, Option.toList_some, Option.toList_none, List.cons_append, List.nil_append, List.singleton_append, mwt, Value.category, Nat.reduceAdd, Nat.reduceLeDiff, true_and, and_true, and_self, m10, r2, nI_1]
      rw [← key]
      simp only [r_il1 c_M_dayGoes_2, r_ci c_M_dayGoes_3, r_icge c_M_dayGoes_5, ↓reduceIte, hs_h, Option.bind_some, mfix_i, mfix_r, mfix_n, mfix_a, Option.toList_some, Option.toList_none, List.cons_append, List.nil_append, List.singleton_append, h1, if_false]
  have lv : ∀ m i V S, i + m = z 7 → Rel E V b z t hc pk td (B + 18) (iA S 94) → dayI R b z hc (tdS R b (z 7)) (fun _ => False) V → ∃ S2, eqN S S2 ∧ Rel E (rfor (vlG b hc (tdS R b (z 7))) i m V) b z t hc pk td (B + 18) (iA S2 94) ∧ ∀ d, mres cT 225 d 21 [.ref 93, .int (nI i)] [] (hs E S) = mres cT 225 d 75 [.ref 93, .int (nI (z 7))] [] (hs E S2) := by
    intro m
    induction m with
    | zero =>
      intro i V S hi hV hD
      have n7 := (rl_okm hV).2.2.2.2.2.2.2.2
      have h1 : nI (z 7) ≤ nI i := nI_le (by omega) (by omega)
      have e : i = z 7 := by omega
      subst e
      refine ⟨S, eqN_rf, hV, fun d => ?_⟩
      simp only [r_il1 c_M_dayGoes_21, r_al0 c_M_dayGoes_22, r_gfSr c_M_dayGoes_23 o10 rfl, r_ci c_M_dayGoes_26, r_ial c_M_dayGoes_28, r_icge c_M_dayGoes_29, ↓reduceIte, hs_h, Option.bind_some, mfix_i, mfix_r, mfix_n, mfix_a, Option.toList_some, Option.toList_none, List.cons_append, List.nil_append, List.singleton_append, mn10 hE, n7.1, h1, if_true]
    | succ m ih =>
      intro i V S hi hV hD
      have n7 := (rl_okm hV).2.2.2.2.2.2.2.2
      have h1 : ¬ nI (z 7) ≤ nI i := nI_ge (by omega) (by omega)
      have hi7 : i < z 7 := by omega
      obtain ⟨c1, c2, c3, c4⟩ := rl_hc hV hi7
      have ht := rl_tod hV
      have f3 : iA S 94 (20 + 6 * hc i + 3) = iA V (b + 2) (hc i * 6 + 3) := rl_c0 hV c2 (c := 3) (by omega)
      have g1 : iA S 94 (670 + 6 * i + 1) = iA V (b + 8) (i * 5 + 1) := rl_hea hV i hi7 1 (by omega)
      have g2 : iA S 94 (670 + 6 * i + 2) = iA V (b + 8) (i * 5 + 2) := rl_hea hV i hi7 2 (by omega)
      have itd := fun d => M_isToday_ok (d := d) (S := S) hE c4
      rw [rfor]
      have skip : vlG b hc (tdS R b (z 7)) i V = V → (∀ d, mres cT 225 d 32 [.ref 93, .int (nI i)] [] (hs E S) = mres cT 225 d 21 [.ref 93, .int (nI (i + 1))] [] (hs E S)) → ∃ S2, eqN S S2 ∧ Rel E (rfor (vlG b hc (tdS R b (z 7))) (i + 1) m (vlG b hc (tdS R b (z 7)) i V)) b z t hc pk td (B + 18) (iA S2 94) ∧ ∀ d, mres cT 225 d 21 [.ref 93, .int (nI i)] [] (hs E S) = mres cT 225 d 75 [.ref 93, .int (nI (z 7))] [] (hs E S2) := by
        intro e hr
        rw [e]
        obtain ⟨S2, a1, a2, a3⟩ := ih (i + 1) V S (by omega) hV hD
        refine ⟨S2, a1, a2, fun d => ?_⟩
        rw [← a3, ← hr]
        simp only [r_il1 c_M_dayGoes_21, r_al0 c_M_dayGoes_22, r_gfSr c_M_dayGoes_23 o10 rfl, r_ci c_M_dayGoes_26, r_ial c_M_dayGoes_28, r_icge c_M_dayGoes_29, ↓reduceIte, hs_h, Option.bind_some, mfix_i, mfix_r, mfix_n, mfix_a, Option.toList_some, Option.toList_none, List.cons_append, List.nil_append, List.singleton_append, mn10 hE, n7.1, h1, if_false]
      by_cases q1 : iA V (b + 8) (i * 5 + 2) = 0 ∧ iA V (b + 8) (i * 5 + 1) = nI td
      · have it1 : ∀ d, mres cT 221 d 0 (ment 2 [.ref 93, .int (nI i)]) [] (hs E S) = some (some (.int 1), hs E S) := fun d => by
          rw [itd, g1, g2, ht.2.2, if_pos q1.1, if_pos q1.2]
        have qb : btI (tdS R b (z 7)) i = true := by
          cases e : btI (tdS R b (z 7)) i with
          | true => rfl
          | false =>
            have hun := hD.1 i hi7 (Or.inl e)
            rw [hc0 i hi7] at e
            exact absurd ⟨by rw [← hun.1]; exact q1.2, by rw [← hun.2]; exact q1.1⟩ (of_decide_eq_false e)
        have q2 : tdS R b (z 7) >>> (nI i &&& 31) &&& 1 = 1 := (has_iff (by omega)).mpr qb
        by_cases q3 : iA V (b + 2) (hc i * 6 + 3) = 0
        · refine skip (by rw [vlG, if_pos q2, if_pos q1.1, if_pos q3]) (fun d => ?_)
          simp only [r_al0 c_M_dayGoes_32, r_il1 c_M_dayGoes_33, r_cv2 c_M_dayGoes_34, r_ifeq c_M_dayGoes_37, r_al0 c_M_dayGoes_40, r_al0 c_M_dayGoes_41, r_gfSr c_M_dayGoes_42 o10 rfl, r_il1 c_M_dayGoes_45, r_ci c_M_dayGoes_46, r_ca2 c_M_dayGoes_47, r_ial c_M_dayGoes_50, r_ci c_M_dayGoes_51, r_cv3 c_M_dayGoes_52, r_ifeq c_M_dayGoes_55, r_al0 c_M_dayGoes_58, r_gfSr c_M_dayGoes_59 o10 rfl, r_il1 c_M_dayGoes_62, r_ci c_M_dayGoes_63, r_ca2 c_M_dayGoes_64, r_ci c_M_dayGoes_67, r_ias c_M_dayGoes_68, r_inc1 c_M_dayGoes_69, r_goto c_M_dayGoes_72, ↓reduceIte, hs_h, Option.bind_some, mfix_i, mfix_r, mfix_n, mfix_a, Option.toList_some, Option.toList_none, List.cons_append, List.nil_append, List.singleton_append, mwt, Value.category, Nat.reduceAdd, Nat.reduceLeDiff, true_and, and_true, and_self, m10, it1, one_nz, if_false, oh0, mia_94 hE (show 670 + 6 * i < 2578 by omega), c1, oc3 hE c3, f3, q3, if_true, nI_1]
        · have e : vlG b hc (tdS R b (z 7)) i V = sA V (b + 8) (upd (iA V (b + 8)) (i * 5 + 2) 3) := by rw [vlG, if_pos q2, if_pos q1.1, if_neg q3]
          rw [e]
          obtain ⟨S2, a1, a2, a3⟩ := ih (i + 1) _ (sA S 94 (upd (iA S 94) (670 + 6 * i + 2) 3)) (by omega) (by rw [i94]; exact Rel_void hb hV hi7) (dayI_vl hD qb)
          refine ⟨S2, eqN_tr eqN_94 a1, a2, fun d => ?_⟩
          have key : mres cT 225 d 32 [.ref 93, .int (nI i)] [] (hs E S) = mres cT 225 d 21 [.ref 93, .int (nI (i + 1))] [] (hs E (sA S 94 (upd (iA S 94) (670 + 6 * i + 2) 3))) := by
            simp only [r_al0 c_M_dayGoes_32, r_il1 c_M_dayGoes_33, r_cv2 c_M_dayGoes_34, r_ifeq c_M_dayGoes_37, r_al0 c_M_dayGoes_40, r_al0 c_M_dayGoes_41, r_gfSr c_M_dayGoes_42 o10 rfl, r_il1 c_M_dayGoes_45, r_ci c_M_dayGoes_46, r_ca2 c_M_dayGoes_47, r_ial c_M_dayGoes_50, r_ci c_M_dayGoes_51, r_cv3 c_M_dayGoes_52, r_ifeq c_M_dayGoes_55, r_al0 c_M_dayGoes_58, r_gfSr c_M_dayGoes_59 o10 rfl, r_il1 c_M_dayGoes_62, r_ci c_M_dayGoes_63, r_ca2 c_M_dayGoes_64, r_ci c_M_dayGoes_67, r_ias c_M_dayGoes_68, r_inc1 c_M_dayGoes_69, r_goto c_M_dayGoes_72, ↓reduceIte, hs_h, Option.bind_some, mfix_i, mfix_r, mfix_n, mfix_a, Option.toList_some, Option.toList_none, List.cons_append, List.nil_append, List.singleton_append, mwt, Value.category, Nat.reduceAdd, Nat.reduceLeDiff, true_and, and_true, and_self, m10, it1, one_nz, if_false, oh0, oh2, mia_94 hE (show 670 + 6 * i < 2578 by omega), c1, oc3 hE c3, f3, q3, mis_94 hE (show 670 + 6 * i + 2 < 2578 by omega), hs_94 hE, nI_1]
          rw [← a3, ← key]
          simp only [r_il1 c_M_dayGoes_21, r_al0 c_M_dayGoes_22, r_gfSr c_M_dayGoes_23 o10 rfl, r_ci c_M_dayGoes_26, r_ial c_M_dayGoes_28, r_icge c_M_dayGoes_29, ↓reduceIte, hs_h, Option.bind_some, mfix_i, mfix_r, mfix_n, mfix_a, Option.toList_some, Option.toList_none, List.cons_append, List.nil_append, List.singleton_append, mn10 hE, n7.1, h1, if_false]
      · have it0 : ∀ d, mres cT 221 d 0 (ment 2 [.ref 93, .int (nI i)]) [] (hs E S) = some (some (.int 0), hs E S) := fun d => by
          rw [itd, g1, g2, ht.2.2]
          by_cases a : iA V (b + 8) (i * 5 + 2) = 0
          · rw [if_pos a, if_neg (fun h => q1 ⟨a, h⟩)]
          · rw [if_neg a]
        refine skip ?_ (fun d => ?_)
        · rw [vlG]
          by_cases q2 : tdS R b (z 7) >>> (nI i &&& 31) &&& 1 = 1
          · rw [if_pos q2]
            by_cases q3 : iA V (b + 8) (i * 5 + 2) = 0
            · rw [if_pos q3]
              have := hD.2.2 i hi7 ((has_iff (by omega)).mp q2) q3
              rw [h0] at this
              rw [if_pos (this.resolve_left (fun h => q1 ⟨q3, h⟩))]
            · rw [if_neg q3]
          · rw [if_neg q2]
        · simp only [r_al0 c_M_dayGoes_32, r_il1 c_M_dayGoes_33, r_cv2 c_M_dayGoes_34, r_ifeq c_M_dayGoes_37, r_al0 c_M_dayGoes_40, r_al0 c_M_dayGoes_41, r_gfSr c_M_dayGoes_42 o10 rfl, r_il1 c_M_dayGoes_45, r_ci c_M_dayGoes_46, r_ca2 c_M_dayGoes_47, r_ial c_M_dayGoes_50, r_ci c_M_dayGoes_51, r_cv3 c_M_dayGoes_52, r_ifeq c_M_dayGoes_55, r_al0 c_M_dayGoes_58, r_gfSr c_M_dayGoes_59 o10 rfl, r_il1 c_M_dayGoes_62, r_ci c_M_dayGoes_63, r_ca2 c_M_dayGoes_64, r_ci c_M_dayGoes_67, r_ias c_M_dayGoes_68, r_inc1 c_M_dayGoes_69, r_goto c_M_dayGoes_72, ↓reduceIte, hs_h, Option.bind_some, mfix_i, mfix_r, mfix_n, mfix_a, Option.toList_some, Option.toList_none, List.cons_append, List.nil_append, List.singleton_append, mwt, Value.category, Nat.reduceAdd, Nat.reduceLeDiff, true_and, and_true, and_self, m10, it0, if_true, nI_1]
  obtain ⟨S2, e2, h2, D2, r2⟩ := lp 6 0 R S (by omega) h hD0
  obtain ⟨S3, e3, h3, r3⟩ := lv (z 7) 0 _ S2 (by omega) h2 D2
  have ht3 := rl_tod h3
  have h4 := Rel_next hb h3 hd
  have eP : pdS b z t pk hc R = sF (rfor (vlG b hc (tdS R b (z 7))) 0 (z 7) (rfor (pdG b z t pk hc (tdS R b (z 7))) 0 6 R)) b 8 (nI (td + 1)) := by
    rw [pdS, pvS, ht3.1, nI_1]
  rw [nI_0] at r2 r3
  refine ⟨sA S3 94 (upd (iA S3 94) 0 (nI (td + 1))), eqN_tr e2 (eqN_tr e3 eqN_94), ?_, fun d => ?_⟩
  · rw [i94, eP]; exact h4
  · simp only [ment, mfl, List.length, List.replicate, List.cons_append, List.nil_append, Nat.reduceAdd, Nat.reduceSub]
    simp only [r_ci c_M_dayGoes_0, r_is1 c_M_dayGoes_1, ↓reduceIte, hs_h, Option.bind_some, mfix_i, mfix_r, mfix_n, mfix_a, Option.toList_some, Option.toList_none, List.cons_append, List.nil_append, List.singleton_append, r2]
    simp only [r_ci c_M_dayGoes_19, r_is1 c_M_dayGoes_20, ↓reduceIte, hs_h, Option.bind_some, mfix_i, mfix_r, mfix_n, mfix_a, Option.toList_some, Option.toList_none, List.cons_append, List.nil_append, List.singleton_append, r3]
    simp only [r_al0 c_M_dayGoes_75, r_gfSr c_M_dayGoes_76 o10 rfl, r_ci c_M_dayGoes_79, r_dup2 c_M_dayGoes_80, r_ial c_M_dayGoes_81, r_ci c_M_dayGoes_82, r_iadd c_M_dayGoes_83, r_ias c_M_dayGoes_84, r_vret c_M_dayGoes_85, ↓reduceIte, hs_h, Option.bind_some, mfix_i, mfix_r, mfix_n, mfix_a, Option.toList_some, Option.toList_none, List.cons_append, List.nil_append, List.singleton_append, mn0 hE, ms0 hE, ht3.2.2, nI_1, hs_94 hE]
end MDAYS
