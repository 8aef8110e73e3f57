/-! the model: a hearing is put off -/
section MPUT
variable {E : EE} {R S S1 : SS} {b d k n i j td q B : Nat} {z t hc pk : Nat → Nat} {c : Int32} {f A : Nat → Int32} {day : Int32}
theorem M_ofHearing_ok {H : mH} : mres cT 186 d 0 (ment 2 [.int (nI k), .int (nI j)]) [] H = some (some (.int (nI (670 + 6 * k + j))), H) := by
  simp only [ment, mfl, List.length, List.replicate, List.cons_append, List.nil_append, Nat.reduceAdd, Nat.reduceSub]
  simp only [r_ci c_M_ofHearing_0, r_ci c_M_ofHearing_3, r_il0 c_M_ofHearing_5, r_imul c_M_ofHearing_6, r_iadd c_M_ofHearing_7, r_il1 c_M_ofHearing_8, r_iadd c_M_ofHearing_9, r_iret c_M_ofHearing_10, ↓reduceIte, hs_h, Option.bind_some, mfix_i, mfix_r, mfix_n, mfix_a, Option.toList_some, Option.toList_none, List.cons_append, List.nil_append, List.singleton_append, km2, km3, km4, km6, km104, km24, ka20, ka92, ka164, ka254, ka314, ka474, ka634, ka670, ka850, ka890, ka914, ka12, kr2, kr3, kr4, kr5, nI_1, nI_add]
theorem oh0 {H : mH} : mres cT 186 d 0 (ment 2 [.int (nI k), .int 0]) [] H = some (some (.int (nI (670 + 6 * k))), H) := M_ofHearing_ok (j := 0)
theorem oh1 {H : mH} : mres cT 186 d 0 (ment 2 [.int (nI k), .int 1]) [] H = some (some (.int (nI (670 + 6 * k + 1))), H) := M_ofHearing_ok (j := 1)
theorem oh2 {H : mH} : mres cT 186 d 0 (ment 2 [.int (nI k), .int 2]) [] H = some (some (.int (nI (670 + 6 * k + 2))), H) := M_ofHearing_ok (j := 2)
theorem oh3 {H : mH} : mres cT 186 d 0 (ment 2 [.int (nI k), .int 3]) [] H = some (some (.int (nI (670 + 6 * k + 3))), H) := M_ofHearing_ok (j := 3)
theorem oh4 {H : mH} : mres cT 186 d 0 (ment 2 [.int (nI k), .int 4]) [] H = some (some (.int (nI (670 + 6 * k + 4))), H) := M_ofHearing_ok (j := 4)
theorem oh5 {H : mH} : mres cT 186 d 0 (ment 2 [.int (nI k), .int 5]) [] H = some (some (.int (nI (670 + 6 * k + 5))), H) := M_ofHearing_ok (j := 5)
theorem M_isToday_ok (hE : okE E) (hk : k < 30) : mres cT 221 d 0 (ment 2 [.ref 93, .int (nI k)]) [] (hs E S) = some (some (.int (if iA S 94 (670 + 6 * k + 2) = 0 then if iA S 94 (670 + 6 * k + 1) = iA S 94 0 then 1 else 0 else 0)), hs E S) := by
  have o10 := o_M hE
  simp only [ment, mfl, List.length, List.replicate, List.cons_append, List.nil_append, Nat.reduceAdd, Nat.reduceSub]
  simp only [r_al0 c_M_isToday_0, r_gfSr c_M_isToday_1 o10 rfl, r_il1 c_M_isToday_4, r_ci c_M_isToday_5, r_ca2 c_M_isToday_6, r_ial c_M_isToday_9, r_ifne c_M_isToday_10, r_al0 c_M_isToday_13, r_gfSr c_M_isToday_14 o10 rfl, r_il1 c_M_isToday_17, r_ci c_M_isToday_18, r_ca2 c_M_isToday_19, r_ial c_M_isToday_22, r_al0 c_M_isToday_23, r_gfSr c_M_isToday_24 o10 rfl, r_ci c_M_isToday_27, r_ial c_M_isToday_28, r_icne c_M_isToday_29, r_ci c_M_isToday_32, r_goto c_M_isToday_33, r_ci c_M_isToday_36, r_zret c_M_isToday_37, ↓reduceIte, hs_h, Option.bind_some, mfix_i, mfix_r, mfix_n, mfix_a, Option.toList_some, Option.toList_none, List.cons_append, List.nil_append, List.singleton_append, mwt, Value.category, Nat.reduceAdd, Nat.reduceLeDiff, true_and, and_true, and_self, oh1, oh2, mia_94 hE (show 670 + 6 * k + 1 < 2578 by omega), mia_94 hE (show 670 + 6 * k + 2 < 2578 by omega), mn0 hE, mz0, mz1, ite_out]
def mpF (f : Nat → Int32) (k q : Nat) (day : Int32) : Nat → Int32 := upd (upd (upd (upd f (670 + 6 * k + 1) day) (670 + 6 * k + 3) (f (670 + 6 * k + 3) + 1)) (670 + 6 * k + 4) (nI q)) (12 + q) (f (12 + q) + 1)
theorem mp_670 (h : k670 A n f) (hk : k < n) (hn : n ≤ 30) (hq : q < 5) : k670 (poH A k day (nI q)) n (mpF f k q day) := by
  intro i hi c hc
  have e3 : upd A (k * 5 + 1) day (k * 5 + 3) = A (k * 5 + 3) := pk_un (by omega)
  rw [mpF, poH, e3, pk_un (by omega)]
  by_cases a : i = k
  · subst a
    by_cases c4 : c = 4
    · subst c4; exact pk_us.trans pk_us.symm
    · refine (pk_un (by omega)).trans (Eq.trans ?_ (pk_un (by omega)).symm)
      by_cases c3 : c = 3
      · subst c3; exact pk_us.trans ((congrArg (· + 1) (h i hi 3 (by omega))).trans pk_us.symm)
      · refine (pk_un (by omega)).trans (Eq.trans ?_ (pk_un (by omega)).symm)
        by_cases c1 : c = 1
        · subst c1; exact pk_us.trans pk_us.symm
        · refine (pk_un (by omega)).trans (Eq.trans ?_ (pk_un (by omega)).symm)
          exact h i hi c hc
  · rw [pk_un (by omega), pk_un (by omega), pk_un (by omega), pk_un (by omega), pk_un (by omega), pk_un (by omega)]
    exact h i hi c hc
theorem po_0 : poH A k day c (i * 5) = A (i * 5) := by rw [poH, pk_un (by omega), pk_un (by omega), pk_un (by omega)]
theorem po_2 : poH A k day c (i * 5 + 2) = A (i * 5 + 2) := by rw [poH, pk_un (by omega), pk_un (by omega), pk_un (by omega)]
theorem Rel_put (hb : bkb b) (h : Rel E R b z t hc pk td B f) (hk : k < z 7) (hq : q < 5) (hq1 : 1 ≤ q) : Rel E (poS R b z t k (hc k) q) b z t hc pk td B (mpF f k q (poV R b z t (hc k) (nI q))) := by
  have hm := rl_okm h
  obtain ⟨n1, n14, n16, n18, n20, n22, n3, n5, n7⟩ := hm
  have eA : ∀ c, c ≠ 8 → c ≠ 12 → iA (poS R b z t k (hc k) q) (b + c) = iA R (b + c) := fun c h1 h2 => by
    rw [poS, iA_sA_ne (by omega), iA_sA_ne (by omega)]
  have e8 : iA (poS R b z t k (hc k) q) (b + 8) = poH (iA R (b + 8)) k (poV R b z t (hc k) (nI q)) (nI q) := by
    rw [poS, iA_sA_ne (by omega), iA_sA]
  have e12 : iA (poS R b z t k (hc k) q) (b + 12) = upd (iA R (b + 12)) (q * 1 + 0) (iA R (b + 12) (q * 1) + 1) := by
    rw [poS, iA_sA]
  have eF : ∀ c, iF (poS R b z t k (hc k) q) b c = iF R b c := fun c => by rw [poS, iF_sA, iF_sA]
  have bl := bkb_lt hb
  have ff : ∀ p, p ≠ 670 + 6 * k + 1 → p ≠ 670 + 6 * k + 3 → p ≠ 670 + 6 * k + 4 → p ≠ 12 + q → mpF f k q (poV R b z t (hc k) (nI q)) p = f p := fun p h1 h2 h3 h4 => by
    rw [mpF, pk_un h4, pk_un h3, pk_un h2, pk_un h1]
  have fr : ∀ lo hi, (17 ≤ lo ∧ (hi ≤ 670 ∨ 850 ≤ lo)) → ∀ p, lo ≤ p → p < hi → mpF f k q (poV R b z t (hc k) (nI q)) p = f p := fun lo hi hh p h1 h2 => ff p (by omega) (by omega) (by omega) (by omega)
  have ht := rl_tod h
  have htx := rl_tx h
  refine ⟨okH_poS hb (rl_okh h), cg_okm (fun p h1 h2 => ff p (by omega) (by omega) (by omega) (by omega)) (rl_okm h), ?_, ?_, ?_, ?_, ?_, ?_, ?_, ?_, ?_, ?_, ?_, ?_, ?_, ?_, ?_, ?_, ?_, ?_⟩
  · rw [eF, ff 0 (by omega) (by omega) (by omega) (by omega)]; exact ht
  · rw [eF, ff 1 (by omega) (by omega) (by omega) (by omega)]; exact rl_see h
  · rw [eF, eF]; exact cg_dou (ff 11 (by omega) (by omega) (by omega) (by omega)) (fr 850 890 (by omega)) (rl_dou h)
  · rw [e12]
    intro p h1 h2
    rw [mpF]
    by_cases a : p = q
    · subst a
      rw [pk_us, show p * 1 + 0 = p by omega, pk_us, show p * 1 = p by omega, rl_put h p h1 h2]
    · rw [pk_un (by omega), pk_un (by omega), pk_un (by omega), pk_un (by omega), pk_un (by omega)]
      exact rl_put h p h1 h2
  · rw [eA 2 (by omega) (by omega)]; exact cg_20 n1.2 (fr 20 92 (by omega)) (rl_cas h)
  · rw [eA 15 (by omega) (by omega)]; exact cg_92 n14.2 (fr 92 164 (by omega)) (rl_sen h)
  · rw [eA 17 (by omega) (by omega)]; exact cg_sps n16.2 (fr 164 254 (by omega)) (rl_sps h)
  · rw [eA 17 (by omega) (by omega)]; exact rl_spg h
  · rw [eA 2 (by omega) (by omega), eA 17 (by omega) (by omega)]; exact cg_lat n1.2 (fr 20 92 (by omega)) (rl_lat h)
  · rw [eA 19 (by omega) (by omega)]; exact ⟨cg_gap n18.2 (fr 254 314 (by omega)) (rl_gap h).1, (rl_gap h).2⟩
  · rw [eA 21 (by omega) (by omega)]; exact cg_314 n20.2 (fr 314 474 (by omega)) (rl_cre h)
  · rw [eA 4 (by omega) (by omega)]; exact cg_474 n3.2 (fr 474 634 (by omega)) (rl_pap h)
  · rw [eA 6 (by omega) (by omega)]; exact ⟨(rl_mem h).1, cg_634 n5.2 (fr 634 670 (by omega)) (rl_mem h).2⟩
  · rw [e8]; exact mp_670 (rl_hea h) hk n7.2 hq
  · rw [e8]
    refine ⟨(rl_unq h).1, fun i j hi hj h1 h2 h3 => ?_⟩
    rw [po_2] at h1 h2
    exact (rl_unq h).2 i j hi hj h1 h2 h3
  · rw [e8, eA 2 (by omega) (by omega)]
    refine ⟨fun i hi hz => ?_, fun p hp => ?_⟩
    · rw [po_2] at hz
      rw [ff _ (by omega) (by omega) (by omega) (by omega)]
      exact (rl_was h).1 i hi hz
    · rw [← (rl_was h).2 p hp]
      refine rfor_congr _ 0 0 fun i s _ hi => ?_
      rw [hoM, hoM, ff _ (by omega) (by omega) (by omega) (by omega), ff _ (by omega) (by omega) (by omega) (by omega)]
  · rw [eA 10 (by omega) (by omega)]; exact cg_890 (fr 890 914 (by omega)) (rl_tab h)
  · refine cg_txt (fr 914 2578 (by omega)) htx.1 htx.2.1 htx.2.2 (fun j hj => ?_) (rl_txt h)
    have := htx.2.2 j hj
    refine ⟨?_, ?_⟩
    · rw [poS, sA, va_up, if_neg (by omega), sA, va_up, if_neg (by omega)]
    · rw [poS, sA, va_up, if_neg (by omega), sA, va_up, if_neg (by omega)]
theorem rl_hc {f : Nat → Int32} (h : Rel E R b z t hc pk td B f) (hk : k < z 7) : f (670 + 6 * k) = nI (hc k) ∧ hc k < z 1 ∧ hc k < 12 ∧ k < 30 := by
  have h1 : f (670 + 6 * k) = iA R (b + 8) (k * 5) := rl_hea h k hk 0 (by omega)
  have h2 := (rl_okh h).2.1 k hk
  have h3 := (rl_okm h).2.2.2.2.2.2.2.2.2
  exact ⟨by rw [h1, h2.1], (rl_unq h).1 k hk, h2.2, by omega⟩
theorem M_putOff_R (hE : okE E) (hb : bkb b) (h : Rel E R b z t hc pk td B (iA S 94)) (hk : k < z 7) (hq : q < 5) (hq1 : 1 ≤ q) : ∃ S2, eqN S S2 ∧ Rel E (poS R b z t k (hc k) q) b z t hc pk td B (iA S2 94) ∧ ∀ d, mres cT 222 d 0 (ment 4 [.ref 93, .int (nI k), .int (nI q)]) [] (hs E S) = some (none, hs E S2) := by
  have o10 := o_M hE
  have m10 := m_M hE
  obtain ⟨c1, c2, c3, c4⟩ := rl_hc h hk
  have c0 : iA S 94 (20 + 6 * hc k + 0) = iA R (b + 2) (hc k * 6) := rl_c0 h c2 (c := 0) (by omega)
  have ht := rl_tod h
  have ft : iA S 94 0 = iF R b 8 := by rw [ht.2.2, ht.1]
  obtain ⟨S2, e2, r2⟩ := M_rule_R (fo := iA R (b + 2) (hc k * 6)) (fk := 3) (x0 := nI q) (x1 := 0) (x2 := 0) (x3 := 0) hE h (Or.inr (Or.inr (Or.inr (Or.inl rfl))))
  have e94 := eqM_94 e2
  refine ⟨sA S2 94 (mpF (iA S 94) k q (poV R b z t (hc k) (nI q))), eqN_tr (eqN_M e2) eqN_94, ?_, fun d => ?_⟩
  · rw [i94]
    exact Rel_put hb h hk hq hq1
  · have e3 : ∀ v, upd (iA S 94) (670 + 6 * k + 1) v (670 + 6 * k + 3) = iA S 94 (670 + 6 * k + 3) := fun v => pk_un (by omega)
    have e4 : ∀ u v w, upd (upd (upd (iA S 94) (670 + 6 * k + 1) u) (670 + 6 * k + 3) v) (670 + 6 * k + 4) w (12 + q) = iA S 94 (12 + q) := fun u v w => by rw [pk_un (by omega), pk_un (by omega), pk_un (by omega)]
    simp only [ment, mfl, List.length, List.replicate, List.cons_append, List.nil_append, Nat.reduceAdd, Nat.reduceSub]
    simp only [r_al0 c_M_putOff_0, r_gfSr c_M_putOff_1 o10 rfl, r_il1 c_M_putOff_4, r_ci c_M_putOff_5, r_ca2 c_M_putOff_6, r_ial c_M_putOff_9, r_is3 c_M_putOff_10, r_al0 c_M_putOff_11, r_gfSr c_M_putOff_12 o10 rfl, r_il1 c_M_putOff_15, r_ci c_M_putOff_16, r_ca2 c_M_putOff_17, r_al0 c_M_putOff_20, r_gfSr c_M_putOff_21 o10 rfl, r_ci c_M_putOff_24, r_ial c_M_putOff_25, r_al0 c_M_putOff_26, r_al0 c_M_putOff_27, r_il3 c_M_putOff_28, r_ci c_M_putOff_29, r_cv3 c_M_putOff_30, r_ci c_M_putOff_33, r_il2 c_M_putOff_34, r_ci c_M_putOff_35, r_ci c_M_putOff_36, r_ci c_M_putOff_37, r_cv7 c_M_putOff_38, r_iadd c_M_putOff_41, r_ias c_M_putOff_42, r_al0 c_M_putOff_43, r_gfSr c_M_putOff_44 o10 rfl, r_il1 c_M_putOff_47, r_ci c_M_putOff_48, r_ca2 c_M_putOff_49, r_dup2 c_M_putOff_52, r_ial c_M_putOff_53, r_ci c_M_putOff_54, r_iadd c_M_putOff_55, r_ias c_M_putOff_56, r_al0 c_M_putOff_57, r_gfSr c_M_putOff_58 o10 rfl, r_il1 c_M_putOff_61, r_ci c_M_putOff_62, r_ca2 c_M_putOff_63, r_il2 c_M_putOff_66, r_ias c_M_putOff_67, r_al0 c_M_putOff_68, r_gfSr c_M_putOff_69 o10 rfl, r_ci c_M_putOff_72, r_il2 c_M_putOff_74, r_iadd c_M_putOff_75, r_dup2 c_M_putOff_76, r_ial c_M_putOff_77, r_ci c_M_putOff_78, r_iadd c_M_putOff_79, r_ias c_M_putOff_80, r_vret c_M_putOff_81, ↓reduceIte, hs_h, Option.bind_some, mfix_i, mfix_r, mfix_n, mfix_a, Option.toList_some, Option.toList_none, List.cons_append, List.nil_append, List.singleton_append, mwt, Value.category, Nat.reduceAdd, Nat.reduceLeDiff, true_and, and_true, and_self, m10, oh0, oh1, oh3, oh4, mia_94 hE (show 670 + 6 * k < 2578 by omega), mia_94 hE (show 670 + 6 * k + 3 < 2578 by omega), mia_94 hE (show 12 + q < 2578 by omega), c1, mn0 hE, ft, oc0 hE c3, c0, r2, e94, mis_94 hE (show 670 + 6 * k + 1 < 2578 by omega), mis_94 hE (show 670 + 6 * k + 3 < 2578 by omega), mis_94 hE (show 670 + 6 * k + 4 < 2578 by omega), mis_94 hE (show 12 + q < 2578 by omega), hs_94 hE, i94, sA_sA, e3, ka12, e4, mpF, poV]
end MPUT
