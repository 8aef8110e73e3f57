/-! the model: a hearing is heard -/
section MHEARD
variable {E : EE} {R S S1 : SS} {b d k n i j td q B s : Nat} {z t hc pk : Nat → Nat} {c v : Int32} {f f' A A' : Nat → Int32}
def mhF (f : Nat → Int32) (k : Nat) (v : Int32) : Nat → Int32 := upd (upd f (670 + 6 * k + 5) 1) (670 + 6 * k + 2) v
theorem sum_one (h0 : f (670 + 6 * k + 5) = 0) : ∀ m, rfor (hoM (mhF f k v) c) 0 m 0 = rfor (hoM f c) 0 m 0 + (if k < m ∧ f (670 + 6 * k) = c then 1 else 0)
  | 0 => by rw [if_neg (by omega)]; rfl
  | m + 1 => by
    have e0 : mhF f k v (670 + 6 * m) = f (670 + 6 * m) := by rw [mhF, pk_un (by omega), pk_un (by omega)]
    rw [rfor_last, rfor_last, Nat.zero_add, sum_one h0 m, hoM, hoM, e0]
    by_cases a : k = m
    · subst a
      have e5 : mhF f k v (670 + 6 * k + 5) = 1 := by rw [mhF, pk_un (by omega), pk_us]
      rw [if_neg (by omega), e5, h0, Int32.add_zero, ite_self, Int32.add_zero]
      by_cases b : f (670 + 6 * k) = c
      · rw [if_pos b, if_pos ⟨by omega, b⟩]
      · rw [if_neg b, if_neg (fun h => b h.2)]
    · have e5 : mhF f k v (670 + 6 * m + 5) = f (670 + 6 * m + 5) := by rw [mhF, pk_un (by omega), pk_un (by omega)]
      rw [e5]
      have e6 : (k < m ∧ f (670 + 6 * k) = c) = (k < m + 1 ∧ f (670 + 6 * k) = c) := propext ⟨fun h => ⟨by omega, h.2⟩, fun h => ⟨by omega, h.2⟩⟩
      simp only [e6]
      rw [Int32.add_assoc, Int32.add_assoc, Int32.add_comm (if k < m + 1 ∧ f (670 + 6 * k) = c then 1 else 0)]
theorem Rel_heard (hb : bkb b) (h : Rel E R b z t hc pk td B f) (hk : k < z 7) (hset : iA R (b + 8) (k * 5 + 2) = 0) (hv : v ≠ 0) : Rel E (hoA R b k (hc k) v) b z t hc pk td B (mhF f k v) := by
  obtain ⟨n1, n14, n16, n18, n20, n22, n3, n5, n7⟩ := rl_okm h
  have bl := bkb_lt hb
  have ht := rl_tod h
  have htx := rl_tx h
  obtain ⟨c1, c2, c3, c4⟩ := rl_hc h hk
  have eA : ∀ c, c ≠ 8 → c ≠ 2 → iA (hoA R b k (hc k) v) (b + c) = iA R (b + c) := fun c h1 h2 => by rw [hoA, iA_sA_ne (by omega), iA_sA_ne (by omega)]
  have e8 : iA (hoA R b k (hc k) v) (b + 8) = upd (iA R (b + 8)) (k * 5 + 2) v := by rw [hoA, iA_sA]
  have e2 : iA (hoA R b k (hc k) v) (b + 2) = upd (iA R (b + 2)) (hc k * 6 + 5) (iA R (b + 2) (hc k * 6 + 5) + 1) := by rw [hoA, iA_sA_ne (by omega), iA_sA]
  have eF : ∀ c, iF (hoA R b k (hc k) v) b c = iF R b c := fun c => by rw [hoA, iF_sA, iF_sA]
  have ff : ∀ p, p ≠ 670 + 6 * k + 5 → p ≠ 670 + 6 * k + 2 → mhF f k v p = f p := fun p h1 h2 => by rw [mhF, pk_un h2, pk_un h1]
  have fr : ∀ lo hi, (hi ≤ 670 ∨ 850 ≤ lo) → ∀ p, lo ≤ p → p < hi → mhF f k v p = f p := fun lo hi hh p h1 h2 => ff p (by omega) (by omega)
  have hO : okH E (hoA R b k (hc k) v) b z t hc pk := ⟨okB_sA (by omega) (okB_sA (by omega) (rl_okh h).1), hcs_8 (hcs_up (by omega) (by omega) (rl_okh h).2.1), pks_sA (by omega) (pks_sA (by omega) (rl_okh h).2.2)⟩
  refine ⟨hO, cg_okm (fr 2 11 (by omega)) (rl_okm h), ?_, ?_, ?_, ?_, ?_, ?_, ?_, ?_, ?_, ?_, ?_, ?_, ?_, ?_, ?_, ?_, ?_, ?_⟩
  · rw [eF, ff 0 (by omega) (by omega)]; exact ht
  · rw [eF, ff 1 (by omega) (by omega)]; exact rl_see h
  · rw [eF, eF]; exact cg_dou (ff 11 (by omega) (by omega)) (fr 850 890 (by omega)) (rl_dou h)
  · rw [eA 12 (by omega) (by omega)]; exact cg_12 (fr 13 17 (by omega)) (rl_put h)
  · rw [e2]
    intro i hi
    obtain ⟨h1, m, h2, h3⟩ := rl_cas h i hi
    refine ⟨fun c hc => ?_, m, h2, by rw [pk_un (by omega)]; exact h3⟩
    rw [ff _ (by omega) (by omega), pk_un (by omega)]
    exact h1 c hc
  · rw [eA 15 (by omega) (by omega)]; exact cg_92 n14.2 (fr 92 164 (by omega)) (rl_sen h)
  · rw [eA 17 (by omega) (by omega)]; exact cg_sps n16.2 (fr 164 254 (by omega)) (rl_sps h)
  · rw [eA 17 (by omega) (by omega)]; exact rl_spg h
  · rw [eA 17 (by omega) (by omega), e2]
    intro i hi
    obtain ⟨u, u1, u2, u3⟩ := rl_lat h i hi
    exact ⟨u, u1, by rw [ff _ (by omega) (by omega)]; exact u2, by rw [pk_un (by omega)]; exact u3⟩
  · rw [eA 19 (by omega) (by omega)]; exact ⟨cg_gap n18.2 (fr 254 314 (by omega)) (rl_gap h).1, (rl_gap h).2⟩
  · rw [eA 21 (by omega) (by omega)]; exact cg_314 n20.2 (fr 314 474 (by omega)) (rl_cre h)
  · rw [eA 4 (by omega) (by omega)]; exact cg_474 n3.2 (fr 474 634 (by omega)) (rl_pap h)
  · rw [eA 6 (by omega) (by omega)]; exact ⟨(rl_mem h).1, cg_634 n5.2 (fr 634 670 (by omega)) (rl_mem h).2⟩
  · rw [e8]
    intro i hi c hc
    by_cases a : i = k ∧ c = 2
    · obtain ⟨rfl, rfl⟩ := a
      rw [pk_us, mhF, pk_us]
    · rw [ff _ (by omega) (by omega), pk_un (by omega)]
      exact rl_hea h i hi c hc
  · rw [e8]
    refine ⟨(rl_unq h).1, fun i j hi hj h1 h2 h3 => ?_⟩
    by_cases a : i = k
    · subst a; rw [pk_us] at h1; exact absurd h1 hv
    · by_cases a2 : j = k
      · subst a2; rw [pk_us] at h2; exact absurd h2 hv
      · rw [pk_un (by omega)] at h1 h2
        exact (rl_unq h).2 i j hi hj h1 h2 h3
  · rw [e8, e2]
    obtain ⟨w1, w2⟩ := rl_was h
    refine ⟨fun i hi hz => ?_, fun p hp => ?_⟩
    · by_cases a : i = k
      · subst a; rw [pk_us] at hz; exact absurd hz hv
      · rw [pk_un (by omega)] at hz
        rw [ff _ (by omega) (by omega)]
        exact w1 i hi hz
    · rw [sum_one (w1 k hk hset), w2 p hp, c1]
      by_cases a : hc k = p
      · subst a
        rw [pk_us, if_pos ⟨hk, rfl⟩]
      · rw [pk_un (by omega), if_neg (fun h => a ((nI_eq (by omega) (by omega)).mp h.2)), Int32.add_zero]
  · rw [eA 10 (by omega) (by omega)]; exact cg_890 (fr 890 914 (by omega)) (rl_tab h)
  · refine cg_txt (fr 914 2578 (by omega)) htx.1 htx.2.1 htx.2.2 (fun j hj => ?_) (rl_txt h)
    have := htx.2.2 j hj
    refine ⟨?_, ?_⟩
    · rw [hoA, sA, va_up, if_neg (by omega), sA, va_up, if_neg (by omega)]
    · rw [hoA, sA, va_up, if_neg (by omega), sA, va_up, if_neg (by omega)]
theorem cd_go (hs : s < 30) : cdF (goO A s) = (if A (s * 3 + 2) = 2147483647 then nI s else -1) := by
  rw [goO]; split <;> rfl
theorem go_lt (hs : s < 30) : ∀ u, goO A s = some u → u < 30 := fun u h => by
  rw [goO] at h
  split at h
  · cases h; exact hs
  · cases h
theorem M_hear_R (hE : okE E) (hb : bkb b) (h : Rel E R b z t hc pk td B (iA S 94)) (hk : k < z 7) (hset : iA R (b + 8) (k * 5 + 2) = 0) : ∃ S2, eqN S S2 ∧ Rel E (hoS R b z t k (hc k)) b z t hc pk td B (iA S2 94) ∧ ∀ d, mres cT 223 d 0 (ment 4 [.ref 93, .int (nI k)]) [] (hs E S) = some (none, hs E S2) := by
  have o10 := o_M hE
  have m10 := m_M hE
  obtain ⟨c1, c2, c3, c4⟩ := rl_hc h hk
  have c0 : iA S 94 (20 + 6 * hc k + 0) = iA R (b + 2) (hc k * 6) := rl_c0 h c2 (c := 0) (by omega)
  have ht := rl_tod h
  obtain ⟨S2, e2, r2⟩ := M_servedOn_R (D := td) (k := hc k) hE h (by omega) (by omega)
  have h2 : Rel E R b z t hc pk td B (iA S2 94) := by rw [eqM_94 e2]; exact h
  obtain ⟨S3, e3, r3⟩ := M_rule_R (fo := iA R (b + 2) (hc k * 6)) (fk := 2) (x0 := rkS R b (hc k) 0) (x1 := iA R (b + 2) (hc k * 6 + 5)) (x2 := crSum (iA R (b + 21)) (nI (hc k)) (nI td) (z 20)) (x3 := svSum (iA R (b + 17)) (iA R (b + 19)) (z 16) (z 18) (nI (hc k)) (nI td)) hE h2 (Or.inr (Or.inr (Or.inl rfl)))
  have el : rlV R b (z 22) t (iA R (b + 2) (hc k * 6)) 2 (iF R b 8) (rkS R b (hc k) 0) (iA R (b + 2) (hc k * 6 + 5)) (crSum (iA R (b + 21)) (nI (hc k)) (nI td) (z 20)) (svSum (iA R (b + 17)) (iA R (b + 19)) (z 16) (z 18) (nI (hc k)) (nI td)) = leV R b z t (hc k) := by rw [leV, ht.1]
  rw [el] at r3
  have e4 : eqM S S3 := eqM_tr e2 e3
  have e94 := eqM_94 e4
  have rk : ∀ d, mres cT 34 d 0 (ment 4 [.ref 93, .int (nI (hc k)), .int 0]) [] (hs E S) = some (some (.int (rkS R b (hc k) 0)), hs E S) := fun d => M_riskOf_R (w := 0) hE h c2 (by omega)
  have st : ∀ d, mres cT 223 d 0 (ment 4 [.ref 93, .int (nI k)]) [] (hs E S) = mres cT 223 d 56 [.ref 93, .int (nI k), .int (nI (hc k)), .int (leV R b z t (hc k))] [] (hs E S3) := fun d => by
    simp only [ment, mfl, List.length, List.replicate, List.cons_append, List.nil_append, Nat.reduceAdd, Nat.reduceSub]
    simp only [r_al0 c_M_hear_0, r_gfSr c_M_hear_1 o10 rfl, r_il1 c_M_hear_4, r_ci c_M_hear_5, r_ca2 c_M_hear_6, r_ial c_M_hear_9, r_is2 c_M_hear_10, r_al0 c_M_hear_11, r_al0 c_M_hear_12, r_il2 c_M_hear_13, r_ci c_M_hear_14, r_cv3 c_M_hear_15, r_ci c_M_hear_18, r_al0 c_M_hear_19, r_il2 c_M_hear_20, r_ci c_M_hear_21, r_cv3 c_M_hear_22, r_al0 c_M_hear_25, r_il2 c_M_hear_26, r_cv2 c_M_hear_27, r_al0 c_M_hear_30, r_il2 c_M_hear_31, r_al0 c_M_hear_32, r_gfSr c_M_hear_33 o10 rfl, r_ci c_M_hear_36, r_ial c_M_hear_37, r_cv3 c_M_hear_38, r_al0 c_M_hear_41, r_il2 c_M_hear_42, r_al0 c_M_hear_43, r_gfSr c_M_hear_44 o10 rfl, r_ci c_M_hear_47, r_ial c_M_hear_48, r_cv3 c_M_hear_49, r_cv7 c_M_hear_52, r_is3 c_M_hear_55, ↓reduceIte, hs_h, Option.bind_some, mfix_i, mfix_r, mfix_n, mfix_a, Option.toList_some, Option.toList_none, List.cons_append, List.nil_append, List.singleton_append, mwt, Value.category, Nat.reduceAdd, Nat.reduceLeDiff, true_and, and_true, and_self, m10, oh0, mia_94 hE (show 670 + 6 * k < 2578 by omega), c1, oc0 hE c3, c0, rk, M_heardOf_R hE h c2, mn0 hE, ht.2.2, M_creditOf_R hE h (show td < 2147483647 by omega), r2, r3]
  have e5 : ∀ v, upd (upd (iA S 94) (670 + 6 * k + 5) 1) (670 + 6 * k + 2) v = mhF (iA S 94) k v := fun v => rfl
  by_cases a : leV R b z t (hc k) = 0
  · refine ⟨sA S3 94 (mhF (iA S 94) k 1), eqN_tr (eqN_M e4) eqN_94, ?_, fun d => ?_⟩
    · rw [i94, hoS, if_pos a]
      exact Rel_heard hb h hk hset (by decide)
    · rw [st]
      simp only [r_al0 c_M_hear_56, r_gfSr c_M_hear_57 o10 rfl, r_il1 c_M_hear_60, r_ci c_M_hear_61, r_ca2 c_M_hear_62, r_ci c_M_hear_65, r_ias c_M_hear_66, r_al0 c_M_hear_67, r_gfSr c_M_hear_68 o10 rfl, r_il1 c_M_hear_71, r_ci c_M_hear_72, r_ca2 c_M_hear_73, r_il3 c_M_hear_76, r_ifeq c_M_hear_77, r_ci c_M_hear_80, r_goto c_M_hear_81, r_ci c_M_hear_84, r_ias c_M_hear_85, r_il3 c_M_hear_86, r_ifeq c_M_hear_87, r_al0 c_M_hear_90, r_il2 c_M_hear_91, r_cv2 c_M_hear_92, r_al0 c_M_hear_95, r_il2 c_M_hear_96, r_ci c_M_hear_97, r_ci c_M_hear_98, r_cv4 c_M_hear_99, r_vret c_M_hear_102, ↓reduceIte, hs_h, Option.bind_some, mfix_i, mfix_r, mfix_n, mfix_a, Option.toList_some, Option.toList_none, List.cons_append, List.nil_append, List.singleton_append, mwt, Value.category, Nat.reduceAdd, Nat.reduceLeDiff, true_and, and_true, and_self, m10, oh2, oh5, mis_94 hE (show 670 + 6 * k + 5 < 2578 by omega), mis_94 hE (show 670 + 6 * k + 2 < 2578 by omega), hs_94 hE, i94, sA_sA, e94, a, if_true, e5]
  · have h5 : Rel E (hoA R b k (hc k) 2) b z t hc pk td B (mhF (iA S 94) k 2) := Rel_heard hb h hk hset (by decide)
    obtain ⟨s, l1, l2, l3⟩ := rl_lat h5 (hc k) c2
    have hs3 : s < 30 := by
      have := (lsq_lt l1).1
      have := (rl_okm h).2.2.1.2
      omega
    have h6 := Rel_leave (v := 1) hb h5 c2 l1
    have ho : iA (sA S3 94 (mhF (iA S 94) k 2)) 94 (20 + 6 * hc k + 5) = cdF (goO (iA (hoA R b k (hc k) 2) (b + 17)) s) := by rw [i94, cd_go hs3]; exact l2
    have re := fun d => M_ends_ok (d := d) (S := sA S3 94 (mhF (iA S 94) k 2)) hE c3 ho (go_lt hs3)
    rw [i94, sA_sA, show mhF (iA S 94) k 2 0 = nI td by rw [mhF, pk_un (by omega), pk_un (by omega)]; exact ht.2.2] at re
    refine ⟨sA S3 94 (mlF (mhF (iA S 94) k 2) (hc k) (goO (iA (hoA R b k (hc k) 2) (b + 17)) s) (nI td) 1), eqN_tr (eqN_M e4) eqN_94, ?_, fun d => ?_⟩
    · rw [i94, hoS, if_neg a]
      exact h6
    · rw [st]
      simp only [r_al0 c_M_hear_56, r_gfSr c_M_hear_57 o10 rfl, r_il1 c_M_hear_60, r_ci c_M_hear_61, r_ca2 c_M_hear_62, r_ci c_M_hear_65, r_ias c_M_hear_66, r_al0 c_M_hear_67, r_gfSr c_M_hear_68 o10 rfl, r_il1 c_M_hear_71, r_ci c_M_hear_72, r_ca2 c_M_hear_73, r_il3 c_M_hear_76, r_ifeq c_M_hear_77, r_ci c_M_hear_80, r_goto c_M_hear_81, r_ci c_M_hear_84, r_ias c_M_hear_85, r_il3 c_M_hear_86, r_ifeq c_M_hear_87, r_al0 c_M_hear_90, r_il2 c_M_hear_91, r_cv2 c_M_hear_92, r_al0 c_M_hear_95, r_il2 c_M_hear_96, r_ci c_M_hear_97, r_ci c_M_hear_98, r_cv4 c_M_hear_99, r_vret c_M_hear_102, ↓reduceIte, hs_h, Option.bind_some, mfix_i, mfix_r, mfix_n, mfix_a, Option.toList_some, Option.toList_none, List.cons_append, List.nil_append, List.singleton_append, mwt, Value.category, Nat.reduceAdd, Nat.reduceLeDiff, true_and, and_true, and_self, m10, oh2, oh5, mis_94 hE (show 670 + 6 * k + 5 < 2578 by omega), mis_94 hE (show 670 + 6 * k + 2 < 2578 by omega), hs_94 hE, i94, sA_sA, e94, a, if_false, e5, re, be3 hE c3, mlF]
end MHEARD
