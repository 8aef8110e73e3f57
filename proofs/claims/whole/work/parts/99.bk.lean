/-! call: draw -/
section DRAWQ
variable {E : EE} {R S S1 S2 U U2 V : SS} {b d k n m i j p td B a s q C X : Nat} {c v w x y : Int32} {f : Nat → Int32}
theorem hs_N (hC : C < 2 ^ 31) (hi : i < 31) : hsS (nI C) (nI i) = if C.testBit i = true then 1 else 0 := by
  rw [hsS, hs_n hC hi]
  by_cases e : C.testBit i = true
  · rw [if_pos e, if_pos rfl]
  · rw [if_neg e, if_neg (by decide)]
theorem upd_2 : upd (upd f i x) i y = upd f i y := by
  funext q
  by_cases e : q = i
  · subst e; rw [pk_us, pk_us]
  · rw [pk_un e, pk_un e, pk_un e]
theorem M_leftAt_ok (hC : C < 2 ^ 31) (hn : n ≤ 31) {H : mH} (hH : ∀ d i, i < 31 → mres cT 181 d 0 (ment 2 [.int (nI C), .int (nI i)]) [] H = some (some (.int (hsS (nI C) (nI i))), H)) (hp : p < pcU C 0 n) (hp2 : p < 2 ^ 31) : mres cT 242 d 0 (ment 5 [.ref 93, .int (nI C), .int (nI p)]) [] H = some (some (.int (nI (lfN C 0 n p))), H) := by
  have lp : ∀ (pl : Int32) m i p, i + m ≤ 31 → p < pcU C i m → p < 2 ^ 31 → mres cT 242 d 5 [.ref 93, .int (nI C), .int pl, .int (nI p), .int (nI i)] [] H = some (some (.int (nI (lfN C i m p))), H) := by
    intro pl m
    induction m with
    | zero => intro i p _ h; exact absurd h (Nat.not_lt_zero p)
    | succ m ih =>
      intro i p hi h hp2
      rw [pcU] at h
      rw [lfN]
      have hh := fun d => hH d i (by omega)
      rw [hs_N hC (by omega)] at hh
      by_cases e : C.testBit i = true
      · rw [if_pos e] at h hh ⊢
        simp only [r_il1 c_M_leftAt_5, r_il4 c_M_leftAt_6, r_ca2 c_M_leftAt_8, r_ifne c_M_leftAt_11, ↓reduceIte, hs_h, Option.bind_some, mfix_i, mfix_r, mfix_n, mfix_a, Option.toList_some, Option.toList_none, List.cons_append, List.nil_append, List.singleton_append, mwt, Value.category, Nat.reduceAdd, Nat.reduceLeDiff, true_and, and_true, and_self, hh, one_nz, if_false]
        simp only [r_il3 c_M_leftAt_18, r_il1 c_M_leftAt_19, r_il4 c_M_leftAt_20, r_ca2 c_M_leftAt_22, r_ifeq c_M_leftAt_25, r_ci c_M_leftAt_28, r_goto c_M_leftAt_29, r_ci c_M_leftAt_32, r_isub c_M_leftAt_33, r_is3 c_M_leftAt_34, r_inc4 c_M_leftAt_35, r_goto c_M_leftAt_38, ↓reduceIte, hs_h, Option.bind_some, mfix_i, mfix_r, mfix_n, mfix_a, Option.toList_some, Option.toList_none, List.cons_append, List.nil_append, List.singleton_append, mwt, Value.category, Nat.reduceAdd, Nat.reduceLeDiff, true_and, and_true, and_self, hh, one_nz, if_false, Int32.sub_zero, nI_1]
        exact ih (i + 1) p (by omega) (by omega) hp2
      · rw [if_neg e] at h hh ⊢
        by_cases e2 : p = 0
        · subst e2
          rw [if_pos rfl]
          simp only [r_il1 c_M_leftAt_5, r_il4 c_M_leftAt_6, r_ca2 c_M_leftAt_8, r_ifne c_M_leftAt_11, r_il3 c_M_leftAt_14, r_ifle c_M_leftAt_15, ↓reduceIte, hs_h, Option.bind_some, mfix_i, mfix_r, mfix_n, mfix_a, Option.toList_some, Option.toList_none, List.cons_append, List.nil_append, List.singleton_append, mwt, Value.category, Nat.reduceAdd, Nat.reduceLeDiff, true_and, and_true, and_self, hh, if_true, nI_0, show ((0 : Int32) ≤ 0) = True from eq_true (by decide)]
          simp only [r_il4 c_M_leftAt_41, r_iret c_M_leftAt_43, ↓reduceIte, hs_h, Option.bind_some, mfix_i, mfix_r, mfix_n, mfix_a, Option.toList_some, Option.toList_none, List.cons_append, List.nil_append, List.singleton_append]
        · rw [if_neg e2]
          obtain ⟨p', rfl⟩ : ∃ p', p = p' + 1 := ⟨p - 1, by omega⟩
          simp only [r_il1 c_M_leftAt_5, r_il4 c_M_leftAt_6, r_ca2 c_M_leftAt_8, r_ifne c_M_leftAt_11, r_il3 c_M_leftAt_14, r_ifle c_M_leftAt_15, ↓reduceIte, hs_h, Option.bind_some, mfix_i, mfix_r, mfix_n, mfix_a, Option.toList_some, Option.toList_none, List.cons_append, List.nil_append, List.singleton_append, mwt, Value.category, Nat.reduceAdd, Nat.reduceLeDiff, true_and, and_true, and_self, hh, if_true, nI_nle (show 0 < p' + 1 by omega) hp2, if_false]
          simp only [r_il3 c_M_leftAt_18, r_il1 c_M_leftAt_19, r_il4 c_M_leftAt_20, r_ca2 c_M_leftAt_22, r_ifeq c_M_leftAt_25, r_ci c_M_leftAt_28, r_goto c_M_leftAt_29, r_ci c_M_leftAt_32, r_isub c_M_leftAt_33, r_is3 c_M_leftAt_34, r_inc4 c_M_leftAt_35, r_goto c_M_leftAt_38, ↓reduceIte, hs_h, Option.bind_some, mfix_i, mfix_r, mfix_n, mfix_a, Option.toList_some, Option.toList_none, List.cons_append, List.nil_append, List.singleton_append, mwt, Value.category, Nat.reduceAdd, Nat.reduceLeDiff, true_and, and_true, and_self, hh, if_true, nI_pm, nI_1, Nat.add_sub_cancel]
          exact ih (i + 1) p' (by omega) (by omega) (by omega)
  have l0 := fun pl => lp pl n 0 p (by omega) hp hp2
  rw [nI_0] at l0
  simp only [ment, mfl, List.length, List.replicate, List.cons_append, List.nil_append, Nat.reduceAdd, Nat.reduceSub]
  simp only [r_il2 c_M_leftAt_0, r_is3 c_M_leftAt_1, r_ci c_M_leftAt_2, r_is4 c_M_leftAt_3, ↓reduceIte, hs_h, Option.bind_some, mfix_i, mfix_r, mfix_n, mfix_a, Option.toList_some, Option.toList_none, List.cons_append, List.nil_append, List.singleton_append, l0]
def mdG (n k : Nat) (x : Nat × Nat × Nat) : Nat × Nat × Nat := if k < 3 then (x.1 ||| 2 ^ psN n (x.1 ||| x.2.1) x.2.2 k, x.2.1, sxN x.2.2) else (x.1, x.2.1 ||| 2 ^ psN n (x.1 ||| x.2.1) x.2.2 k, sxN x.2.2)
theorem md_1 : ∀ m k F s, k + m ≤ 3 → rfor (mdG n) k m (F, 0, s) = ((rfor (drG n 0) k m (F, s)).1, 0, (rfor (drG n 0) k m (F, s)).2)
  | 0, _, _, _, _ => rfl
  | m + 1, k, F, s, h => by
    rw [rfor, rfor, mdG, if_pos (by omega), drG]
    simp only [Nat.or_zero, Nat.zero_or]
    exact md_1 m (k + 1) _ _ (by omega)
theorem md_2 : ∀ m k F G s, 3 ≤ k → rfor (mdG n) k m (F, G, s) = (F, (rfor (drG n F) k m (G, s)).1, (rfor (drG n F) k m (G, s)).2)
  | 0, _, _, _, _, _ => rfl
  | m + 1, k, F, G, s, h => by
    rw [rfor, rfor, mdG, if_neg (by omega), drG]
    exact md_2 m (k + 1) _ _ _ (by omega)
theorem l32 (h : s < 65536) : (lN s).toInt32 = nI s := by
  apply Int32.toInt_inj.mp
  rw [Int64.toInt_toInt32, pk_lT (by omega), nI_toInt (by omega), Int.bmod_eq_of_le (by omega) (by omega)]
theorem sx_l (h : s < 65536) : (25173 * (nI s).toInt64 + 13849 - (25173 * (nI s).toInt64 + 13849) / 65536 * 65536).toInt32 = nI (sxN s) := by
  have e : 25173 * (nI s).toInt64 + 13849 = lN (25173 * s + 13849) := by
    rw [nI_l (by omega)]
    show lN 25173 * lN s + lN 13849 = _
    rw [← Int64.toInt_inj]
    rw [Int64.toInt_add, Int64.toInt_mul, pk_lT (by decide), pk_lT (by omega), pk_lT (by decide), pk_lT (by omega), Int.bmod_eq_of_le (n := (25173 : Nat) * (s : Int)) (by omega) (by omega), Int.bmod_eq_of_le (by omega) (by omega)]
    omega
  rw [e]
  show (lN (25173 * s + 13849) - lN (25173 * s + 13849) / lN 65536 * lN 65536).toInt32 = _
  rw [pk_lRem (by omega) (by decide) (by decide)]
  exact l32 sx_lt
theorem k6k : ∀ k : Nat, k < 6 → ¬ (6 : Int32) ≤ nI k := by decide
theorem k3k : ∀ k : Nat, k < 6 → ((3 : Int32) ≤ nI k ↔ 3 ≤ k) := by decide
theorem M_draw_lp (hE : okE E) (hn : iA S 94 9 = nI n) (hn2 : n ≤ 9) (hn6 : 6 ≤ n) : ∀ m k F G s l, k + m = 6 → F < 2 ^ n → G < 2 ^ n → pcU (F ||| G) 0 n + k = n → s < 65536 → mres cT 243 d 21 [.ref 93, .int (nI F), .int (nI G), .int (nI k), l] [] (hs E (sA S 94 (upd (iA S 94) 1 (nI s)))) = some (some (.int (nI (rfor (mdG n) k m (F, G, s)).1 + 512 * nI (rfor (mdG n) k m (F, G, s)).2.1)), hs E (sA S 94 (upd (iA S 94) 1 (nI (rfor (mdG n) k m (F, G, s)).2.2)))) := by
  have o10 := o_M hE
  have m10 := m_M hE
  intro m
  induction m with
  | zero =>
    intro k F G s l hk _ _ _ _
    have e : k = 6 := by omega
    subst e
    simp only [r_il3 c_M_draw_21, r_ci c_M_draw_22, r_icge c_M_draw_24, ↓reduceIte, hs_h, Option.bind_some, mfix_i, mfix_r, mfix_n, mfix_a, Option.toList_some, Option.toList_none, List.cons_append, List.nil_append, List.singleton_append, show nI 6 = 6 by decide, show ((6 : Int32) ≤ 6) = True from eq_true (by decide), if_true]
    simp only [r_il1 c_M_draw_116, r_ci c_M_draw_117, r_il2 c_M_draw_120, r_imul c_M_draw_121, r_iadd c_M_draw_122, r_iret c_M_draw_123, ↓reduceIte, hs_h, Option.bind_some, mfix_i, mfix_r, mfix_n, mfix_a, Option.toList_some, Option.toList_none, List.cons_append, List.nil_append, List.singleton_append, rfor]
  | succ m ih =>
    intro k F G s l hk hF hG hpc hsl
    have k6 : k < 6 := by omega
    have h5 := pw_9 hn2
    have hFG : F ||| G < 2 ^ n := Nat.or_lt_two_pow hF hG
    obtain ⟨p1, p2⟩ := ps_in (s := s) (show k < n by omega) hpc
    have hl : ¬ nI (n - k) = 0 := nI_ne0 (by omega) (by omega)
    have hmod : sxN s % (n - k) < n - k := Nat.mod_lt _ (by omega)
    have la := fun d => M_leftAt_ok (d := d) (C := F ||| G) (n := n) (p := sxN s % (n - k)) (H := hs E (sA S 94 (upd (iA S 94) 1 (nI (sxN s))))) (by omega) (by omega) (fun d i _ => M_has_ok) (by omega) (by omega)
    have la : ∀ d, mres cT 242 d 0 (ment 5 [.ref 93, .int (nI (F ||| G)), .int (nI (sxN s % (n - k)))]) [] (hs E (sA S 94 (upd (iA S 94) 1 (nI (sxN s))))) = some (some (.int (nI (psN n (F ||| G) s k))), hs E (sA S 94 (upd (iA S 94) 1 (nI (sxN s))))) := la
    have e9 : ∀ v, upd (iA S 94) 1 v 9 = nI n := fun v => by rw [pk_un (by omega)]; exact hn
    have h6 : ¬ (65536 : Int64) = 0 := by decide
    have hsh : (1 : Int32) <<< (nI (psN n (F ||| G) s k) &&& 31) = nI (2 ^ psN n (F ||| G) s k) := sh_n ⟨psN n (F ||| G) s k, by omega⟩
    have hp2 : 2 ^ psN n (F ||| G) s k < 2 ^ n := Nat.pow_lt_pow_right (by decide) p1
    have hpi := pc_in p2 n 0 (by omega) (by omega)
    have hrm : nI (sxN s) - nI (sxN s) / nI (n - k) * nI (n - k) = nI (sxN s % (n - k)) := pk_rem (Nat.lt_trans sx_lt (by decide)) (by omega) (by omega)
    simp only [r_il3 c_M_draw_21, r_ci c_M_draw_22, r_icge c_M_draw_24, ↓reduceIte, hs_h, Option.bind_some, mfix_i, mfix_r, mfix_n, mfix_a, Option.toList_some, Option.toList_none, List.cons_append, List.nil_append, List.singleton_append, k6k k k6, if_false]
    simp only [r_al0 c_M_draw_27, r_gfSr c_M_draw_28 o10 rfl, r_ci c_M_draw_31, r_cl c_M_draw_32, r_al0 c_M_draw_35, r_gfSr c_M_draw_36 o10 rfl, r_ci c_M_draw_39, r_ial c_M_draw_40, r_i2l c_M_draw_41, r_lmul c_M_draw_42, r_cl c_M_draw_43, r_ladd c_M_draw_46, r_cl c_M_draw_47, r_lrem c_M_draw_50 h6, r_l2i c_M_draw_51, r_ias c_M_draw_52, r_al0 c_M_draw_53, r_il1 c_M_draw_54, r_il2 c_M_draw_55, r_ior c_M_draw_56, r_al0 c_M_draw_57, r_gfSr c_M_draw_58 o10 rfl, r_ci c_M_draw_61, r_ial c_M_draw_62, r_al0 c_M_draw_63, r_gfSr c_M_draw_64 o10 rfl, r_ci c_M_draw_67, r_ial c_M_draw_69, r_il3 c_M_draw_70, ↓reduceIte, hs_h, Option.bind_some, mfix_i, mfix_r, mfix_n, mfix_a, Option.toList_some, Option.toList_none, List.cons_append, List.nil_append, List.singleton_append, mn1 hE, ms1 hE, i94, pk_us, upd_2, sA_sA, hs_94 hE, mn9 hE, e9, nI_or (show F < 2 ^ 31 by omega) (show G < 2 ^ 31 by omega), sx_l hsl]
    rw [r_isub c_M_draw_71, pk_sub (show k ≤ n by omega), r_irem c_M_draw_72 hl, hrm]
    rw [rfor, mdG]
    by_cases k3 : k < 3
    · rw [if_pos k3]
      have k3' : ¬ (3 : Int32) ≤ nI k := fun e => by have := (k3k k k6).mp e; omega
      have e1 : (F ||| 2 ^ psN n (F ||| G) s k) ||| G = (F ||| G) ||| 2 ^ psN n (F ||| G) s k := by rw [Nat.or_assoc, Nat.or_comm _ G, ← Nat.or_assoc]
      have ih := fun l => ih (k + 1) (F ||| 2 ^ psN n (F ||| G) s k) G (sxN s) l (by omega) (Nat.or_lt_two_pow hF hp2) hG (by rw [e1]; omega) sx_lt
      simp only [r_cv3 c_M_draw_73, r_is4 c_M_draw_76, r_il1 c_M_draw_78, r_il3 c_M_draw_79, r_ci c_M_draw_80, r_icge c_M_draw_81, r_ci c_M_draw_84, r_il4 c_M_draw_85, r_ishl c_M_draw_87, r_goto c_M_draw_88, r_ci c_M_draw_91, r_ior c_M_draw_92, r_is1 c_M_draw_93, r_il2 c_M_draw_94, r_il3 c_M_draw_95, r_ci c_M_draw_96, r_icge c_M_draw_97, r_ci c_M_draw_100, r_goto c_M_draw_101, r_ci c_M_draw_104, r_il4 c_M_draw_105, r_ishl c_M_draw_107, r_ior c_M_draw_108, r_is2 c_M_draw_109, r_inc3 c_M_draw_110, r_goto c_M_draw_113, ↓reduceIte, hs_h, Option.bind_some, mfix_i, mfix_r, mfix_n, mfix_a, Option.toList_some, Option.toList_none, List.cons_append, List.nil_append, List.singleton_append, mwt, Value.category, Nat.reduceAdd, Nat.reduceLeDiff, true_and, and_true, and_self, m10, la, k3', if_false, hsh, Int32.or_zero, nI_or (show F < 2 ^ 31 by omega) (show 2 ^ psN n (F ||| G) s k < 2 ^ 31 by omega), nI_1, ih]
    · rw [if_neg k3]
      have k3' : (3 : Int32) ≤ nI k := (k3k k k6).mpr (by omega)
      have e1 : F ||| (G ||| 2 ^ psN n (F ||| G) s k) = (F ||| G) ||| 2 ^ psN n (F ||| G) s k := by rw [Nat.or_assoc]
      have ih := fun l => ih (k + 1) F (G ||| 2 ^ psN n (F ||| G) s k) (sxN s) l (by omega) hF (Nat.or_lt_two_pow hG hp2) (by rw [e1]; omega) sx_lt
      simp only [r_cv3 c_M_draw_73, r_is4 c_M_draw_76, r_il1 c_M_draw_78, r_il3 c_M_draw_79, r_ci c_M_draw_80, r_icge c_M_draw_81, r_ci c_M_draw_84, r_il4 c_M_draw_85, r_ishl c_M_draw_87, r_goto c_M_draw_88, r_ci c_M_draw_91, r_ior c_M_draw_92, r_is1 c_M_draw_93, r_il2 c_M_draw_94, r_il3 c_M_draw_95, r_ci c_M_draw_96, r_icge c_M_draw_97, r_ci c_M_draw_100, r_goto c_M_draw_101, r_ci c_M_draw_104, r_il4 c_M_draw_105, r_ishl c_M_draw_107, r_ior c_M_draw_108, r_is2 c_M_draw_109, r_inc3 c_M_draw_110, r_goto c_M_draw_113, ↓reduceIte, hs_h, Option.bind_some, mfix_i, mfix_r, mfix_n, mfix_a, Option.toList_some, Option.toList_none, List.cons_append, List.nil_append, List.singleton_append, mwt, Value.category, Nat.reduceAdd, Nat.reduceLeDiff, true_and, and_true, and_self, m10, la, k3', if_true, hsh, Int32.or_zero, nI_or (show G < 2 ^ 31 by omega) (show 2 ^ psN n (F ||| G) s k < 2 ^ 31 by omega), nI_1, ih]
theorem k6n (hn : n ≤ 9) : (6 : Int32) ≤ nI n ↔ 6 ≤ n := nI_leI (a := 6) (by omega) (by omega)
theorem q_draw (h : Inv E S) : opE E S 241 243 2 5 [] := by
  obtain ⟨hE, hpar, ⟨z, t, hc, pk, td, htd, hR⟩, hI, hTp, hWt, hSh, hKy⟩ := id h
  obtain ⟨b, hb1⟩ : ∃ b, b = 1 := ⟨1, rfl⟩
  have hb : bkb b := Or.inl hb1
  rw [← hb1] at hR
  have o9 := o_X hE hb1
  have o0 := o_B hE hb
  have o8 := o_I hE hb
  have o1 := o_L hE hb
  have o5 := o_P hE
  have o10 := o_M hE
  have m10 := m_M hE
  have m9 : ∀ S, misc (hp E S 0) 9 = true := fun S => misc_o o9
  have m0 : ∀ S, misc (hp E S b) 0 = true := fun S => misc_o o0
  have m8 : ∀ S, misc (hp E S (b + 13)) 8 = true := fun S => misc_o o8
  have m1 : ∀ S, misc (hp E S (b + 22)) 1 = true := fun S => misc_o o1
  have m5 : ∀ S, misc (hp E S 79) 5 = true := fun S => misc_o o5
  obtain ⟨n1, n14, n16, n18, n20, n22, n3, n5, n7⟩ := rl_okm hR
  obtain ⟨⟨g1, g3, g5, g7, g14, g16, g18, g20, g22, gt, gw⟩, hH, hP⟩ := rl_okh hR
  have ht := rl_tod hR
  by_cases q6 : 6 ≤ z 5
  · have e6 : (6 : Int32) ≤ nI (z 5) := (k6n n5.2).mpr q6
    obtain ⟨s1, s, hsl, s2⟩ := rl_see hR
    have s3 : iF S b 9 = nI s := s1.symm.trans s2
    have h5 := pw_9 n5.2
    have h26 : 2 ^ 0 ≤ 2 ^ z 5 := Nat.pow_le_pow_right (by decide) (by omega)
    have i0 : drI (z 5) 0 0 (0, s) := by
      refine ⟨?_, ?_, hsl⟩
      · show 0 ||| 0 < 2 ^ z 5
        rw [Nat.or_zero]; omega
      · show pcU (0 ||| 0) 0 (z 5) + 0 = z 5
        rw [Nat.or_zero, pc_hi (n := 0) (by decide) (z 5) 0 (Nat.le_refl 0), Nat.add_zero]
    obtain ⟨a1, a2, a3⟩ := dt_r (C := 0) n5.2 (show 0 < 2 ^ 31 by decide) 3 0 0 (0, s) (by omega) (by show 0 < 2 ^ z 5; omega) i0
    obtain ⟨F, s', hF⟩ : ∃ F s', rfor (drG (z 5) 0) 0 3 (0, s) = (F, s') := ⟨_, _, rfl⟩
    rw [hF] at a1 a2 a3
    have i3 : drI (z 5) F 3 (0, s') := by
      obtain ⟨q1, q2, q3⟩ := a3
      have e : 0 ||| F = F := Nat.zero_or F
      have q1 : 0 ||| F < 2 ^ z 5 := q1
      have q2 : pcU (0 ||| F) 0 (z 5) + (0 + 3) = z 5 := q2
      rw [e] at q1 q2
      refine ⟨?_, ?_, q3⟩
      · show F ||| 0 < 2 ^ z 5
        rw [Nat.or_zero]; exact q1
      · show pcU (F ||| 0) 0 (z 5) + 3 = z 5
        rw [Nat.or_zero]; omega
    have a2 : F < 2 ^ z 5 := a2
    obtain ⟨c1, c2, c3⟩ := dt_r (C := F) n5.2 (show F < 2 ^ 31 by omega) 3 3 0 (0, s') (by omega) (by show 0 < 2 ^ z 5; omega) i3
    obtain ⟨G, s6, hG⟩ : ∃ G s6, rfor (drG (z 5) F) 3 3 (0, s') = (G, s6) := ⟨_, _, rfl⟩
    rw [hG] at c1 c2 c3
    have d1 : dhS (z 5) (iF S b 9) 0 = (nI F, nI s') := by rw [s3, dhS]; exact a1
    have d2 : dhS (z 5) (nI s') (nI F) = (nI G, nI s6) := c1
    have hmd : rfor (mdG (z 5)) 0 6 (0, 0, s) = (F, G, s6) := by
      have e : rfor (mdG (z 5)) 0 6 (0, 0, s) = rfor (mdG (z 5)) 3 3 (rfor (mdG (z 5)) 0 3 (0, 0, s)) := rfl
      rw [e, md_1 3 0 0 s (by omega), hF, md_2 3 3 F 0 s' (by omega), hG]
    have r1 : ∀ d, mres cT 240 d 0 (ment 4 [.ref b, .int 0]) [] (hs E S) = some (some (.int (nI F)), hs E (sF S b 9 (nI s'))) := fun d => by
      rw [B_drawThree_ok hE hb g5.1 g5.2, d1]
    have r2 : ∀ d, mres cT 240 d 0 (ment 4 [.ref b, .int (nI F)]) [] (hs E (sF S b 9 (nI s'))) = some (some (.int (nI G)), hs E (sF S b 9 (nI s6))) := fun d => by
      rw [B_drawThree_ok (n := z 5) hE hb (by rw [iF_sF_ne (Or.inl (by omega))]; exact g5.1) g5.2, iF_sF, d2, sF_sF]
    have hR2 := Rel_seed (v := nI s6) hb hR ⟨s6, c3.2.2, rfl⟩
    refine ⟨nI F + 512 * nI G, sF S b 9 (nI s6), sA (sF S b 9 (nI s6)) 94 (upd (iA S 94) 1 (nI s6)), fun d _ => ?_, fun d _ => ?_, Inv_B h ?_ ⟨z, t, hc, pk, td, htd, ?_⟩ ?_⟩
    · simp only [ment, mfl, List.length, List.replicate, List.cons_append, List.nil_append, Nat.reduceAdd, Nat.reduceSub]; simp only [r_al0 c_X_draw_0, r_an0 c_X_draw_0, r_gfSr c_X_draw_1 o9 rfl, r_gfSr c_X_draw_4 o0 rfl, r_gfR3 c_X_draw_7 (w_1 hE hb), r_gfR3 c_X_draw_7 (w_3 hE hb), r_gfR3 c_X_draw_7 (w_5 hE hb), r_gfR3 c_X_draw_7 (w_7 hE hb), r_gfR3 c_X_draw_7 (w_9 hE hb), r_gfR3 c_X_draw_7 (w_11 hE hb), r_gfR3 c_X_draw_7 (w_14 hE hb), r_gfR3 c_X_draw_7 (w_16 hE hb), r_gfR3 c_X_draw_7 (w_18 hE hb), r_gfR3 c_X_draw_7 (w_20 hE hb), r_ci c_X_draw_10, r_icge c_X_draw_12, r_ci c_X_draw_15, r_iret c_X_draw_17, r_al0 c_X_draw_18, r_an0 c_X_draw_18, r_gfSr c_X_draw_19 o9 rfl, r_ci c_X_draw_22, r_cv2 c_X_draw_23, r_is1 c_X_draw_26, r_il1 c_X_draw_27, r_ci c_X_draw_28, r_al0 c_X_draw_31, r_an0 c_X_draw_31, r_gfSr c_X_draw_32 o9 rfl, r_il1 c_X_draw_35, r_cv2 c_X_draw_36, r_imul c_X_draw_39, r_iadd c_X_draw_40, r_iret c_X_draw_41, ↓reduceIte, hs_h, Option.bind_some, mfix_i, mfix_r, mfix_n, mfix_a, Option.toList_some, Option.toList_none, List.cons_append, List.nil_append, List.singleton_append, mwt, Value.category, Nat.reduceAdd, Nat.reduceLeDiff, true_and, and_true, and_self, g5.1, e6, if_true, m0, r1, r2]
    · have lp := M_draw_lp (S := sF S b 9 (nI s6)) (d := d) hE (n := z 5) (by rw [iA_sF]; exact n5.1) n5.2 q6 6 0 0 0 s (.retAddr 0) (by omega) (by omega) (by omega) i0.2.1 hsl
      rw [hmd, iA_sF, ← s2, nI_0] at lp
      have eu : upd (iA S 94) 1 (iA S 94 1) = iA (sF S b 9 (nI s6)) 94 := by
        rw [iA_sF]; funext q
        by_cases e : q = 1
        · subst e; rw [pk_us]
        · rw [pk_un e]
      rw [eu, sA_i] at lp
      simp only [ment, mfl, List.length, List.replicate, List.cons_append, List.nil_append, Nat.reduceAdd, Nat.reduceSub]; simp only [r_al0 c_M_draw_0, r_gfSr c_M_draw_1 o10 rfl, r_ci c_M_draw_4, r_ial c_M_draw_6, r_ci c_M_draw_7, r_icge c_M_draw_9, r_ci c_M_draw_12, r_iret c_M_draw_14, r_ci c_M_draw_15, r_is1 c_M_draw_16, r_ci c_M_draw_17, r_is2 c_M_draw_18, r_ci c_M_draw_19, r_is3 c_M_draw_20, ↓reduceIte, hs_h, Option.bind_some, mfix_i, mfix_r, mfix_n, mfix_a, Option.toList_some, Option.toList_none, List.cons_append, List.nil_append, List.singleton_append, mwt, Value.category, Nat.reduceAdd, Nat.reduceLeDiff, true_and, and_true, and_self, mn9 hE, iA_sF, n5.1, e6, if_true, lp]
    · subst hb1
      refine ⟨fun q h0 h1 h2 _ _ _ => ?_, fun k _ => by rw [iF_sA, iF_sF_ne (Or.inl (by omega))]⟩
      rw [sA, va_up, if_neg h2, sF, va_up, if_neg (by omega)]
    · subst hb1
      rw [i94]
      exact Rel_cells (Or.inl rfl) (fun q hq => by rw [sA, va_up, if_neg (by omega)]) (Nat.le_refl _) hR2
    · intro j p hj hp
      rw [iQ, sA, va_up, if_neg (by omega), sF, va_up, if_neg (by omega)] at hp
      exact hKy.1 j p hj hp
  · have e6 : ¬ (6 : Int32) ≤ nI (z 5) := fun e => q6 ((k6n n5.2).mp e)
    refine op_v h (-1000000002) (fun d => ?_) (fun d => ?_)
    · simp only [ment, mfl, List.length, List.replicate, List.cons_append, List.nil_append, Nat.reduceAdd, Nat.reduceSub]; simp only [r_al0 c_X_draw_0, r_an0 c_X_draw_0, r_gfSr c_X_draw_1 o9 rfl, r_gfSr c_X_draw_4 o0 rfl, r_gfR3 c_X_draw_7 (w_1 hE hb), r_gfR3 c_X_draw_7 (w_3 hE hb), r_gfR3 c_X_draw_7 (w_5 hE hb), r_gfR3 c_X_draw_7 (w_7 hE hb), r_gfR3 c_X_draw_7 (w_9 hE hb), r_gfR3 c_X_draw_7 (w_11 hE hb), r_gfR3 c_X_draw_7 (w_14 hE hb), r_gfR3 c_X_draw_7 (w_16 hE hb), r_gfR3 c_X_draw_7 (w_18 hE hb), r_gfR3 c_X_draw_7 (w_20 hE hb), r_ci c_X_draw_10, r_icge c_X_draw_12, r_ci c_X_draw_15, r_iret c_X_draw_17, r_al0 c_X_draw_18, r_an0 c_X_draw_18, r_gfSr c_X_draw_19 o9 rfl, r_ci c_X_draw_22, r_cv2 c_X_draw_23, r_is1 c_X_draw_26, r_il1 c_X_draw_27, r_ci c_X_draw_28, r_al0 c_X_draw_31, r_an0 c_X_draw_31, r_gfSr c_X_draw_32 o9 rfl, r_il1 c_X_draw_35, r_cv2 c_X_draw_36, r_imul c_X_draw_39, r_iadd c_X_draw_40, r_iret c_X_draw_41, ↓reduceIte, hs_h, Option.bind_some, mfix_i, mfix_r, mfix_n, mfix_a, Option.toList_some, Option.toList_none, List.cons_append, List.nil_append, List.singleton_append, mwt, Value.category, Nat.reduceAdd, Nat.reduceLeDiff, true_and, and_true, and_self, g5.1, e6, if_false]
    · simp only [ment, mfl, List.length, List.replicate, List.cons_append, List.nil_append, Nat.reduceAdd, Nat.reduceSub]; simp only [r_al0 c_M_draw_0, r_gfSr c_M_draw_1 o10 rfl, r_ci c_M_draw_4, r_ial c_M_draw_6, r_ci c_M_draw_7, r_icge c_M_draw_9, r_ci c_M_draw_12, r_iret c_M_draw_14, ↓reduceIte, hs_h, Option.bind_some, mfix_i, mfix_r, mfix_n, mfix_a, Option.toList_some, Option.toList_none, List.cons_append, List.nil_append, List.singleton_append, mwt, Value.category, Nat.reduceAdd, Nat.reduceLeDiff, true_and, and_true, and_self, mn9 hE, n5.1, e6, if_false]
end DRAWQ
