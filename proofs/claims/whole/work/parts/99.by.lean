/-! call: text, all of it -/
section TEXTR
variable {E E' : EE} {R R' S S1 W : SS} {b d n p q i j l k kn m len td B : Nat} {T z t hc pk : Nat → Nat} {c v x y w x0 x1 x2 x3 : Int32} {σ ρ : PT} {f f' g g' cf : Nat → Int32}
theorem txF_o (h7 : q ≠ 7) (hq : q < 914 + 104 * k ∨ 914 + 104 * k + 104 ≤ q) (hm : m ≤ 100) : txF f k x0 x1 x2 x3 g m q = f q := by
  rw [txF, pk_un h7, cpC, if_neg (by omega), pk_un (by omega), pk_un (by omega), pk_un (by omega), pk_un (by omega)]
theorem txF_0 : txF f k x0 x1 x2 x3 g m (914 + 104 * k) = x0 := by
  rw [txF, pk_un (by omega), cpC, if_neg (by omega), pk_un (by omega), pk_un (by omega), pk_un (by omega), pk_us]
theorem txF_1 : txF f k x0 x1 x2 x3 g m (914 + 104 * k + 1) = x1 := by
  rw [txF, pk_un (by omega), cpC, if_neg (by omega), pk_un (by omega), pk_un (by omega), pk_us]
theorem txF_2 : txF f k x0 x1 x2 x3 g m (914 + 104 * k + 2) = x2 := by
  rw [txF, pk_un (by omega), cpC, if_neg (by omega), pk_un (by omega), pk_us]
theorem txF_3 : txF f k x0 x1 x2 x3 g m (914 + 104 * k + 3) = x3 := by
  rw [txF, pk_un (by omega), cpC, if_neg (by omega), pk_us]
theorem txF_c (hi : i < m) : txF f k x0 x1 x2 x3 g m (914 + 104 * k + 4 + i) = g i := by
  rw [txF, pk_un (by omega), cpC, if_pos (by omega), show 914 + 104 * k + 4 + i - (914 + 104 * k + 4) = i by omega]
theorem cpT_i (h : i < len) : cpT f len i = f i := by
  rw [cpT, va_cpy, if_pos (by omega), Nat.zero_add, Nat.sub_zero]
theorem cpT_w (h : wfk 0 cf len f) : wfc (cpT f len) len ∧ ∀ i, i < len → vcd (cpT f len i) := by
  obtain ⟨-, -, h3, h4⟩ := h
  refine ⟨⟨fun i hi => ?_, ?_⟩, fun i hi => ?_⟩
  · rw [cpT_i hi, depc_cg i (fun j hj => cpT_i (show j < len by omega))]
    exact (h4 i (Nat.zero_le i) hi).1
  · rw [depc_cg len (fun j hj => cpT_i hj), h3]; rfl
  · rw [cpT_i hi]; exact (h4 i (Nat.zero_le i) hi).2
theorem q_text (h : Inv E S) (hlt : E.1 < 900) (hsl : E.2.1 ≤ 900000) : opG E S 139 154 5 8 [.int c, .int v] := by
  obtain ⟨hE, hpar, ⟨z, t, hc, pk, td, htd, hR⟩, hI, hTp, hWt, hSh, hKy⟩ := id h
  obtain ⟨b, hb1⟩ : ∃ b, b = 1 := ⟨1, rfl⟩
  have hb : bkb b := Or.inl hb1
  rw [← hb1] at hR
  have o9 := o_X hE hb1
  have o0 := o_B hE hb
  have o8 := o_I hE hb
  have o1 := o_L hE hb
  have o5 := o_P hE
  have o10 := o_M hE
  have m10 := m_M hE
  have m9 : ∀ S, misc (hp E S 0) 9 = true := fun S => misc_o o9
  have m0 : ∀ S, misc (hp E S b) 0 = true := fun S => misc_o o0
  have m8 : ∀ S, misc (hp E S (b + 13)) 8 = true := fun S => misc_o o8
  have m1 : ∀ S, misc (hp E S (b + 22)) 1 = true := fun S => misc_o o1
  have m5 : ∀ S, misc (hp E S 79) 5 = true := fun S => misc_o o5
  obtain ⟨n1, n14, n16, n18, n20, n22, n3, n5, n7⟩ := rl_okm hR
  obtain ⟨⟨g1, g3, g5, g7, g14, g16, g18, g20, g22, gt, gw⟩, hH, hP⟩ := rl_okh hR
  have ht := rl_tod hR
  obtain ⟨n, T, hT, t4, t5⟩ := id hTp
  have hn := hT.2.1
  have h109 := hE.1
  have hTb : ∀ j, j < n → T j < 256 := fun j hj => (hT.2.2 j hj).2
  have o7 := o_D hE
  have m7 : ∀ S, misc (hp E S 81) 7 = true := fun S => misc_o o7
  have hTm : ∀ U : SS, iF U 93 5 = iF S 93 5 → U 97 = S 97 → mtp U n T := fun U e1 e2 => ⟨by rw [e1]; exact t4, hn, fun j hj => ⟨by rw [iA, e2]; exact t5 j hj, hTb j hj⟩⟩
  have hKU : ∀ U : SS, U 104 = S 104 → U 105 = S 105 → ∀ j, j < 5 → iQ U 104 j = some (1000016 + j) ∧ iQ U 105 j = some (1000021 + j) := fun U e1 e2 j hj => by
    rw [iQ, iQ, e1, e2]; exact hKy.2.2 j hj
  by_cases hbad : wiS c 0 8 = 0 ∨ wiS v 0 2999 = 0
  · have cS : ∀ q, q ≠ 79 → sF S 79 1 0 q = S q := fun q hq => by rw [sF, va_up, if_neg hq]
    obtain ⟨W, w1, w2, w3, r⟩ := M_text_no (S := sF S 79 1 0) (c := c) (v := v) hE (hTm _ (by rw [iF_sF_ne (Or.inl (by omega))]) (cS 97 (by omega))) (hKU _ (cS 104 (by omega)) (cS 105 (by omega))) hbad
    have e79 : iF W 79 1 = 0 := by rw [iF, w1 79 (by omega) (by omega)]; exact iF_sF
    refine ⟨-1000000001, E, sF S 79 1 0, W, fun d hd => ?_, fun d hd => r d (by omega), Inv_h h hE hpar (Nat.le_refl _) (fun q a a1 a2 a3 a4 a5 => by rw [w1 q a4 a5, cS q a1]) (fun k a b => by rw [w2 k a b, iF_sF_ne (Or.inl (by omega))]) e79 w3, by omega, by omega, by omega, rfl⟩
    simp only [ment, mfl, List.length, List.replicate, List.cons_append, List.nil_append, Nat.reduceAdd, Nat.reduceSub]
    by_cases h1 : wiS c 0 8 = 0
    · simp only [r_il1 c_X_text_0, r_ci c_X_text_1, r_ci c_X_text_2, r_ca3 c_X_text_4, r_ifeq c_X_text_7, r_il2 c_X_text_10, r_ci c_X_text_11, r_ci c_X_text_12, r_ca3 c_X_text_15, r_ifne c_X_text_18, r_ci c_X_text_21, r_goto c_X_text_22, r_ci c_X_text_25, r_is3 c_X_text_26, r_il3 c_X_text_27, r_ifeq c_X_text_28, r_ci c_X_text_31, r_goto c_X_text_32, r_al0 c_X_text_35, r_an0 c_X_text_35, r_gfSr c_X_text_36 o9 rfl, r_cv1 c_X_text_39, r_is4 c_X_text_42, r_al0 c_X_text_44, r_an0 c_X_text_44, r_gfSr c_X_text_45 o9 rfl, r_ci c_X_text_48, r_pfS c_X_text_49 o5 rfl, r_il3 c_X_text_52, r_ifeq c_X_text_53, r_ci c_X_text_56, r_iret c_X_text_58, ↓reduceIte, hs_h, Option.bind_some, mfix_i, mfix_r, mfix_n, mfix_a, Option.toList_some, Option.toList_none, List.cons_append, List.nil_append, List.singleton_append, mwt, Value.category, Nat.reduceAdd, Nat.reduceLeDiff, true_and, and_true, and_self, X_within_ok, h1, if_true, one_nz, if_false]
    · have h2 : wiS v 0 2999 = 0 := hbad.resolve_left h1
      simp only [r_il1 c_X_text_0, r_ci c_X_text_1, r_ci c_X_text_2, r_ca3 c_X_text_4, r_ifeq c_X_text_7, r_il2 c_X_text_10, r_ci c_X_text_11, r_ci c_X_text_12, r_ca3 c_X_text_15, r_ifne c_X_text_18, r_ci c_X_text_21, r_goto c_X_text_22, r_ci c_X_text_25, r_is3 c_X_text_26, r_il3 c_X_text_27, r_ifeq c_X_text_28, r_ci c_X_text_31, r_goto c_X_text_32, r_al0 c_X_text_35, r_an0 c_X_text_35, r_gfSr c_X_text_36 o9 rfl, r_cv1 c_X_text_39, r_is4 c_X_text_42, r_al0 c_X_text_44, r_an0 c_X_text_44, r_gfSr c_X_text_45 o9 rfl, r_ci c_X_text_48, r_pfS c_X_text_49 o5 rfl, r_il3 c_X_text_52, r_ifeq c_X_text_53, r_ci c_X_text_56, r_iret c_X_text_58, ↓reduceIte, hs_h, Option.bind_some, mfix_i, mfix_r, mfix_n, mfix_a, Option.toList_some, Option.toList_none, List.cons_append, List.nil_append, List.singleton_append, mwt, Value.category, Nat.reduceAdd, Nat.reduceLeDiff, true_and, and_true, and_self, X_within_ok, h1, if_false, h2, if_true, one_nz]
  have h1 : wiS c 0 8 = 1 := wi01.resolve_left (fun e => hbad (Or.inl e))
  have h2 : wiS v 0 2999 = 1 := wi01.resolve_left (fun e => hbad (Or.inr e))
  have hv0 : 0 ≤ v := by
    rw [wiS] at h2
    split at h2
    · exact absurd h2 (by decide)
    · rename_i hn0; exact Int32.not_lt.mp hn0
  have flt : ∀ (ky : Int32) (ρ : PT) (p : Nat), p ≤ 96 → (∀ d, 62 ≤ d → mres cT 134 d 0 (ment 1 [.ref 81]) [] (hs E S) = some (some (.int (nI p)), hs E (rdZ S ky ρ))) → ((kyQ n T (rt1 n T (iA S 82)) = none ∧ p = (rt1 n T (iA S 82)).1) ∨ ∃ kn, kyQ n T (rt1 n T (iA S 82)) = some kn ∧ (rt3 n T (iA S 82) kn).2.2.2.1 = some p) → opG E S 139 154 5 8 [.int c, .int v] := by
    intro ky ρ p hp96 hr hp
    have cS : ∀ q, q ≠ 79 → q ≠ 81 → q ≠ 82 → sF (rdZ S ky ρ) 79 1 0 q = S q := fun q a1 a2 a3 => by rw [sF, va_up, if_neg a1, rdZ_o a2 a3]
    have c93 : ∀ k, iF (sF (rdZ S ky ρ) 79 1 0) 93 k = iF S 93 k := fun k => by rw [iF, cS 93 (by omega) (by omega) (by omega)]
    obtain ⟨W, w1, w2, w3, r⟩ := M_text_x (S := sF (rdZ S ky ρ) 79 1 0) (c := c) (v := v) hE (hTm _ (c93 5) (cS 97 (by omega) (by omega) (by omega))) (hKU _ (cS 104 (by omega) (by omega) (by omega)) (cS 105 (by omega) (by omega) (by omega))) h1 h2 hp
    have e79 : iF W 79 1 = 0 := by rw [iF, w1 79 (by omega) (by omega)]; exact iF_sF
    have nn := nI_n1 (p := p) (by omega)
    refine ⟨-100 - nI p, E, sF (rdZ S ky ρ) 79 1 0, W, fun d hd => ?_, fun d hd => r d (by omega), Inv_h h hE hpar (Nat.le_refl _) (fun q a a1 a2 a3 a4 a5 => by rw [w1 q a4 a5, cS q a1 a2 a3]) (fun k a b => by rw [w2 k a b, c93 k]) e79 w3, by omega, by omega, by omega, rfl⟩
    have hr := hr d hd
    simp only [ment, mfl, List.length, List.replicate, List.cons_append, List.nil_append, Nat.reduceAdd, Nat.reduceSub]
    simp only [r_il1 c_X_text_0, r_ci c_X_text_1, r_ci c_X_text_2, r_ca3 c_X_text_4, r_ifeq c_X_text_7, r_il2 c_X_text_10, r_ci c_X_text_11, r_ci c_X_text_12, r_ca3 c_X_text_15, r_ifne c_X_text_18, r_ci c_X_text_21, r_goto c_X_text_22, r_ci c_X_text_25, r_is3 c_X_text_26, r_il3 c_X_text_27, r_ifeq c_X_text_28, r_ci c_X_text_31, r_goto c_X_text_32, r_al0 c_X_text_35, r_an0 c_X_text_35, r_gfSr c_X_text_36 o9 rfl, r_cv1 c_X_text_39, r_is4 c_X_text_42, r_al0 c_X_text_44, r_an0 c_X_text_44, r_gfSr c_X_text_45 o9 rfl, r_ci c_X_text_48, r_pfS c_X_text_49 o5 rfl, r_il3 c_X_text_52, r_ifeq c_X_text_53, r_ci c_X_text_56, r_iret c_X_text_58, r_il4 c_X_text_59, r_ci c_X_text_61, r_iceq c_X_text_62, r_ci c_X_text_65, r_il4 c_X_text_67, r_isub c_X_text_69, r_iret c_X_text_70, ↓reduceIte, hs_h, Option.bind_some, mfix_i, mfix_r, mfix_n, mfix_a, Option.toList_some, Option.toList_none, List.cons_append, List.nil_append, List.singleton_append, mwt, Value.category, Nat.reduceAdd, Nat.reduceLeDiff, true_and, and_true, and_self, X_within_ok, h1, h2, one_nz, if_false, if_true, m7, hr, nn]
  cases hq : kyQ n T (rt1 n T (iA S 82)) with
  | none =>
    refine flt (-1000000005) (rt1 n T (iA S 82)) (rt1 n T (iA S 82)).1 ?_ (fun d hd => ?_) (Or.inl ⟨hq, rfl⟩)
    · have := (okP_1 (n := n) (T := T) (cf := iA S 82)).1
      omega
    · have := D_readTape_ok (d := d) hE hT hd
      rw [hq] at this
      exact this
  | some kn =>
    have rt : ∀ d, 62 ≤ d → mres cT 134 d 0 (ment 1 [.ref 81]) [] (hs E S) = some (some (.int (cdF (rt3 n T (iA S 82) kn).2.2.2.1)), hs E (rdZ S (nI kn) (rt3 n T (iA S 82) kn))) := fun d hd => by
      have := D_readTape_ok (d := d) hE hT hd
      rw [hq] at this
      exact this
    cases hf : (rt3 n T (iA S 82) kn).2.2.2.1 with
    | some p =>
      refine flt (nI kn) (rt3 n T (iA S 82) kn) p ?_ (fun d hd => ?_) (Or.inr ⟨kn, hq, hf⟩)
      · have := (okP_3 (n := n) (T := T) (cf := iA S 82) (kn := kn)).2.2.2.2.2 p hf
        omega
      · have := rt d hd
        rw [hf] at this
        exact this
    | none =>
      have hk5 := kyQ_lt hq
      have e3 : rt3 n T (iA S 82) kn = rt2 n T (iA S 82) kn := by
        rw [rt3] at hf ⊢
        split at hf
        · rename_i a; rw [if_pos a]
        · exact absurd hf rfu_n
      have hf2 : (rt2 n T (iA S 82) kn).2.2.2.1 = none := by rw [← e3]; exact hf
      obtain ⟨cc96, hwf⟩ := rt2_st hn hTb hq hf2
      obtain ⟨cw, cv⟩ := cpT_w hwf
      rw [hf, e3] at rt
      have rt : ∀ d, 62 ≤ d → mres cT 134 d 0 (ment 1 [.ref 81]) [] (hs E S) = some (some (.int (-1)), hs E (rdZ S (nI kn) (rt2 n T (iA S 82) kn))) := rt
      obtain ⟨ρ, hρ⟩ : ∃ ρ, ρ = rt2 n T (iA S 82) kn := ⟨_, rfl⟩
      rw [← hρ] at cc96 hwf cw cv rt
      obtain ⟨U, hU⟩ : ∃ U, U = sF (rdZ S (nI kn) ρ) 79 1 0 := ⟨_, rfl⟩
      have cU : ∀ q, q ≠ 79 → q ≠ 81 → q ≠ 82 → U q = S q := fun q a1 a2 a3 => by rw [hU, sF, va_up, if_neg a1, rdZ_o a2 a3]
      have u2 : iF U 81 2 = nI ρ.2.2.2.2.1 := by rw [hU, iF_sF_ne (Or.inl (by omega))]; exact rz2
      have u3 : iF U 81 3 = nI ρ.2.2.2.2.2.1 := by rw [hU, iF_sF_ne (Or.inl (by omega))]; exact rz3
      have u4 : iF U 81 4 = nI kn := by rw [hU, iF_sF_ne (Or.inl (by omega))]; exact rz4
      have u82 : iA U 82 = ρ.2.2.2.2.2.2 := by rw [hU, iA_sF]; exact rzA
      have u79 : iF U 79 1 = 0 := by rw [hU]; exact iF_sF
      have rm := fun d => D_made_ok (d := d) (S := U) (o := c) (y := v) hE hpar hlt u4 u3 u2 cc96
      rw [u82] at rm
      obtain ⟨E', hE'e⟩ : ∃ E', E' = eeT E ρ.2.2.2.2.1 := ⟨_, rfl⟩
      obtain ⟨V, hV⟩ : ∃ V, V = mkT E U (nI kn) c v (nI ρ.2.2.2.2.2.1) ρ.2.2.2.2.1 (cpT ρ.2.2.2.2.2.2 ρ.2.2.2.2.1) := ⟨_, rfl⟩
      rw [← hE'e, ← hV] at rm
      have e1 : E'.1 = E.1 + 2 := by rw [hE'e]; rfl
      have e2 : E'.2.1 = E.2.1 + 5 + ρ.2.2.2.2.1 := by rw [hE'e]; rfl
      have e4 : E'.2.2 = E.2.2 := by rw [hE'e]; rfl
      have hE' : okE E' := ⟨by omega, by omega, by omega⟩
      have hp' : E'.1 % 2 = 1 := by omega
      have cV : ∀ q, q < E.1 → q ≠ 79 → q ≠ 81 → q ≠ 82 → V q = S q := fun q a a1 a2 a3 => by rw [hV, mkT, va_up, if_neg (by omega), va_up, if_neg (by omega), cU q a1 a2 a3]
      have V1 : V E.1 = tc1 (nI kn) c v (nI ρ.2.2.2.2.2.1) := by rw [hV, mkT, va_up, if_neg (by omega), va_up, if_pos rfl]
      have V2 : V (E.1 + 1) = tc2 ρ.2.2.2.2.1 (cpT ρ.2.2.2.2.2.2 ρ.2.2.2.2.1) := by rw [hV, mkT, va_up, if_pos rfl]
      have V79 : iF V 79 1 = 0 := by rw [iF, hV, mkT, va_up, if_neg (by omega), va_up, if_neg (by omega)]; exact u79
      have m1' : ∀ S, misc (hp E' S (b + 22)) 1 = true := fun S => misc_o (o_L hE' hb)
      have bl := bkb_lt hb
      have nV : iF V (b + 22) 1 = nI (z 22) := by rw [iF, cV (b + 22) (by omega) (by omega) (by omega) (by omega)]; exact g22.1
      by_cases hfull : z 22 = 16
      · have nV : iF V (b + 22) 1 = nI 16 := by rw [nV, hfull]
        have re := fun d => L_enact_full (d := d) (q := E.1) hE' hb nV
        obtain ⟨W, hW, r⟩ := M_text_s (S := V) (c := c) (v := v) (w4 := .int 5) (w5 := .retAddr 0) (w6 := .retAddr 0) (w7 := .retAddr 0) (g := iA V 103) hE' (hTm V (by rw [iF, cV 93 (by omega) (by omega) (by omega) (by omega)]) (cV 97 (by omega) (by omega) (by omega) (by omega))) (hKU V (cV 104 (by omega) (by omega) (by omega) (by omega)) (cV 105 (by omega) (by omega) (by omega) (by omega))) hq
        rcases hW with ⟨p2, hp2, -⟩ | ⟨-, -, g1, hg1, rfl⟩
        · rw [hf] at hp2; cases hp2
        have n7 : iA (sF V 93 19 (nI (1000021 + kn))) 94 7 = nI 16 := by
          rw [iA_sF, iA, cV 94 (by omega) (by omega) (by omega) (by omega), ← hfull]; exact n22.1
        refine ⟨-1000000003, E', V, mpS (sF (sF V 93 19 (nI (1000021 + kn))) 93 5 0) (nI (rt2 n T (iA S 82) kn).1) (nI (rt2 n T (iA S 82) kn).2.1) (mso (rt2 n T (iA S 82) kn)) 0 0 0 (nI ((rt2 n T (iA S 82) kn).2.2.2.2.1 + 1)) (nI (rt2 n T (iA S 82) kn).2.2.2.2.2.1) (upd g1 (rt2 n T (iA S 82) kn).2.2.2.2.1 300000), fun d hd => ?_, fun d hd => ?_, Inv_h h hE' hp' (by omega) (fun q a a1 a2 a3 a4 a5 => by rw [mp_c a4 a5, cV q a a1 a2 a3]) (fun k a b => by rw [mp_k a b, iF, cV 93 (by omega) (by omega) (by omega) (by omega)]) (by rw [iF, mp_c (by omega) (by omega)]; exact V79) mp_5, by omega, by omega, by omega, e4⟩
        · have rt := rt d hd
          simp only [ment, mfl, List.length, List.replicate, List.cons_append, List.nil_append, Nat.reduceAdd, Nat.reduceSub]
          simp only [r_il1 c_X_text_0, r_ci c_X_text_1, r_ci c_X_text_2, r_ca3 c_X_text_4, r_ifeq c_X_text_7, r_il2 c_X_text_10, r_ci c_X_text_11, r_ci c_X_text_12, r_ca3 c_X_text_15, r_ifne c_X_text_18, r_ci c_X_text_21, r_goto c_X_text_22, r_ci c_X_text_25, r_is3 c_X_text_26, r_il3 c_X_text_27, r_ifeq c_X_text_28, r_ci c_X_text_31, r_goto c_X_text_32, r_al0 c_X_text_35, r_an0 c_X_text_35, r_gfSr c_X_text_36 o9 rfl, r_cv1 c_X_text_39, r_is4 c_X_text_42, r_al0 c_X_text_44, r_an0 c_X_text_44, r_gfSr c_X_text_45 o9 rfl, r_ci c_X_text_48, r_pfS c_X_text_49 o5 rfl, r_il3 c_X_text_52, r_ifeq c_X_text_53, r_ci c_X_text_56, r_iret c_X_text_58, r_il4 c_X_text_59, r_ci c_X_text_61, r_iceq c_X_text_62, r_al0 c_X_text_71, r_an0 c_X_text_71, r_gfSr c_X_text_72 o9 rfl, r_gfSr c_X_text_75 o0 rfl, r_al0 c_X_text_78, r_an0 c_X_text_78, r_gfSr c_X_text_79 o9 rfl, r_il1 c_X_text_82, r_il2 c_X_text_83, r_cv3 c_X_text_84, r_cv2 c_X_text_87, r_iret c_X_text_90, ↓reduceIte, hs_h, Option.bind_some, mfix_i, mfix_r, mfix_n, mfix_a, Option.toList_some, Option.toList_none, List.cons_append, List.nil_append, List.singleton_append, mwt, Value.category, Nat.reduceAdd, Nat.reduceLeDiff, true_and, and_true, and_self, X_within_ok, h1, h2, one_nz, if_false, if_true, m7, rt]
          rw [← hU]
          simp only [r_al0 c_X_text_71, r_an0 c_X_text_71, r_gfSr c_X_text_72 o9 rfl, r_gfSr c_X_text_75 o0 rfl, r_al0 c_X_text_78, r_an0 c_X_text_78, r_gfSr c_X_text_79 o9 rfl, r_il1 c_X_text_82, r_il2 c_X_text_83, r_cv3 c_X_text_84, r_cv2 c_X_text_87, r_iret c_X_text_90, ↓reduceIte, hs_h, Option.bind_some, mfix_i, mfix_r, mfix_n, mfix_a, Option.toList_some, Option.toList_none, List.cons_append, List.nil_append, List.singleton_append, mwt, Value.category, Nat.reduceAdd, Nat.reduceLeDiff, true_and, and_true, and_self, if_true, if_false, m7, rm, m1', re]
        · rw [M_text_k (cf := iA S 82) hE' (hTm V (by rw [iF, cV 93 (by omega) (by omega) (by omega) (by omega)]) (cV 97 (by omega) (by omega) (by omega) (by omega))) (hKU V (cV 104 (by omega) (by omega) (by omega) (by omega)) (cV 105 (by omega) (by omega) (by omega) (by omega))), hq]
          exact (r d (by omega)).trans (M_text_full hE' h1 h2 n7)
      · have hl16 : z 22 < 16 := by omega
        have m6 : misc (hp E' V E.1) 6 = true := misc_o (o_T h109 hpar (by omega))
        have re := fun d => L_enact_ok (d := d) (q := E.1) hE' hb nV hl16 m6
        obtain ⟨Y, hY⟩ : ∃ Y, Y = sF (sQ V (b + 23) (va_up (iQ V (b + 23)) (z 22) (some E.1))) (b + 22) 1 (nI (z 22 + 1)) := ⟨_, rfl⟩
        rw [← hY] at re
        have yV : ∀ q, q ≠ b + 22 → q ≠ b + 23 → Y q = V q := fun q a1 a2 => by rw [hY, sF, va_up, if_neg a1, sQ, va_up, if_neg a2]
        have cY : ∀ q, q < E.1 → q ≠ b + 22 → q ≠ b + 23 → q ≠ 79 → q ≠ 81 → q ≠ 82 → Y q = S q := fun q a a1 a2 a3 a4 a5 => by rw [yV q a1 a2, cV q a a3 a4 a5]
        have y22 : iF Y (b + 22) 1 = nI (z 22 + 1) := by rw [hY]; exact iF_sF
        have y23 : iQ Y (b + 23) = va_up (iQ S (b + 23)) (z 22) (some E.1) := by
          have e : iQ V (b + 23) = iQ S (b + 23) := by rw [iQ, cV (b + 23) (by omega) (by omega) (by omega) (by omega)]
          rw [← e, hY]
          simp only [iQ, sF, sQ, va_up, if_true, if_false, show ¬ (b + 23 = b + 22) by omega]
        have hTY := hTm Y (by rw [iF, cY 93 (by omega) (by omega) (by omega) (by omega) (by omega) (by omega)]) (cY 97 (by omega) (by omega) (by omega) (by omega) (by omega) (by omega))
        have hKY := hKU Y (cY 104 (by omega) (by omega) (by omega) (by omega) (by omega) (by omega)) (cY 105 (by omega) (by omega) (by omega) (by omega) (by omega) (by omega))
        obtain ⟨W, hW, r⟩ := M_text_s (S := Y) (c := c) (v := v) (w4 := .int 5) (w5 := .retAddr 0) (w6 := .retAddr 0) (w7 := .retAddr 0) (g := iA Y 103) hE' hTY hKY hq
        rcases hW with ⟨p2, hp2, -⟩ | ⟨-, -, g1, hg1, rfl⟩
        · rw [hf] at hp2; cases hp2
        rw [← hρ] at hg1 r
        have n7 : iA (sF Y 93 19 (nI (1000021 + kn))) 94 7 = nI (z 22) := by
          rw [iA_sF, iA, cY 94 (by omega) (by omega) (by omega) (by omega) (by omega) (by omega)]; exact n22.1
        have rA := fun d => M_text_add (d := d) (S := sF Y 93 19 (nI (1000021 + kn))) (fr := nI ρ.1) (tt := nI ρ.2.1) (so := mso ρ) (br := 0) (nt := 0) (pa := nI ρ.2.2.2.2.2.1) (g := upd g1 ρ.2.2.2.2.1 300000) (x0 := nI kn) (w4 := .int 5) (w5 := .retAddr 0) (w6 := .retAddr 0) (w7 := .retAddr 0) (m := ρ.2.2.2.2.1 + 1) hE' h1 h2 n7 hl16 (by omega)
        obtain ⟨G, hG⟩ : ∃ G, G = txF (iA S 94) (z 22) (nI kn) c v (nI ρ.2.2.2.2.2.1) (upd g1 ρ.2.2.2.2.1 300000) (ρ.2.2.2.2.1 + 1) := ⟨_, rfl⟩
        have yA : iA (sF Y 93 19 (nI (1000021 + kn))) 94 = iA S 94 := by rw [iA_sF, iA, cY 94 (by omega) (by omega) (by omega) (by omega) (by omega) (by omega)]
        rw [yA, ← hG] at rA
        obtain ⟨Z, hZ⟩ : ∃ Z, Z = sA (mpS (sF (sF Y 93 19 (nI (1000021 + kn))) 93 5 0) (nI ρ.1) (nI ρ.2.1) (mso ρ) 0 0 0 (nI (ρ.2.2.2.2.1 + 1)) (nI ρ.2.2.2.2.2.1) (upd g1 ρ.2.2.2.2.1 300000)) 94 G := ⟨_, rfl⟩
        rw [← hZ] at rA
        have zY : ∀ q, q ≠ 93 → q ≠ 94 → q ≠ 103 → Z q = Y q := fun q a1 a2 a3 => by rw [hZ, sA, va_up, if_neg a2, mp_c a1 a3]
        have z94 : iA Z 94 = G := by rw [hZ, iA_sA]
        have z93 : ∀ k, k < 13 → k ≠ 5 → iF Z 93 k = iF S 93 k := fun k a b => by rw [hZ, iF_sA, mp_k a b, iF, cY 93 (by omega) (by omega) (by omega) (by omega) (by omega) (by omega)]
        have z5 : iF Z 93 5 = 0 := by rw [hZ, iF_sA]; exact mp_5
        have z79 : iF Z 79 1 = 0 := by rw [iF, zY 79 (by omega) (by omega) (by omega), yV 79 (by omega) (by omega)]; exact V79
        have zT1 : Z E.1 = tc1 (nI kn) c v (nI ρ.2.2.2.2.2.1) := by rw [zY _ (by omega) (by omega) (by omega), yV _ (by omega) (by omega)]; exact V1
        have zT2 : Z (E.1 + 1) = tc2 ρ.2.2.2.2.1 (cpT ρ.2.2.2.2.2.2 ρ.2.2.2.2.1) := by rw [zY _ (by omega) (by omega) (by omega), yV _ (by omega) (by omega)]; exact V2
        have zA2 : iA Z (E.1 + 1) = cpT ρ.2.2.2.2.2.2 ρ.2.2.2.2.1 := by rw [iA, zT2]; rfl
        have zQ : iQ Z (b + 23) = va_up (iQ S (b + 23)) (z 22) (some E.1) := by rw [iQ, zY _ (by omega) (by omega) (by omega)]; exact y23
        have hRel : Rel E' Z b (va_up z 22 (z 22 + 1)) (va_up t (z 22) E.1) hc pk td (18 * td) (iA Z 94) := by
          refine Rel_addT (len := ρ.2.2.2.2.1) (x0 := nI kn) (x1 := c) (x2 := v) (x3 := nI ρ.2.2.2.2.2.1) hb hR hl16 (by omega) hpar h109 (fun c hc => by rw [va_up, if_neg hc]) (by rw [va_up, if_pos rfl]) (fun j hj => by rw [va_up, if_neg (by omega)]) (by rw [va_up, if_pos rfl]) (fun c hc => by rw [zY _ (by omega) (by omega) (by omega), cY _ (by omega) (by omega) (by omega) (by omega) (by omega) (by omega)]) (by rw [iF, zY _ (by omega) (by omega) (by omega)]; exact y22) zQ (fun q a1 a2 => by rw [zY _ (by omega) (by omega) (by omega), cY _ (by omega) (by omega) (by omega) (by omega) (by omega) (by omega)]) ?_ ?_ ?_ ?_ hv0 ?_ (by omega) ?_ ?_ ?_ (fun q a1 a2 => ?_) ?_ ?_ ?_ ?_ (fun i hi => ?_) ?_
          · rw [iF, zT1]; rfl
          · rw [iF, zT1]; rfl
          · rw [iF, zT1]; rfl
          · rw [iF, zT1]; rfl
          · rw [iF, zT2]; rfl
          · rw [zA2]; exact cw
          · rw [zA2]; exact cv
          · rw [z94, hG, txF]; exact pk_us
          · rw [z94, hG]; exact txF_o a1 a2 (by omega)
          · rw [z94, hG]; exact txF_0
          · rw [z94, hG]; exact txF_1
          · rw [z94, hG]; exact txF_2
          · rw [z94, hG]; exact txF_3
          · rw [z94, hG, txF_c (by omega), pk_un (by omega), zA2, cpT_i hi]; exact hg1 i hi
          · rw [z94, hG, txF_c (by omega)]; exact pk_us
        refine ⟨nI (z 22), E', Y, Z, fun d hd => ?_, fun d hd => ?_, Inv_g h hE' hp' (by omega) (fun q a a0 a1 a2 a3 a4 a5 a6 => by rw [zY q a4 a5 a6, cY q a (by omega) (by omega) a1 a2 a3]) z93 z79 z5 ⟨va_up z 22 (z 22 + 1), va_up t (z 22) E.1, hc, pk, td, htd, by rw [hb1] at hRel; exact hRel⟩ (fun j p hj hp => ?_), by omega, by omega, by omega, e4⟩
        · have rt := rt d hd
          simp only [ment, mfl, List.length, List.replicate, List.cons_append, List.nil_append, Nat.reduceAdd, Nat.reduceSub]
          simp only [r_il1 c_X_text_0, r_ci c_X_text_1, r_ci c_X_text_2, r_ca3 c_X_text_4, r_ifeq c_X_text_7, r_il2 c_X_text_10, r_ci c_X_text_11, r_ci c_X_text_12, r_ca3 c_X_text_15, r_ifne c_X_text_18, r_ci c_X_text_21, r_goto c_X_text_22, r_ci c_X_text_25, r_is3 c_X_text_26, r_il3 c_X_text_27, r_ifeq c_X_text_28, r_ci c_X_text_31, r_goto c_X_text_32, r_al0 c_X_text_35, r_an0 c_X_text_35, r_gfSr c_X_text_36 o9 rfl, r_cv1 c_X_text_39, r_is4 c_X_text_42, r_al0 c_X_text_44, r_an0 c_X_text_44, r_gfSr c_X_text_45 o9 rfl, r_ci c_X_text_48, r_pfS c_X_text_49 o5 rfl, r_il3 c_X_text_52, r_ifeq c_X_text_53, r_ci c_X_text_56, r_iret c_X_text_58, r_il4 c_X_text_59, r_ci c_X_text_61, r_iceq c_X_text_62, ↓reduceIte, hs_h, Option.bind_some, mfix_i, mfix_r, mfix_n, mfix_a, Option.toList_some, Option.toList_none, List.cons_append, List.nil_append, List.singleton_append, mwt, Value.category, Nat.reduceAdd, Nat.reduceLeDiff, true_and, and_true, and_self, X_within_ok, h1, h2, one_nz, if_false, if_true, m7, rt]
          rw [← hU]
          simp only [r_al0 c_X_text_71, r_an0 c_X_text_71, r_gfSr c_X_text_72 o9 rfl, r_gfSr c_X_text_75 o0 rfl, r_al0 c_X_text_78, r_an0 c_X_text_78, r_gfSr c_X_text_79 o9 rfl, r_il1 c_X_text_82, r_il2 c_X_text_83, r_cv3 c_X_text_84, r_cv2 c_X_text_87, r_iret c_X_text_90, ↓reduceIte, hs_h, Option.bind_some, mfix_i, mfix_r, mfix_n, mfix_a, Option.toList_some, Option.toList_none, List.cons_append, List.nil_append, List.singleton_append, mwt, Value.category, Nat.reduceAdd, Nat.reduceLeDiff, true_and, and_true, and_self, if_true, if_false, m7, rm, m1', re]
        · rw [M_text_k (cf := iA S 82) hE' hTY hKY, hq]
          exact (r d (by omega)).trans (rA d)
        · rw [← hb1, zQ] at hp
          by_cases e : j = z 22
          · rw [va_up, if_pos e] at hp
            cases hp
            exact ⟨h109, hpar, by omega⟩
          · rw [va_up, if_neg e, hb1] at hp
            obtain ⟨w1, w2, w3⟩ := hKy.1 j p hj hp
            exact ⟨w1, w2, by omega⟩
end TEXTR
