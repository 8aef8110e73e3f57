/-! a span begins; a state becomes IN -/
section BEGINS
variable {E : EE} {R S S1 S2 : SS} {b d k n m i j p td B a s : Nat} {c v w x y : Int32} {z t hc pk : Nat → Nat} {f f0 f1 g g' : Nat → Int32}
theorem Rel_begin (hb : bkb b) (h : Rel E R b z t hc pk td B f) (hk : k < z 1) (hl : z 16 < 30) (hin : iA R (b + 2) (k * 6 + 3) = 0) (hns : ∀ i, i < z 16 → tC (iA R (b + 17)) i = k → tT (iA R (b + 17)) i ≤ td) : Rel E (adR R b 16 (z 16) (rowSet (iA R (b + 17)) (z 16 * 3) 3 [nI k, nI td, 2147483647, 0])) b (va_up z 16 (z 16 + 1)) t hc pk td B (mbG f k (z 16) (nI td)) := by
  obtain ⟨n1, n14, n16, n18, n20, n22, n3, n5, n7⟩ := rl_okm h
  have bl := bkb_lt hb
  have ht := rl_tod h
  have htx := rl_tx h
  have eA : ∀ c, c ≠ 17 → iA (adR R b 16 (z 16) (rowSet (iA R (b + 17)) (z 16 * 3) 3 [nI k, nI td, 2147483647, 0])) (b + c) = iA R (b + c) := fun c h1 => ad_A (by omega)
  have eF : ∀ c : Nat, iF (adR R b 16 (z 16) (rowSet (iA R (b + 17)) (z 16 * 3) 3 [nI k, nI td, 2147483647, 0])) b c = iF R b c := fun c => ad_F (Or.inl (by omega))
  have eH : ∀ q, 109 ≤ q → (adR R b 16 (z 16) (rowSet (iA R (b + 17)) (z 16 * 3) 3 [nI k, nI td, 2147483647, 0])) q = R q := fun q hq => ad_o (by omega) (by omega)
  have ff : ∀ q, q ≠ 4 → q ≠ 20 + 6 * k + 5 → (q < 164 + 3 * z 16 ∨ 164 + 3 * z 16 + 3 ≤ q) → mbG f k (z 16) (nI td) q = f q := fun q h1 h2 h3 => by rw [mbG, pk_un h1, pk_un h2, pk_un (by omega), pk_un (by omega), pk_un (by omega)]
  have fr : ∀ lo hi, (11 ≤ lo ∧ (hi ≤ 20 ∨ (92 ≤ lo ∧ hi ≤ 164) ∨ 254 ≤ lo)) → ∀ q, lo ≤ q → q < hi → mbG f k (z 16) (nI td) q = f q := fun lo hi hh q h1 h2 => ff q (by omega) (by omega) (by omega)
  have w0 : mbG f k (z 16) (nI td) (164 + 3 * z 16) = nI k := by rw [mbG, pk_un (by omega), pk_un (by omega), pk_un (by omega), pk_un (by omega), pk_us]
  have w1 : mbG f k (z 16) (nI td) (164 + 3 * z 16 + 1) = nI td := by rw [mbG, pk_un (by omega), pk_un (by omega), pk_un (by omega), pk_us]
  have w2 : mbG f k (z 16) (nI td) (164 + 3 * z 16 + 2) = -1 := by rw [mbG, pk_un (by omega), pk_un (by omega), pk_us]
  have w5 : mbG f k (z 16) (nI td) (20 + 6 * k + 5) = nI (z 16) := by rw [mbG, pk_un (by omega), pk_us]
  obtain ⟨A', hA⟩ : ∃ A', rowSet (iA R (b + 17)) (z 16 * 3) 3 [nI k, nI td, 2147483647, 0] = A' := ⟨_, rfl⟩
  have e0 : iA (adR R b 16 (z 16) (rowSet (iA R (b + 17)) (z 16 * 3) 3 [nI k, nI td, 2147483647, 0])) (b + 17) = A' := ad_A1.trans hA
  have r0 : A' (z 16 * 3) = nI k := by rw [← hA]; exact row_in (t := 0) rfl (by omega)
  have r1 : A' (z 16 * 3 + 1) = nI td := by rw [← hA]; exact row_in (t := 1) rfl (by omega)
  have r2 : A' (z 16 * 3 + 2) = 2147483647 := by rw [← hA]; exact row_in (t := 2) rfl (by omega)
  have ro : ∀ q, q < z 16 * 3 → A' q = iA R (b + 17) q := fun q hq => by rw [← hA]; exact row_out (by omega)
  have c0 : tC A' (z 16) = k := by rw [tC, r0, nI_clamp (by omega)]
  have c1 : tF A' (z 16) = td := by rw [tF, r1, nI_clamp (by omega)]
  have c2 : tT A' (z 16) = 2147483647 := by rw [tT, r2]; rfl
  have co : ∀ i, i < z 16 → tC A' i = tC (iA R (b + 17)) i ∧ tF A' i = tF (iA R (b + 17)) i ∧ tT A' i = tT (iA R (b + 17)) i := fun i hi => ⟨by rw [tC, tC, ro _ (by omega)], by rw [tF, tF, ro _ (by omega)], by rw [tT, tT, ro _ (by omega)]⟩
  obtain ⟨s1, s2, s3⟩ := rl_spg h
  refine ⟨⟨okB_add hb (lim := 30) (by simp [lmA]) (rl_okh h).1 hl, fun i hi => by rw [ad_A (by omega)]; exact (rl_okh h).2.1 i hi, fun i hi => by rw [ad_A (by omega)]; exact (rl_okh h).2.2 i hi⟩, okM_add (lim := 30) (by simp [ixA]) (fun q q1 q2 => by rw [pk_un (by omega), pk_un (by omega), pk_un (by omega), pk_un (by omega)]) (rl_okm h) hl, ?_, ?_, ?_, ?_, ?_, ?_, ?_, ?_, ?_, ?_, ?_, ?_, ?_, ?_, ?_, ?_, ?_, ?_⟩
  · rw [eF 8, ff 0 (by omega) (by omega) (by omega)]; exact rl_tod h
  · rw [eF 9, ff 1 (by omega) (by omega) (by omega)]; exact rl_see h
  · rw [eF 10, eF 11]; exact cg_dou (ff 11 (by omega) (by omega) (by omega)) (fr 850 890 (by omega)) (rl_dou h)
  · rw [eA 12 (by omega)]; exact cg_12 (fr 13 17 (by omega)) (rl_put h)
  · rw [eA 2 (by omega)]
    intro i hi
    have hi : i < z 1 := hi
    obtain ⟨q1, q2⟩ := rl_cas h i hi
    exact ⟨fun c hc => by rw [ff _ (by omega) (by omega) (by omega)]; exact q1 c hc, q2⟩
  · rw [eA 15 (by omega)]
    have q_ := cg_92 n14.2 (fr 92 164 (by omega)) (rl_sen h)
    exact q_
  · rw [e0]
    intro i hi
    have hi : i < z 16 + 1 := hi
    by_cases a : i = z 16
    · subst a
      rw [w0, w1, w2, c0, c1, c2]
      exact ⟨rfl, rfl, by rw [if_pos rfl], by omega, by omega, by omega⟩
    · obtain ⟨q0, q1, q2⟩ := co i (by omega)
      rw [q0, q1, q2, ff _ (by omega) (by omega) (by omega), ff _ (by omega) (by omega) (by omega), ff _ (by omega) (by omega) (by omega)]
      exact rl_sps h i (by omega)
  · rw [e0]
    refine ⟨fun i hi => ?_, fun i hi => ?_, fun i j h1 h2 h3 => ?_⟩
    · have hi : i < z 16 + 1 := hi
      by_cases a : i = z 16
      · subst a
        rw [r0, r1, r2, c0, c1, c2]
        exact ⟨rfl, rfl, rfl, by omega, by omega, by omega⟩
      · obtain ⟨q0, q1, q2⟩ := co i (by omega)
        rw [q0, q1, q2, ro _ (by omega), ro _ (by omega), ro _ (by omega)]
        exact s1 i (by omega)
    · have hi : i < z 16 + 1 := hi
      by_cases a : i = z 16
      · subst a
        rw [c0, c1, c2]
        exact ⟨hk, Nat.le_refl _, Or.inr rfl⟩
      · obtain ⟨q0, q1, q2⟩ := co i (by omega)
        rw [q0, q1, q2]
        exact s2 i (by omega)
    · have h2 : j < z 16 + 1 := h2
      obtain ⟨q0, q1, q2⟩ := co i (by omega)
      by_cases a : j = z 16
      · subst a
        rw [c0, q0] at h3
        rw [c1, q2]
        exact hns i (by omega) h3
      · obtain ⟨p0, p1, p2⟩ := co j (by omega)
        rw [q0, p0] at h3
        rw [q2, p1]
        exact s3 i j h1 (by omega) h3
  · rw [eA 2 (by omega), e0]
    intro i hi
    show ∃ s, lsq A' (nI i) (z 16 + 1) = some s ∧ _
    rw [lsq, r0]
    by_cases a : k = i
    · subst a
      exact ⟨z 16, by rw [if_pos rfl], by rw [w5, r2, if_pos rfl], Or.inl hin⟩
    · obtain ⟨u, u1, u2, u3⟩ := rl_lat h i hi
      have hu := (lsq_lt u1).1
      have hi12 : i < 12 := by have : i < z 1 := hi; omega
      refine ⟨u, ?_, ?_, ?_⟩
      · rw [if_neg (fun e => a ((nI_eq (by omega) (by omega)).mp e)), lsq_cg (n := z 16) (fun q hq => ro _ (by omega)) (z 16) (Nat.le_refl _)]
        exact u1
      · rw [ff _ (by omega) (by omega) (by omega), ro _ (by omega)]
        exact u2
      · rw [ro _ (by omega)]
        exact u3
  · rw [eA 19 (by omega)]
    have q1 := cg_gap n18.2 (fr 254 314 (by omega)) (rl_gap h).1
    have q2 := (rl_gap h).2
    exact ⟨q1, q2⟩
  · rw [eA 21 (by omega)]
    have q_ := cg_314 n20.2 (fr 314 474 (by omega)) (rl_cre h)
    exact q_
  · rw [eA 4 (by omega)]
    have q_ := cg_474 n3.2 (fr 474 634 (by omega)) (rl_pap h)
    exact q_
  · rw [eA 6 (by omega)]
    have q1 := cg_634 n5.2 (fr 634 670 (by omega)) (rl_mem h).2
    exact ⟨(rl_mem h).1, q1⟩
  · rw [eA 8 (by omega)]
    have q_ := cg_670 n7.2 (fr 670 850 (by omega)) (rl_hea h)
    exact q_
  · rw [eA 8 (by omega)]
    have q_ := rl_unq h
    exact q_
  · rw [eA 2 (by omega), eA 8 (by omega)]
    have q_ := cg_was n7.2 (fr 670 850 (by omega)) (rl_was h)
    exact q_
  · rw [eA 10 (by omega)]; exact cg_890 (fr 890 914 (by omega)) (rl_tab h)
  · have q1 : txR (adR R b 16 (z 16) (rowSet (iA R (b + 17)) (z 16 * 3) 3 [nI k, nI td, 2147483647, 0])) (z 22) t (mbG f k (z 16) (nI td)) := by
      refine cg_txt (fr 914 2578 (by omega)) htx.1 htx.2.1 htx.2.2 (fun j hj => ?_) (rl_txt h)
      have := htx.2.2 j hj
      exact ⟨eH _ (by omega), eH _ (by omega)⟩
    exact q1
theorem Rel_in (hb : bkb b) (h : Rel E R b z t hc pk td B f) (hk : k < z 1) : Rel E (sA R (b + 2) (upd (iA R (b + 2)) (k * 6 + 3) 0)) b (z) t hc pk td B (upd f (20 + 6 * k + 3) 0) := by
  obtain ⟨n1, n14, n16, n18, n20, n22, n3, n5, n7⟩ := rl_okm h
  have bl := bkb_lt hb
  have ht := rl_tod h
  have htx := rl_tx h
  have eA : ∀ c, c ≠ 2 → iA (sA R (b + 2) (upd (iA R (b + 2)) (k * 6 + 3) 0)) (b + c) = iA R (b + c) := fun c h1 => iA_sA_ne (by omega)
  have e0 : iA (sA R (b + 2) (upd (iA R (b + 2)) (k * 6 + 3) 0)) (b + 2) = upd (iA R (b + 2)) (k * 6 + 3) 0 := iA_sA
  have eF : ∀ c : Nat, iF (sA R (b + 2) (upd (iA R (b + 2)) (k * 6 + 3) 0)) b c = iF R b c := fun c => iF_sA
  have eH : ∀ q, 109 ≤ q → sA R (b + 2) (upd (iA R (b + 2)) (k * 6 + 3) 0) q = R q := fun q hq => by rw [sA, va_up, if_neg (by omega)]
  have ff : ∀ q, q ≠ 20 + 6 * k + 3 → upd f (20 + 6 * k + 3) 0 q = f q := fun q h1 => pk_un h1
  have fr : ∀ lo hi, (hi ≤ 20 ∨ 92 ≤ lo) → ∀ q, lo ≤ q → q < hi → upd f (20 + 6 * k + 3) 0 q = f q := fun lo hi hh q h1 h2 => ff q (by omega)
  refine ⟨⟨okB_sA (by omega) (rl_okh h).1, hcs_sA (by omega) (rl_okh h).2.1, pks_sA (by omega) (rl_okh h).2.2⟩, cg_okm (fr 2 11 (by omega)) (rl_okm h), ?_, ?_, ?_, ?_, ?_, ?_, ?_, ?_, ?_, ?_, ?_, ?_, ?_, ?_, ?_, ?_, ?_, ?_⟩
  · rw [eF 8, ff 0 (by omega)]; exact rl_tod h
  · rw [eF 9, ff 1 (by omega)]; exact rl_see h
  · rw [eF 10, eF 11]; exact cg_dou (ff 11 (by omega)) (fr 850 890 (by omega)) (rl_dou h)
  · rw [eA 12 (by omega)]; exact cg_12 (fr 13 17 (by omega)) (rl_put h)
  · rw [e0]
    intro p hp
    obtain ⟨h1, m, h2, h3⟩ := rl_cas h p hp
    refine ⟨fun c hc => ?_, m, h2, by rw [pk_un (by omega)]; exact h3⟩
    by_cases a : p = k ∧ c = 3
    · obtain ⟨rfl, rfl⟩ := a
      rw [pk_us, pk_us]
    · rw [ff _ (by omega), pk_un (by omega)]
      exact h1 c hc
  · rw [eA 15 (by omega)]; exact cg_92 n14.2 (fr 92 164 (by omega)) (rl_sen h)
  · rw [eA 17 (by omega)]; exact cg_sps n16.2 (fr 164 254 (by omega)) (rl_sps h)
  · rw [eA 17 (by omega)]; exact rl_spg h
  · rw [e0, eA 17 (by omega)]
    intro p hp
    obtain ⟨s, h1, h2, h3⟩ := rl_lat h p hp
    refine ⟨s, h1, by rw [ff _ (by omega)]; exact h2, ?_⟩
    by_cases a : p = k
    · subst a; exact Or.inl pk_us
    · rw [pk_un (by omega)]; exact h3
  · rw [eA 19 (by omega)]; exact ⟨cg_gap n18.2 (fr 254 314 (by omega)) (rl_gap h).1, (rl_gap h).2⟩
  · rw [eA 21 (by omega)]; exact cg_314 n20.2 (fr 314 474 (by omega)) (rl_cre h)
  · rw [eA 4 (by omega)]; exact cg_474 n3.2 (fr 474 634 (by omega)) (rl_pap h)
  · rw [eA 6 (by omega)]; exact ⟨(rl_mem h).1, cg_634 n5.2 (fr 634 670 (by omega)) (rl_mem h).2⟩
  · rw [eA 8 (by omega)]; exact cg_670 n7.2 (fr 670 850 (by omega)) (rl_hea h)
  · rw [eA 8 (by omega)]; exact rl_unq h
  · rw [e0, eA 8 (by omega)]
    have hw := cg_was n7.2 (fr 670 850 (by omega)) (rl_was h)
    exact ⟨hw.1, fun p hp => by rw [pk_un (by omega)]; exact hw.2 p hp⟩
  · rw [eA 10 (by omega)]; exact cg_890 (fr 890 914 (by omega)) (rl_tab h)
  · refine cg_txt (fr 914 2578 (by omega)) htx.1 htx.2.1 htx.2.2 (fun j hj => ?_) (rl_txt h)
    have := htx.2.2 j hj
    exact ⟨eH _ (by omega), eH _ (by omega)⟩
/-- the spans of a case all ended, if its latest did -/
theorem all_end (h : Rel E R b z t hc pk td B f) (hl : lsq (iA R (b + 17)) (nI k) (z 16) = some s) (hk : k < 2 ^ 31) (hn : iA R (b + 17) (s * 3 + 2) ≠ 2147483647) : ∀ i, i < z 16 → tC (iA R (b + 17)) i = k → tT (iA R (b + 17)) i ≤ td := by
  intro i hi hc
  obtain ⟨s1, s2, s3⟩ := rl_spg h
  obtain ⟨q1, q2⟩ := lsq_lt hl
  have hs : tC (iA R (b + 17)) s = k := by
    have := (s1 s q1).1
    rw [q2] at this
    exact ((nI_eq hk (s1 s q1).2.2.2.1).mp this).symm
  by_cases a : i < s
  · have := s3 i s a q1 (by rw [hc, hs])
    have := (s2 s q1).2.1
    omega
  · by_cases e : i = s
    · subst e
      rcases (s2 i q1).2.2 with q | q
      · exact q
      · exfalso; apply hn
        rw [(s1 i q1).2.2.1, q]; rfl
    · exfalso
      apply lsq_last hl i (by omega) hi
      rw [(s1 i hi).1, hc]
theorem q_caught (h : Inv E S) : opE E S 53 54 2 2 [.int c] := by
  obtain ⟨hE, hpar, ⟨z, t, hc, pk, td, htd, hR⟩, hI, hTp, hWt, hSh, hKy⟩ := id h
  obtain ⟨b, hb1⟩ : ∃ b, b = 1 := ⟨1, rfl⟩
  have hb : bkb b := Or.inl hb1
  rw [← hb1] at hR
  have o9 := o_X hE hb1
  have o0 := o_B hE hb
  have o8 := o_I hE hb
  have o1 := o_L hE hb
  have o5 := o_P hE
  have o10 := o_M hE
  have m10 := m_M hE
  have m9 : ∀ S, misc (hp E S 0) 9 = true := fun S => misc_o o9
  have m0 : ∀ S, misc (hp E S b) 0 = true := fun S => misc_o o0
  have m8 : ∀ S, misc (hp E S (b + 13)) 8 = true := fun S => misc_o o8
  have m1 : ∀ S, misc (hp E S (b + 22)) 1 = true := fun S => misc_o o1
  have m5 : ∀ S, misc (hp E S 79) 5 = true := fun S => misc_o o5
  obtain ⟨n1, n14, n16, n18, n20, n22, n3, n5, n7⟩ := rl_okm hR
  obtain ⟨⟨g1, g3, g5, g7, g14, g16, g18, g20, g22, gt, gw⟩, hH, hP⟩ := rl_okh hR
  have ht := rl_tod hR
  rcases ixc (n := z 1) c (by omega) with hx | ⟨k, hk, rfl, hx⟩
  · refine op_v h (-1000000001) (fun d => ?_) (fun d => ?_)
    · simp only [ment, mfl, List.length, List.replicate, List.cons_append, List.nil_append, Nat.reduceAdd, Nat.reduceSub]; simp only [r_al0 c_X_caught_0, r_an0 c_X_caught_0, r_gfSr c_X_caught_1 o9 rfl, r_gfSr c_X_caught_4 o0 rfl, r_il1 c_X_caught_7, r_cv2 c_X_caught_8, r_ifne c_X_caught_11, r_ci c_X_caught_14, r_iret c_X_caught_16, r_al0 c_X_caught_17, r_an0 c_X_caught_17, r_gfSr c_X_caught_18 o9 rfl, r_il1 c_X_caught_21, r_cv2 c_X_caught_22, r_ifne c_X_caught_25, r_ci c_X_caught_28, r_iret c_X_caught_30, r_al0 c_X_caught_31, r_an0 c_X_caught_31, r_gfSr c_X_caught_32 o9 rfl, r_gfSr c_X_caught_35 o0 rfl, r_gfSr c_X_caught_38 o8 rfl, r_cv1 c_X_caught_41, r_ifeq c_X_caught_44, r_ci c_X_caught_47, r_iret c_X_caught_49, r_al0 c_X_caught_50, r_an0 c_X_caught_50, r_gfSr c_X_caught_51 o9 rfl, r_gfSr c_X_caught_54 o0 rfl, r_il1 c_X_caught_57, r_al0 c_X_caught_58, r_an0 c_X_caught_58, r_gfSr c_X_caught_59 o9 rfl, r_gfS0 c_X_caught_62 o0 rfl, r_cv3 c_X_caught_65, r_ci c_X_caught_68, r_iret c_X_caught_69, ↓reduceIte, hs_h, Option.bind_some, mfix_i, mfix_r, mfix_n, mfix_a, Option.toList_some, Option.toList_none, List.cons_append, List.nil_append, List.singleton_append, mwt, Value.category, Nat.reduceAdd, Nat.reduceLeDiff, true_and, and_true, and_self, misc_w (w_1 hE hb), has_1 hE hb, g1.1, hx, if_true]
    · simp only [ment, mfl, List.length, List.replicate, List.cons_append, List.nil_append, Nat.reduceAdd, Nat.reduceSub]; simp only [r_al0 c_M_caught_0, r_il1 c_M_caught_1, r_ci c_M_caught_2, r_cv3 c_M_caught_3, r_ifne c_M_caught_6, r_ci c_M_caught_9, r_iret c_M_caught_11, r_al0 c_M_caught_12, r_il1 c_M_caught_13, r_ci c_M_caught_14, r_cv3 c_M_caught_15, r_ifne c_M_caught_18, r_al0 c_M_caught_21, r_il1 c_M_caught_22, r_ci c_M_caught_23, r_cv3 c_M_caught_24, r_iflt c_M_caught_27, r_ci c_M_caught_30, r_iret c_M_caught_32, r_al0 c_M_caught_33, r_gfSr c_M_caught_34 o10 rfl, r_ci c_M_caught_37, r_ial c_M_caught_38, r_ci c_M_caught_39, r_icne c_M_caught_41, r_ci c_M_caught_44, r_iret c_M_caught_46, r_al0 c_M_caught_47, r_il1 c_M_caught_48, r_cv2 c_M_caught_49, r_ci c_M_caught_52, r_iret c_M_caught_53, ↓reduceIte, hs_h, Option.bind_some, mfix_i, mfix_r, mfix_n, mfix_a, Option.toList_some, Option.toList_none, List.cons_append, List.nil_append, List.singleton_append, mwt, Value.category, Nat.reduceAdd, Nat.reduceLeDiff, true_and, and_true, and_self, m10, mt2 hE, n1.1, th_eq (show z 1 < 2 ^ 31 by omega), hx, if_true]
  · have k12 : k < 12 := by omega
    have c3 : iA S 94 (20 + 6 * k + 3) = iA S (b + 2) (k * 6 + 3) := rl_c0 hR hk (c := 3) (by omega)
    obtain ⟨s, l1, l2, l3⟩ := rl_lat hR k hk
    have hs30 : s < 30 := by have := (lsq_lt l1).1; omega
    have m16 := fun S => misc_w (S := S) (w_16 hE hb)
    by_cases q3 : iA S (b + 2) (k * 6 + 3) = 0
    · have hf : hfS S b k (z 16) = if iA S (b + 17) (s * 3 + 2) = 2147483647 then 0 else 1 := by rw [hfS, if_pos q3, l1]
      by_cases q5 : iA S (b + 17) (s * 3 + 2) = 2147483647
      · rw [if_pos q5] at hf l2
        refine op_v h (-1000000002) (fun d => ?_) (fun d => ?_)
        · simp only [ment, mfl, List.length, List.replicate, List.cons_append, List.nil_append, Nat.reduceAdd, Nat.reduceSub]; simp only [r_al0 c_X_caught_0, r_an0 c_X_caught_0, r_gfSr c_X_caught_1 o9 rfl, r_gfSr c_X_caught_4 o0 rfl, r_il1 c_X_caught_7, r_cv2 c_X_caught_8, r_ifne c_X_caught_11, r_ci c_X_caught_14, r_iret c_X_caught_16, r_al0 c_X_caught_17, r_an0 c_X_caught_17, r_gfSr c_X_caught_18 o9 rfl, r_il1 c_X_caught_21, r_cv2 c_X_caught_22, r_ifne c_X_caught_25, r_ci c_X_caught_28, r_iret c_X_caught_30, r_al0 c_X_caught_31, r_an0 c_X_caught_31, r_gfSr c_X_caught_32 o9 rfl, r_gfSr c_X_caught_35 o0 rfl, r_gfSr c_X_caught_38 o8 rfl, r_cv1 c_X_caught_41, r_ifeq c_X_caught_44, r_ci c_X_caught_47, r_iret c_X_caught_49, r_al0 c_X_caught_50, r_an0 c_X_caught_50, r_gfSr c_X_caught_51 o9 rfl, r_gfSr c_X_caught_54 o0 rfl, r_il1 c_X_caught_57, r_al0 c_X_caught_58, r_an0 c_X_caught_58, r_gfSr c_X_caught_59 o9 rfl, r_gfS0 c_X_caught_62 o0 rfl, r_cv3 c_X_caught_65, r_ci c_X_caught_68, r_iret c_X_caught_69, ↓reduceIte, hs_h, Option.bind_some, mfix_i, mfix_r, mfix_n, mfix_a, Option.toList_some, Option.toList_none, List.cons_append, List.nil_append, List.singleton_append, mwt, Value.category, Nat.reduceAdd, Nat.reduceLeDiff, true_and, and_true, and_self, misc_w (w_1 hE hb), has_1 hE hb, g1.1, hx, if_false, one_nz, m0, B_hasFled_ok hE hb k12 g16.1 g16.2, hf, if_true]
        · simp only [ment, mfl, List.length, List.replicate, List.cons_append, List.nil_append, Nat.reduceAdd, Nat.reduceSub]; simp only [r_al0 c_M_caught_0, r_il1 c_M_caught_1, r_ci c_M_caught_2, r_cv3 c_M_caught_3, r_ifne c_M_caught_6, r_ci c_M_caught_9, r_iret c_M_caught_11, r_al0 c_M_caught_12, r_il1 c_M_caught_13, r_ci c_M_caught_14, r_cv3 c_M_caught_15, r_ifne c_M_caught_18, r_al0 c_M_caught_21, r_il1 c_M_caught_22, r_ci c_M_caught_23, r_cv3 c_M_caught_24, r_iflt c_M_caught_27, r_ci c_M_caught_30, r_iret c_M_caught_32, r_al0 c_M_caught_33, r_gfSr c_M_caught_34 o10 rfl, r_ci c_M_caught_37, r_ial c_M_caught_38, r_ci c_M_caught_39, r_icne c_M_caught_41, r_ci c_M_caught_44, r_iret c_M_caught_46, r_al0 c_M_caught_47, r_il1 c_M_caught_48, r_cv2 c_M_caught_49, r_ci c_M_caught_52, r_iret c_M_caught_53, ↓reduceIte, hs_h, Option.bind_some, mfix_i, mfix_r, mfix_n, mfix_a, Option.toList_some, Option.toList_none, List.cons_append, List.nil_append, List.singleton_append, mwt, Value.category, Nat.reduceAdd, Nat.reduceLeDiff, true_and, and_true, and_self, m10, mt2 hE, n1.1, th_eq (show z 1 < 2 ^ 31 by omega), hx, if_false, one_nz, oc3 hE k12, c3, q3, if_true, oc5 hE k12, l2, show ¬ nI s < 0 from nI_pos (by omega)]
      · rw [if_neg q5] at hf l2
        by_cases q : z 16 = 30
        · have q1 : nI 30 ≤ nI (z 16) := (fullS n16.2 (by omega)).mpr q
          have q2 : nI (z 16) = 30 := by rw [q]; rfl
          refine op_v h (-1000000003) (fun d => ?_) (fun d => ?_)
          · simp only [ment, mfl, List.length, List.replicate, List.cons_append, List.nil_append, Nat.reduceAdd, Nat.reduceSub]; simp only [r_al0 c_X_caught_0, r_an0 c_X_caught_0, r_gfSr c_X_caught_1 o9 rfl, r_gfSr c_X_caught_4 o0 rfl, r_il1 c_X_caught_7, r_cv2 c_X_caught_8, r_ifne c_X_caught_11, r_ci c_X_caught_14, r_iret c_X_caught_16, r_al0 c_X_caught_17, r_an0 c_X_caught_17, r_gfSr c_X_caught_18 o9 rfl, r_il1 c_X_caught_21, r_cv2 c_X_caught_22, r_ifne c_X_caught_25, r_ci c_X_caught_28, r_iret c_X_caught_30, r_al0 c_X_caught_31, r_an0 c_X_caught_31, r_gfSr c_X_caught_32 o9 rfl, r_gfSr c_X_caught_35 o0 rfl, r_gfSr c_X_caught_38 o8 rfl, r_cv1 c_X_caught_41, r_ifeq c_X_caught_44, r_ci c_X_caught_47, r_iret c_X_caught_49, r_al0 c_X_caught_50, r_an0 c_X_caught_50, r_gfSr c_X_caught_51 o9 rfl, r_gfSr c_X_caught_54 o0 rfl, r_il1 c_X_caught_57, r_al0 c_X_caught_58, r_an0 c_X_caught_58, r_gfSr c_X_caught_59 o9 rfl, r_gfS0 c_X_caught_62 o0 rfl, r_cv3 c_X_caught_65, r_ci c_X_caught_68, r_iret c_X_caught_69, ↓reduceIte, hs_h, Option.bind_some, mfix_i, mfix_r, mfix_n, mfix_a, Option.toList_some, Option.toList_none, List.cons_append, List.nil_append, List.singleton_append, mwt, Value.category, Nat.reduceAdd, Nat.reduceLeDiff, true_and, and_true, and_self, misc_w (w_1 hE hb), has_1 hE hb, g1.1, hx, if_false, one_nz, m0, B_hasFled_ok hE hb k12 g16.1 g16.2, hf, m16, full_16 hE hb, g16.1, q1, if_true]
          · simp only [ment, mfl, List.length, List.replicate, List.cons_append, List.nil_append, Nat.reduceAdd, Nat.reduceSub]; simp only [r_al0 c_M_caught_0, r_il1 c_M_caught_1, r_ci c_M_caught_2, r_cv3 c_M_caught_3, r_ifne c_M_caught_6, r_ci c_M_caught_9, r_iret c_M_caught_11, r_al0 c_M_caught_12, r_il1 c_M_caught_13, r_ci c_M_caught_14, r_cv3 c_M_caught_15, r_ifne c_M_caught_18, r_al0 c_M_caught_21, r_il1 c_M_caught_22, r_ci c_M_caught_23, r_cv3 c_M_caught_24, r_iflt c_M_caught_27, r_ci c_M_caught_30, r_iret c_M_caught_32, r_al0 c_M_caught_33, r_gfSr c_M_caught_34 o10 rfl, r_ci c_M_caught_37, r_ial c_M_caught_38, r_ci c_M_caught_39, r_icne c_M_caught_41, r_ci c_M_caught_44, r_iret c_M_caught_46, r_al0 c_M_caught_47, r_il1 c_M_caught_48, r_cv2 c_M_caught_49, r_ci c_M_caught_52, r_iret c_M_caught_53, ↓reduceIte, hs_h, Option.bind_some, mfix_i, mfix_r, mfix_n, mfix_a, Option.toList_some, Option.toList_none, List.cons_append, List.nil_append, List.singleton_append, mwt, Value.category, Nat.reduceAdd, Nat.reduceLeDiff, true_and, and_true, and_self, m10, mt2 hE, n1.1, th_eq (show z 1 < 2 ^ 31 by omega), hx, if_false, one_nz, oc3 hE k12, c3, q3, if_true, oc5 hE k12, l2, show ((-1 : Int32) < 0) = True from eq_true (by decide), mn4 hE, n16.1, q2]
        · have qz : z 16 < 30 := by omega
          have q1 : ¬ nI 30 ≤ nI (z 16) := fun e => q ((fullS n16.2 (by omega)).mp e)
          have q2 : ¬ nI (z 16) = 30 := fun e => q ((nI_eq (b := 30) (by omega) (by omega)).mp e)
          have hR2 := Rel_begin hb hR hk qz q3 (all_end hR l1 (by omega) q5)
          have e94 : iA (adR S b 16 (z 16) (rowSet (iA S (b + 17)) (z 16 * 3) 3 [nI k, nI td, 2147483647, 0])) 94 = iA S 94 := ad_A (by omega)
          have rb := fun d => M_begins_ok (d := d) (S := adR S b 16 (z 16) (rowSet (iA S (b + 17)) (z 16 * 3) 3 [nI k, nI td, 2147483647, 0])) hE k12 (by rw [e94]; exact n16.1) qz
          rw [e94, ht.2.2] at rb
          refine ⟨1, adR S b 16 (z 16) (rowSet (iA S (b + 17)) (z 16 * 3) 3 [nI k, nI td, 2147483647, 0]), _, fun d _ => ?_, fun d _ => ?_, Inv_ad h hb1 (a := 16) (by omega) htd hR2⟩
          · simp only [ment, mfl, List.length, List.replicate, List.cons_append, List.nil_append, Nat.reduceAdd, Nat.reduceSub]; simp only [r_al0 c_X_caught_0, r_an0 c_X_caught_0, r_gfSr c_X_caught_1 o9 rfl, r_gfSr c_X_caught_4 o0 rfl, r_il1 c_X_caught_7, r_cv2 c_X_caught_8, r_ifne c_X_caught_11, r_ci c_X_caught_14, r_iret c_X_caught_16, r_al0 c_X_caught_17, r_an0 c_X_caught_17, r_gfSr c_X_caught_18 o9 rfl, r_il1 c_X_caught_21, r_cv2 c_X_caught_22, r_ifne c_X_caught_25, r_ci c_X_caught_28, r_iret c_X_caught_30, r_al0 c_X_caught_31, r_an0 c_X_caught_31, r_gfSr c_X_caught_32 o9 rfl, r_gfSr c_X_caught_35 o0 rfl, r_gfSr c_X_caught_38 o8 rfl, r_cv1 c_X_caught_41, r_ifeq c_X_caught_44, r_ci c_X_caught_47, r_iret c_X_caught_49, r_al0 c_X_caught_50, r_an0 c_X_caught_50, r_gfSr c_X_caught_51 o9 rfl, r_gfSr c_X_caught_54 o0 rfl, r_il1 c_X_caught_57, r_al0 c_X_caught_58, r_an0 c_X_caught_58, r_gfSr c_X_caught_59 o9 rfl, r_gfS0 c_X_caught_62 o0 rfl, r_cv3 c_X_caught_65, r_ci c_X_caught_68, r_iret c_X_caught_69, ↓reduceIte, hs_h, Option.bind_some, mfix_i, mfix_r, mfix_n, mfix_a, Option.toList_some, Option.toList_none, List.cons_append, List.nil_append, List.singleton_append, mwt, Value.category, Nat.reduceAdd, Nat.reduceLeDiff, true_and, and_true, and_self, misc_w (w_1 hE hb), has_1 hE hb, g1.1, hx, if_false, one_nz, m0, B_hasFled_ok hE hb k12 g16.1 g16.2, hf, m16, full_16 hE hb, g16.1, q1, m8, ht.1, I_beginSpan_ok hE hb g16.1 qz]; rfl
          · simp only [ment, mfl, List.length, List.replicate, List.cons_append, List.nil_append, Nat.reduceAdd, Nat.reduceSub]; simp only [r_al0 c_M_caught_0, r_il1 c_M_caught_1, r_ci c_M_caught_2, r_cv3 c_M_caught_3, r_ifne c_M_caught_6, r_ci c_M_caught_9, r_iret c_M_caught_11, r_al0 c_M_caught_12, r_il1 c_M_caught_13, r_ci c_M_caught_14, r_cv3 c_M_caught_15, r_ifne c_M_caught_18, r_al0 c_M_caught_21, r_il1 c_M_caught_22, r_ci c_M_caught_23, r_cv3 c_M_caught_24, r_iflt c_M_caught_27, r_ci c_M_caught_30, r_iret c_M_caught_32, r_al0 c_M_caught_33, r_gfSr c_M_caught_34 o10 rfl, r_ci c_M_caught_37, r_ial c_M_caught_38, r_ci c_M_caught_39, r_icne c_M_caught_41, r_ci c_M_caught_44, r_iret c_M_caught_46, r_al0 c_M_caught_47, r_il1 c_M_caught_48, r_cv2 c_M_caught_49, r_ci c_M_caught_52, r_iret c_M_caught_53, ↓reduceIte, hs_h, Option.bind_some, mfix_i, mfix_r, mfix_n, mfix_a, Option.toList_some, Option.toList_none, List.cons_append, List.nil_append, List.singleton_append, mwt, Value.category, Nat.reduceAdd, Nat.reduceLeDiff, true_and, and_true, and_self, m10, mt2 hE, e94, n1.1, th_eq (show z 1 < 2 ^ 31 by omega), hx, if_false, one_nz, oc3 hE k12, c3, q3, if_true, oc5 hE k12, l2, show ((-1 : Int32) < 0) = True from eq_true (by decide), mn4 hE, n16.1, q2, rb]
    · have hf : hfS S b k (z 16) = 0 := by rw [hfS, if_neg q3]
      refine op_v h (-1000000002) (fun d => ?_) (fun d => ?_)
      · simp only [ment, mfl, List.length, List.replicate, List.cons_append, List.nil_append, Nat.reduceAdd, Nat.reduceSub]; simp only [r_al0 c_X_caught_0, r_an0 c_X_caught_0, r_gfSr c_X_caught_1 o9 rfl, r_gfSr c_X_caught_4 o0 rfl, r_il1 c_X_caught_7, r_cv2 c_X_caught_8, r_ifne c_X_caught_11, r_ci c_X_caught_14, r_iret c_X_caught_16, r_al0 c_X_caught_17, r_an0 c_X_caught_17, r_gfSr c_X_caught_18 o9 rfl, r_il1 c_X_caught_21, r_cv2 c_X_caught_22, r_ifne c_X_caught_25, r_ci c_X_caught_28, r_iret c_X_caught_30, r_al0 c_X_caught_31, r_an0 c_X_caught_31, r_gfSr c_X_caught_32 o9 rfl, r_gfSr c_X_caught_35 o0 rfl, r_gfSr c_X_caught_38 o8 rfl, r_cv1 c_X_caught_41, r_ifeq c_X_caught_44, r_ci c_X_caught_47, r_iret c_X_caught_49, r_al0 c_X_caught_50, r_an0 c_X_caught_50, r_gfSr c_X_caught_51 o9 rfl, r_gfSr c_X_caught_54 o0 rfl, r_il1 c_X_caught_57, r_al0 c_X_caught_58, r_an0 c_X_caught_58, r_gfSr c_X_caught_59 o9 rfl, r_gfS0 c_X_caught_62 o0 rfl, r_cv3 c_X_caught_65, r_ci c_X_caught_68, r_iret c_X_caught_69, ↓reduceIte, hs_h, Option.bind_some, mfix_i, mfix_r, mfix_n, mfix_a, Option.toList_some, Option.toList_none, List.cons_append, List.nil_append, List.singleton_append, mwt, Value.category, Nat.reduceAdd, Nat.reduceLeDiff, true_and, and_true, and_self, misc_w (w_1 hE hb), has_1 hE hb, g1.1, hx, if_false, one_nz, m0, B_hasFled_ok hE hb k12 g16.1 g16.2, hf, if_true]
      · simp only [ment, mfl, List.length, List.replicate, List.cons_append, List.nil_append, Nat.reduceAdd, Nat.reduceSub]; simp only [r_al0 c_M_caught_0, r_il1 c_M_caught_1, r_ci c_M_caught_2, r_cv3 c_M_caught_3, r_ifne c_M_caught_6, r_ci c_M_caught_9, r_iret c_M_caught_11, r_al0 c_M_caught_12, r_il1 c_M_caught_13, r_ci c_M_caught_14, r_cv3 c_M_caught_15, r_ifne c_M_caught_18, r_al0 c_M_caught_21, r_il1 c_M_caught_22, r_ci c_M_caught_23, r_cv3 c_M_caught_24, r_iflt c_M_caught_27, r_ci c_M_caught_30, r_iret c_M_caught_32, r_al0 c_M_caught_33, r_gfSr c_M_caught_34 o10 rfl, r_ci c_M_caught_37, r_ial c_M_caught_38, r_ci c_M_caught_39, r_icne c_M_caught_41, r_ci c_M_caught_44, r_iret c_M_caught_46, r_al0 c_M_caught_47, r_il1 c_M_caught_48, r_cv2 c_M_caught_49, r_ci c_M_caught_52, r_iret c_M_caught_53, ↓reduceIte, hs_h, Option.bind_some, mfix_i, mfix_r, mfix_n, mfix_a, Option.toList_some, Option.toList_none, List.cons_append, List.nil_append, List.singleton_append, mwt, Value.category, Nat.reduceAdd, Nat.reduceLeDiff, true_and, and_true, and_self, m10, mt2 hE, n1.1, th_eq (show z 1 < 2 ^ 31 by omega), hx, if_false, one_nz, oc3 hE k12, c3, q3]
end BEGINS
