/-! the model: a prison's day -/
section MPRISON
variable {E : EE} {R R0 S S1 U : SS} {b d k n i j td q B s p : Nat} {z t hc pk : Nat → Nat} {c v l : Int32} {f f' A A' : Nat → Int32} {Q : Nat → Prop}
/-- not in one of the first p prisons -/
def npQ (R0 : SS) (b : Nat) (hc : Nat → Nat) (p j : Nat) : Prop := ∀ p', p' < p → iA R0 (b + 2) (hc j * 6 + 1) ≠ nI p'
def nsQ (R0 : SS) (b : Nat) (hc : Nat → Nat) (p i j : Nat) : Prop := npQ R0 b hc p j ∧ (i ≤ j ∨ iA R0 (b + 2) (hc j * 6 + 1) ≠ nI p)
/-- the list of a prison -/
def lpQ (R0 R : SS) (b : Nat) (z hc : Nat → Nat) (c : Int32) (p : Nat) (l : Int32) (i : Nat) : Prop := (∀ j, i ≤ j → j < 32 → btI l j = false) ∧ ∀ j, j < i → btI l j = true → btI c j = true ∧ iA R0 (b + 2) (hc j * 6 + 1) = nI p ∧ iA R (b + 8) (j * 5 + 2) = 0 ∧ iA R (b + 2) (hc j * 6 + 3) = 0
theorem lp_po (h : lpQ R0 R b z hc c p l i) : lpQ R0 (poS R b z t k (hc k) q) b z hc c p l i := by
  have e8 : iA (poS R b z t k (hc k) q) (b + 8) = poH (iA R (b + 8)) k (poV R b z t (hc k) (nI q)) (nI q) := by rw [poS, iA_sA_ne (by omega), iA_sA]
  have e2 : iA (poS R b z t k (hc k) q) (b + 2) = iA R (b + 2) := by rw [poS, iA_sA_ne (by omega), iA_sA_ne (by omega)]
  refine ⟨h.1, fun j hj hb => ?_⟩
  rw [e8, e2, po_2]
  exact h.2 j hj hb
theorem lp_s (hi : i < 31) (h : lpQ R0 R b z hc c p l i) : lpQ R0 R b z hc c p l (i + 1) ∧ btI l i = false := by
  have hz := h.1 i (Nat.le_refl i) (by omega)
  refine ⟨⟨fun j h1 h2 => h.1 j (by omega) h2, fun j hj hb => ?_⟩, hz⟩
  by_cases e : j = i
  · subst e; rw [hz] at hb; cases hb
  · exact h.2 j (by omega) hb
theorem sift_R (hE : okE E) (hb : bkb b) (h0 : iF R0 b 8 = nI td) (hp : p < 6) (hc0 : ∀ j, j < z 7 → btI c j = decide (iA R0 (b + 8) (j * 5 + 1) = nI td ∧ iA R0 (b + 8) (j * 5 + 2) = 0)) : ∀ m i l R S w5 w6, i + m = z 7 → Rel E R b z t hc pk td B (iA S 94) → dayI R0 b z hc c (nsQ R0 b hc p i) R → lpQ R0 R b z hc c p l i →
    ∃ S2 v5 v6, eqN S S2 ∧ Rel E (rfor (siG b z t pk hc c (nI p)) i m (l, R)).2 b z t hc pk td B (iA S2 94) ∧ dayI R0 b z hc c (nsQ R0 b hc p (z 7)) (rfor (siG b z t pk hc c (nI p)) i m (l, R)).2 ∧ lpQ R0 (rfor (siG b z t pk hc c (nI p)) i m (l, R)).2 b z hc c p (rfor (siG b z t pk hc c (nI p)) i m (l, R)).1 (z 7) ∧ ∀ d, mres cT 224 d 7 [.ref 93, .int (nI p), .int l, .int (rfor (csN hc l) 0 i 0), .int (nI i), w5, w6] [] (hs E S) = mres cT 224 d 106 [.ref 93, .int (nI p), .int (rfor (siG b z t pk hc c (nI p)) i m (l, R)).1, .int (rfor (csN hc (rfor (siG b z t pk hc c (nI p)) i m (l, R)).1) 0 (z 7) 0), .int (nI (z 7)), v5, v6] [] (hs E S2) := by
  have o10 := o_M hE
  have m10 := m_M hE
  intro m
  induction m with
  | zero =>
    intro i l R S w5 w6 hi h hD hL
    have n7 := (rl_okm h).2.2.2.2.2.2.2.2
    have h1 : nI (z 7) ≤ nI i := nI_le (by omega) (by omega)
    have e : i = z 7 := by omega
    subst e
    refine ⟨S, w5, w6, eqN_rf, h, hD, hL, fun d => ?_⟩
    simp only [r_il4 c_M_prisonGoes_7, r_al0 c_M_prisonGoes_9, r_gfSr c_M_prisonGoes_10 o10 rfl, r_ci c_M_prisonGoes_13, r_ial c_M_prisonGoes_15, r_icge c_M_prisonGoes_16, ↓reduceIte, hs_h, Option.bind_some, mfix_i, mfix_r, mfix_n, mfix_a, Option.toList_some, Option.toList_none, List.cons_append, List.nil_append, List.singleton_append, mn10 hE, n7.1, h1, if_true, rfor]
  | succ m ih =>
    intro i l R S w5 w6 hi h hD hL
    have n7 := (rl_okm h).2.2.2.2.2.2.2.2
    have h1 : ¬ nI (z 7) ≤ nI i := nI_ge (by omega) (by omega)
    have hi7 : i < z 7 := by omega
    obtain ⟨c1, c2, c3, c4⟩ := rl_hc h hi7
    have ht := rl_tod h
    have f1 : iA S 94 (20 + 6 * hc i + 1) = iA R (b + 2) (hc i * 6 + 1) := rl_c0 h c2 (c := 1) (by omega)
    have f3 : iA S 94 (20 + 6 * hc i + 3) = iA R (b + 2) (hc i * 6 + 3) := rl_c0 h c2 (c := 3) (by omega)
    have g1 : iA S 94 (670 + 6 * i + 1) = iA R (b + 8) (i * 5 + 1) := rl_hea h i hi7 1 (by omega)
    have g2 : iA S 94 (670 + 6 * i + 2) = iA R (b + 8) (i * 5 + 2) := rl_hea h i hi7 2 (by omega)
    have itd := fun d => M_isToday_ok (d := d) (S := S) hE c4
    have hpr := hD.2.1 (hc i) c2
    obtain ⟨hL1, hLz⟩ := lp_s (by omega) hL
    have hcs1 : rfor (csN hc l) 0 (i + 1) 0 = rfor (csN hc l) 0 i 0 := by rw [rfor_last, Nat.zero_add, csN, if_neg (by rw [hLz]; decide)]
    rw [rfor, siG]
    -- nothing here
    have skip : (siG b z t pk hc c (nI p) i (l, R) = (l, R)) → (¬ (btI c i = true ∧ iA R0 (b + 2) (hc i * 6 + 1) = nI p) ∨ True) → dayI R0 b z hc c (nsQ R0 b hc p (i + 1)) R → (∀ d, mres cT 224 d 19 [.ref 93, .int (nI p), .int l, .int (rfor (csN hc l) 0 i 0), .int (nI i), w5, w6] [] (hs E S) = mres cT 224 d 7 [.ref 93, .int (nI p), .int l, .int (rfor (csN hc l) 0 (i + 1) 0), .int (nI (i + 1)), .int (nI (hc i)), w6] [] (hs E S)) → ∃ S2 v5 v6, eqN S S2 ∧ Rel E (rfor (siG b z t pk hc c (nI p)) (i + 1) m (siG b z t pk hc c (nI p) i (l, R))).2 b z t hc pk td B (iA S2 94) ∧ dayI R0 b z hc c (nsQ R0 b hc p (z 7)) (rfor (siG b z t pk hc c (nI p)) (i + 1) m (siG b z t pk hc c (nI p) i (l, R))).2 ∧ lpQ R0 (rfor (siG b z t pk hc c (nI p)) (i + 1) m (siG b z t pk hc c (nI p) i (l, R))).2 b z hc c p (rfor (siG b z t pk hc c (nI p)) (i + 1) m (siG b z t pk hc c (nI p) i (l, R))).1 (z 7) ∧ ∀ d, mres cT 224 d 7 [.ref 93, .int (nI p), .int l, .int (rfor (csN hc l) 0 i 0), .int (nI i), w5, w6] [] (hs E S) = mres cT 224 d 106 [.ref 93, .int (nI p), .int (rfor (siG b z t pk hc c (nI p)) (i + 1) m (siG b z t pk hc c (nI p) i (l, R))).1, .int (rfor (csN hc (rfor (siG b z t pk hc c (nI p)) (i + 1) m (siG b z t pk hc c (nI p) i (l, R))).1) 0 (z 7) 0), .int (nI (z 7)), v5, v6] [] (hs E S2) := by
      intro e _ hD2 hr
      rw [e]
      obtain ⟨S2, v5, v6, a1, a2, a3, a4, a5⟩ := ih (i + 1) l R S (.int (nI (hc i))) w6 (by omega) h hD2 hL1
      refine ⟨S2, v5, v6, a1, a2, a3, a4, fun d => ?_⟩
      rw [← a5, ← hr]
      simp only [r_il4 c_M_prisonGoes_7, r_al0 c_M_prisonGoes_9, r_gfSr c_M_prisonGoes_10 o10 rfl, r_ci c_M_prisonGoes_13, r_ial c_M_prisonGoes_15, r_icge c_M_prisonGoes_16, ↓reduceIte, hs_h, Option.bind_some, mfix_i, mfix_r, mfix_n, mfix_a, Option.toList_some, Option.toList_none, List.cons_append, List.nil_append, List.singleton_append, mn10 hE, n7.1, h1, if_false]
    by_cases qp : iA R (b + 2) (hc i * 6 + 1) = nI p
    · have hnp : npQ R0 b hc p i := fun p' hp' e => by
        rw [← hpr, qp] at e
        have := (nI_eq (by omega) (by omega)).mp e
        omega
      have hun := hD.1 i hi7 (Or.inr ⟨hnp, Or.inl (Nat.le_refl i)⟩)
      cases qb : btI c i with
      | false =>
        have q1 : c >>> (nI i &&& 31) &&& 1 = 0 := (has_no (by omega)).mpr qb
        have nb : ¬ (iA R (b + 8) (i * 5 + 1) = nI td ∧ iA R (b + 8) (i * 5 + 2) = 0) := by
          rw [hun.1, hun.2]
          have := hc0 i hi7
          rw [qb] at this
          exact of_decide_eq_false this.symm
        have it0 : ∀ d, mres cT 221 d 0 (ment 2 [.ref 93, .int (nI i)]) [] (hs E S) = some (some (.int 0), hs E S) := fun d => by
          rw [itd, g1, g2, ht.2.2]
          by_cases a : iA R (b + 8) (i * 5 + 2) = 0
          · rw [if_pos a, if_neg (fun h => nb ⟨h, a⟩)]
          · rw [if_neg a]
        refine skip (by rw [siG, if_pos q1]) (Or.inr trivial) (dayI_Q hD (fun j hj e1 e2 => ⟨e2.1, by
          rcases e2.2 with r | r
          · exact Or.inl (by omega)
          · exact Or.inr r⟩)) (fun d => ?_)
        simp only [r_al0 c_M_prisonGoes_19, r_gfSr c_M_prisonGoes_20 o10 rfl, r_il4 c_M_prisonGoes_23, r_ci c_M_prisonGoes_25, r_ca2 c_M_prisonGoes_26, r_ial c_M_prisonGoes_29, r_is5 c_M_prisonGoes_30, r_al0 c_M_prisonGoes_32, r_il4 c_M_prisonGoes_33, r_cv2 c_M_prisonGoes_35, r_ifeq c_M_prisonGoes_38, r_al0 c_M_prisonGoes_41, r_il5 c_M_prisonGoes_42, r_ci c_M_prisonGoes_44, r_cv3 c_M_prisonGoes_45, r_ifne c_M_prisonGoes_48, r_al0 c_M_prisonGoes_51, r_il5 c_M_prisonGoes_52, r_ci c_M_prisonGoes_54, r_cv3 c_M_prisonGoes_55, r_il1 c_M_prisonGoes_58, r_icne c_M_prisonGoes_59, r_al0 c_M_prisonGoes_62, r_il5 c_M_prisonGoes_63, r_cv2 c_M_prisonGoes_65, r_is6 c_M_prisonGoes_68, r_il6 c_M_prisonGoes_70, r_ifle c_M_prisonGoes_72, r_al0 c_M_prisonGoes_75, r_il4 c_M_prisonGoes_76, r_il6 c_M_prisonGoes_78, r_cv3 c_M_prisonGoes_80, r_goto c_M_prisonGoes_83, r_il2 c_M_prisonGoes_86, r_ci c_M_prisonGoes_87, r_il4 c_M_prisonGoes_88, r_ishl c_M_prisonGoes_90, r_ior c_M_prisonGoes_91, r_is2 c_M_prisonGoes_92, r_il3 c_M_prisonGoes_93, r_ci c_M_prisonGoes_94, r_il5 c_M_prisonGoes_95, r_ishl c_M_prisonGoes_97, r_ior c_M_prisonGoes_98, r_is3 c_M_prisonGoes_99, r_inc4 c_M_prisonGoes_100, r_goto c_M_prisonGoes_103, ↓reduceIte, hs_h, Option.bind_some, mfix_i, mfix_r, mfix_n, mfix_a, Option.toList_some, Option.toList_none, List.cons_append, List.nil_append, List.singleton_append, mwt, Value.category, Nat.reduceAdd, Nat.reduceLeDiff, true_and, and_true, and_self, m10, oh0, mia_94 hE (show 670 + 6 * i < 2578 by omega), c1, it0, if_true, nI_1, hcs1]
      | true =>
        have q1 : ¬ c >>> (nI i &&& 31) &&& 1 = 0 := fun e => by rw [(has_no (by omega)).mp e] at qb; cases qb
        have yb : iA R (b + 8) (i * 5 + 1) = nI td ∧ iA R (b + 8) (i * 5 + 2) = 0 := by
          rw [hun.1, hun.2]
          have := hc0 i hi7
          rw [qb] at this
          exact of_decide_eq_true this.symm
        have it1 : ∀ d, mres cT 221 d 0 (ment 2 [.ref 93, .int (nI i)]) [] (hs E S) = some (some (.int 1), hs E S) := fun d => by
          rw [itd, g1, g2, ht.2.2, if_pos yb.2, if_pos yb.1]
        have hD2 : dayI R0 b z hc c (nsQ R0 b hc p (i + 1)) R := dayI_Q hD (fun j hj e1 e2 => ⟨e2.1, by
          rcases e2.2 with r | r
          · exact Or.inl (by omega)
          · exact Or.inr r⟩)
        by_cases qs : iA R (b + 2) (hc i * 6 + 3) = 0
        · obtain ⟨S2, e2, r2⟩ := M_causeOf_R hE h c2
          have h2 : Rel E R b z t hc pk td B (iA S2 94) := by rw [eqM_94 e2]; exact h
          have eG : siG b z t pk hc c (nI p) i (l, R) = (if caN R b z t pk (hc i) = 0 then (l ||| 1 <<< (nI i &&& 31), R) else (l, poS R b z t i (hc i) (caN R b z t pk (hc i)))) := by
            rw [siG, if_neg q1, if_pos qs, if_pos qp]
          by_cases qc : caN R b z t pk (hc i) = 0
          · rw [qc, nI_0] at r2
            have eG2 : siG b z t pk hc c (nI p) i (l, R) = (l ||| 1 <<< (nI i &&& 31), R) := by rw [eG, if_pos qc]
            rw [siG] at eG2
            rw [eG2]
            have bt : ∀ j, btI (l ||| 1 <<< (nI i &&& 31)) j = (btI l j || decide (i = j)) := fun j => by rw [bt_or, bt_sh (by omega)]
            have hL2 : lpQ R0 R b z hc c p (l ||| 1 <<< (nI i &&& 31)) (i + 1) := by
              refine ⟨fun j h1 h2 => by rw [bt, hL.1 j (by omega) h2, decide_eq_false (by omega)]; rfl, fun j hj hb => ?_⟩
              by_cases e : j = i
              · subst e
                exact ⟨qb, by rw [← hpr]; exact qp, yb.2, qs⟩
              · rw [bt, decide_eq_false (by omega), Bool.or_false] at hb
                exact hL.2 j (by omega) hb
            obtain ⟨S3, v5, v6, a1, a2, a3, a4, a5⟩ := ih (i + 1) (l ||| 1 <<< (nI i &&& 31)) R S2 (.int (nI (hc i))) (.int 0) (by omega) h2 hD2 hL2
            refine ⟨S3, v5, v6, eqN_tr (eqN_M e2) a1, a2, a3, a4, fun d => ?_⟩
            have ecs : rfor (csN hc (l ||| 1 <<< (nI i &&& 31))) 0 (i + 1) 0 = rfor (csN hc l) 0 i 0 ||| 1 <<< (nI (hc i) &&& 31) := by
              rw [rfor_last, Nat.zero_add, csN, if_pos (by rw [bt, decide_eq_true rfl, Bool.or_true]), cs_cg (l := l) (fun j hj => by rw [bt, decide_eq_false (by omega), Bool.or_false])]
            have key : mres cT 224 d 19 [.ref 93, .int (nI p), .int l, .int (rfor (csN hc l) 0 i 0), .int (nI i), w5, w6] [] (hs E S) = mres cT 224 d 7 [.ref 93, .int (nI p), .int (l ||| 1 <<< (nI i &&& 31)), .int (rfor (csN hc l) 0 i 0 ||| 1 <<< (nI (hc i) &&& 31)), .int (nI (i + 1)), .int (nI (hc i)), .int 0] [] (hs E S2) := by
              simp only [r_al0 c_M_prisonGoes_19, r_gfSr c_M_prisonGoes_20 o10 rfl, r_il4 c_M_prisonGoes_23, r_ci c_M_prisonGoes_25, r_ca2 c_M_prisonGoes_26, r_ial c_M_prisonGoes_29, r_is5 c_M_prisonGoes_30, r_al0 c_M_prisonGoes_32, r_il4 c_M_prisonGoes_33, r_cv2 c_M_prisonGoes_35, r_ifeq c_M_prisonGoes_38, r_al0 c_M_prisonGoes_41, r_il5 c_M_prisonGoes_42, r_ci c_M_prisonGoes_44, r_cv3 c_M_prisonGoes_45, r_ifne c_M_prisonGoes_48, r_al0 c_M_prisonGoes_51, r_il5 c_M_prisonGoes_52, r_ci c_M_prisonGoes_54, r_cv3 c_M_prisonGoes_55, r_il1 c_M_prisonGoes_58, r_icne c_M_prisonGoes_59, r_al0 c_M_prisonGoes_62, r_il5 c_M_prisonGoes_63, r_cv2 c_M_prisonGoes_65, r_is6 c_M_prisonGoes_68, r_il6 c_M_prisonGoes_70, r_ifle c_M_prisonGoes_72, r_al0 c_M_prisonGoes_75, r_il4 c_M_prisonGoes_76, r_il6 c_M_prisonGoes_78, r_cv3 c_M_prisonGoes_80, r_goto c_M_prisonGoes_83, r_il2 c_M_prisonGoes_86, r_ci c_M_prisonGoes_87, r_il4 c_M_prisonGoes_88, r_ishl c_M_prisonGoes_90, r_ior c_M_prisonGoes_91, r_is2 c_M_prisonGoes_92, r_il3 c_M_prisonGoes_93, r_ci c_M_prisonGoes_94, r_il5 c_M_prisonGoes_95, r_ishl c_M_prisonGoes_97, r_ior c_M_prisonGoes_98, r_is3 c_M_prisonGoes_99, r_inc4 c_M_prisonGoes_100, r_goto c_M_prisonGoes_103, ↓reduceIte, hs_h, Option.bind_some, mfix_i, mfix_r, mfix_n, mfix_a, Option.toList_some, Option.toList_none, List.cons_append, List.nil_append, List.singleton_append, mwt, Value.category, Nat.reduceAdd, Nat.reduceLeDiff, true_and, and_true, and_self, m10, oh0, mia_94 hE (show 670 + 6 * i < 2578 by omega), c1, it1, one_nz, if_false, oc3 hE c3, f3, qs, if_true, oc1 hE c3, f1, qp, r2, show ((0 : Int32) ≤ 0) = True from eq_true (by decide), nI_1]
            rw [← a5, ecs, ← key]
            simp only [r_il4 c_M_prisonGoes_7, r_al0 c_M_prisonGoes_9, r_gfSr c_M_prisonGoes_10 o10 rfl, r_ci c_M_prisonGoes_13, r_ial c_M_prisonGoes_15, r_icge c_M_prisonGoes_16, ↓reduceIte, hs_h, Option.bind_some, mfix_i, mfix_r, mfix_n, mfix_a, Option.toList_some, Option.toList_none, List.cons_append, List.nil_append, List.singleton_append, mn10 hE, n7.1, h1, if_false]
          · have cl := caN_lt (S := R) (b := b) (z := z) (t := t) (pk := pk) (k := hc i)
            obtain ⟨S3, e3, h3, r3⟩ := M_putOff_R (q := caN R b z t pk (hc i)) hE hb h2 hi7 (by omega) (by omega)
            have eG2 : siG b z t pk hc c (nI p) i (l, R) = (l, poS R b z t i (hc i) (caN R b z t pk (hc i))) := by rw [eG, if_neg qc]
            rw [siG] at eG2
            rw [eG2]
            have hD3 : dayI R0 b z hc c (nsQ R0 b hc p (i + 1)) (poS R b z t i (hc i) (caN R b z t pk (hc i))) := dayI_po hD2 qb (fun e => by
              rcases e.2 with r | r
              · omega
              · exact r (by rw [← hpr]; exact qp)) qs
            obtain ⟨S4, v5, v6, a1, a2, a3, a4, a5⟩ := ih (i + 1) l _ S3 (.int (nI (hc i))) (.int (nI (caN R b z t pk (hc i)))) (by omega) h3 hD3 (lp_po hL1)
            refine ⟨S4, v5, v6, eqN_tr (eqN_M e2) (eqN_tr e3 a1), a2, a3, a4, fun d => ?_⟩
            have qn : ¬ nI (caN R b z t pk (hc i)) ≤ 0 := nI_nle (by omega) (by omega)
            have key : mres cT 224 d 19 [.ref 93, .int (nI p), .int l, .int (rfor (csN hc l) 0 i 0), .int (nI i), w5, w6] [] (hs E S) = mres cT 224 d 7 [.ref 93, .int (nI p), .int l, .int (rfor (csN hc l) 0 (i + 1) 0), .int (nI (i + 1)), .int (nI (hc i)), .int (nI (caN R b z t pk (hc i)))] [] (hs E S3) := by
              simp only [r_al0 c_M_prisonGoes_19, r_gfSr c_M_prisonGoes_20 o10 rfl, r_il4 c_M_prisonGoes_23, r_ci c_M_prisonGoes_25, r_ca2 c_M_prisonGoes_26, r_ial c_M_prisonGoes_29, r_is5 c_M_prisonGoes_30, r_al0 c_M_prisonGoes_32, r_il4 c_M_prisonGoes_33, r_cv2 c_M_prisonGoes_35, r_ifeq c_M_prisonGoes_38, r_al0 c_M_prisonGoes_41, r_il5 c_M_prisonGoes_42, r_ci c_M_prisonGoes_44, r_cv3 c_M_prisonGoes_45, r_ifne c_M_prisonGoes_48, r_al0 c_M_prisonGoes_51, r_il5 c_M_prisonGoes_52, r_ci c_M_prisonGoes_54, r_cv3 c_M_prisonGoes_55, r_il1 c_M_prisonGoes_58, r_icne c_M_prisonGoes_59, r_al0 c_M_prisonGoes_62, r_il5 c_M_prisonGoes_63, r_cv2 c_M_prisonGoes_65, r_is6 c_M_prisonGoes_68, r_il6 c_M_prisonGoes_70, r_ifle c_M_prisonGoes_72, r_al0 c_M_prisonGoes_75, r_il4 c_M_prisonGoes_76, r_il6 c_M_prisonGoes_78, r_cv3 c_M_prisonGoes_80, r_goto c_M_prisonGoes_83, r_il2 c_M_prisonGoes_86, r_ci c_M_prisonGoes_87, r_il4 c_M_prisonGoes_88, r_ishl c_M_prisonGoes_90, r_ior c_M_prisonGoes_91, r_is2 c_M_prisonGoes_92, r_il3 c_M_prisonGoes_93, r_ci c_M_prisonGoes_94, r_il5 c_M_prisonGoes_95, r_ishl c_M_prisonGoes_97, r_ior c_M_prisonGoes_98, r_is3 c_M_prisonGoes_99, r_inc4 c_M_prisonGoes_100, r_goto c_M_prisonGoes_103, ↓reduceIte, hs_h, Option.bind_some, mfix_i, mfix_r, mfix_n, mfix_a, Option.toList_some, Option.toList_none, List.cons_append, List.nil_append, List.singleton_append, mwt, Value.category, Nat.reduceAdd, Nat.reduceLeDiff, true_and, and_true, and_self, m10, oh0, mia_94 hE (show 670 + 6 * i < 2578 by omega), c1, it1, one_nz, if_false, oc3 hE c3, f3, qs, if_true, oc1 hE c3, f1, qp, r2, qn, r3, nI_1, hcs1]
            rw [← a5, ← key]
            simp only [r_il4 c_M_prisonGoes_7, r_al0 c_M_prisonGoes_9, r_gfSr c_M_prisonGoes_10 o10 rfl, r_ci c_M_prisonGoes_13, r_ial c_M_prisonGoes_15, r_icge c_M_prisonGoes_16, ↓reduceIte, hs_h, Option.bind_some, mfix_i, mfix_r, mfix_n, mfix_a, Option.toList_some, Option.toList_none, List.cons_append, List.nil_append, List.singleton_append, mn10 hE, n7.1, h1, if_false]
        · refine skip (by rw [siG, if_neg q1, if_neg qs]) (Or.inr trivial) hD2 (fun d => ?_)
          simp only [r_al0 c_M_prisonGoes_19, r_gfSr c_M_prisonGoes_20 o10 rfl, r_il4 c_M_prisonGoes_23, r_ci c_M_prisonGoes_25, r_ca2 c_M_prisonGoes_26, r_ial c_M_prisonGoes_29, r_is5 c_M_prisonGoes_30, r_al0 c_M_prisonGoes_32, r_il4 c_M_prisonGoes_33, r_cv2 c_M_prisonGoes_35, r_ifeq c_M_prisonGoes_38, r_al0 c_M_prisonGoes_41, r_il5 c_M_prisonGoes_42, r_ci c_M_prisonGoes_44, r_cv3 c_M_prisonGoes_45, r_ifne c_M_prisonGoes_48, r_al0 c_M_prisonGoes_51, r_il5 c_M_prisonGoes_52, r_ci c_M_prisonGoes_54, r_cv3 c_M_prisonGoes_55, r_il1 c_M_prisonGoes_58, r_icne c_M_prisonGoes_59, r_al0 c_M_prisonGoes_62, r_il5 c_M_prisonGoes_63, r_cv2 c_M_prisonGoes_65, r_is6 c_M_prisonGoes_68, r_il6 c_M_prisonGoes_70, r_ifle c_M_prisonGoes_72, r_al0 c_M_prisonGoes_75, r_il4 c_M_prisonGoes_76, r_il6 c_M_prisonGoes_78, r_cv3 c_M_prisonGoes_80, r_goto c_M_prisonGoes_83, r_il2 c_M_prisonGoes_86, r_ci c_M_prisonGoes_87, r_il4 c_M_prisonGoes_88, r_ishl c_M_prisonGoes_90, r_ior c_M_prisonGoes_91, r_is2 c_M_prisonGoes_92, r_il3 c_M_prisonGoes_93, r_ci c_M_prisonGoes_94, r_il5 c_M_prisonGoes_95, r_ishl c_M_prisonGoes_97, r_ior c_M_prisonGoes_98, r_is3 c_M_prisonGoes_99, r_inc4 c_M_prisonGoes_100, r_goto c_M_prisonGoes_103, ↓reduceIte, hs_h, Option.bind_some, mfix_i, mfix_r, mfix_n, mfix_a, Option.toList_some, Option.toList_none, List.cons_append, List.nil_append, List.singleton_append, mwt, Value.category, Nat.reduceAdd, Nat.reduceLeDiff, true_and, and_true, and_self, m10, oh0, mia_94 hE (show 670 + 6 * i < 2578 by omega), c1, it1, one_nz, if_false, oc3 hE c3, f3, qs, nI_1, hcs1]
    · have hD2 : dayI R0 b z hc c (nsQ R0 b hc p (i + 1)) R := dayI_Q hD (fun j hj e1 e2 => ⟨e2.1, by
          rcases e2.2 with r | r
          · exact Or.inl (by omega)
          · exact Or.inr r⟩)
      refine skip (by
        rw [siG]
        by_cases a : c >>> (nI i &&& 31) &&& 1 = 0
        · rw [if_pos a]
        · rw [if_neg a]
          by_cases a2 : iA (l, R).2 (b + 2) (hc i * 6 + 3) = 0
          · rw [if_pos a2, if_neg qp]
          · rw [if_neg a2]) (Or.inr trivial) hD2 (fun d => ?_)
      have it := itd d
      by_cases a : (if iA S 94 (670 + 6 * i + 2) = 0 then if iA S 94 (670 + 6 * i + 1) = iA S 94 0 then (1 : Int32) else 0 else 0) = 0
      · rw [a] at it
        simp only [r_al0 c_M_prisonGoes_19, r_gfSr c_M_prisonGoes_20 o10 rfl, r_il4 c_M_prisonGoes_23, r_ci c_M_prisonGoes_25, r_ca2 c_M_prisonGoes_26, r_ial c_M_prisonGoes_29, r_is5 c_M_prisonGoes_30, r_al0 c_M_prisonGoes_32, r_il4 c_M_prisonGoes_33, r_cv2 c_M_prisonGoes_35, r_ifeq c_M_prisonGoes_38, r_al0 c_M_prisonGoes_41, r_il5 c_M_prisonGoes_42, r_ci c_M_prisonGoes_44, r_cv3 c_M_prisonGoes_45, r_ifne c_M_prisonGoes_48, r_al0 c_M_prisonGoes_51, r_il5 c_M_prisonGoes_52, r_ci c_M_prisonGoes_54, r_cv3 c_M_prisonGoes_55, r_il1 c_M_prisonGoes_58, r_icne c_M_prisonGoes_59, r_al0 c_M_prisonGoes_62, r_il5 c_M_prisonGoes_63, r_cv2 c_M_prisonGoes_65, r_is6 c_M_prisonGoes_68, r_il6 c_M_prisonGoes_70, r_ifle c_M_prisonGoes_72, r_al0 c_M_prisonGoes_75, r_il4 c_M_prisonGoes_76, r_il6 c_M_prisonGoes_78, r_cv3 c_M_prisonGoes_80, r_goto c_M_prisonGoes_83, r_il2 c_M_prisonGoes_86, r_ci c_M_prisonGoes_87, r_il4 c_M_prisonGoes_88, r_ishl c_M_prisonGoes_90, r_ior c_M_prisonGoes_91, r_is2 c_M_prisonGoes_92, r_il3 c_M_prisonGoes_93, r_ci c_M_prisonGoes_94, r_il5 c_M_prisonGoes_95, r_ishl c_M_prisonGoes_97, r_ior c_M_prisonGoes_98, r_is3 c_M_prisonGoes_99, r_inc4 c_M_prisonGoes_100, r_goto c_M_prisonGoes_103, ↓reduceIte, hs_h, Option.bind_some, mfix_i, mfix_r, mfix_n, mfix_a, Option.toList_some, Option.toList_none, List.cons_append, List.nil_append, List.singleton_append, mwt, Value.category, Nat.reduceAdd, Nat.reduceLeDiff, true_and, and_true, and_self, m10, oh0, mia_94 hE (show 670 + 6 * i < 2578 by omega), c1, it, if_true, nI_1, hcs1]
      · have a1 : (if iA S 94 (670 + 6 * i + 2) = 0 then if iA S 94 (670 + 6 * i + 1) = iA S 94 0 then (1 : Int32) else 0 else 0) = 1 := by
          revert a
          repeat' split
          all_goals simp
        rw [a1] at it
        by_cases a2 : iA R (b + 2) (hc i * 6 + 3) = 0
        · simp only [r_al0 c_M_prisonGoes_19, r_gfSr c_M_prisonGoes_20 o10 rfl, r_il4 c_M_prisonGoes_23, r_ci c_M_prisonGoes_25, r_ca2 c_M_prisonGoes_26, r_ial c_M_prisonGoes_29, r_is5 c_M_prisonGoes_30, r_al0 c_M_prisonGoes_32, r_il4 c_M_prisonGoes_33, r_cv2 c_M_prisonGoes_35, r_ifeq c_M_prisonGoes_38, r_al0 c_M_prisonGoes_41, r_il5 c_M_prisonGoes_42, r_ci c_M_prisonGoes_44, r_cv3 c_M_prisonGoes_45, r_ifne c_M_prisonGoes_48, r_al0 c_M_prisonGoes_51, r_il5 c_M_prisonGoes_52, r_ci c_M_prisonGoes_54, r_cv3 c_M_prisonGoes_55, r_il1 c_M_prisonGoes_58, r_icne c_M_prisonGoes_59, r_al0 c_M_prisonGoes_62, r_il5 c_M_prisonGoes_63, r_cv2 c_M_prisonGoes_65, r_is6 c_M_prisonGoes_68, r_il6 c_M_prisonGoes_70, r_ifle c_M_prisonGoes_72, r_al0 c_M_prisonGoes_75, r_il4 c_M_prisonGoes_76, r_il6 c_M_prisonGoes_78, r_cv3 c_M_prisonGoes_80, r_goto c_M_prisonGoes_83, r_il2 c_M_prisonGoes_86, r_ci c_M_prisonGoes_87, r_il4 c_M_prisonGoes_88, r_ishl c_M_prisonGoes_90, r_ior c_M_prisonGoes_91, r_is2 c_M_prisonGoes_92, r_il3 c_M_prisonGoes_93, r_ci c_M_prisonGoes_94, r_il5 c_M_prisonGoes_95, r_ishl c_M_prisonGoes_97, r_ior c_M_prisonGoes_98, r_is3 c_M_prisonGoes_99, r_inc4 c_M_prisonGoes_100, r_goto c_M_prisonGoes_103, ↓reduceIte, hs_h, Option.bind_some, mfix_i, mfix_r, mfix_n, mfix_a, Option.toList_some, Option.toList_none, List.cons_append, List.nil_append, List.singleton_append, mwt, Value.category, Nat.reduceAdd, Nat.reduceLeDiff, true_and, and_true, and_self, m10, oh0, mia_94 hE (show 670 + 6 * i < 2578 by omega), c1, it, one_nz, if_false, oc3 hE c3, f3, a2, if_true, oc1 hE c3, f1, qp, nI_1, hcs1]
        · simp only [r_al0 c_M_prisonGoes_19, r_gfSr c_M_prisonGoes_20 o10 rfl, r_il4 c_M_prisonGoes_23, r_ci c_M_prisonGoes_25, r_ca2 c_M_prisonGoes_26, r_ial c_M_prisonGoes_29, r_is5 c_M_prisonGoes_30, r_al0 c_M_prisonGoes_32, r_il4 c_M_prisonGoes_33, r_cv2 c_M_prisonGoes_35, r_ifeq c_M_prisonGoes_38, r_al0 c_M_prisonGoes_41, r_il5 c_M_prisonGoes_42, r_ci c_M_prisonGoes_44, r_cv3 c_M_prisonGoes_45, r_ifne c_M_prisonGoes_48, r_al0 c_M_prisonGoes_51, r_il5 c_M_prisonGoes_52, r_ci c_M_prisonGoes_54, r_cv3 c_M_prisonGoes_55, r_il1 c_M_prisonGoes_58, r_icne c_M_prisonGoes_59, r_al0 c_M_prisonGoes_62, r_il5 c_M_prisonGoes_63, r_cv2 c_M_prisonGoes_65, r_is6 c_M_prisonGoes_68, r_il6 c_M_prisonGoes_70, r_ifle c_M_prisonGoes_72, r_al0 c_M_prisonGoes_75, r_il4 c_M_prisonGoes_76, r_il6 c_M_prisonGoes_78, r_cv3 c_M_prisonGoes_80, r_goto c_M_prisonGoes_83, r_il2 c_M_prisonGoes_86, r_ci c_M_prisonGoes_87, r_il4 c_M_prisonGoes_88, r_ishl c_M_prisonGoes_90, r_ior c_M_prisonGoes_91, r_is2 c_M_prisonGoes_92, r_il3 c_M_prisonGoes_93, r_ci c_M_prisonGoes_94, r_il5 c_M_prisonGoes_95, r_ishl c_M_prisonGoes_97, r_ior c_M_prisonGoes_98, r_is3 c_M_prisonGoes_99, r_inc4 c_M_prisonGoes_100, r_goto c_M_prisonGoes_103, ↓reduceIte, hs_h, Option.bind_some, mfix_i, mfix_r, mfix_n, mfix_a, Option.toList_some, Option.toList_none, List.cons_append, List.nil_append, List.singleton_append, mwt, Value.category, Nat.reduceAdd, Nat.reduceLeDiff, true_and, and_true, and_self, m10, oh0, mia_94 hE (show 670 + 6 * i < 2578 by omega), c1, it, one_nz, if_false, oc3 hE c3, f3, a2, nI_1, hcs1]
end MPRISON
