/-! the model: a text is read, its end -/
section DEPTH
theorem mrun_dm {T : Nat → Nat → mF} : ∀ (f M d pc : Nat) (ls : mL) (st : List Value) (H : mH) (R : Option Value × mH), mrun T f M d pc ls st H = some R → mrun T f M (d + 1) pc ls st H = some R := by
  intro f
  induction f with
  | zero => intro M d pc ls st H R h; simp [mrun] at h
  | succ f ih =>
    intro M d pc ls st H R h
    rw [mrun] at h ⊢
    split at h
    · cases h
    · rename_i n ls' st' H' hT
      exact ih _ _ _ _ _ _ _ h
    · exact h
    · rename_i N b le rest n hT
      cases b with
      | true =>
        cases d with
        | zero => simp at h
        | succ d' =>
          simp only at h ⊢
          cases h1 : mrun T f N d' 0 le [] H with
          | none => rw [h1] at h; cases h
          | some q =>
            obtain ⟨r, H'⟩ := q
            rw [h1] at h
            rw [ih _ _ _ _ _ _ _ h1]
            exact ih _ _ _ _ _ _ _ h
      | false =>
        simp only at h ⊢
        cases h1 : mrun T f N d 0 le [] H with
        | none => rw [h1] at h; cases h
        | some q =>
          obtain ⟨r, H'⟩ := q
          rw [h1] at h
          rw [ih _ _ _ _ _ _ _ h1]
          exact ih _ _ _ _ _ _ _ h
theorem mres_dm {T : Nat → Nat → mF} {M d e pc : Nat} {ls : mL} {st : List Value} {H : mH} {R : Option Value × mH} (hde : d ≤ e) (h : mres T M d pc ls st H = some R) : mres T M e pc ls st H = some R := by
  obtain ⟨f, hf⟩ := mres_some.mp h
  refine mres_some.mpr ⟨f, ?_⟩
  induction hde with
  | refl => exact hf
  | step _ ih => exact mrun_dm _ _ _ _ _ _ _ _ ih
end DEPTH
section MTEXT
variable {E : EE} {S W : SS} {d n p q i j l k kn m len : Nat} {T : Nat → Nat} {c v x y fr tt so ft br nt cc pa x0 x1 x2 x3 : Int32} {σ ρ : PT} {f g g' cf : Nat → Int32}
theorem sho_set1 {ci w : Nat} {ks : List Nat} {c : Cel} (hk : ks[k]? = some 1) (hw : w < 2 ^ 31) : mfset (shO ci ks c) ci k (.ref w) = some (shO ci ks (upd c.1 k (nI w), c.2)) := by
  have hl : k < ks.length := (List.getElem?_eq_some_iff.mp hk).1
  rw [shO, mfset_at (by simpa using hl)]
  refine congrArg (fun z => some (Sum.inr (ci, z))) ?_
  apply List.ext_getElem?
  intro j
  rw [List.getElem?_set, List.getElem?_map, List.getElem?_zipIdx, List.getElem?_map, List.getElem?_zipIdx]
  by_cases h : k = j
  · subst h
    rw [if_pos rfl, if_pos (by simpa using hl), hk]
    simp [kval, upd, nI_clamp hw]
  · rw [if_neg h]
    cases hz : ks[j]? with
    | none => simp
    | some z =>
      have h2 : ¬ j = k := fun e => h e.symm
      match z with
      | 0 => simp [kval, upd, h2]
      | 1 => simp [kval, upd, h2]
      | r + 2 => simp [kval]
theorem r_pfN {Tb : Nat → Nat → mF} {M pc nx ci a w : Nat} {ks : List Nat} {ls : mL} {st : List Value} (h : Tb M pc = o_pf nx ci k 2) (o : isO E a ci ks) (hk : ks[k]? = some 1) (hw : w < 2 ^ 31) : mres Tb M d pc ls (.ref w :: .ref a :: st) (hs E S) = mres Tb M d nx ls st (hs E (sF S a k (nI w))) := by
  have e : mset (hs E S) a (shO ci ks (upd (S a).1 k (nI w), (S a).2)) = hs E (sF S a k (nI w)) := hs_set o.2 (by rw [o.1, va_up, if_pos rfl])
  rw [r_pf h rfl, hs_h, o.1 S, sho_set1 hk hw, Option.bind_some, e]
theorem mu_x (hk : k = 19 ∨ k = 5) : sF (mpS S fr tt so ft br nt cc pa g) 93 k v = mpS (sF S 93 k v) fr tt so ft br nt cc pa g := by
  have a1 : ¬ (13 : Nat) = k := by omega
  have a2 : ¬ (14 : Nat) = k := by omega
  have a3 : ¬ (15 : Nat) = k := by omega
  have a4 : ¬ (16 : Nat) = k := by omega
  have a5 : ¬ (17 : Nat) = k := by omega
  have a6 : ¬ (18 : Nat) = k := by omega
  have a7 : ¬ (21 : Nat) = k := by omega
  have a8 : ¬ (22 : Nat) = k := by omega
  funext q
  by_cases e : q = 93
  · subst e
    have e1 : (mpS (sF S 93 k v) fr tt so ft br nt cc pa g) 93 = (mpG (upd (S 93).1 k v) fr tt so ft br nt cc pa, (S 93).2) := by simp only [mpS, sF, va_up, if_true]
    have e2 : (sF (mpS S fr tt so ft br nt cc pa g) 93 k v) 93 = (upd (mpG (S 93).1 fr tt so ft br nt cc pa) k v, (S 93).2) := by simp only [mpS, sF, va_up, if_true]
    rw [e1, e2]
    refine Prod.ext ?_ rfl
    funext j
    show upd (mpG (S 93).1 fr tt so ft br nt cc pa) k v j = mpG (upd (S 93).1 k v) fr tt so ft br nt cc pa j
    by_cases h : j = k
    · subst h
      rw [pk_us]
      simp only [mpG]
      rw [if_neg (fun h => a1 h.symm), if_neg (fun h => a2 h.symm), if_neg (fun h => a3 h.symm), if_neg (fun h => a4 h.symm), if_neg (fun h => a5 h.symm), if_neg (fun h => a6 h.symm), if_neg (fun h => a7 h.symm), if_neg (fun h => a8 h.symm), pk_us]
    · rw [pk_un h]
      simp only [mpG]
      rw [pk_un h]
  · by_cases e2 : q = 103
    · subst e2
      simp only [sF, mpS, va_up, if_true, if_false, e]
    · simp only [sF, mpS, va_up, e, e2, if_false]
theorem mu19 : sF (mpS S fr tt so ft br nt cc pa g) 93 19 v = mpS (sF S 93 19 v) fr tt so ft br nt cc pa g := mu_x (Or.inl rfl)
theorem mu5 : sF (mpS S fr tt so ft br nt cc pa g) 93 5 v = mpS (sF S 93 5 v) fr tt so ft br nt cc pa g := mu_x (Or.inr rfl)
theorem mk_19 : sF (mkS S br nt σ g) 93 19 v = mkS (sF S 93 19 v) br nt σ g := mu19
theorem wd_eq : ∀ i, i < 5 → wdH n T (16 + i) σ = wdH n T i σ
  | 0, _ => rfl
  | 1, _ => rfl
  | 2, _ => rfl
  | 3, _ => rfl
  | 4, _ => rfl
  | n + 5, h => by omega
theorem wd_1 (hi : i < 5) (h : ¬ wdH n T i σ = 0) : btN n T σ.1 = chS i 0 := by
  have : ∀ i, i < 5 → slen i = slen i - 1 + 1 := by decide
  rw [wdH] at h
  split at h
  · rw [this i hi, iwF] at h
    split at h
    · assumption
    · exact absurd rfl h
  · exact absurd rfl h
theorem ch_ne : ∀ i, i < 5 → ∀ j, j < 5 → chS i 0 = chS j 0 → i = j := by decide +kernel
theorem wd_z (hi : i < 5) (h : ¬ wdH n T i σ = 0) (hj : j < 5) (hn : i ≠ j) : wdH n T j σ = 0 := by
  by_cases e : wdH n T j σ = 0
  · exact e
  · exact absurd (ch_ne i hi j hj ((wd_1 hi h).symm.trans (wd_1 hj e))) hn
def cdK (o : Option Nat) : Int32 := match o with
  | none => -1
  | some k => nI k
theorem ky_eq : rfor (fun k s => if (if σ.2.2.1 = 3 then wdH n T (16 + k) σ else 0) = 0 then s else nI k) 0 5 (-1) = cdK (kyQ n T σ) := by
  rw [kyQ]
  by_cases a : σ.2.2.1 = 3
  · rw [rfor_congr (g' := fun k s => if wdH n T k σ = 0 then s else nI k) 5 0 (-1) (fun j s _ hj => by rw [if_pos a, wd_eq j (by omega)]), if_pos a]
    show (if wdH n T 4 σ = 0 then (if wdH n T 3 σ = 0 then (if wdH n T 2 σ = 0 then (if wdH n T 1 σ = 0 then (if wdH n T 0 σ = 0 then -1 else nI 0) else nI 1) else nI 2) else nI 3) else nI 4) = cdK (if wdH n T 0 σ = 0 then (if wdH n T 1 σ = 0 then (if wdH n T 2 σ = 0 then (if wdH n T 3 σ = 0 then (if wdH n T 4 σ = 0 then none else some 4) else some 3) else some 2) else some 1) else some 0)
    by_cases a0 : wdH n T 0 σ = 0
    · by_cases a1 : wdH n T 1 σ = 0
      · by_cases a2 : wdH n T 2 σ = 0
        · by_cases a3 : wdH n T 3 σ = 0
          · by_cases a4 : wdH n T 4 σ = 0
            · simp only [a0, a1, a2, a3, a4, if_true, cdK]
            · simp only [a0, a1, a2, a3, a4, if_true, if_false, cdK]
          · have z4 := wd_z (i := 3) (j := 4) (by decide) a3 (by decide) (by decide)
            simp only [a0, a1, a2, a3, z4, if_true, if_false, cdK]
        · have z4 := wd_z (i := 2) (j := 4) (by decide) a2 (by decide) (by decide)
          have z3 := wd_z (i := 2) (j := 3) (by decide) a2 (by decide) (by decide)
          simp only [a0, a1, a2, z3, z4, if_true, if_false, cdK]
      · have z4 := wd_z (i := 1) (j := 4) (by decide) a1 (by decide) (by decide)
        have z3 := wd_z (i := 1) (j := 3) (by decide) a1 (by decide) (by decide)
        have z2 := wd_z (i := 1) (j := 2) (by decide) a1 (by decide) (by decide)
        simp only [a0, a1, z2, z3, z4, if_true, if_false, cdK]
    · have z4 := wd_z (i := 0) (j := 4) (by decide) a0 (by decide) (by decide)
      have z3 := wd_z (i := 0) (j := 3) (by decide) a0 (by decide) (by decide)
      have z2 := wd_z (i := 0) (j := 2) (by decide) a0 (by decide) (by decide)
      have z1 := wd_z (i := 0) (j := 1) (by decide) a0 (by decide) (by decide)
      simp only [a0, z1, z2, z3, z4, if_true, if_false, cdK]
  · rw [if_neg a, rfor_congr (g' := fun _ s => s) 5 0 (-1) (fun j s _ hj => by rw [if_neg a, if_pos rfl]), rfor_ii]
    rfl
theorem mqa_104 (hE : okE E) (hj : j < 5) : mqa (hp E S 104) 5 (nI j) = some (iQ S 104 j) := by
  rw [show hp E S 104 = shR 25 (S 104) from hp_r (o := 25) hE (by omega), shR, shQ, mqa, if_pos ⟨rfl, nI_in hj (by omega)⟩, nI_clamp (by omega)]
theorem mqa_105 (hE : okE E) (hj : j < 5) : mqa (hp E S 105) 5 (nI j) = some (iQ S 105 j) := by
  rw [show hp E S 105 = shR 26 (S 105) from hp_r (o := 26) hE (by omega), shR, shQ, mqa, if_pos ⟨rfl, nI_in hj (by omega)⟩, nI_clamp (by omega)]
theorem mkQ (h1 : q ≠ 93) (h2 : q ≠ 103) : iQ (mkS S br nt σ g) q = iQ S q := by rw [iQ, mkS, mp_o h1 h2]
theorem rSt_1 : rSt n T (rt1 n T cf) := rSt_adv okP_0 (Nat.le_refl 0)
theorem M_text_k (hE : okE E) (hT : mtp S n T) (hK : ∀ j, j < 5 → iQ S 104 j = some (1000016 + j) ∧ iQ S 105 j = some (1000021 + j)) : mres cT 154 d 0 (ment 8 [.ref 93, .int c, .int v]) [] (hs E S) = mres cT 154 d 77 [.ref 93, .int c, .int v, .int (cdK (kyQ n T (rt1 n T cf))), .int 5, .retAddr 0, .retAddr 0, .retAddr 0] [] (hs E (mkS S 0 0 (rt1 n T cf) (iA S 103))) := by
  have o10 := o_M hE
  have m10 := m_M hE
  have rn : ∀ d, mres cT 142 d 0 (ment 3 [.ref 93]) [] (hs E (mpS S (iF S 93 13) 0 0 0 0 0 0 0 (iA S 103))) = some (none, hs E (mkS S 0 0 (rt1 n T cf) (iA S 103))) := fun d => by
    rw [rt1, mk_adv]
    exact M_next_ok (σ := (0, 0, 0, none, 0, 0, cf)) hE hT (Nat.zero_le n) (by show ((0 : Int32) = 1 ∨ (0 : Int32) = 2) ↔ isW 0 = 1; decide)
  have r0 : hs E S = hs E (mpS S (iF S 93 13) (iF S 93 14) (iF S 93 15) (iF S 93 16) (iF S 93 17) (iF S 93 18) (iF S 93 21) (iF S 93 22) (iA S 103)) := by rw [mp_self]
  have lp : ∀ m k s, k + m = 5 → mres cT 154 d 44 [.ref 93, .int c, .int v, .int s, .int (nI k), .retAddr 0, .retAddr 0, .retAddr 0] [] (hs E (mkS S 0 0 (rt1 n T cf) (iA S 103))) = mres cT 154 d 77 [.ref 93, .int c, .int v, .int (rfor (fun k s => if (if (rt1 n T cf).2.2.1 = 3 then wdH n T (16 + k) (rt1 n T cf) else 0) = 0 then s else nI k) k m s), .int 5, .retAddr 0, .retAddr 0, .retAddr 0] [] (hs E (mkS S 0 0 (rt1 n T cf) (iA S 103))) := by
    intro m
    induction m with
    | zero =>
      intro k s hk
      have e : k = 5 := by omega
      subst e
      simp only [r_il4 c_M_text_44, r_ci c_M_text_46, r_icge c_M_text_47, ↓reduceIte, hs_h, Option.bind_some, mfix_i, mfix_r, mfix_n, mfix_a, Option.toList_some, Option.toList_none, List.cons_append, List.nil_append, List.singleton_append, show nI 5 = 5 by decide, show ((5 : Int32) ≤ 5) = True from eq_true (by decide), if_true, rfor]
    | succ m ih =>
      intro k s hk
      have a1 : ¬ (5 : Int32) ≤ nI k := nI_ge (b := 5) (by omega) (by omega)
      have ih := fun s => ih (k + 1) s (by omega)
      have rw1 : ∀ d, mres cT 143 d 0 (ment 4 [.ref 93, .ref (1000016 + k)]) [] (hs E (mkS S 0 0 (rt1 n T cf) (iA S 103))) = some (some (.int (if (rt1 n T cf).2.2.1 = 3 then wdH n T (16 + k) (rt1 n T cf) else 0)), hs E (mkS S 0 0 (rt1 n T cf) (iA S 103))) := fun d => by
        rw [show 1000016 + k = 1000000 + (16 + k) by omega]
        exact M_isWord_ok hE hT rSt_1 (by omega)
      rw [rfor]
      generalize (if (rt1 n T cf).2.2.1 = 3 then wdH n T (16 + k) (rt1 n T cf) else 0) = w at rw1 ⊢
      simp only [r_il4 c_M_text_44, r_ci c_M_text_46, r_icge c_M_text_47, ↓reduceIte, hs_h, Option.bind_some, mfix_i, mfix_r, mfix_n, mfix_a, Option.toList_some, Option.toList_none, List.cons_append, List.nil_append, List.singleton_append, a1, if_false]
      by_cases z : w = 0
      · rw [if_pos z]
        rw [z] at rw1
        simp only [r_al0 c_M_text_50, r_al0 c_M_text_51, r_gfSr c_M_text_52 o10 rfl, r_il4 c_M_text_55, r_aal c_M_text_57, r_cv2 c_M_text_58, r_ifeq c_M_text_61, r_il4 c_M_text_64, r_goto c_M_text_66, r_il3 c_M_text_69, r_is3 c_M_text_70, r_inc4 c_M_text_71, r_goto c_M_text_74, ↓reduceIte, hs_h, Option.bind_some, mfix_i, mfix_r, mfix_n, mfix_a, Option.toList_some, Option.toList_none, List.cons_append, List.nil_append, List.singleton_append, mwt, Value.category, Nat.reduceAdd, Nat.reduceLeDiff, true_and, and_true, and_self, mqa_104 hE (show k < 5 by omega), mkQ (show 104 ≠ 93 by decide) (show 104 ≠ 103 by decide), (hK k (by omega)).1, va_rf, m10, rw1, if_true, nI_1, ih]
      · rw [if_neg z]
        simp only [r_al0 c_M_text_50, r_al0 c_M_text_51, r_gfSr c_M_text_52 o10 rfl, r_il4 c_M_text_55, r_aal c_M_text_57, r_cv2 c_M_text_58, r_ifeq c_M_text_61, r_il4 c_M_text_64, r_goto c_M_text_66, r_il3 c_M_text_69, r_is3 c_M_text_70, r_inc4 c_M_text_71, r_goto c_M_text_74, ↓reduceIte, hs_h, Option.bind_some, mfix_i, mfix_r, mfix_n, mfix_a, Option.toList_some, Option.toList_none, List.cons_append, List.nil_append, List.singleton_append, mwt, Value.category, Nat.reduceAdd, Nat.reduceLeDiff, true_and, and_true, and_self, mqa_104 hE (show k < 5 by omega), mkQ (show 104 ≠ 93 by decide) (show 104 ≠ 103 by decide), (hK k (by omega)).1, va_rf, m10, rw1, z, if_false, nI_1, ih]
  have lq := lp 5 0 (-1) (by omega)
  rw [nI_0, ky_eq] at lq
  simp only [ment, mfl, List.length, List.replicate, List.cons_append, List.nil_append, Nat.reduceAdd, Nat.reduceSub]
  rw [r0]
  simp only [r_al0 c_M_text_0, r_ci c_M_text_1, r_pfS c_M_text_2 o10 rfl, r_al0 c_M_text_5, r_ci c_M_text_6, r_pfS c_M_text_7 o10 rfl, r_al0 c_M_text_10, r_ci c_M_text_11, r_pfZ c_M_text_12 o10 rfl, r_al0 c_M_text_15, r_ci c_M_text_16, r_pfS c_M_text_17 o10 rfl, r_al0 c_M_text_20, r_ci c_M_text_21, r_pfS c_M_text_22 o10 rfl, r_al0 c_M_text_25, r_ci c_M_text_26, r_pfS c_M_text_27 o10 rfl, r_al0 c_M_text_30, r_ci c_M_text_31, r_pfS c_M_text_32 o10 rfl, r_al0 c_M_text_35, r_cv1 c_M_text_36, r_ci c_M_text_39, r_is3 c_M_text_40, r_ci c_M_text_41, r_is4 c_M_text_42, ↓reduceIte, hs_h, Option.bind_some, mfix_i, mfix_r, mfix_n, mfix_a, Option.toList_some, Option.toList_none, List.cons_append, List.nil_append, List.singleton_append, mwt, Value.category, Nat.reduceAdd, Nat.reduceLeDiff, true_and, and_true, and_self, m10, um14, um15, um16, um17, um18, um21, um22, or_true, true_or, rn, lq]
theorem M_text_n (hE : okE E) {w4 w5 w6 w7 : Value} : mres cT 154 d 77 [.ref 93, .int c, .int v, .int (-1), w4, w5, w6, w7] [] (hs E (mkS S br nt ρ g)) = mres cT 154 d 143 [.ref 93, .int c, .int v, .int (-1), w4, w5, w6, w7] [] (hs E (mpS (sF S 93 19 (nI 1000015)) (nI ρ.1) (nI ρ.2.1) (mso ρ) 1 br nt (nI ρ.2.2.2.2.1) (nI ρ.2.2.2.2.2.1) g)) := by
  have o10 := o_M hE
  have m10 := m_M hE
  have z : (-1 : Int32) < 0 := by decide
  have z2 : ¬ (0 : Int32) ≤ -1 := by decide
  simp only [r_al0 c_M_text_77, r_il3 c_M_text_78, r_iflt c_M_text_79, r_ci c_M_text_82, r_goto c_M_text_83, r_ci c_M_text_86, r_cv2 c_M_text_87, r_al0 c_M_text_90, r_il3 c_M_text_91, r_ifge c_M_text_92, r_cv c_M_text_95, r_goto c_M_text_97, r_pfN c_M_text_106 o10 rfl (show 1000015 < 2 ^ 31 by decide), r_al0 c_M_text_109, r_cv1 c_M_text_110, r_al0 c_M_text_113, r_ci c_M_text_114, r_cv2 c_M_text_117, r_al0 c_M_text_120, r_al0 c_M_text_121, r_gfS0 c_M_text_122 o10 rfl, r_ifne c_M_text_125, r_al0 c_M_text_128, r_gfS0 c_M_text_129 o10 rfl, r_ifeq c_M_text_132, r_ci c_M_text_135, r_goto c_M_text_136, r_ci c_M_text_139, r_pfZ c_M_text_140 o10 rfl, ↓reduceIte, hs_h, Option.bind_some, mfix_i, mfix_r, mfix_n, mfix_a, Option.toList_some, Option.toList_none, List.cons_append, List.nil_append, List.singleton_append, mwt, Value.category, Nat.reduceAdd, Nat.reduceLeDiff, true_and, and_true, and_self, z, z2, if_true, if_false, m10, M_need_k hE, mu19, M_either_f hE, M_put_f hE, mp16, one_nz, um16, or_true, true_or]
/-- the model behind its reading -/
def mfZ (S : SS) (σ : PT) (fl : Int32) (g : Nat → Int32) : SS := mpS S (nI σ.1) (nI σ.2.1) (mso σ) fl 0 0 (nI (σ.2.2.2.2.1 + 1)) (nI σ.2.2.2.2.2.1) g
theorem mf16 {fl : Int32} : iF (mfZ S σ fl g) 93 16 = fl := mp16
theorem mf15 {fl : Int32} : iF (mfZ S σ fl g) 93 15 = mso σ := mp15
theorem mf_16 {fl : Int32} : sF (mfZ S σ fl g) 93 16 v = mfZ S σ v g := um16
theorem M_put_e (hE : okE E) (h : σ.2.2.2.2.1 < 100) : mres cT 145 d 0 (ment 2 [.ref 93, .int 300000]) [] (hs E (mkS S 0 0 σ g)) = some (none, hs E (mfZ S σ 0 (upd g σ.2.2.2.2.1 300000))) := M_put_ok hE h
theorem M_text_s (hE : okE E) (hT : mtp S n T) (hK : ∀ j, j < 5 → iQ S 104 j = some (1000016 + j) ∧ iQ S 105 j = some (1000021 + j)) (hk : kyQ n T (rt1 n T cf) = some kn) {w4 w5 w6 w7 : Value} :
    ∃ W, ((∃ p, (rt3 n T cf kn).2.2.2.1 = some p ∧ ∃ tt so br nt cc pa g, W = mpS (sF S 93 19 (nI (1000021 + kn))) (nI p) tt so 1 br nt cc pa g) ∨ ((rt3 n T cf kn).2.2.2.1 = none ∧ rt3 n T cf kn = rt2 n T cf kn ∧ ∃ g, (∀ j, j < (rt2 n T cf kn).2.2.2.2.1 → g j = mcd ((rt2 n T cf kn).2.2.2.2.2.2 j)) ∧ W = mfZ (sF S 93 19 (nI (1000021 + kn))) (rt2 n T cf kn) 0 (upd g (rt2 n T cf kn).2.2.2.2.1 300000)))
    ∧ ∀ d, 17 ≤ d → mres cT 154 d 77 [.ref 93, .int c, .int v, .int (nI kn), w4, w5, w6, w7] [] (hs E (mkS S 0 0 (rt1 n T cf) g)) = mres cT 154 d 143 [.ref 93, .int c, .int v, .int (nI kn), w4, w5, w6, w7] [] (hs E W) := by
  have o10 := o_M hE
  have m10 := m_M hE
  have hn := hT.2.1
  have hk5 := kyQ_lt hk
  have h3 : (rt1 n T cf).2.2.1 = 3 := by
    rw [kyQ] at hk
    split at hk
    · assumption
    · cases hk
  have s1 := rSt_1 (n := n) (T := T) (cf := cf)
  have sA := adv_wf s1
  have f1 : (rt1 n T cf).2.2.2.1 = none := by rw [rt1, adv_c.2.2.1]
  have c1 : (rt1 n T cf).2.2.2.2.1 = 0 := by rw [rt1, adv_c.1]
  have f2 : (adv n T (rt1 n T cf)).2.2.2.1 = none := by rw [adv_c.2.2.1]; exact f1
  have c2 : (adv n T (rt1 n T cf)).2.2.2.2.1 = 0 := by rw [adv_c.1]; exact c1
  have p2 : 1 ≤ (adv n T (rt1 n T cf)).1 := by have := sA.2 (by omega); omega
  have hT' : mtp (sF S 93 19 (nI (1000021 + kn))) n T := by
    rw [mtp, iF_sF_ne (Or.inr (by omega)), iA_sF]; exact hT
  have hN' : iF (sF S 93 19 (nI (1000021 + kn))) 93 19 = nI (1000021 + kn) := iF_sF
  have z : ¬ nI kn < 0 := nI_pos (by omega)
  have z2 : 0 ≤ nI kn := nI_pos' (by omega)
  have r1 := fun d => M_need_1 (d := d) (br := 0) (nt := 0) (g := g) hE hT s1.1.2.1 (mwo_3 h3)
  obtain ⟨W1, hm1, r2⟩ := M_read_ok hE hT' hk5 hN' 62 0 0 0 17 (by omega) (by omega) (by omega) (by omega) (by omega) (adv n T (rt1 n T cf)) (mkS (sF S 93 19 (nI (1000021 + kn))) 0 0 (adv n T (rt1 n T cf)) g) sA.1 p2 f2 (Or.inl ⟨f2, g, by rw [c2]; exact fun j hj => absurd hj (Nat.not_lt_zero j), rfl⟩)
  have r2 : ∀ d, 17 ≤ d → mres cT 153 d 0 (ment 1 [.ref 93]) [] (hs E (mkS (sF S 93 19 (nI (1000021 + kn))) 0 0 (adv n T (rt1 n T cf)) g)) = some (none, hs E W1) := fun d hd => mres_dm hd r2
  have hm1 : mrl (sF S 93 19 (nI (1000021 + kn))) 0 0 (rt2 n T cf kn) W1 := hm1
  rcases hm1 with ⟨hf, g1, hg1, rfl⟩ | ⟨p, hf, tt, so, br, nt, cc, pa, g1, rfl⟩
  · obtain ⟨t1, t2, t3, t4⟩ := rdX_wf hn hk5 (fun j hj => (hT.2.2 j hj).2) 62 0 0 0 (by omega) (by omega) (by omega) (by omega) _ sA.1 f2 hf
    have t1 : rSt n T (rt2 n T cf kn) := t1
    have hb := t1.1.1
    have hc := t1.2.1
    have rp := fun d => M_put_e (d := d) (S := sF S 93 19 (nI (1000021 + kn))) (σ := rt2 n T cf kn) (g := g1) hE (by omega)
    have m0 := mso_0 t1.2.2.2.2.1 t1.2.2.2.2.2
    by_cases a : (rt2 n T cf kn).2.2.1 = 1
    · refine ⟨_, Or.inr ⟨by rw [rt3, if_pos a]; exact hf, by rw [rt3, if_pos a], g1, hg1, rfl⟩, fun d hd => ?_⟩
      have r2 := r2 d hd
      have m0 : mso (rt2 n T cf kn) = 0 := by rw [m0]; exact a
      simp only [r_al0 c_M_text_77, r_il3 c_M_text_78, r_iflt c_M_text_79, r_ci c_M_text_82, r_goto c_M_text_83, r_ci c_M_text_86, r_cv2 c_M_text_87, r_al0 c_M_text_90, r_il3 c_M_text_91, r_ifge c_M_text_92, r_cv c_M_text_95, r_goto c_M_text_97, r_al0 c_M_text_100, r_gfSr c_M_text_101 o10 rfl, r_il3 c_M_text_104, r_aal c_M_text_105, r_pfN c_M_text_106 o10 rfl (show 1000021 + kn < 2 ^ 31 by omega), r_al0 c_M_text_109, r_cv1 c_M_text_110, r_al0 c_M_text_113, r_ci c_M_text_114, r_cv2 c_M_text_117, r_al0 c_M_text_120, r_al0 c_M_text_121, r_gfS0 c_M_text_122 o10 rfl, r_ifne c_M_text_125, r_al0 c_M_text_128, r_gfS0 c_M_text_129 o10 rfl, r_ifeq c_M_text_132, r_ci c_M_text_135, r_goto c_M_text_136, r_ci c_M_text_139, r_pfZ c_M_text_140 o10 rfl, ↓reduceIte, hs_h, Option.bind_some, mfix_i, mfix_r, mfix_n, mfix_a, Option.toList_some, Option.toList_none, List.cons_append, List.nil_append, List.singleton_append, mwt, Value.category, Nat.reduceAdd, Nat.reduceLeDiff, true_and, and_true, and_self, z, z2, if_true, if_false, m10, r1, mqa_105 hE hk5, mkQ (show 105 ≠ 93 by decide) (show 105 ≠ 103 by decide), (hK kn hk5).2, va_rf, mk_19, r2, rp, mf16, mf15, m0, mf_16, or_true, true_or]
    · refine ⟨mfZ (sF S 93 19 (nI (1000021 + kn))) (rt2 n T cf kn) 1 (upd g1 (rt2 n T cf kn).2.2.2.2.1 300000), Or.inl ⟨(rt2 n T cf kn).1, by rw [rt3, if_neg a]; exact rfu_o hf, _, _, _, _, _, _, _, rfl⟩, fun d hd => ?_⟩
      have r2 := r2 d hd
      have m0 : ¬ mso (rt2 n T cf kn) = 0 := by rw [m0]; exact a
      simp only [r_al0 c_M_text_77, r_il3 c_M_text_78, r_iflt c_M_text_79, r_ci c_M_text_82, r_goto c_M_text_83, r_ci c_M_text_86, r_cv2 c_M_text_87, r_al0 c_M_text_90, r_il3 c_M_text_91, r_ifge c_M_text_92, r_cv c_M_text_95, r_goto c_M_text_97, r_al0 c_M_text_100, r_gfSr c_M_text_101 o10 rfl, r_il3 c_M_text_104, r_aal c_M_text_105, r_pfN c_M_text_106 o10 rfl (show 1000021 + kn < 2 ^ 31 by omega), r_al0 c_M_text_109, r_cv1 c_M_text_110, r_al0 c_M_text_113, r_ci c_M_text_114, r_cv2 c_M_text_117, r_al0 c_M_text_120, r_al0 c_M_text_121, r_gfS0 c_M_text_122 o10 rfl, r_ifne c_M_text_125, r_al0 c_M_text_128, r_gfS0 c_M_text_129 o10 rfl, r_ifeq c_M_text_132, r_ci c_M_text_135, r_goto c_M_text_136, r_ci c_M_text_139, r_pfZ c_M_text_140 o10 rfl, ↓reduceIte, hs_h, Option.bind_some, mfix_i, mfix_r, mfix_n, mfix_a, Option.toList_some, Option.toList_none, List.cons_append, List.nil_append, List.singleton_append, mwt, Value.category, Nat.reduceAdd, Nat.reduceLeDiff, true_and, and_true, and_self, z, z2, if_true, if_false, m10, r1, mqa_105 hE hk5, mkQ (show 105 ≠ 93 by decide) (show 105 ≠ 103 by decide), (hK kn hk5).2, va_rf, mk_19, r2, rp, mf16, mf15, m0, mf_16, or_true, true_or]
  · refine ⟨_, Or.inl ⟨p, ?_, tt, so, br, nt, cc, pa, g1, rfl⟩, fun d hd => ?_⟩
    · rw [rt3]
      split
      · exact hf
      · exact rfu_k hf
    · have r2 := r2 d hd
      simp only [r_al0 c_M_text_77, r_il3 c_M_text_78, r_iflt c_M_text_79, r_ci c_M_text_82, r_goto c_M_text_83, r_ci c_M_text_86, r_cv2 c_M_text_87, r_al0 c_M_text_90, r_il3 c_M_text_91, r_ifge c_M_text_92, r_cv c_M_text_95, r_goto c_M_text_97, r_al0 c_M_text_100, r_gfSr c_M_text_101 o10 rfl, r_il3 c_M_text_104, r_aal c_M_text_105, r_pfN c_M_text_106 o10 rfl (show 1000021 + kn < 2 ^ 31 by omega), r_al0 c_M_text_109, r_cv1 c_M_text_110, r_al0 c_M_text_113, r_ci c_M_text_114, r_cv2 c_M_text_117, r_al0 c_M_text_120, r_al0 c_M_text_121, r_gfS0 c_M_text_122 o10 rfl, r_ifne c_M_text_125, r_al0 c_M_text_128, r_gfS0 c_M_text_129 o10 rfl, r_ifeq c_M_text_132, r_ci c_M_text_135, r_goto c_M_text_136, r_ci c_M_text_139, r_pfZ c_M_text_140 o10 rfl, ↓reduceIte, hs_h, Option.bind_some, mfix_i, mfix_r, mfix_n, mfix_a, Option.toList_some, Option.toList_none, List.cons_append, List.nil_append, List.singleton_append, mwt, Value.category, Nat.reduceAdd, Nat.reduceLeDiff, true_and, and_true, and_self, z, z2, if_true, if_false, m10, r1, mqa_105 hE hk5, mkQ (show 105 ≠ 93 by decide) (show 105 ≠ 103 by decide), (hK kn hk5).2, va_rf, mk_19, r2, M_put_f hE, mp16, one_nz, um16, or_true, true_or]
end MTEXT
