/-! the books: what is put off, what is heard -/
section SIFT
variable {E : EE} {S S1 : SS} {d b n k q j a : Nat} {c pr v : Int32} {hc z t pk : Nat → Nat}
theorem rfor_keep {α : Type} {P : α → Prop} {g : Nat → α → α} (hg : ∀ i s, P s → P (g i s)) : ∀ (m i : Nat) (s : α), P s → P (rfor g i m s)
  | 0, _, _, h => h
  | m + 1, i, s, h => by
    rw [rfor]
    exact rfor_keep hg m (i + 1) _ (hg i s h)
/-- sizes, texts, the cases of hearings, the kinds of papers -/
def okH (E : EE) (S : SS) (b : Nat) (z t hc pk : Nat → Nat) : Prop := okB E S b z t ∧ hcs S b (z 7) hc ∧ pks S b (z 3) pk
theorem pks_poS (h : pks S b n pk) : pks (poS S b z t k j q) b n pk := pks_sA (by omega) (pks_sA (by omega) h)
theorem okH_poS (hb : bkb b) (h : okH E S b z t hc pk) : okH E (poS S b z t k j q) b z t hc pk := ⟨okB_poS hb h.1, hcs_poS h.2.1, pks_poS h.2.2⟩
theorem pks_hoS (h : pks S b n pk) : pks (hoS S b z t k j) b n pk := by
  have hA : ∀ v, pks (hoA S b k j v) b n pk := fun v => pks_sA (by omega) (pks_sA (by omega) h)
  rw [hoS]
  by_cases e : leV S b z t j = 0
  · rw [if_pos e]; exact hA 1
  · rw [if_neg e, lvS]
    have hB := pks_sA (a := b + 2) (g := upd (iA (hoA S b k j 2) (b + 2)) (j * 6 + 3) 1) (by omega) (hA 2)
    rcases enS_c (S := sA (hoA S b k j 2) (b + 2) (upd (iA (hoA S b k j 2) (b + 2)) (j * 6 + 3) 1)) (b := b) (n := z 16) (c := nI j) (x := iF (hoA S b k j 2) b 8) with r | ⟨g, r⟩
    · rw [r]; exact hB
    · rw [r]; exact pks_sA (by omega) hB
theorem okH_hoS (hb : bkb b) (h : okH E S b z t hc pk) : okH E (hoS S b z t k j) b z t hc pk := ⟨okB_hoS hb h.1, hcs_hoS h.2.1, pks_hoS h.2.2⟩
theorem okH_adT (hb : bkb b) (h : okH E S b z t hc pk) : okH E (adT S b k) b z t hc pk := by
  have bl := bkb_lt hb
  exact ⟨okB_sA (by omega) h.1, hcs_sA (by omega) h.2.1, pks_sA (by omega) h.2.2⟩
theorem okH_eq (hb : bkb b) (e : eqS b S S1) (h : okH E S b z t hc pk) : okH E S1 b z t hc pk :=
  ⟨okB_eq hb e h.1, fun i hi => by rw [iA, e _ (by omega) (by omega)]; exact h.2.1 i hi, pks_eq e h.2.2⟩
def caN (S : SS) (b : Nat) (z t pk : Nat → Nat) (k : Nat) : Nat := if duS S b z t k (iF S b 8) = 0 then 1 else if hrF (iA S (b + 4)) pk (nI k) (iF S b 8) 0 (z 3) = 0 then 2 else if hnS S b z t pk k = 0 then 3 else 0
theorem caN_lt : caN S b z t pk k < 4 := by
  rw [caN]; repeat' split
  all_goals omega
theorem caS_n : caS S b z t pk k = nI (caN S b z t pk k) := by
  rw [caS, caN]; repeat' split
  all_goals rfl
def siG (b : Nat) (z t pk hc : Nat → Nat) (c pr : Int32) (i : Nat) (s : Int32 × SS) : Int32 × SS :=
  if c >>> (nI i &&& 31) &&& 1 = 0 then s else if iA s.2 (b + 2) (hc i * 6 + 3) = 0 then if iA s.2 (b + 2) (hc i * 6 + 1) = pr then
    if caN s.2 b z t pk (hc i) = 0 then (s.1 ||| 1 <<< (nI i &&& 31), s.2) else (s.1, poS s.2 b z t i (hc i) (caN s.2 b z t pk (hc i))) else s else s
theorem okH_siG (hb : bkb b) {i : Nat} {s : Int32 × SS} (h : okH E s.2 b z t hc pk) : okH E (siG b z t pk hc c pr i s).2 b z t hc pk := by
  rw [siG]; repeat' split
  all_goals first | exact h | exact okH_poS hb h
theorem B_sift_ok (hE : okE E) (hb : bkb b) (hz : okH E S b z t hc pk) (h : eqS b S S1) : ∃ S2, eqS b (rfor (siG b z t pk hc c pr) 0 (z 7) (0, S)).2 S2 ∧ ∀ d, mres cT 211 d 0 (ment 8 [.ref b, .int c, .int pr]) [] (hs E S1) = some (some (.int (rfor (siG b z t pk hc c pr) 0 (z 7) (0, S)).1), hs E S2) := by
  have o0 := o_B hE hb
  have m0 : ∀ S, misc (hp E S b) 0 = true := fun S => misc_o o0
  have lp : ∀ m i l S S1 w5 w6 w7, okH E S b z t hc pk → eqS b S S1 → i + m = z 7 → ∃ S2, eqS b (rfor (siG b z t pk hc c pr) i m (l, S)).2 S2 ∧ ∀ d, mres cT 211 d 5 [.ref b, .int c, .int pr, .int l, .int (nI i), w5, w6, w7] [] (hs E S1) = some (some (.int (rfor (siG b z t pk hc c pr) i m (l, S)).1), hs E S2) := by
    intro m
    induction m with
    | zero =>
      intro i l S S1 w5 w6 w7 hz h hi
      obtain ⟨-, -, -, g7, -⟩ := (okH_eq hb h hz).1
      have h1 : nI (z 7) ≤ nI i := nI_le (by omega) (by omega)
      refine ⟨S1, h, fun d => ?_⟩
      simp only [r_il4 c_B_sift_5, r_al0 c_B_sift_7, r_gfSr c_B_sift_8 o0 rfl, r_gfR3 c_B_sift_11 (w_1 hE hb), r_gfR3 c_B_sift_11 (w_3 hE hb), r_gfR3 c_B_sift_11 (w_5 hE hb), r_gfR3 c_B_sift_11 (w_7 hE hb), r_gfR3 c_B_sift_11 (w_9 hE hb), r_gfR3 c_B_sift_11 (w_11 hE hb), r_gfR3 c_B_sift_11 (w_14 hE hb), r_gfR3 c_B_sift_11 (w_16 hE hb), r_gfR3 c_B_sift_11 (w_18 hE hb), r_gfR3 c_B_sift_11 (w_20 hE hb), r_icge c_B_sift_14, r_il3 c_B_sift_113, r_iret c_B_sift_114, ↓reduceIte, hs_h, Option.bind_some, mfix_i, mfix_r, mfix_n, mfix_a, Option.toList_some, Option.toList_none, List.cons_append, List.nil_append, List.singleton_append, g7.1, h1, if_true, rfor]
    | succ m ih =>
      intro i l S S1 w5 w6 w7 hz h hi
      have z1 := okH_eq hb h hz
      obtain ⟨-, -, -, g7, -⟩ := z1.1
      have h1 : ¬ nI (z 7) ≤ nI i := nI_ge (by omega) (by omega)
      have hi2 : i < 30 := by omega
      obtain ⟨e0, e1⟩ := z1.2.1 i (by omega)
      have f2 : iA S1 (b + 2) = iA S (b + 2) := by rw [iA, h _ (by omega) (by omega)]
      have ih := fun l S S1 w5 w6 w7 hz h => ih (i + 1) l S S1 w5 w6 w7 hz h (by omega)
      rw [rfor, siG]
      simp only [r_il4 c_B_sift_5, r_al0 c_B_sift_7, r_gfSr c_B_sift_8 o0 rfl, r_gfR3 c_B_sift_11 (w_1 hE hb), r_gfR3 c_B_sift_11 (w_3 hE hb), r_gfR3 c_B_sift_11 (w_5 hE hb), r_gfR3 c_B_sift_11 (w_7 hE hb), r_gfR3 c_B_sift_11 (w_9 hE hb), r_gfR3 c_B_sift_11 (w_11 hE hb), r_gfR3 c_B_sift_11 (w_14 hE hb), r_gfR3 c_B_sift_11 (w_16 hE hb), r_gfR3 c_B_sift_11 (w_18 hE hb), r_gfR3 c_B_sift_11 (w_20 hE hb), r_icge c_B_sift_14, ↓reduceIte, hs_h, Option.bind_some, mfix_i, mfix_r, mfix_n, mfix_a, Option.toList_some, Option.toList_none, List.cons_append, List.nil_append, List.singleton_append, g7.1, h1]
      by_cases q1 : iA S (b + 2) (hc i * 6 + 3) = 0
      · by_cases q2 : iA S (b + 2) (hc i * 6 + 1) = pr
        · by_cases q3 : c >>> (nI i &&& 31) &&& 1 = 0
          · obtain ⟨S2, e2, r2⟩ := ih l S S1 (.int (nI (hc i))) (.int 1) w7 hz h
            refine ⟨S2, by rw [if_pos q3]; exact e2, fun d => ?_⟩
            simp only [r_al0 c_B_sift_17, r_gfSr c_B_sift_18 o0 rfl, r_il4 c_B_sift_21, r_ci c_B_sift_23, r_cv3 c_B_sift_24, r_is5 c_B_sift_27, r_al0 c_B_sift_29, r_il5 c_B_sift_30, r_cv2 c_B_sift_32, r_ifne c_B_sift_35, r_al0 c_B_sift_38, r_gfSr c_B_sift_39 o0 rfl, r_il5 c_B_sift_42, r_ci c_B_sift_44, r_cv3 c_B_sift_45, r_il2 c_B_sift_48, r_icne c_B_sift_49, r_ci c_B_sift_52, r_goto c_B_sift_53, r_ci c_B_sift_56, r_is6 c_B_sift_57, r_il1 c_B_sift_59, r_il4 c_B_sift_60, r_ishr c_B_sift_62, r_ci c_B_sift_63, r_iand c_B_sift_64, r_ifeq c_B_sift_65, r_il6 c_B_sift_68, r_ifne c_B_sift_70, r_goto c_B_sift_73, r_al0 c_B_sift_76, r_il5 c_B_sift_77, r_cv2 c_B_sift_79, r_is7 c_B_sift_82, r_il7 c_B_sift_84, r_ifne c_B_sift_86, r_il3 c_B_sift_89, r_ci c_B_sift_90, r_il4 c_B_sift_91, r_ishl c_B_sift_93, r_ior c_B_sift_94, r_is3 c_B_sift_95, r_goto c_B_sift_96, r_al0 c_B_sift_99, r_il4 c_B_sift_100, r_il7 c_B_sift_102, r_cv3 c_B_sift_104, r_inc4 c_B_sift_107, r_goto c_B_sift_110, ↓reduceIte, hs_h, Option.bind_some, mfix_i, mfix_r, mfix_n, mfix_a, Option.toList_some, Option.toList_none, List.cons_append, List.nil_append, List.singleton_append, mwt, Value.category, Nat.reduceAdd, Nat.reduceLeDiff, true_and, and_true, and_self, at_1 hE hb, misc_w (w_1 hE hb), at_7 hE hb, misc_w (w_7 hE hb), m0, ra0 hi2 (show 0 < 5 by decide) (show 30 * 5 ≤ 1000 by decide), e0, B_stateOf_ok hE hb e1, ra1 e1 (show 1 < 6 by decide) (show 12 * 6 ≤ 1000 by decide), f2, q1, q2, q3, one_nz, if_true, if_false, nI_1, r2]
          · obtain ⟨S2, e2, r2⟩ := B_causeToday_ok hE hb hz.1 hz.2.2 e1 h
            rw [caS_n] at r2
            by_cases q4 : caN S b z t pk (hc i) = 0
            · obtain ⟨S3, e3, r3⟩ := ih (l ||| 1 <<< (nI i &&& 31)) S S2 (.int (nI (hc i))) (.int 1) (.int 0) hz e2
              refine ⟨S3, by rw [if_neg q3, if_pos q1, if_pos q2, if_pos q4]; exact e3, fun d => ?_⟩
              rw [q4, nI_0] at r2
              simp only [r_al0 c_B_sift_17, r_gfSr c_B_sift_18 o0 rfl, r_il4 c_B_sift_21, r_ci c_B_sift_23, r_cv3 c_B_sift_24, r_is5 c_B_sift_27, r_al0 c_B_sift_29, r_il5 c_B_sift_30, r_cv2 c_B_sift_32, r_ifne c_B_sift_35, r_al0 c_B_sift_38, r_gfSr c_B_sift_39 o0 rfl, r_il5 c_B_sift_42, r_ci c_B_sift_44, r_cv3 c_B_sift_45, r_il2 c_B_sift_48, r_icne c_B_sift_49, r_ci c_B_sift_52, r_goto c_B_sift_53, r_ci c_B_sift_56, r_is6 c_B_sift_57, r_il1 c_B_sift_59, r_il4 c_B_sift_60, r_ishr c_B_sift_62, r_ci c_B_sift_63, r_iand c_B_sift_64, r_ifeq c_B_sift_65, r_il6 c_B_sift_68, r_ifne c_B_sift_70, r_goto c_B_sift_73, r_al0 c_B_sift_76, r_il5 c_B_sift_77, r_cv2 c_B_sift_79, r_is7 c_B_sift_82, r_il7 c_B_sift_84, r_ifne c_B_sift_86, r_il3 c_B_sift_89, r_ci c_B_sift_90, r_il4 c_B_sift_91, r_ishl c_B_sift_93, r_ior c_B_sift_94, r_is3 c_B_sift_95, r_goto c_B_sift_96, r_al0 c_B_sift_99, r_il4 c_B_sift_100, r_il7 c_B_sift_102, r_cv3 c_B_sift_104, r_inc4 c_B_sift_107, r_goto c_B_sift_110, ↓reduceIte, hs_h, Option.bind_some, mfix_i, mfix_r, mfix_n, mfix_a, Option.toList_some, Option.toList_none, List.cons_append, List.nil_append, List.singleton_append, mwt, Value.category, Nat.reduceAdd, Nat.reduceLeDiff, true_and, and_true, and_self, at_1 hE hb, misc_w (w_1 hE hb), at_7 hE hb, misc_w (w_7 hE hb), m0, ra0 hi2 (show 0 < 5 by decide) (show 30 * 5 ≤ 1000 by decide), e0, B_stateOf_ok hE hb e1, ra1 e1 (show 1 < 6 by decide) (show 12 * 6 ≤ 1000 by decide), f2, q1, q2, q3, q4, one_nz, if_true, if_false, r2, nI_1, r3]
            · have cl := caN_lt (S := S) (b := b) (z := z) (t := t) (pk := pk) (k := hc i)
              obtain ⟨S3, e3, r3⟩ := B_putOff_ok (k := i) (q := caN S b z t pk (hc i)) hE hb hz.1 hz.2.1 (by omega) (by omega) e2
              obtain ⟨S4, e4, r4⟩ := ih l _ S3 (.int (nI (hc i))) (.int 1) (.int (nI (caN S b z t pk (hc i)))) (okH_poS hb hz) e3
              have qn : ¬ nI (caN S b z t pk (hc i)) = 0 := nI_ne0 (by omega) (by omega)
              refine ⟨S4, by rw [if_neg q3, if_pos q1, if_pos q2, if_neg q4]; exact e4, fun d => ?_⟩
              simp only [r_al0 c_B_sift_17, r_gfSr c_B_sift_18 o0 rfl, r_il4 c_B_sift_21, r_ci c_B_sift_23, r_cv3 c_B_sift_24, r_is5 c_B_sift_27, r_al0 c_B_sift_29, r_il5 c_B_sift_30, r_cv2 c_B_sift_32, r_ifne c_B_sift_35, r_al0 c_B_sift_38, r_gfSr c_B_sift_39 o0 rfl, r_il5 c_B_sift_42, r_ci c_B_sift_44, r_cv3 c_B_sift_45, r_il2 c_B_sift_48, r_icne c_B_sift_49, r_ci c_B_sift_52, r_goto c_B_sift_53, r_ci c_B_sift_56, r_is6 c_B_sift_57, r_il1 c_B_sift_59, r_il4 c_B_sift_60, r_ishr c_B_sift_62, r_ci c_B_sift_63, r_iand c_B_sift_64, r_ifeq c_B_sift_65, r_il6 c_B_sift_68, r_ifne c_B_sift_70, r_goto c_B_sift_73, r_al0 c_B_sift_76, r_il5 c_B_sift_77, r_cv2 c_B_sift_79, r_is7 c_B_sift_82, r_il7 c_B_sift_84, r_ifne c_B_sift_86, r_il3 c_B_sift_89, r_ci c_B_sift_90, r_il4 c_B_sift_91, r_ishl c_B_sift_93, r_ior c_B_sift_94, r_is3 c_B_sift_95, r_goto c_B_sift_96, r_al0 c_B_sift_99, r_il4 c_B_sift_100, r_il7 c_B_sift_102, r_cv3 c_B_sift_104, r_inc4 c_B_sift_107, r_goto c_B_sift_110, ↓reduceIte, hs_h, Option.bind_some, mfix_i, mfix_r, mfix_n, mfix_a, Option.toList_some, Option.toList_none, List.cons_append, List.nil_append, List.singleton_append, mwt, Value.category, Nat.reduceAdd, Nat.reduceLeDiff, true_and, and_true, and_self, at_1 hE hb, misc_w (w_1 hE hb), at_7 hE hb, misc_w (w_7 hE hb), m0, ra0 hi2 (show 0 < 5 by decide) (show 30 * 5 ≤ 1000 by decide), e0, B_stateOf_ok hE hb e1, ra1 e1 (show 1 < 6 by decide) (show 12 * 6 ≤ 1000 by decide), f2, q1, q2, q3, q4, qn, one_nz, if_true, if_false, r2, r3, nI_1, r4]
        · obtain ⟨S2, e2, r2⟩ := ih l S S1 (.int (nI (hc i))) (.int 0) w7 hz h
          refine ⟨S2, by rw [if_neg q2, if_pos q1, ite_self]; exact e2, fun d => ?_⟩
          simp only [r_al0 c_B_sift_17, r_gfSr c_B_sift_18 o0 rfl, r_il4 c_B_sift_21, r_ci c_B_sift_23, r_cv3 c_B_sift_24, r_is5 c_B_sift_27, r_al0 c_B_sift_29, r_il5 c_B_sift_30, r_cv2 c_B_sift_32, r_ifne c_B_sift_35, r_al0 c_B_sift_38, r_gfSr c_B_sift_39 o0 rfl, r_il5 c_B_sift_42, r_ci c_B_sift_44, r_cv3 c_B_sift_45, r_il2 c_B_sift_48, r_icne c_B_sift_49, r_ci c_B_sift_52, r_goto c_B_sift_53, r_ci c_B_sift_56, r_is6 c_B_sift_57, r_il1 c_B_sift_59, r_il4 c_B_sift_60, r_ishr c_B_sift_62, r_ci c_B_sift_63, r_iand c_B_sift_64, r_ifeq c_B_sift_65, r_il6 c_B_sift_68, r_ifne c_B_sift_70, r_goto c_B_sift_73, r_al0 c_B_sift_76, r_il5 c_B_sift_77, r_cv2 c_B_sift_79, r_is7 c_B_sift_82, r_il7 c_B_sift_84, r_ifne c_B_sift_86, r_il3 c_B_sift_89, r_ci c_B_sift_90, r_il4 c_B_sift_91, r_ishl c_B_sift_93, r_ior c_B_sift_94, r_is3 c_B_sift_95, r_goto c_B_sift_96, r_al0 c_B_sift_99, r_il4 c_B_sift_100, r_il7 c_B_sift_102, r_cv3 c_B_sift_104, r_inc4 c_B_sift_107, r_goto c_B_sift_110, ↓reduceIte, hs_h, Option.bind_some, mfix_i, mfix_r, mfix_n, mfix_a, Option.toList_some, Option.toList_none, List.cons_append, List.nil_append, List.singleton_append, mwt, Value.category, Nat.reduceAdd, Nat.reduceLeDiff, true_and, and_true, and_self, at_1 hE hb, misc_w (w_1 hE hb), at_7 hE hb, misc_w (w_7 hE hb), m0, ra0 hi2 (show 0 < 5 by decide) (show 30 * 5 ≤ 1000 by decide), e0, B_stateOf_ok hE hb e1, ra1 e1 (show 1 < 6 by decide) (show 12 * 6 ≤ 1000 by decide), f2, q1, q2, one_nz, if_true, if_false, nI_1, r2, ite_self]
      · obtain ⟨S2, e2, r2⟩ := ih l S S1 (.int (nI (hc i))) (.int 0) w7 hz h
        refine ⟨S2, by rw [if_neg q1, ite_self]; exact e2, fun d => ?_⟩
        simp only [r_al0 c_B_sift_17, r_gfSr c_B_sift_18 o0 rfl, r_il4 c_B_sift_21, r_ci c_B_sift_23, r_cv3 c_B_sift_24, r_is5 c_B_sift_27, r_al0 c_B_sift_29, r_il5 c_B_sift_30, r_cv2 c_B_sift_32, r_ifne c_B_sift_35, r_al0 c_B_sift_38, r_gfSr c_B_sift_39 o0 rfl, r_il5 c_B_sift_42, r_ci c_B_sift_44, r_cv3 c_B_sift_45, r_il2 c_B_sift_48, r_icne c_B_sift_49, r_ci c_B_sift_52, r_goto c_B_sift_53, r_ci c_B_sift_56, r_is6 c_B_sift_57, r_il1 c_B_sift_59, r_il4 c_B_sift_60, r_ishr c_B_sift_62, r_ci c_B_sift_63, r_iand c_B_sift_64, r_ifeq c_B_sift_65, r_il6 c_B_sift_68, r_ifne c_B_sift_70, r_goto c_B_sift_73, r_al0 c_B_sift_76, r_il5 c_B_sift_77, r_cv2 c_B_sift_79, r_is7 c_B_sift_82, r_il7 c_B_sift_84, r_ifne c_B_sift_86, r_il3 c_B_sift_89, r_ci c_B_sift_90, r_il4 c_B_sift_91, r_ishl c_B_sift_93, r_ior c_B_sift_94, r_is3 c_B_sift_95, r_goto c_B_sift_96, r_al0 c_B_sift_99, r_il4 c_B_sift_100, r_il7 c_B_sift_102, r_cv3 c_B_sift_104, r_inc4 c_B_sift_107, r_goto c_B_sift_110, ↓reduceIte, hs_h, Option.bind_some, mfix_i, mfix_r, mfix_n, mfix_a, Option.toList_some, Option.toList_none, List.cons_append, List.nil_append, List.singleton_append, mwt, Value.category, Nat.reduceAdd, Nat.reduceLeDiff, true_and, and_true, and_self, at_1 hE hb, misc_w (w_1 hE hb), at_7 hE hb, misc_w (w_7 hE hb), m0, ra0 hi2 (show 0 < 5 by decide) (show 30 * 5 ≤ 1000 by decide), e0, B_stateOf_ok hE hb e1, f2, q1, one_nz, if_true, if_false, nI_1, r2, ite_self]
  simp only [ment, mfl, List.length, List.replicate, List.cons_append, List.nil_append, Nat.reduceAdd, Nat.reduceSub]
  obtain ⟨S2, e2, r2⟩ := lp (z 7) 0 0 S S1 (.retAddr 0) (.retAddr 0) (.retAddr 0) hz h (by omega)
  refine ⟨S2, e2, fun d => ?_⟩
  simp only [r_ci c_B_sift_0, r_is3 c_B_sift_1, r_ci c_B_sift_2, r_is4 c_B_sift_3, ↓reduceIte, hs_h, Option.bind_some, mfix_i, mfix_r, mfix_n, mfix_a, Option.toList_some, Option.toList_none, List.cons_append, List.nil_append, List.singleton_append]
  exact r2 d
end SIFT
