/-! the date, in numbers -/
section DATEN
variable {E : EE} {R S S1 S2 U U2 V : SS} {b d k n m i j p td B a s q D : Nat} {c v w x y : Int32} {f g : Nat → Int32} {z t hc pk : Nat → Nat}
theorem B_dateOf_d (hE : okE E) (hb : bkb b) (hz : okB E S b z t) (hk : k < 12) : ∃ S2, eqS b S S2 ∧ ∀ d, mres cT 95 d 0 (ment 6 [.ref b, .int (nI k)]) [] (hs E S) = some (some (.int (dtS S b z t k)), hs E S2) := by
  have o0 := o_B hE hb
  have m0 : ∀ S, misc (hp E S b) 0 = true := fun S => misc_o o0
  have h2 : ¬ (2 : Int32) = 0 := by decide
  have lp : ∀ f i l m w S1, eqS b S S1 → i + f = 12 → ∃ S2, eqS b S S2 ∧ ∀ d, mres cT 95 d 37 [.ref b, .int (nI k), .int l, .int m, .int (nI i), w] [] (hs E S1) = some (some (.int (biL S b z t k f l m)), hs E S2) := by
    intro f
    induction f with
    | zero =>
      intro i l m w S1 h hi
      have h1 : (12 : Int32) ≤ nI i := nI_le (a := 12) (by omega) (by omega)
      refine ⟨S1, h, fun d => ?_⟩
      simp only [r_il4 c_B_dateOf_37, r_ci c_B_dateOf_39, r_icge c_B_dateOf_41, r_il3 c_B_dateOf_83, r_iret c_B_dateOf_84, ↓reduceIte, hs_h, Option.bind_some, mfix_i, mfix_r, mfix_n, mfix_a, Option.toList_some, Option.toList_none, List.cons_append, List.nil_append, List.singleton_append, h1, if_true, biL]
    | succ f ih =>
      intro i l m w S1 h hi
      have h1 : ¬ (12 : Int32) ≤ nI i := nI_ge (b := 12) (by omega) (by omega)
      have ih := fun l m w S1 h => ih (i + 1) l m w S1 h (by omega)
      by_cases a : m ≤ l
      · refine ⟨S1, h, fun d => ?_⟩
        simp only [r_il4 c_B_dateOf_37, r_ci c_B_dateOf_39, r_icge c_B_dateOf_41, r_il2 c_B_dateOf_44, r_il3 c_B_dateOf_45, r_icge c_B_dateOf_46, r_il3 c_B_dateOf_83, r_iret c_B_dateOf_84, ↓reduceIte, hs_h, Option.bind_some, mfix_i, mfix_r, mfix_n, mfix_a, Option.toList_some, Option.toList_none, List.cons_append, List.nil_append, List.singleton_append, h1, a, if_true, if_false, biL]
      · obtain ⟨S2, e2, r2⟩ := B_isDue_e (day := (l + m) / 2) hE hb hz hk h
        by_cases q : duS S b z t k ((l + m) / 2) = 0
        · obtain ⟨S3, e3, r3⟩ := ih ((l + m) / 2 + 1) m (.int ((l + m) / 2)) S2 e2
          refine ⟨S3, e3, fun d => ?_⟩
          simp only [r_il4 c_B_dateOf_37, r_ci c_B_dateOf_39, r_icge c_B_dateOf_41, r_il2 c_B_dateOf_44, r_il3 c_B_dateOf_45, r_icge c_B_dateOf_46, ↓reduceIte, hs_h, Option.bind_some, mfix_i, mfix_r, mfix_n, mfix_a, Option.toList_some, Option.toList_none, List.cons_append, List.nil_append, List.singleton_append, h1, a, if_false]
          simp only [r_il2 c_B_dateOf_49, r_il3 c_B_dateOf_50, r_iadd c_B_dateOf_51, r_ci c_B_dateOf_52, r_idiv c_B_dateOf_53 h2, r_is5 c_B_dateOf_54, r_al0 c_B_dateOf_56, r_il1 c_B_dateOf_57, r_il5 c_B_dateOf_58, r_cv3 c_B_dateOf_60, r_ifeq c_B_dateOf_63, r_il5 c_B_dateOf_66, r_is3 c_B_dateOf_68, r_goto c_B_dateOf_69, r_il5 c_B_dateOf_72, r_ci c_B_dateOf_74, r_iadd c_B_dateOf_75, r_is2 c_B_dateOf_76, r_inc4 c_B_dateOf_77, r_goto c_B_dateOf_80, ↓reduceIte, hs_h, Option.bind_some, mfix_i, mfix_r, mfix_n, mfix_a, Option.toList_some, Option.toList_none, List.cons_append, List.nil_append, List.singleton_append, mwt, Value.category, Nat.reduceAdd, Nat.reduceLeDiff, true_and, and_true, and_self, m0, r2, q, if_true, nI_1, r3, biL, a, if_false]
        · obtain ⟨S3, e3, r3⟩ := ih l ((l + m) / 2) (.int ((l + m) / 2)) S2 e2
          refine ⟨S3, e3, fun d => ?_⟩
          simp only [r_il4 c_B_dateOf_37, r_ci c_B_dateOf_39, r_icge c_B_dateOf_41, r_il2 c_B_dateOf_44, r_il3 c_B_dateOf_45, r_icge c_B_dateOf_46, ↓reduceIte, hs_h, Option.bind_some, mfix_i, mfix_r, mfix_n, mfix_a, Option.toList_some, Option.toList_none, List.cons_append, List.nil_append, List.singleton_append, h1, a, if_false]
          simp only [r_il2 c_B_dateOf_49, r_il3 c_B_dateOf_50, r_iadd c_B_dateOf_51, r_ci c_B_dateOf_52, r_idiv c_B_dateOf_53 h2, r_is5 c_B_dateOf_54, r_al0 c_B_dateOf_56, r_il1 c_B_dateOf_57, r_il5 c_B_dateOf_58, r_cv3 c_B_dateOf_60, r_ifeq c_B_dateOf_63, r_il5 c_B_dateOf_66, r_is3 c_B_dateOf_68, r_goto c_B_dateOf_69, r_il5 c_B_dateOf_72, r_ci c_B_dateOf_74, r_iadd c_B_dateOf_75, r_is2 c_B_dateOf_76, r_inc4 c_B_dateOf_77, r_goto c_B_dateOf_80, ↓reduceIte, hs_h, Option.bind_some, mfix_i, mfix_r, mfix_n, mfix_a, Option.toList_some, Option.toList_none, List.cons_append, List.nil_append, List.singleton_append, mwt, Value.category, Nat.reduceAdd, Nat.reduceLeDiff, true_and, and_true, and_self, m0, r2, q, if_false, nI_1, r3, biL, a]
  simp only [ment, mfl, List.length, List.replicate, List.cons_append, List.nil_append, Nat.reduceAdd, Nat.reduceSub, dtS]
  by_cases h0 : iA S (b + 2) (k * 6 + 3) = 0
  · obtain ⟨S2, e2, r2⟩ := B_isDue_e (day := iF S b 8 + 2999) hE hb hz hk (S1 := S) (fun _ _ _ => rfl)
    by_cases q : duS S b z t k (iF S b 8 + 2999) = 0
    · refine ⟨S2, e2, fun d => ?_⟩
      simp only [r_al0 c_B_dateOf_0, r_gfS0 c_B_dateOf_1 o0 rfl, r_is2 c_B_dateOf_4, r_al0 c_B_dateOf_5, r_gfS0 c_B_dateOf_6 o0 rfl, r_ci c_B_dateOf_9, r_iadd c_B_dateOf_12, r_is3 c_B_dateOf_13, r_al0 c_B_dateOf_14, r_il1 c_B_dateOf_15, r_cv2 c_B_dateOf_16, r_ifne c_B_dateOf_19, r_al0 c_B_dateOf_22, r_il1 c_B_dateOf_23, r_il3 c_B_dateOf_24, r_cv3 c_B_dateOf_25, r_ifne c_B_dateOf_28, r_ci c_B_dateOf_31, r_iret c_B_dateOf_33, ↓reduceIte, hs_h, Option.bind_some, mfix_i, mfix_r, mfix_n, mfix_a, Option.toList_some, Option.toList_none, List.cons_append, List.nil_append, List.singleton_append, mwt, Value.category, Nat.reduceAdd, Nat.reduceLeDiff, true_and, and_true, and_self, m0, B_stateOf_ok hE hb hk, h0, if_true, r2, q]
    · obtain ⟨S3, e3, r3⟩ := lp 12 0 (iF S b 8) (iF S b 8 + 2999) (.retAddr 0) S2 e2 (by omega)
      rw [nI_0] at r3
      refine ⟨S3, e3, fun d => ?_⟩
      simp only [r_al0 c_B_dateOf_0, r_gfS0 c_B_dateOf_1 o0 rfl, r_is2 c_B_dateOf_4, r_al0 c_B_dateOf_5, r_gfS0 c_B_dateOf_6 o0 rfl, r_ci c_B_dateOf_9, r_iadd c_B_dateOf_12, r_is3 c_B_dateOf_13, r_al0 c_B_dateOf_14, r_il1 c_B_dateOf_15, r_cv2 c_B_dateOf_16, r_ifne c_B_dateOf_19, r_al0 c_B_dateOf_22, r_il1 c_B_dateOf_23, r_il3 c_B_dateOf_24, r_cv3 c_B_dateOf_25, r_ifne c_B_dateOf_28, r_ci c_B_dateOf_31, r_iret c_B_dateOf_33, r_ci c_B_dateOf_34, r_is4 c_B_dateOf_35, ↓reduceIte, hs_h, Option.bind_some, mfix_i, mfix_r, mfix_n, mfix_a, Option.toList_some, Option.toList_none, List.cons_append, List.nil_append, List.singleton_append, mwt, Value.category, Nat.reduceAdd, Nat.reduceLeDiff, true_and, and_true, and_self, m0, B_stateOf_ok hE hb hk, h0, if_true, if_false, r2, q, r3]
  · refine ⟨S, fun _ _ _ => rfl, fun d => ?_⟩
    simp only [r_al0 c_B_dateOf_0, r_gfS0 c_B_dateOf_1 o0 rfl, r_is2 c_B_dateOf_4, r_al0 c_B_dateOf_5, r_gfS0 c_B_dateOf_6 o0 rfl, r_ci c_B_dateOf_9, r_iadd c_B_dateOf_12, r_is3 c_B_dateOf_13, r_al0 c_B_dateOf_14, r_il1 c_B_dateOf_15, r_cv2 c_B_dateOf_16, r_ifne c_B_dateOf_19, r_al0 c_B_dateOf_22, r_il1 c_B_dateOf_23, r_il3 c_B_dateOf_24, r_cv3 c_B_dateOf_25, r_ifne c_B_dateOf_28, r_ci c_B_dateOf_31, r_iret c_B_dateOf_33, ↓reduceIte, hs_h, Option.bind_some, mfix_i, mfix_r, mfix_n, mfix_a, Option.toList_some, Option.toList_none, List.cons_append, List.nil_append, List.singleton_append, mwt, Value.category, Nat.reduceAdd, Nat.reduceLeDiff, true_and, and_true, and_self, m0, B_stateOf_ok hE hb hk, h0, if_false]

theorem cr_later (h : k314 f n td g) (ht : td ≤ D) (hD : D < 2147483647) : crSum f c (nI D) n = crSum f c (nI td) n := by
  rw [crSum, crSum]
  refine rfor_congr n 0 0 fun i s _ hi => ?_
  obtain ⟨-, -, -, -, -, ⟨w, hw, e2⟩, e3⟩ := h i (by omega)
  rw [crG, crG, e2, if_pos (nI_le (show w ≤ D by omega) (by omega)), if_pos (nI_le hw (by omega))]
  rcases e3 with e | ⟨w3, hw3, e⟩
  · have n1 : ¬ (2147483647 : Int32) ≤ nI D := nI_ge (b := 2147483647) hD (by decide)
    have n2 : ¬ (2147483647 : Int32) ≤ nI td := nI_ge (b := 2147483647) (by omega) (by decide)
    rw [e, if_neg n1, if_neg n2]
  · rw [e, if_pos (nI_le (show w3 ≤ D by omega) (by omega)), if_pos (nI_le hw3 (by omega))]
theorem cr_bnd (h : k314 f n td g) (hn : n ≤ 40) {kn : Int32} : ∀ j, j ≤ n → -(99 * (j : Int)) ≤ (rfor (crG f c kn) 0 j 0).toInt ∧ (rfor (crG f c kn) 0 j 0).toInt ≤ 99 * (j : Int)
  | 0, _ => by rw [rfor]; exact ⟨by decide, by decide⟩
  | j + 1, hj => by
    obtain ⟨h1, h2⟩ := cr_bnd h hn (kn := kn) j (by omega)
    obtain ⟨-, -, -, -, ⟨l1, l2⟩, -, -⟩ := h j (by omega)
    rw [rfor_last, Nat.zero_add, crG]
    have hs : ∀ x : Int32, -(99 * (j : Int)) ≤ x.toInt → x.toInt ≤ 99 * (j : Int) → -(99 * ((j + 1 : Nat) : Int)) ≤ (x + f (j * 4 + 1)).toInt ∧ (x + f (j * 4 + 1)).toInt ≤ 99 * ((j + 1 : Nat) : Int) := fun x q1 q2 => by
      rw [Int32.toInt_add, Int.bmod_eq_of_le (by omega) (by omega)]
      omega
    split
    · split
      · split
        · omega
        · exact hs _ h1 h2
      · omega
    · omega
/-- due on a day, from today on -/
def duP (S : SS) (b : Nat) (z t : Nat → Nat) (k td D : Nat) : Prop := (frS S b z t k).toInt ≤ (svN S b z k D : Int) + (crSum (iA S (b + 21)) (nI k) (nI td) (z 20)).toInt
theorem sv_le : svN S b z k D ≤ D := cN_le D 0
theorem sv_s : svN S b z k (D + 1) = svN S b z k D + (if cnB (tC (iA S (b + 17))) (tF (iA S (b + 17))) (tT (iA S (b + 17))) (z 16) (tC (iA S (b + 19))) (tF (iA S (b + 19))) (tT (iA S (b + 19))) (z 18) k D = true then 1 else 0) := by
  rw [svN, cN_add D 0 1, cN, cN, Nat.zero_add, svN]; rfl
theorem sv_mono (h : D ≤ m) : svN S b z k D ≤ svN S b z k m := by
  rw [svN, svN, show m = D + (m - D) by omega, cN_add]; omega
theorem du_mono (h : D ≤ m) (hd : duP S b z t k td D) : duP S b z t k td m := by
  have := sv_mono (S := S) (b := b) (z := z) (k := k) h
  unfold duP at hd ⊢; omega
theorem du_lt {f : Nat → Int32} (h : Rel E S b z t hc pk td B f) (hD : D < 100000) : (nI (svN S b z k D) + crSum (iA S (b + 21)) (nI k) (nI td) (z 20) < frS S b z t k) ↔ ¬ duP S b z t k td D := by
  have h1 := sv_le (S := S) (b := b) (z := z) (k := k) (D := D)
  have h2 := (rl_okm h).2.2.2.2.1.2
  obtain ⟨h3, h4⟩ := cr_bnd (c := nI k) (kn := nI td) (rl_cre h) h2 (z 20) (Nat.le_refl _)
  have h3 : -(99 * (z 20 : Int)) ≤ (crSum (iA S (b + 21)) (nI k) (nI td) (z 20)).toInt := h3
  have h4 : (crSum (iA S (b + 21)) (nI k) (nI td) (z 20)).toInt ≤ 99 * (z 20 : Int) := h4
  rw [Int32.lt_iff_toInt_lt, Int32.toInt_add, nI_toInt (by omega), Int.bmod_eq_of_le (by omega) (by omega)]
  unfold duP; omega
theorem du_S {f : Nat → Int32} (h : Rel E S b z t hc pk td B f) (hk : k < 12) (h1 : td ≤ D) (hD : D < 100000) : duS S b z t k (nI D) = 0 ↔ ¬ duP S b z t k td D := by
  rw [duS, dySum, sv_nat h (by omega) (by omega), cr_later (rl_cre h) h1 (by omega), ← du_lt h hD]
  split
  · rename_i q; exact ⟨fun _ => q, fun _ => rfl⟩
  · rename_i q; exact ⟨fun e => absurd e (by decide), fun e => absurd e q⟩
theorem bi_L {f : Nat → Int32} (h : Rel E S b z t hc pk td B f) (hk : k < 12) : ∀ fu l m, td ≤ l → l ≤ m → m < 100000 → m - l < 2 ^ fu → duP S b z t k td m → (∀ D, td ≤ D → D < l → ¬ duP S b z t k td D) → ∃ r, biL S b z t k fu (nI l) (nI m) = nI r ∧ duP S b z t k td r ∧ td ≤ r ∧ r ≤ m ∧ ∀ D, td ≤ D → D < r → ¬ duP S b z t k td D
  | 0, l, m, h0, h1, h2, h3, h4, h5 => by
    have e : l = m := by omega
    subst e
    exact ⟨l, rfl, h4, h0, Nat.le_refl _, h5⟩
  | fu + 1, l, m, h0, h1, h2, h3, h4, h5 => by
    rw [biL]
    by_cases e : m ≤ l
    · have e2 : l = m := by omega
      subst e2
      rw [if_pos (nI_le (Nat.le_refl _) (by omega))]
      exact ⟨l, rfl, h4, h0, Nat.le_refl _, h5⟩
    · have ed : (nI l + nI m) / 2 = nI ((l + m) / 2) := by
        rw [nI_add]; exact pk_div (d := 2) (by omega) (by decide) (by decide)
      have hp : 2 ^ (fu + 1) = 2 * 2 ^ fu := by rw [Nat.pow_succ, Nat.mul_comm]
      rw [if_neg (nI_ge (by omega) (by omega)), ed]
      by_cases q : duS S b z t k (nI ((l + m) / 2)) = 0
      · have q' := (du_S h hk (by omega) (by omega)).mp q
        rw [if_pos q, nI_1]
        exact bi_L h hk fu ((l + m) / 2 + 1) m (by omega) (by omega) h2 (by omega) h4 (fun D d1 d2 hd => q' (du_mono (by omega) hd))
      · have q' : duP S b z t k td ((l + m) / 2) := Classical.byContradiction fun hn => q ((du_S h hk (by omega) (by omega)).mpr hn)
        rw [if_neg q]
        obtain ⟨r, r1, r2, r3, r4, r5⟩ := bi_L h hk fu l ((l + m) / 2) h0 (by omega) (by omega) (by omega) q' h5
        exact ⟨r, r1, r2, r3, by omega, r5⟩
theorem dt_main {f : Nat → Int32} (h : Rel E S b z t hc pk td B f) (hk : k < 12) (ht : td ≤ 2999) (h0 : iA S (b + 2) (k * 6 + 3) = 0) : (dtS S b z t k = -1000000005 ∧ ∀ D, td ≤ D → D < td + 3000 → ¬ duP S b z t k td D) ∨ ∃ r, dtS S b z t k = nI r ∧ duP S b z t k td r ∧ td ≤ r ∧ r < td + 3000 ∧ ∀ D, td ≤ D → D < r → ¬ duP S b z t k td D := by
  have e : iF S b 8 + 2999 = nI (td + 2999) := by rw [(rl_tod h).1]; exact nI_add td 2999
  rw [dtS, if_pos h0, e]
  by_cases q : duS S b z t k (nI (td + 2999)) = 0
  · have q' := (du_S h hk (by omega) (by omega)).mp q
    rw [if_pos q]
    exact Or.inl ⟨rfl, fun D d1 d2 hd => q' (du_mono (by omega) hd)⟩
  · have q' : duP S b z t k td (td + 2999) := Classical.byContradiction fun hn => q ((du_S h hk (by omega) (by omega)).mpr hn)
    rw [if_neg q, (rl_tod h).1]
    obtain ⟨r, r1, r2, r3, r4, r5⟩ := bi_L h hk 12 td (td + 2999) (Nat.le_refl _) (by omega) (by omega) (by omega) q' (fun D d1 d2 => by omega)
    exact Or.inr ⟨r, r1, r2, r3, by omega, r5⟩
end DATEN
