/-! the reader: a tape is read, a text is made -/
section MADE
variable {E : EE} {S : SS} {d n p q i j l kn f len : Nat} {T : Nat → Nat} {c v x ky : Int32} {σ : PT}
def iwF (n : Nat) (T : Nat → Nat) (i p : Nat) : Nat → Nat → Int32
  | _, 0 => 1
  | j, m + 1 => if btN n T (p + j) = chS i j then iwF n T i p (j + 1) m else 0
def wdH (n : Nat) (T : Nat → Nat) (i : Nat) (σ : PT) : Int32 := if σ.2.1 - σ.1 = slen i then iwF n T i σ.1 0 (slen i) else 0
theorem D_isWordHere_ok (hE : okE E) (hT : tpS S n T) (hσ : okP n σ) (hi : i < 27) : mres cT 116 d 0 (ment 3 [.ref 81, .ref (1000000 + i)]) [] (hs E (rdZ S ky σ)) = some (some (.int (wdH n T i σ)), hs E (rdZ S ky σ)) := by
  have o7 := o_D hE
  have hn := hT.2.1
  have hl := slen_le i hi
  have m5 : ∀ S, misc (hp E S 79) 5 = true := fun S => misc_o (o_P hE)
  have ms : ∀ S, misc (hp E S (1000000 + i)) 100 = true := fun S => s_misc hE hi
  obtain ⟨h1, h2, h3, h4, h5, h6⟩ := hσ
  have es : nI σ.2.1 - nI σ.1 = nI (σ.2.1 - σ.1) := pk_sub h5
  have lp : ∀ m j, j + m = slen i → mres cT 116 d 20 [.ref 81, .ref (1000000 + i), .int (nI j)] [] (hs E (rdZ S ky σ)) = some (some (.int (iwF n T i σ.1 j m)), hs E (rdZ S ky σ)) := by
    intro m
    induction m with
    | zero =>
      intro j hj
      have a1 : nI (slen i) ≤ nI j := nI_le (by omega) (by omega)
      simp only [r_il2 c_D_isWordHere_20, r_al1 c_D_isWordHere_21, r_cv1 c_D_isWordHere_22, r_icge c_D_isWordHere_25, r_ci c_D_isWordHere_57, r_zret c_D_isWordHere_58, ↓reduceIte, hs_h, Option.bind_some, mfix_i, mfix_r, mfix_n, mfix_a, Option.toList_some, Option.toList_none, List.cons_append, List.nil_append, List.singleton_append, mwt, Value.category, Nat.reduceAdd, Nat.reduceLeDiff, true_and, and_true, and_self, ms, JS_length_ok hE hi, a1, if_true, iwF, mz1]
    | succ m ih =>
      intro j hj
      have a1 : ¬ nI (slen i) ≤ nI j := nI_ge (by omega) (by omega)
      have ih := ih (j + 1) (by omega)
      simp only [r_il2 c_D_isWordHere_20, r_al1 c_D_isWordHere_21, r_cv1 c_D_isWordHere_22, r_icge c_D_isWordHere_25, ↓reduceIte, hs_h, Option.bind_some, mfix_i, mfix_r, mfix_n, mfix_a, Option.toList_some, Option.toList_none, List.cons_append, List.nil_append, List.singleton_append, mwt, Value.category, Nat.reduceAdd, Nat.reduceLeDiff, true_and, and_true, and_self, ms, JS_length_ok hE hi, a1, if_false]
      simp only [r_al0 c_D_isWordHere_28, r_gfSr c_D_isWordHere_29 o7 rfl, r_al0 c_D_isWordHere_32, r_gfS0 c_D_isWordHere_33 o7 rfl, r_il2 c_D_isWordHere_36, r_iadd c_D_isWordHere_37, r_cv2 c_D_isWordHere_38, r_al1 c_D_isWordHere_41, r_il2 c_D_isWordHere_42, r_cv2 c_D_isWordHere_43, r_iceq c_D_isWordHere_46, r_ci c_D_isWordHere_49, r_zret c_D_isWordHere_50, r_inc2 c_D_isWordHere_51, r_goto c_D_isWordHere_54, ↓reduceIte, hs_h, Option.bind_some, mfix_i, mfix_r, mfix_n, mfix_a, Option.toList_some, Option.toList_none, List.cons_append, List.nil_append, List.singleton_append, mwt, Value.category, Nat.reduceAdd, Nat.reduceLeDiff, true_and, and_true, and_self, m5, ms, rz7, nI_add, P_byteAt_ok hE (tpS_rz hT) (show σ.1 + j < 2 ^ 31 by omega), JS_charAt_ok hE hi (show j < slen i by omega), nI_1, ih, mz0, ite_out, iwF]
  have lq := lp (slen i) 0 (by omega)
  rw [nI_0] at lq
  simp only [ment, mfl, List.length, List.replicate, List.cons_append, List.nil_append, Nat.reduceAdd, Nat.reduceSub, wdH]
  by_cases a : σ.2.1 - σ.1 = slen i
  · have a' : nI (σ.2.1 - σ.1) = nI (slen i) := by rw [a]
    simp only [r_al0 c_D_isWordHere_0, r_gfS0 c_D_isWordHere_1 o7 rfl, r_al0 c_D_isWordHere_4, r_gfS0 c_D_isWordHere_5 o7 rfl, r_isub c_D_isWordHere_8, r_al1 c_D_isWordHere_9, r_cv1 c_D_isWordHere_10, r_iceq c_D_isWordHere_13, r_ci c_D_isWordHere_16, r_zret c_D_isWordHere_17, r_ci c_D_isWordHere_18, r_is2 c_D_isWordHere_19, ↓reduceIte, hs_h, Option.bind_some, mfix_i, mfix_r, mfix_n, mfix_a, Option.toList_some, Option.toList_none, List.cons_append, List.nil_append, List.singleton_append, mwt, Value.category, Nat.reduceAdd, Nat.reduceLeDiff, true_and, and_true, and_self, ms, rz7, rz8, es, JS_length_ok hE hi, a', a, if_true, lq]
  · have a' : ¬ nI (σ.2.1 - σ.1) = nI (slen i) := fun e => a ((nI_eq (by omega) (by omega)).mp e)
    simp only [r_al0 c_D_isWordHere_0, r_gfS0 c_D_isWordHere_1 o7 rfl, r_al0 c_D_isWordHere_4, r_gfS0 c_D_isWordHere_5 o7 rfl, r_isub c_D_isWordHere_8, r_al1 c_D_isWordHere_9, r_cv1 c_D_isWordHere_10, r_iceq c_D_isWordHere_13, r_ci c_D_isWordHere_16, r_zret c_D_isWordHere_17, r_ci c_D_isWordHere_18, r_is2 c_D_isWordHere_19, ↓reduceIte, hs_h, Option.bind_some, mfix_i, mfix_r, mfix_n, mfix_a, Option.toList_some, Option.toList_none, List.cons_append, List.nil_append, List.singleton_append, mwt, Value.category, Nat.reduceAdd, Nat.reduceLeDiff, true_and, and_true, and_self, ms, rz7, rz8, es, JS_length_ok hE hi, a', a, if_false, mz0]
def kyF (n : Nat) (T : Nat → Nat) (σ : PT) : Nat → Nat → Option Nat
  | _, 0 => none
  | i, m + 1 => if wdH n T i σ = 0 then kyF n T σ (i + 1) m else some i
def kyQ (n : Nat) (T : Nat → Nat) (σ : PT) : Option Nat := if σ.2.2.1 = 3 then kyF n T σ 0 5 else none
theorem D_keyHere_ok (hE : okE E) (hT : tpS S n T) (hσ : okP n σ) : mres cT 117 d 0 (ment 2 [.ref 81]) [] (hs E (rdZ S ky σ)) = some (some (.int (cdO (kyQ n T σ))), hs E (rdZ S ky σ)) := by
  have o7 := o_D hE
  have hn := hT.2.1
  have m7 : ∀ S, misc (hp E S 81) 7 = true := fun S => misc_o o7
  have h3 := hσ.2.2.1
  have e3 : nI σ.2.2.1 = 3 ↔ σ.2.2.1 = 3 := nI_eq (b := 3) (by omega) (by omega)
  have lp : ∀ m i, i + m = 5 → mres cT 117 d 13 [.ref 81, .int (nI i)] [] (hs E (rdZ S ky σ)) = some (some (.int (cdO (kyF n T σ i m))), hs E (rdZ S ky σ)) := by
    intro m
    induction m with
    | zero =>
      intro i hi
      have a1 : (5 : Int32) ≤ nI i := nI_le (a := 5) (by omega) (by omega)
      simp only [r_il1 c_D_keyHere_13, r_ci c_D_keyHere_14, r_icge c_D_keyHere_15, r_ci c_D_keyHere_37, r_iret c_D_keyHere_39, ↓reduceIte, hs_h, Option.bind_some, mfix_i, mfix_r, mfix_n, mfix_a, Option.toList_some, Option.toList_none, List.cons_append, List.nil_append, List.singleton_append, a1, if_true, kyF, cdO]
    | succ m ih =>
      intro i hi
      have a1 : ¬ (5 : Int32) ≤ nI i := nI_ge (b := 5) (by omega) (by omega)
      have ih := ih (i + 1) (by omega)
      simp only [r_il1 c_D_keyHere_13, r_ci c_D_keyHere_14, r_icge c_D_keyHere_15, ↓reduceIte, hs_h, Option.bind_some, mfix_i, mfix_r, mfix_n, mfix_a, Option.toList_some, Option.toList_none, List.cons_append, List.nil_append, List.singleton_append, a1, if_false]
      rw [kyF]
      by_cases b : wdH n T i σ = 0
      · rw [if_pos b]
        simp only [r_al0 c_D_keyHere_18, r_il1 c_D_keyHere_19, r_ca1 c_D_keyHere_20, r_cv2 c_D_keyHere_23, r_ifeq c_D_keyHere_26, r_il1 c_D_keyHere_29, r_iret c_D_keyHere_30, r_inc1 c_D_keyHere_31, r_goto c_D_keyHere_34, ↓reduceIte, hs_h, Option.bind_some, mfix_i, mfix_r, mfix_n, mfix_a, Option.toList_some, Option.toList_none, List.cons_append, List.nil_append, List.singleton_append, mwt, Value.category, Nat.reduceAdd, Nat.reduceLeDiff, true_and, and_true, and_self, m7, D_wordOf_ok (show i < 5 by omega), D_isWordHere_ok hE hT hσ (show i < 27 by omega), b, if_true, nI_1, ih]
      · rw [if_neg b]
        simp only [r_al0 c_D_keyHere_18, r_il1 c_D_keyHere_19, r_ca1 c_D_keyHere_20, r_cv2 c_D_keyHere_23, r_ifeq c_D_keyHere_26, r_il1 c_D_keyHere_29, r_iret c_D_keyHere_30, r_inc1 c_D_keyHere_31, r_goto c_D_keyHere_34, ↓reduceIte, hs_h, Option.bind_some, mfix_i, mfix_r, mfix_n, mfix_a, Option.toList_some, Option.toList_none, List.cons_append, List.nil_append, List.singleton_append, mwt, Value.category, Nat.reduceAdd, Nat.reduceLeDiff, true_and, and_true, and_self, m7, D_wordOf_ok (show i < 5 by omega), D_isWordHere_ok hE hT hσ (show i < 27 by omega), b, if_false, cdO]
  have lq := lp 5 0 (by omega)
  rw [nI_0] at lq
  simp only [ment, mfl, List.length, List.replicate, List.cons_append, List.nil_append, Nat.reduceAdd, Nat.reduceSub]
  rw [kyQ]
  by_cases a : σ.2.2.1 = 3
  · rw [if_pos a]
    simp only [r_al0 c_D_keyHere_0, r_gfS0 c_D_keyHere_1 o7 rfl, r_ci c_D_keyHere_4, r_iceq c_D_keyHere_5, r_ci c_D_keyHere_8, r_iret c_D_keyHere_10, r_ci c_D_keyHere_11, r_is1 c_D_keyHere_12, ↓reduceIte, hs_h, Option.bind_some, mfix_i, mfix_r, mfix_n, mfix_a, Option.toList_some, Option.toList_none, List.cons_append, List.nil_append, List.singleton_append, rz6, e3.mpr a, if_true, lq]
  · have a3 : ¬ nI σ.2.2.1 = 3 := fun h => a (e3.mp h)
    rw [if_neg a]
    simp only [r_al0 c_D_keyHere_0, r_gfS0 c_D_keyHere_1 o7 rfl, r_ci c_D_keyHere_4, r_iceq c_D_keyHere_5, r_ci c_D_keyHere_8, r_iret c_D_keyHere_10, r_ci c_D_keyHere_11, r_is1 c_D_keyHere_12, ↓reduceIte, hs_h, Option.bind_some, mfix_i, mfix_r, mfix_n, mfix_a, Option.toList_some, Option.toList_none, List.cons_append, List.nil_append, List.singleton_append, rz6, a3, if_false, cdO]
theorem kyF_lt : ∀ (m i : Nat) (k : Nat), kyF n T σ i m = some k → i ≤ k ∧ k < i + m
  | 0, _, _, h => by cases h
  | m + 1, i, k, h => by
    rw [kyF] at h
    split at h
    · have := kyF_lt m (i + 1) k h
      omega
    · cases h; omega
theorem kyQ_lt {k : Nat} (h : kyQ n T σ = some k) : k < 5 := by
  rw [kyQ] at h
  split at h
  · have := kyF_lt 5 0 k h
    omega
  · cases h
def rt1 (n : Nat) (T : Nat → Nat) (cf : Nat → Int32) : PT := adv n T (0, 0, 0, none, 0, 0, cf)
def rt2 (n : Nat) (T : Nat → Nat) (cf : Nat → Int32) (kn : Nat) : PT := rdX n T kn 62 0 0 0 (adv n T (rt1 n T cf))
def rt3 (n : Nat) (T : Nat → Nat) (cf : Nat → Int32) (kn : Nat) : PT := if (rt2 n T cf kn).2.2.1 = 1 then rt2 n T cf kn else rfu (rt2 n T cf kn)
theorem okP_0 {cf : Nat → Int32} : okP n (0, 0, 0, none, 0, 0, cf) := ⟨Nat.zero_le _, Nat.zero_le _, by show 0 < 10; omega, Nat.zero_le _, Nat.le_refl _, fun p h => by cases h⟩
theorem okP_1 {cf : Nat → Int32} : okP n (rt1 n T cf) := okP_adv okP_0
theorem okP_2 {cf : Nat → Int32} : okP n (rt2 n T cf kn) := okP_rdX _ _ _ _ _ (okP_adv okP_1)
theorem okP_3 {cf : Nat → Int32} : okP n (rt3 n T cf kn) := by
  rw [rt3]; split
  · exact okP_2
  · exact okP_rfu okP_2
theorem D_readTape_ok (hE : okE E) (hT : tpS S n T) (hd : 62 ≤ d) : mres cT 134 d 0 (ment 1 [.ref 81]) [] (hs E S) = (match kyQ n T (rt1 n T (iA S 82)) with
    | none => some (some (.int (nI (rt1 n T (iA S 82)).1)), hs E (rdZ S (-1000000005) (rt1 n T (iA S 82))))
    | some kn => some (some (.int (cdF (rt3 n T (iA S 82) kn).2.2.2.1)), hs E (rdZ S (nI kn) (rt3 n T (iA S 82) kn)))) := by
  have o7 := o_D hE
  have hn := hT.2.1
  have m7 : ∀ S, misc (hp E S 81) 7 = true := fun S => misc_o o7
  have st : ∀ d, mres cT 107 d 0 (ment 3 [.ref 81]) [] (hs E (rdS S 0 0 (iF S 81 4) (-1) 0 (iF S 81 7) 0 (iA S 82))) = some (none, hs E (rdZ S (iF S 81 4) (rt1 n T (iA S 82)))) := fun d => by
    have h := D_advance_r (d := d) (S := S) (cc := 0) (lv := 0) (ky := iF S 81 4) (ft := -1) (pl := iF S 81 7) (cf := iA S 82) hE hT (Nat.zero_le n) (show 0 < 10 by omega)
    have h2 := D_advance_ok (d := d) (S := S) (ky := iF S 81 4) (σ := (0, 0, 0, none, 0, 0, iA S 82)) hE hT (Nat.zero_le n) (show 0 < 10 by omega)
    have h3 := D_advance_r (d := d) (S := S) (cc := 0) (lv := 0) (ky := iF S 81 4) (ft := -1) (pl := nI 0) (cf := iA S 82) hE hT (Nat.zero_le n) (show 0 < 10 by omega)
    rw [← h3] at h
    exact h.trans h2
  have r0 : hs E S = hs E (rdS S (iF S 81 2) (iF S 81 3) (iF S 81 4) (iF S 81 5) (iF S 81 6) (iF S 81 7) (iF S 81 8) (iA S 82)) := by rw [rd_self]
  have rk := fun d ky => D_keyHere_ok (d := d) (S := S) (ky := ky) hE hT (okP_1 (n := n) (T := T) (cf := iA S 82))
  have u4 : ∀ ky v, sF (rdZ S ky (rt1 n T (iA S 82))) 81 4 v = rdZ S v (rt1 n T (iA S 82)) := fun ky v => up4
  simp only [ment, mfl, List.length, List.replicate, List.cons_append, List.nil_append, Nat.reduceAdd, Nat.reduceSub]
  rw [r0]
  simp only [r_al0 c_D_readTape_0, r_ci c_D_readTape_1, r_pfS c_D_readTape_2 o7 rfl, r_al0 c_D_readTape_5, r_ci c_D_readTape_6, r_pfS c_D_readTape_7 o7 rfl, r_al0 c_D_readTape_10, r_ci c_D_readTape_11, r_pfS c_D_readTape_12 o7 rfl, r_al0 c_D_readTape_15, r_ci c_D_readTape_16, r_pfS c_D_readTape_17 o7 rfl, r_al0 c_D_readTape_20, r_ci c_D_readTape_21, r_pfS c_D_readTape_22 o7 rfl, r_al0 c_D_readTape_25, r_cv1 c_D_readTape_26, r_al0 c_D_readTape_29, r_al0 c_D_readTape_30, r_cv1 c_D_readTape_31, r_pfS c_D_readTape_34 o7 rfl, r_al0 c_D_readTape_37, ↓reduceIte, hs_h, Option.bind_some, mfix_i, mfix_r, mfix_n, mfix_a, Option.toList_some, Option.toList_none, List.cons_append, List.nil_append, List.singleton_append, mwt, Value.category, Nat.reduceAdd, Nat.reduceLeDiff, true_and, and_true, and_self, m7, up2, up3, up5, up6, up8, st, rk, u4]
  cases hq : kyQ n T (rt1 n T (iA S 82)) with
  | none => simp only [r_al0 c_D_readTape_37, r_gfS0 c_D_readTape_38 o7 rfl, r_ci c_D_readTape_41, r_icne c_D_readTape_43, r_al0 c_D_readTape_46, r_gfS0 c_D_readTape_47 o7 rfl, r_iret c_D_readTape_50, ↓reduceIte, hs_h, Option.bind_some, mfix_i, mfix_r, mfix_n, mfix_a, Option.toList_some, Option.toList_none, List.cons_append, List.nil_append, List.singleton_append, rz4, rz7, cdO, if_true]
  | some kn =>
    have hk := kyQ_lt hq
    have nn : ¬ nI kn = -1000000005 := fun e => by
      have h0 := nI_pos (n := kn) (by omega)
      rw [e] at h0
      exact h0 (by decide)
    have h1 := okP_1 (n := n) (T := T) (cf := iA S 82)
    have ra := fun d => D_advance_ok (d := d) (S := S) (ky := nI kn) hE hT h1.2.1 h1.2.2.1
    have rl := (D_read_ok (S := S) hE hT hk 62).2 0 0 0 _ d (by omega) (okP_adv (T := T) h1) hd (by omega) (by omega) (by omega)
    rw [nI_0] at rl
    have h2 := okP_2 (n := n) (T := T) (kn := kn) (cf := iA S 82)
    have rf := fun d => D_refuse_ok (d := d) (S := S) (ky := nI kn) (σ := rt2 n T (iA S 82) kn) hE (fun p hp => by have := h2.2.2.2.2.2 p hp; omega)
    have rl : mres cT 133 d 0 (ment 7 [.ref 81, .int 0, .int 0, .int 0]) [] (hs E (rdZ S (nI kn) (adv n T (rt1 n T (iA S 82))))) = some (none, hs E (rdZ S (nI kn) (rt2 n T (iA S 82) kn))) := rl
    have e1 : nI (rt2 n T (iA S 82) kn).2.2.1 = 1 ↔ (rt2 n T (iA S 82) kn).2.2.1 = 1 := nI_eq (b := 1) (by have := h2.2.2.1; omega) (by omega)
    show _ = some (some (Value.int (cdF (rt3 n T (iA S 82) kn).2.2.2.1)), hs E (rdZ S (nI kn) (rt3 n T (iA S 82) kn)))
    by_cases a : (rt2 n T (iA S 82) kn).2.2.1 = 1
    · rw [rt3, if_pos a]
      simp only [r_al0 c_D_readTape_37, r_gfS0 c_D_readTape_38 o7 rfl, r_ci c_D_readTape_41, r_icne c_D_readTape_43, r_al0 c_D_readTape_46, r_gfS0 c_D_readTape_47 o7 rfl, r_iret c_D_readTape_50, r_al0 c_D_readTape_51, r_cv1 c_D_readTape_52, r_al0 c_D_readTape_55, r_ci c_D_readTape_56, r_ci c_D_readTape_57, r_ci c_D_readTape_58, r_cv4 c_D_readTape_59, r_al0 c_D_readTape_62, r_gfS0 c_D_readTape_63 o7 rfl, r_ci c_D_readTape_66, r_iceq c_D_readTape_67, r_al0 c_D_readTape_70, r_cv1 c_D_readTape_71, r_al0 c_D_readTape_74, r_gfS0 c_D_readTape_75 o7 rfl, r_iret c_D_readTape_78, ↓reduceIte, hs_h, Option.bind_some, mfix_i, mfix_r, mfix_n, mfix_a, Option.toList_some, Option.toList_none, List.cons_append, List.nil_append, List.singleton_append, mwt, Value.category, Nat.reduceAdd, Nat.reduceLeDiff, true_and, and_true, and_self, m7, rz4, rz5, rz6, cdO, nn, if_false, ra, rl, e1.mpr a, if_true]
    · have a' : ¬ nI (rt2 n T (iA S 82) kn).2.2.1 = 1 := fun h => a (e1.mp h)
      rw [rt3, if_neg a]
      simp only [r_al0 c_D_readTape_37, r_gfS0 c_D_readTape_38 o7 rfl, r_ci c_D_readTape_41, r_icne c_D_readTape_43, r_al0 c_D_readTape_46, r_gfS0 c_D_readTape_47 o7 rfl, r_iret c_D_readTape_50, r_al0 c_D_readTape_51, r_cv1 c_D_readTape_52, r_al0 c_D_readTape_55, r_ci c_D_readTape_56, r_ci c_D_readTape_57, r_ci c_D_readTape_58, r_cv4 c_D_readTape_59, r_al0 c_D_readTape_62, r_gfS0 c_D_readTape_63 o7 rfl, r_ci c_D_readTape_66, r_iceq c_D_readTape_67, r_al0 c_D_readTape_70, r_cv1 c_D_readTape_71, r_al0 c_D_readTape_74, r_gfS0 c_D_readTape_75 o7 rfl, r_iret c_D_readTape_78, ↓reduceIte, hs_h, Option.bind_some, mfix_i, mfix_r, mfix_n, mfix_a, Option.toList_some, Option.toList_none, List.cons_append, List.nil_append, List.singleton_append, mwt, Value.category, Nat.reduceAdd, Nat.reduceLeDiff, true_and, and_true, and_self, m7, rz4, rz5, rz6, cdO, nn, if_false, ra, rl, a', rf]
end MADE
