/-! the books: become -/
section BECOME
variable {E : EE} {S : SS} {d b q n : Nat}
/-- rows at r become those at p -/
def rbS (S : SS) (r p len : Nat) : SS := sA (sF S r 3 (iF S p 3)) (r + 1) (va_cpy (iA S (p + 1)) (iA S (r + 1)) 0 0 len)
theorem R_become_b {lim wid r p len : Nat} (hR : isR E lim wid r) (hQ : isR E lim wid p) (hne : r ≠ p) (hl : lim * wid = len) : mres cT 263 d 0 (ment 2 [.ref r, .ref p]) [] (hs E S) = some (none, hs E (rbS S r p len)) := by
  subst hl
  rw [R_become_ok hR hQ hne (by omega), rbS]
def ibS (S : SS) (b q : Nat) : SS := rbS (rbS (rbS (rbS S (b + 14) (q + 14) 72) (b + 16) (q + 16) 90) (b + 18) (q + 18) 60) (b + 20) (q + 20) 160
theorem I_become_ok (hE : okE E) (hb : bkb b) (hq : bkb q) (hne : b ≠ q) : mres cT 264 d 0 (ment 2 [.ref (b + 13), .ref (q + 13)]) [] (hs E S) = some (none, hs E (ibS S b q)) := by
  have a1 := o_I hE hb
  have a2 := o_I hE hq
  have r14 : ∀ S d, mres cT 263 d 0 (ment 2 [.ref (b + 14), .ref (q + 14)]) [] (hs E S) = some (none, hs E (rbS S (b + 14) (q + 14) 72)) := fun S d => R_become_b (w_14 hE hb) (w_14 hE hq) (by omega) (by decide)
  have r16 : ∀ S d, mres cT 263 d 0 (ment 2 [.ref (b + 16), .ref (q + 16)]) [] (hs E S) = some (none, hs E (rbS S (b + 16) (q + 16) 90)) := fun S d => R_become_b (w_16 hE hb) (w_16 hE hq) (by omega) (by decide)
  have r18 : ∀ S d, mres cT 263 d 0 (ment 2 [.ref (b + 18), .ref (q + 18)]) [] (hs E S) = some (none, hs E (rbS S (b + 18) (q + 18) 60)) := fun S d => R_become_b (w_18 hE hb) (w_18 hE hq) (by omega) (by decide)
  have r20 : ∀ S d, mres cT 263 d 0 (ment 2 [.ref (b + 20), .ref (q + 20)]) [] (hs E S) = some (none, hs E (rbS S (b + 20) (q + 20) 160)) := fun S d => R_become_b (w_20 hE hb) (w_20 hE hq) (by omega) (by decide)
  have m14 : ∀ S, misc (hp E S (b + 14)) 2 = true := fun S => misc_w (w_14 hE hb)
  have m16 : ∀ S, misc (hp E S (b + 16)) 2 = true := fun S => misc_w (w_16 hE hb)
  have m18 : ∀ S, misc (hp E S (b + 18)) 2 = true := fun S => misc_w (w_18 hE hb)
  have m20 : ∀ S, misc (hp E S (b + 20)) 2 = true := fun S => misc_w (w_20 hE hb)
  simp only [ment, mfl, List.length, List.replicate, List.cons_append, List.nil_append, Nat.reduceAdd, Nat.reduceSub]
  simp only [r_al0 c_I_become_0, r_gfSr c_I_become_1 a1 rfl, r_gfSr c_I_become_1 a2 rfl, r_al1 c_I_become_4, r_gfSr c_I_become_5 a1 rfl, r_gfSr c_I_become_5 a2 rfl, r_cv2 c_I_become_8, r_al0 c_I_become_11, r_gfSr c_I_become_12 a1 rfl, r_gfSr c_I_become_12 a2 rfl, r_al1 c_I_become_15, r_gfSr c_I_become_16 a1 rfl, r_gfSr c_I_become_16 a2 rfl, r_cv2 c_I_become_19, r_al0 c_I_become_22, r_gfSr c_I_become_23 a1 rfl, r_gfSr c_I_become_23 a2 rfl, r_al1 c_I_become_26, r_gfSr c_I_become_27 a1 rfl, r_gfSr c_I_become_27 a2 rfl, r_cv2 c_I_become_30, r_al0 c_I_become_33, r_gfSr c_I_become_34 a1 rfl, r_gfSr c_I_become_34 a2 rfl, r_al1 c_I_become_37, r_gfSr c_I_become_38 a1 rfl, r_gfSr c_I_become_38 a2 rfl, r_cv2 c_I_become_41, r_vret c_I_become_44, ↓reduceIte, hs_h, Option.bind_some, mfix_i, mfix_r, mfix_n, mfix_a, Option.toList_some, Option.toList_none, List.cons_append, List.nil_append, List.singleton_append, mwt, Value.category, Nat.reduceAdd, Nat.reduceLeDiff, true_and, and_true, and_self, m14, m16, m18, m20, r14, r16, r18, r20, ibS]
def cpQ (g h : Nat → Option Nat) (n : Nat) : Nat → Option Nat := fun j => if j < n then g j else h j
def lbS (S : SS) (b q : Nat) : SS := sQ (sF S (b + 22) 1 (iF S (q + 22) 1)) (b + 23) (cpQ (iQ S (q + 23)) (iQ S (b + 23)) 16)
theorem mqs_Lo (hE : okE E) (hb : bkb b) {j : Nat} (hj : j < 16) {o : Option Nat} : mqs (hp E S (b + 23)) 4 (nI j) o = some (.inl (4, 16, .inr (.inr (.inr (.inr (va_up (iQ S (b + 23)) j o)))))) := by
  rw [hp_b hE hb (show 23 < 26 by decide), shB, shQ, mqs, if_pos ⟨rfl, nI_in hj (by omega)⟩, nI_clamp (by omega)]
theorem iQ_sQ {a : Nat} {g : Nat → Option Nat} : iQ (sQ S a g) a = g := by simp only [iQ, sQ, va_up, if_true]
theorem iQ_sQ_ne {a p : Nat} {g : Nat → Option Nat} (h : p ≠ a) : iQ (sQ S a g) p = iQ S p := by simp only [iQ, sQ, va_up, h, if_false]
theorem iQ_sF {a p i : Nat} {v : Int32} : iQ (sF S a i v) p = iQ S p := by
  by_cases h : p = a
  · subst h; simp only [iQ, sF, va_up, if_true]
  · simp only [iQ, sF, va_up, h, if_false]
theorem sQ_sQ {a : Nat} {g h : Nat → Option Nat} : sQ (sQ S a g) a h = sQ S a h := by
  funext p
  by_cases e : p = a
  · subst e; simp only [sQ, va_up, if_true]
  · simp only [sQ, va_up, e, if_false]
theorem cpQ_s {g h : Nat → Option Nat} {j : Nat} : va_up (cpQ g h j) j (g j) = cpQ g h (j + 1) := by
  funext i
  simp only [va_up, cpQ]
  by_cases e : i = j
  · subst e
    rw [if_pos rfl, if_pos (by omega)]
  · rw [if_neg e]
    by_cases l : i < j
    · rw [if_pos l, if_pos (by omega)]
    · rw [if_neg l, if_neg (by omega)]
/-- the texts of books are texts -/
def txo (E : EE) (S : SS) (q : Nat) : Prop := ∀ j p, j < 16 → iQ S (q + 23) j = some p → ∀ S, misc (hp E S p) 6 = true
theorem L_become_ok (hE : okE E) (hb : bkb b) (hq : bkb q) (hne : b ≠ q) (ht : txo E S q) : mres cT 265 d 0 (ment 3 [.ref (b + 22), .ref (q + 22)]) [] (hs E S) = some (none, hs E (lbS S b q)) := by
  have a1 := o_L hE hb
  have a2 := o_L hE hq
  have hn23 : q + 23 ≠ b + 23 := by omega
  have lp : ∀ m i, i + m = 16 → mres cT 265 d 10 [.ref (b + 22), .ref (q + 22), .int (nI i)] [] (hs E (sQ (sF S (b + 22) 1 (iF S (q + 22) 1)) (b + 23) (cpQ (iQ S (q + 23)) (iQ S (b + 23)) i))) = some (none, hs E (lbS S b q)) := by
    intro m
    induction m with
    | zero =>
      intro i hi
      have h1 : nI 16 ≤ nI i := nI_le (by omega) (by omega)
      simp only [r_il2 c_L_become_10, r_al0 c_L_become_11, r_gfSr c_L_become_12 a1 rfl, r_gfSr c_L_become_12 a2 rfl, r_len c_L_become_15, r_icge c_L_become_16, r_vret c_L_become_46, ↓reduceIte, hs_h, Option.bind_some, mfix_i, mfix_r, mfix_n, mfix_a, Option.toList_some, Option.toList_none, List.cons_append, List.nil_append, List.singleton_append, mlen_L hE hb, h1, if_true]
      rw [show i = 16 by omega]
      rfl
    | succ m ih =>
      intro i hi
      have h1 : ¬ nI 16 ≤ nI i := nI_ge (by omega) (by omega)
      have hi2 : i < 16 := by omega
      have ih := ih (i + 1) (by omega)
      rw [← cpQ_s] at ih
      have eq : iQ (sQ (sF S (b + 22) 1 (iF S (q + 22) 1)) (b + 23) (cpQ (iQ S (q + 23)) (iQ S (b + 23)) i)) (q + 23) i = iQ S (q + 23) i := by rw [iQ_sQ_ne hn23, iQ_sF]
      have eb : iQ (sQ (sF S (b + 22) 1 (iF S (q + 22) 1)) (b + 23) (cpQ (iQ S (q + 23)) (iQ S (b + 23)) i)) (b + 23) = cpQ (iQ S (q + 23)) (iQ S (b + 23)) i := by rw [iQ_sQ]
      simp only [r_il2 c_L_become_10, r_al0 c_L_become_11, r_gfSr c_L_become_12 a1 rfl, r_gfSr c_L_become_12 a2 rfl, r_len c_L_become_15, r_icge c_L_become_16, ↓reduceIte, hs_h, Option.bind_some, mfix_i, mfix_r, mfix_n, mfix_a, Option.toList_some, Option.toList_none, List.cons_append, List.nil_append, List.singleton_append, mlen_L hE hb, h1, if_false]
      simp only [r_il2 c_L_become_19, r_al1 c_L_become_20, r_gfSr c_L_become_21 a1 rfl, r_gfSr c_L_become_21 a2 rfl, r_len c_L_become_24, r_icge c_L_become_25, r_al0 c_L_become_28, r_gfSr c_L_become_29 a1 rfl, r_gfSr c_L_become_29 a2 rfl, r_il2 c_L_become_32, r_al1 c_L_become_33, r_gfSr c_L_become_34 a1 rfl, r_gfSr c_L_become_34 a2 rfl, r_il2 c_L_become_37, r_aal c_L_become_38, ↓reduceIte, hs_h, Option.bind_some, mfix_i, mfix_r, mfix_n, mfix_a, Option.toList_some, Option.toList_none, List.cons_append, List.nil_append, List.singleton_append, mlen_L hE hq, h1, if_false, mqa_L hE hq hi2, eq]
      cases hv : iQ S (q + 23) i with
      | none =>
        rw [hv] at ih
        simp only [va_rf, r_aas c_L_become_39, r_aasn c_L_become_39, r_inc2 c_L_become_40, r_goto c_L_become_43, ↓reduceIte, hs_h, Option.bind_some, mfix_i, mfix_r, mfix_n, mfix_a, Option.toList_some, Option.toList_none, List.cons_append, List.nil_append, List.singleton_append, mqs_Lo hE hb hi2, eb, hs_L hE hb, sQ_sQ, nI_1, ih]
      | some p =>
        have mp := ht i p hi2 hv
        rw [hv] at ih
        simp only [va_rf, r_aas c_L_become_39, r_aasn c_L_become_39, r_inc2 c_L_become_40, r_goto c_L_become_43, ↓reduceIte, hs_h, Option.bind_some, mfix_i, mfix_r, mfix_n, mfix_a, Option.toList_some, Option.toList_none, List.cons_append, List.nil_append, List.singleton_append, mp, mqs_Lo hE hb hi2, eb, hs_L hE hb, sQ_sQ, nI_1, ih]
  have e0 : sQ (sF S (b + 22) 1 (iF S (q + 22) 1)) (b + 23) (cpQ (iQ S (q + 23)) (iQ S (b + 23)) 0) = sF S (b + 22) 1 (iF S (q + 22) 1) := by
    have : cpQ (iQ S (q + 23)) (iQ S (b + 23)) 0 = iQ (sF S (b + 22) 1 (iF S (q + 22) 1)) (b + 23) := by
      rw [iQ_sF]; funext j; rw [cpQ, if_neg (Nat.not_lt_zero j)]
    rw [this]
    funext p
    by_cases e : p = b + 23
    · subst e; simp only [sQ, va_up, if_true]
    · simp only [sQ, va_up, e, if_false]
  have lq := lp 16 0 (by omega)
  rw [e0, nI_0] at lq
  simp only [ment, mfl, List.length, List.replicate, List.cons_append, List.nil_append, Nat.reduceAdd, Nat.reduceSub]
  simp only [r_al0 c_L_become_0, r_al1 c_L_become_1, r_gfS0 c_L_become_2 a1 rfl, r_gfS0 c_L_become_2 a2 rfl, r_pfS c_L_become_5 a1 rfl, r_ci c_L_become_8, r_is2 c_L_become_9, ↓reduceIte, hs_h, Option.bind_some, mfix_i, mfix_r, mfix_n, mfix_a, Option.toList_some, Option.toList_none, List.cons_append, List.nil_append, List.singleton_append, lq]
def bb1 (S : SS) (b q : Nat) : SS := rbS (rbS (rbS (rbS (rbS (rbS S (b + 1) (q + 1) 72) (b + 3) (q + 3) 160) (b + 5) (q + 5) 36) (b + 7) (q + 7) 150) (b + 9) (q + 9) 24) (b + 11) (q + 11) 5
def bb2 (S : SS) (b q : Nat) : SS := lbS (ibS (bb1 S b q) b q) b q
def bbS (S : SS) (b q : Nat) : SS := sF (sF (sF (sF (bb2 S b q) b 8 (iF S q 8)) b 9 (iF S q 9)) b 10 (iF S q 10)) b 11 (iF S q 11)
theorem rbS_o {r p len x : Nat} (h1 : x ≠ r) (h2 : x ≠ r + 1) : rbS S r p len x = S x := by
  rw [rbS, sA, va_up, if_neg h2, sF, va_up, if_neg h1]
theorem lbS_o {x : Nat} (h1 : x ≠ b + 22) (h2 : x ≠ b + 23) : lbS S b q x = S x := by
  rw [lbS, sQ, va_up, if_neg h2, sF, va_up, if_neg h1]
theorem bb1_o {x : Nat} (h : x < b + 1 ∨ b + 13 ≤ x) : bb1 S b q x = S x := by
  rw [bb1, rbS_o (by omega) (by omega), rbS_o (by omega) (by omega), rbS_o (by omega) (by omega), rbS_o (by omega) (by omega), rbS_o (by omega) (by omega), rbS_o (by omega) (by omega)]
theorem ibS_o {x : Nat} (h : x < b + 14 ∨ b + 22 ≤ x) : ibS S b q x = S x := by
  rw [ibS, rbS_o (by omega) (by omega), rbS_o (by omega) (by omega), rbS_o (by omega) (by omega), rbS_o (by omega) (by omega)]
theorem bb2_o {x : Nat} (h : x < b + 1 ∨ x = b + 13 ∨ b + 24 ≤ x) : bb2 S b q x = S x := by
  rw [bb2, lbS_o (by omega) (by omega), ibS_o (by omega), bb1_o (by omega)]
theorem bbS_o {x : Nat} (h : x < b ∨ x = b + 13 ∨ b + 24 ≤ x) : bbS S b q x = S x := by
  have e : ∀ S : SS, ∀ k v, sF S b k v x = S x := fun S k v => by rw [sF, va_up, if_neg (by omega)]
  rw [bbS, e, e, e, e, bb2_o (by omega)]
theorem B_become_ok (hE : okE E) (hb : bkb b) (hq : bkb q) (hne : b + 26 ≤ q ∨ q + 26 ≤ b) (ht : txo E S q) : mres cT 266 d 0 (ment 2 [.ref b, .ref q]) [] (hs E S) = some (none, hs E (bbS S b q)) := by
  have a1 := o_B hE hb
  have a2 := o_B hE hq
  have m8 : ∀ S, misc (hp E S (b + 13)) 8 = true := fun S => misc_o (o_I hE hb)
  have m1 : ∀ S, misc (hp E S (b + 22)) 1 = true := fun S => misc_o (o_L hE hb)
  have r1 : ∀ S d, mres cT 263 d 0 (ment 2 [.ref (b + 1), .ref (q + 1)]) [] (hs E S) = some (none, hs E (rbS S (b + 1) (q + 1) 72)) := fun S d => R_become_b (w_1 hE hb) (w_1 hE hq) (by omega) (by decide)
  have r3 : ∀ S d, mres cT 263 d 0 (ment 2 [.ref (b + 3), .ref (q + 3)]) [] (hs E S) = some (none, hs E (rbS S (b + 3) (q + 3) 160)) := fun S d => R_become_b (w_3 hE hb) (w_3 hE hq) (by omega) (by decide)
  have r5 : ∀ S d, mres cT 263 d 0 (ment 2 [.ref (b + 5), .ref (q + 5)]) [] (hs E S) = some (none, hs E (rbS S (b + 5) (q + 5) 36)) := fun S d => R_become_b (w_5 hE hb) (w_5 hE hq) (by omega) (by decide)
  have r7 : ∀ S d, mres cT 263 d 0 (ment 2 [.ref (b + 7), .ref (q + 7)]) [] (hs E S) = some (none, hs E (rbS S (b + 7) (q + 7) 150)) := fun S d => R_become_b (w_7 hE hb) (w_7 hE hq) (by omega) (by decide)
  have r9 : ∀ S d, mres cT 263 d 0 (ment 2 [.ref (b + 9), .ref (q + 9)]) [] (hs E S) = some (none, hs E (rbS S (b + 9) (q + 9) 24)) := fun S d => R_become_b (w_9 hE hb) (w_9 hE hq) (by omega) (by decide)
  have r11 : ∀ S d, mres cT 263 d 0 (ment 2 [.ref (b + 11), .ref (q + 11)]) [] (hs E S) = some (none, hs E (rbS S (b + 11) (q + 11) 5)) := fun S d => R_become_b (w_11 hE hb) (w_11 hE hq) (by omega) (by decide)
  have n1 : ∀ S, misc (hp E S (b + 1)) 2 = true := fun S => misc_w (w_1 hE hb)
  have n3 : ∀ S, misc (hp E S (b + 3)) 2 = true := fun S => misc_w (w_3 hE hb)
  have n5 : ∀ S, misc (hp E S (b + 5)) 2 = true := fun S => misc_w (w_5 hE hb)
  have n7 : ∀ S, misc (hp E S (b + 7)) 2 = true := fun S => misc_w (w_7 hE hb)
  have n9 : ∀ S, misc (hp E S (b + 9)) 2 = true := fun S => misc_w (w_9 hE hb)
  have n11 : ∀ S, misc (hp E S (b + 11)) 2 = true := fun S => misc_w (w_11 hE hb)
  have rI : ∀ S d, mres cT 264 d 0 (ment 2 [.ref (b + 13), .ref (q + 13)]) [] (hs E S) = some (none, hs E (ibS S b q)) := fun S d => I_become_ok hE hb hq (by omega)
  have ht2 : txo E (ibS (bb1 S b q) b q) q := fun j p hj hp => by
    rw [iQ, ibS_o (by omega), bb1_o (by omega)] at hp
    exact ht j p hj hp
  have rL : ∀ d, mres cT 265 d 0 (ment 3 [.ref (b + 22), .ref (q + 22)]) [] (hs E (ibS (bb1 S b q) b q)) = some (none, hs E (bb2 S b q)) := fun d => L_become_ok hE hb hq (by omega) ht2
  have e0 : ∀ k, iF (bb2 S b q) q k = iF S q k := fun k => by rw [iF, bb2_o (by omega)]
  have e1 : ∀ S : SS, ∀ k j v, iF (sF S b k v) q j = iF S q j := fun S k j v => iF_sF_ne (Or.inl (by omega))
  simp only [ment, mfl, List.length, List.replicate, List.cons_append, List.nil_append, Nat.reduceAdd, Nat.reduceSub]
  simp only [r_al0 c_B_become_0, r_gfSr c_B_become_1 a1 rfl, r_gfSr c_B_become_1 a2 rfl, r_al1 c_B_become_4, r_gfSr c_B_become_5 a1 rfl, r_gfSr c_B_become_5 a2 rfl, r_cv2 c_B_become_8, r_al0 c_B_become_11, r_gfSr c_B_become_12 a1 rfl, r_gfSr c_B_become_12 a2 rfl, r_al1 c_B_become_15, r_gfSr c_B_become_16 a1 rfl, r_gfSr c_B_become_16 a2 rfl, r_cv2 c_B_become_19, r_al0 c_B_become_22, r_gfSr c_B_become_23 a1 rfl, r_gfSr c_B_become_23 a2 rfl, r_al1 c_B_become_26, r_gfSr c_B_become_27 a1 rfl, r_gfSr c_B_become_27 a2 rfl, r_cv2 c_B_become_30, r_al0 c_B_become_33, r_gfSr c_B_become_34 a1 rfl, r_gfSr c_B_become_34 a2 rfl, r_al1 c_B_become_37, r_gfSr c_B_become_38 a1 rfl, r_gfSr c_B_become_38 a2 rfl, r_cv2 c_B_become_41, r_al0 c_B_become_44, r_gfSr c_B_become_45 a1 rfl, r_gfSr c_B_become_45 a2 rfl, r_al1 c_B_become_48, r_gfSr c_B_become_49 a1 rfl, r_gfSr c_B_become_49 a2 rfl, r_cv2 c_B_become_52, r_al0 c_B_become_55, r_gfSr c_B_become_56 a1 rfl, r_gfSr c_B_become_56 a2 rfl, r_al1 c_B_become_59, r_gfSr c_B_become_60 a1 rfl, r_gfSr c_B_become_60 a2 rfl, r_cv2 c_B_become_63, r_al0 c_B_become_66, r_gfSr c_B_become_67 a1 rfl, r_gfSr c_B_become_67 a2 rfl, r_al1 c_B_become_70, r_gfSr c_B_become_71 a1 rfl, r_gfSr c_B_become_71 a2 rfl, r_cv2 c_B_become_74, r_al0 c_B_become_77, r_gfSr c_B_become_78 a1 rfl, r_gfSr c_B_become_78 a2 rfl, r_al1 c_B_become_81, r_gfSr c_B_become_82 a1 rfl, r_gfSr c_B_become_82 a2 rfl, r_cv2 c_B_become_85, r_al0 c_B_become_88, r_al1 c_B_become_89, r_gfS0 c_B_become_90 a1 rfl, r_gfS0 c_B_become_90 a2 rfl, r_pfS c_B_become_93 a1 rfl, r_al0 c_B_become_96, r_al1 c_B_become_97, r_gfS0 c_B_become_98 a1 rfl, r_gfS0 c_B_become_98 a2 rfl, r_pfS c_B_become_101 a1 rfl, r_al0 c_B_become_104, r_al1 c_B_become_105, r_gfS0 c_B_become_106 a1 rfl, r_gfS0 c_B_become_106 a2 rfl, r_pfS c_B_become_109 a1 rfl, r_al0 c_B_become_112, r_al1 c_B_become_113, r_gfS0 c_B_become_114 a1 rfl, r_gfS0 c_B_become_114 a2 rfl, r_pfS c_B_become_117 a1 rfl, r_vret c_B_become_120, ↓reduceIte, hs_h, Option.bind_some, mfix_i, mfix_r, mfix_n, mfix_a, Option.toList_some, Option.toList_none, List.cons_append, List.nil_append, List.singleton_append, mwt, Value.category, Nat.reduceAdd, Nat.reduceLeDiff, true_and, and_true, and_self, m8, m1, n1, n3, n5, n7, n9, n11, r1, r3, r5, r7, r9, r11]
  simp only [show rbS (rbS (rbS (rbS (rbS (rbS S (b + 1) (q + 1) 72) (b + 3) (q + 3) 160) (b + 5) (q + 5) 36) (b + 7) (q + 7) 150) (b + 9) (q + 9) 24) (b + 11) (q + 11) 5 = bb1 S b q from rfl, r_al0 c_B_become_0, r_gfSr c_B_become_1 a1 rfl, r_gfSr c_B_become_1 a2 rfl, r_al1 c_B_become_4, r_gfSr c_B_become_5 a1 rfl, r_gfSr c_B_become_5 a2 rfl, r_cv2 c_B_become_8, r_al0 c_B_become_11, r_gfSr c_B_become_12 a1 rfl, r_gfSr c_B_become_12 a2 rfl, r_al1 c_B_become_15, r_gfSr c_B_become_16 a1 rfl, r_gfSr c_B_become_16 a2 rfl, r_cv2 c_B_become_19, r_al0 c_B_become_22, r_gfSr c_B_become_23 a1 rfl, r_gfSr c_B_become_23 a2 rfl, r_al1 c_B_become_26, r_gfSr c_B_become_27 a1 rfl, r_gfSr c_B_become_27 a2 rfl, r_cv2 c_B_become_30, r_al0 c_B_become_33, r_gfSr c_B_become_34 a1 rfl, r_gfSr c_B_become_34 a2 rfl, r_al1 c_B_become_37, r_gfSr c_B_become_38 a1 rfl, r_gfSr c_B_become_38 a2 rfl, r_cv2 c_B_become_41, r_al0 c_B_become_44, r_gfSr c_B_become_45 a1 rfl, r_gfSr c_B_become_45 a2 rfl, r_al1 c_B_become_48, r_gfSr c_B_become_49 a1 rfl, r_gfSr c_B_become_49 a2 rfl, r_cv2 c_B_become_52, r_al0 c_B_become_55, r_gfSr c_B_become_56 a1 rfl, r_gfSr c_B_become_56 a2 rfl, r_al1 c_B_become_59, r_gfSr c_B_become_60 a1 rfl, r_gfSr c_B_become_60 a2 rfl, r_cv2 c_B_become_63, r_al0 c_B_become_66, r_gfSr c_B_become_67 a1 rfl, r_gfSr c_B_become_67 a2 rfl, r_al1 c_B_become_70, r_gfSr c_B_become_71 a1 rfl, r_gfSr c_B_become_71 a2 rfl, r_cv2 c_B_become_74, r_al0 c_B_become_77, r_gfSr c_B_become_78 a1 rfl, r_gfSr c_B_become_78 a2 rfl, r_al1 c_B_become_81, r_gfSr c_B_become_82 a1 rfl, r_gfSr c_B_become_82 a2 rfl, r_cv2 c_B_become_85, r_al0 c_B_become_88, r_al1 c_B_become_89, r_gfS0 c_B_become_90 a1 rfl, r_gfS0 c_B_become_90 a2 rfl, r_pfS c_B_become_93 a1 rfl, r_al0 c_B_become_96, r_al1 c_B_become_97, r_gfS0 c_B_become_98 a1 rfl, r_gfS0 c_B_become_98 a2 rfl, r_pfS c_B_become_101 a1 rfl, r_al0 c_B_become_104, r_al1 c_B_become_105, r_gfS0 c_B_become_106 a1 rfl, r_gfS0 c_B_become_106 a2 rfl, r_pfS c_B_become_109 a1 rfl, r_al0 c_B_become_112, r_al1 c_B_become_113, r_gfS0 c_B_become_114 a1 rfl, r_gfS0 c_B_become_114 a2 rfl, r_pfS c_B_become_117 a1 rfl, r_vret c_B_become_120, ↓reduceIte, hs_h, Option.bind_some, mfix_i, mfix_r, mfix_n, mfix_a, Option.toList_some, Option.toList_none, List.cons_append, List.nil_append, List.singleton_append, mwt, Value.category, Nat.reduceAdd, Nat.reduceLeDiff, true_and, and_true, and_self, m8, m1, rI, rL]
  simp only [r_al0 c_B_become_0, r_gfSr c_B_become_1 a1 rfl, r_gfSr c_B_become_1 a2 rfl, r_al1 c_B_become_4, r_gfSr c_B_become_5 a1 rfl, r_gfSr c_B_become_5 a2 rfl, r_cv2 c_B_become_8, r_al0 c_B_become_11, r_gfSr c_B_become_12 a1 rfl, r_gfSr c_B_become_12 a2 rfl, r_al1 c_B_become_15, r_gfSr c_B_become_16 a1 rfl, r_gfSr c_B_become_16 a2 rfl, r_cv2 c_B_become_19, r_al0 c_B_become_22, r_gfSr c_B_become_23 a1 rfl, r_gfSr c_B_become_23 a2 rfl, r_al1 c_B_become_26, r_gfSr c_B_become_27 a1 rfl, r_gfSr c_B_become_27 a2 rfl, r_cv2 c_B_become_30, r_al0 c_B_become_33, r_gfSr c_B_become_34 a1 rfl, r_gfSr c_B_become_34 a2 rfl, r_al1 c_B_become_37, r_gfSr c_B_become_38 a1 rfl, r_gfSr c_B_become_38 a2 rfl, r_cv2 c_B_become_41, r_al0 c_B_become_44, r_gfSr c_B_become_45 a1 rfl, r_gfSr c_B_become_45 a2 rfl, r_al1 c_B_become_48, r_gfSr c_B_become_49 a1 rfl, r_gfSr c_B_become_49 a2 rfl, r_cv2 c_B_become_52, r_al0 c_B_become_55, r_gfSr c_B_become_56 a1 rfl, r_gfSr c_B_become_56 a2 rfl, r_al1 c_B_become_59, r_gfSr c_B_become_60 a1 rfl, r_gfSr c_B_become_60 a2 rfl, r_cv2 c_B_become_63, r_al0 c_B_become_66, r_gfSr c_B_become_67 a1 rfl, r_gfSr c_B_become_67 a2 rfl, r_al1 c_B_become_70, r_gfSr c_B_become_71 a1 rfl, r_gfSr c_B_become_71 a2 rfl, r_cv2 c_B_become_74, r_al0 c_B_become_77, r_gfSr c_B_become_78 a1 rfl, r_gfSr c_B_become_78 a2 rfl, r_al1 c_B_become_81, r_gfSr c_B_become_82 a1 rfl, r_gfSr c_B_become_82 a2 rfl, r_cv2 c_B_become_85, r_al0 c_B_become_88, r_al1 c_B_become_89, r_gfS0 c_B_become_90 a1 rfl, r_gfS0 c_B_become_90 a2 rfl, r_pfS c_B_become_93 a1 rfl, r_al0 c_B_become_96, r_al1 c_B_become_97, r_gfS0 c_B_become_98 a1 rfl, r_gfS0 c_B_become_98 a2 rfl, r_pfS c_B_become_101 a1 rfl, r_al0 c_B_become_104, r_al1 c_B_become_105, r_gfS0 c_B_become_106 a1 rfl, r_gfS0 c_B_become_106 a2 rfl, r_pfS c_B_become_109 a1 rfl, r_al0 c_B_become_112, r_al1 c_B_become_113, r_gfS0 c_B_become_114 a1 rfl, r_gfS0 c_B_become_114 a2 rfl, r_pfS c_B_become_117 a1 rfl, r_vret c_B_become_120, ↓reduceIte, hs_h, Option.bind_some, mfix_i, mfix_r, mfix_n, mfix_a, Option.toList_some, Option.toList_none, List.cons_append, List.nil_append, List.singleton_append, e0, e1, bbS]
end BECOME
