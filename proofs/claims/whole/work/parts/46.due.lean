/-! the books: what a rule leaves as it was; risks; due -/
section DUE
variable {E : EE} {S S' : SS} {d b k n : Nat} {c v x y day : Int32} {z t : Nat → Nat}
def usr (x y : Int32) : Int32 := (x.toUInt32 >>> (y.toUInt32 &&& Int32.toUInt32 31)).toInt32
def bc1 (x : Int32) : Int32 := x - (usr x 1 &&& 1431655765)
def bc2 (x : Int32) : Int32 := (x &&& 858993459) + (usr x 2 &&& 858993459)
def bc3 (x : Int32) : Int32 := (x + usr x 4) &&& 252645135
def bc4 (x : Int32) : Int32 := x + usr x 8
def bc5 (x : Int32) : Int32 := x + usr x 16
def bcS (x : Int32) : Int32 := bc5 (bc4 (bc3 (bc2 (bc1 x)))) &&& 63
theorem JI_bitCount_ok {H : mH} : mres cT 24 d 0 (ment 1 [.int x]) [] H = some (some (.int (bcS x)), H) := by
  simp only [ment, mfl, List.length, List.replicate, List.cons_append, List.nil_append, Nat.reduceAdd, Nat.reduceSub]
  simp only [r_il0 c_JI_bitCount_0, r_il0 c_JI_bitCount_1, r_ci c_JI_bitCount_2, r_iushr c_JI_bitCount_3, r_ci c_JI_bitCount_4, r_iand c_JI_bitCount_7, r_isub c_JI_bitCount_8, r_is0 c_JI_bitCount_9, r_il0 c_JI_bitCount_10, r_ci c_JI_bitCount_11, r_iand c_JI_bitCount_14, r_il0 c_JI_bitCount_15, r_ci c_JI_bitCount_16, r_iushr c_JI_bitCount_17, r_ci c_JI_bitCount_18, r_iand c_JI_bitCount_21, r_iadd c_JI_bitCount_22, r_is0 c_JI_bitCount_23, r_il0 c_JI_bitCount_24, r_il0 c_JI_bitCount_25, r_ci c_JI_bitCount_26, r_iushr c_JI_bitCount_27, r_iadd c_JI_bitCount_28, r_ci c_JI_bitCount_29, r_iand c_JI_bitCount_32, r_is0 c_JI_bitCount_33, r_il0 c_JI_bitCount_34, r_il0 c_JI_bitCount_35, r_ci c_JI_bitCount_36, r_iushr c_JI_bitCount_38, r_iadd c_JI_bitCount_39, r_is0 c_JI_bitCount_40, r_il0 c_JI_bitCount_41, r_il0 c_JI_bitCount_42, r_ci c_JI_bitCount_43, r_iushr c_JI_bitCount_45, r_iadd c_JI_bitCount_46, r_is0 c_JI_bitCount_47, r_il0 c_JI_bitCount_48, r_ci c_JI_bitCount_49, r_iand c_JI_bitCount_51, r_iret c_JI_bitCount_52, ↓reduceIte, hs_h, Option.bind_some, mfix_i, mfix_r, mfix_n, mfix_a, Option.toList_some, Option.toList_none, List.cons_append, List.nil_append, List.singleton_append, bcS, bc1, bc2, bc3, bc4, bc5, usr]
def rkS (S : SS) (b k : Nat) (col : Int32) : Int32 := huS (rwAt 8 3 (iA S (b + 10)) (bcS (iA S (b + 2) (k * 6 + 2)) - bcS (iA S (b + 2) (k * 6 + 2)) / 8 * 8) col) (rwAt 8 3 (iA S (b + 10)) (bcS (iA S (b + 2) (k * 6 + 2)) - bcS (iA S (b + 2) (k * 6 + 2)) / 8 * 8) 1)
theorem B_hundredthsFor_ok (hE : okE E) (hb : bkb b) (hk : k < 12) : mres cT 26 d 0 (ment 4 [.ref b, .int (nI k), .int c]) [] (hs E S) = some (some (.int (rkS S b k c)), hs E S) := by
  have o0 := o_B hE hb
  have h8 : ¬ (8 : Int32) = 0 := by decide
  simp only [ment, mfl, List.length, List.replicate, List.cons_append, List.nil_append, Nat.reduceAdd, Nat.reduceSub]
  simp only [r_al0 c_B_hundredthsFor_0, r_gfSr c_B_hundredthsFor_1 o0 rfl, r_il1 c_B_hundredthsFor_4, r_ci c_B_hundredthsFor_5, r_cv3 c_B_hundredthsFor_6, r_ca1 c_B_hundredthsFor_9, r_ci c_B_hundredthsFor_12, r_irem c_B_hundredthsFor_14 h8, r_is3 c_B_hundredthsFor_15, r_al0 c_B_hundredthsFor_16, r_gfSr c_B_hundredthsFor_17 o0 rfl, r_il3 c_B_hundredthsFor_20, r_il2 c_B_hundredthsFor_21, r_cv3 c_B_hundredthsFor_22, r_al0 c_B_hundredthsFor_25, r_gfSr c_B_hundredthsFor_26 o0 rfl, r_il3 c_B_hundredthsFor_29, r_ci c_B_hundredthsFor_30, r_cv3 c_B_hundredthsFor_31, r_ca2 c_B_hundredthsFor_34, r_iret c_B_hundredthsFor_37, ↓reduceIte, hs_h, Option.bind_some, mfix_i, mfix_r, mfix_n, mfix_a, Option.toList_some, Option.toList_none, List.cons_append, List.nil_append, List.singleton_append, mwt, Value.category, Nat.reduceAdd, Nat.reduceLeDiff, true_and, and_true, and_self, at_1 hE hb, misc_w (w_1 hE hb), at_9 hE hb, misc_w (w_9 hE hb), ra2 hk (show 2 < 6 by decide) (show 12 * 6 ≤ 1000 by decide), JI_bitCount_ok, X_hundredths_ok, rkS]
def okB (E : EE) (S : SS) (b : Nat) (z t : Nat → Nat) : Prop :=
  (iF S (b + 1) 3 = nI (z 1) ∧ z 1 ≤ 12) ∧ (iF S (b + 3) 3 = nI (z 3) ∧ z 3 ≤ 40) ∧ (iF S (b + 5) 3 = nI (z 5) ∧ z 5 ≤ 9) ∧ (iF S (b + 7) 3 = nI (z 7) ∧ z 7 ≤ 30)
  ∧ (iF S (b + 14) 3 = nI (z 14) ∧ z 14 ≤ 24) ∧ (iF S (b + 16) 3 = nI (z 16) ∧ z 16 ≤ 30) ∧ (iF S (b + 18) 3 = nI (z 18) ∧ z 18 ≤ 20) ∧ (iF S (b + 20) 3 = nI (z 20) ∧ z 20 ≤ 40)
  ∧ (iF S (b + 22) 1 = nI (z 22) ∧ z 22 ≤ 16) ∧ txs E S b (z 22) t ∧ txw S (z 22) t
/-- the same but for the stack -/
def eqS (b : Nat) (S S' : SS) : Prop := ∀ q, q ≠ b + 24 → q ≠ b + 25 → S' q = S q
theorem okB_eq (hb : bkb b) (h : eqS b S S') (hz : okB E S b z t) : okB E S' b z t := by
  have bl := bkb_lt hb
  obtain ⟨h1, h3, h5, h7, h14, h16, h18, h20, h22, ht, hw⟩ := hz
  have ht' : txs E S' b (z 22) t := fun j hj => by
    have := ht j hj
    rw [iQ, h (b + 23) (by omega) (by omega)]
    exact this
  refine ⟨?_, ?_, ?_, ?_, ?_, ?_, ?_, ?_, ?_, ht', fun j hj => ?_⟩
  · rw [iF, h _ (by omega) (by omega)]; exact h1
  · rw [iF, h _ (by omega) (by omega)]; exact h3
  · rw [iF, h _ (by omega) (by omega)]; exact h5
  · rw [iF, h _ (by omega) (by omega)]; exact h7
  · rw [iF, h _ (by omega) (by omega)]; exact h14
  · rw [iF, h _ (by omega) (by omega)]; exact h16
  · rw [iF, h _ (by omega) (by omega)]; exact h18
  · rw [iF, h _ (by omega) (by omega)]; exact h20
  · rw [iF, h _ (by omega) (by omega)]; exact h22
  · have hq := (ht j hj).2.1
    rw [iF, iA, h _ (by omega) (by omega)]
    exact hw j hj
theorem rlS_e {fo fk dy x0 x1 x2 x3 : Int32} : eqS b S (rlS S b n t fo fk dy x0 x1 x2 x3) := by
  intro q h1 h2
  rw [rlS]
  cases ctQ S t n fo fk dy with
  | none => rfl
  | some j => exact stk_o h1 h2
def frS (S : SS) (b : Nat) (z t : Nat → Nat) (k : Nat) : Int32 := rlV S b (z 22) t (iA S (b + 2) (k * 6)) 0 (iF S b 8) (ttSum (iA S (b + 15)) (nI k) (z 14)) (crSum (iA S (b + 21)) (nI k) (iF S b 8) (z 20)) (iA S (b + 2) (k * 6 + 5)) 0
def frT (S : SS) (b : Nat) (z t : Nat → Nat) (k : Nat) : SS := rlS S b (z 22) t (iA S (b + 2) (k * 6)) 0 (iF S b 8) (ttSum (iA S (b + 15)) (nI k) (z 14)) (crSum (iA S (b + 21)) (nI k) (iF S b 8) (z 20)) (iA S (b + 2) (k * 6 + 5)) 0
def dySum (S : SS) (b : Nat) (z : Nat → Nat) (k : Nat) (day : Int32) : Int32 := svSum (iA S (b + 17)) (iA S (b + 19)) (z 16) (z 18) (nI k) day + crSum (iA S (b + 21)) (nI k) day (z 20)
def duS (S : SS) (b : Nat) (z t : Nat → Nat) (k : Nat) (day : Int32) : Int32 := if dySum S b z k day < frS S b z t k then 0 else 1
theorem frT_e : eqS b S (frT S b z t k) := rlS_e
theorem B_isDue_ok (hE : okE E) (hb : bkb b) (hz : okB E S b z t) (hk : k < 12) : mres cT 86 d 0 (ment 4 [.ref b, .int (nI k), .int day]) [] (hs E S) = some (some (.int (duS S b z t k day)), hs E (frT S b z t k)) := by
  have o0 := o_B hE hb
  have m8 : ∀ S, misc (hp E S (b + 13)) 8 = true := fun S => misc_o (o_I hE hb)
  have m1 : ∀ S, misc (hp E S (b + 22)) 1 = true := fun S => misc_o (o_L hE hb)
  have hz' := okB_eq hb (frT_e (S := S) (b := b) (z := z) (t := t) (k := k)) hz
  obtain ⟨h1, h3, h5, h7, h14, h16, h18, h20, h22, ht, hw⟩ := hz
  obtain ⟨-, -, -, -, -, g16, g18, g20, -, -, -⟩ := hz'
  have e17 : iA (frT S b z t k) (b + 17) = iA S (b + 17) := by rw [iA, frT_e _ (by omega) (by omega)]
  have e19 : iA (frT S b z t k) (b + 19) = iA S (b + 19) := by rw [iA, frT_e _ (by omega) (by omega)]
  have e21 : iA (frT S b z t k) (b + 21) = iA S (b + 21) := by rw [iA, frT_e _ (by omega) (by omega)]
  have hr : ∀ d, mres cT 85 d 0 (ment 9 [.ref (b + 22), .int (iA S (b + 2) (k * 6)), .int 0, .int (iF S b 8), .int (ttSum (iA S (b + 15)) (nI k) (z 14)), .int (crSum (iA S (b + 21)) (nI k) (iF S b 8) (z 20)), .int (iA S (b + 2) (k * 6 + 5)), .int 0]) [] (hs E S) = some (some (.int (frS S b z t k)), hs E (frT S b z t k)) := fun d => L_ruleOf_ok hE hb h22.1 h22.2 ht hw
  simp only [ment, mfl, List.length, List.replicate, List.cons_append, List.nil_append, Nat.reduceAdd, Nat.reduceSub]
  simp only [r_al0 c_B_isDue_0, r_gfSr c_B_isDue_1 o0 rfl, r_al0 c_B_isDue_4, r_gfSr c_B_isDue_5 o0 rfl, r_il1 c_B_isDue_8, r_ci c_B_isDue_9, r_cv3 c_B_isDue_10, r_ci c_B_isDue_13, r_al0 c_B_isDue_14, r_gfS0 c_B_isDue_15 o0 rfl, r_al0 c_B_isDue_18, r_gfSr c_B_isDue_19 o0 rfl, r_il1 c_B_isDue_22, r_cv2 c_B_isDue_23, r_al0 c_B_isDue_26, r_gfSr c_B_isDue_27 o0 rfl, r_il1 c_B_isDue_30, r_al0 c_B_isDue_31, r_gfS0 c_B_isDue_32 o0 rfl, r_cv3 c_B_isDue_35, r_al0 c_B_isDue_38, r_gfSr c_B_isDue_39 o0 rfl, r_il1 c_B_isDue_42, r_ci c_B_isDue_43, r_cv3 c_B_isDue_44, r_ci c_B_isDue_47, r_cv8 c_B_isDue_48, r_is3 c_B_isDue_51, r_al0 c_B_isDue_52, r_gfSr c_B_isDue_53 o0 rfl, r_il1 c_B_isDue_56, r_il2 c_B_isDue_57, r_cv3 c_B_isDue_58, r_al0 c_B_isDue_61, r_gfSr c_B_isDue_62 o0 rfl, r_il1 c_B_isDue_65, r_il2 c_B_isDue_66, r_cv3 c_B_isDue_67, r_iadd c_B_isDue_70, r_il3 c_B_isDue_71, r_iclt c_B_isDue_72, r_ci c_B_isDue_75, r_goto c_B_isDue_76, r_ci c_B_isDue_79, r_zret c_B_isDue_80, ↓reduceIte, hs_h, Option.bind_some, mfix_i, mfix_r, mfix_n, mfix_a, Option.toList_some, Option.toList_none, List.cons_append, List.nil_append, List.singleton_append, mwt, Value.category, Nat.reduceAdd, Nat.reduceLeDiff, true_and, and_true, and_self, at_1 hE hb, misc_w (w_1 hE hb), m1, m8, ra0 hk (show 0 < 6 by decide) (show 12 * 6 ≤ 1000 by decide), ra5 hk (show 5 < 6 by decide) (show 12 * 6 ≤ 1000 by decide), I_totalOf_ok hE hb h14.1 h14.2, I_creditOf_ok hE hb h20.1 h20.2, hr, I_servedOf_ok hE hb g16.1 g16.2 g18.1 g18.2, I_creditOf_ok hE hb g20.1 g20.2, e17, e19, e21, mz0, mz1, ite_out, duS, dySum]
  rfl
end DUE
