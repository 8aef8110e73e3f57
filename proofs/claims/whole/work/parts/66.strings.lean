/-! the texts' letters: strings that are there -/
section STRINGS
variable {E : EE} {S : SS} {d i j n : Nat} {c v : Int32}
theorem hp_s1 (hE : okE E) (hi : i < 27) : hp E S (1000000 + i) = .inr (100, [.ref (2000000 + i), .int 0]) := by
  have h1 := hE.2.1
  rw [hp, if_neg (by omega), mx, if_neg (by omega), if_pos (by omega), show 1000000 + i + 1000000 = 2000000 + i by omega]
theorem hp_s2 (hE : okE E) (hi : i < 27) : hp E S (2000000 + i) = .inl (11, slen i, .inl (sbyt i)) := by
  have h1 := hE.2.1
  rw [hp, if_neg (by omega), mx, if_neg (by omega), if_neg (by omega), if_pos (by omega), show 2000000 + i - 2000000 = i by omega]
theorem s_misc (hE : okE E) (hi : i < 27) : misc (hp E S (1000000 + i)) 100 = true := by rw [hp_s1 hE hi]; simp [misc]
theorem s_val (hE : okE E) (hi : i < 27) : mfld (hp E S (1000000 + i)) 100 0 = some (.ref (2000000 + i)) := by rw [hp_s1 hE hi, mfld_at]; rfl
theorem s_cod (hE : okE E) (hi : i < 27) : mfld (hp E S (1000000 + i)) 100 1 = some (.int 0) := by rw [hp_s1 hE hi, mfld_at]; rfl
theorem s_len (hE : okE E) (hi : i < 27) : mlen (hp E S (2000000 + i)) = some (slen i) := by rw [hp_s2 hE hi]; rfl
theorem slen_le : ∀ i, i < 27 → slen i ≤ 10 := by decide
theorem s_at (hE : okE E) (hi : i < 27) (hj : j < slen i) : mia (hp E S (2000000 + i)) 1 11 (nI j) = some (sbyt i j) := by
  have := slen_le i hi
  rw [hp_s2 hE hi, mia, if_pos ⟨Or.inr rfl, nI_in hj (by omega)⟩, nI_clamp (by omega)]
theorem mzb0 : narrow .byte (.int 0) = .int 0 := by decide
theorem sh0 {x : Int32} : x >>> ((0 : Int32) &&& 31) = x := by
  rw [show ((0 : Int32) &&& 31) = 0 by decide]
  exact Int32.shiftRight_zero
theorem JS_coder_ok (hE : okE E) (hi : i < 27) : mres cT 109 d 0 (ment 1 [.ref (1000000 + i)]) [] (hs E S) = some (some (.int 0), hs E S) := by
  simp only [ment, mfl, List.length, List.replicate, List.cons_append, List.nil_append, Nat.reduceAdd, Nat.reduceSub]
  simp only [r_cv c_JS_coder_0, r_ifeq c_JS_coder_3, r_al0 c_JS_coder_6, r_gf c_JS_coder_7, r_goto c_JS_coder_10, r_ci c_JS_coder_13, r_zret c_JS_coder_14, ↓reduceIte, hs_h, Option.bind_some, mfix_i, mfix_r, mfix_n, mfix_a, Option.toList_some, Option.toList_none, List.cons_append, List.nil_append, List.singleton_append, one_nz, if_false, s_cod hE hi, mzb0]
theorem JS_length_ok (hE : okE E) (hi : i < 27) : mres cT 110 d 0 (ment 1 [.ref (1000000 + i)]) [] (hs E S) = some (some (.int (nI (slen i))), hs E S) := by
  simp only [ment, mfl, List.length, List.replicate, List.cons_append, List.nil_append, Nat.reduceAdd, Nat.reduceSub]
  simp only [r_al0 c_JS_length_0, r_gf c_JS_length_1, r_len c_JS_length_4, r_al0 c_JS_length_5, r_cv1 c_JS_length_6, r_ishr c_JS_length_9, r_iret c_JS_length_10, ↓reduceIte, hs_h, Option.bind_some, mfix_i, mfix_r, mfix_n, mfix_a, Option.toList_some, Option.toList_none, List.cons_append, List.nil_append, List.singleton_append, mwt, Value.category, Nat.reduceAdd, Nat.reduceLeDiff, true_and, and_true, and_self, s_val hE hi, s_len hE hi, s_misc hE hi, JS_coder_ok hE hi, sh0]
theorem JS_isLatin1_ok (hE : okE E) (hi : i < 27) : mres cT 111 d 0 (ment 1 [.ref (1000000 + i)]) [] (hs E S) = some (some (.int 1), hs E S) := by
  simp only [ment, mfl, List.length, List.replicate, List.cons_append, List.nil_append, Nat.reduceAdd, Nat.reduceSub]
  simp only [r_cv c_JS_isLatin1_0, r_ifeq c_JS_isLatin1_3, r_al0 c_JS_isLatin1_6, r_gf c_JS_isLatin1_7, r_ifne c_JS_isLatin1_10, r_ci c_JS_isLatin1_13, r_goto c_JS_isLatin1_14, r_ci c_JS_isLatin1_17, r_zret c_JS_isLatin1_18, ↓reduceIte, hs_h, Option.bind_some, mfix_i, mfix_r, mfix_n, mfix_a, Option.toList_some, Option.toList_none, List.cons_append, List.nil_append, List.singleton_append, one_nz, if_false, if_true, s_cod hE hi, mz1]
theorem JP_checkIndex_ok {H : mH} {w : Value} (hn : n < 2 ^ 31) (hj : j < n) : mres cT 112 d 0 (ment 3 [.int (nI j), .int (nI n), .retAddr 1]) [] H = some (some (.int (nI j)), H) := by
  have h1 : ¬ nI j < 0 := nI_pos (by omega)
  have h2 : nI j < nI n := nI_lt hj hn
  simp only [ment, mfl, List.length, List.replicate, List.cons_append, List.nil_append, Nat.reduceAdd, Nat.reduceSub]
  simp only [r_il0 c_JP_checkIndex_0, r_iflt c_JP_checkIndex_1, r_il0 c_JP_checkIndex_4, r_il1 c_JP_checkIndex_5, r_iclt c_JP_checkIndex_6, r_al2 c_JP_checkIndex_9, r_il0 c_JP_checkIndex_10, r_il1 c_JP_checkIndex_11, r_il0 c_JP_checkIndex_16, r_iret c_JP_checkIndex_17, ↓reduceIte, hs_h, Option.bind_some, mfix_i, mfix_r, mfix_n, mfix_a, Option.toList_some, Option.toList_none, List.cons_append, List.nil_append, List.singleton_append, h1, h2, if_true, if_false]
theorem JS_checkIndex_ok {H : mH} (hn : n < 2 ^ 31) (hj : j < n) : mres cT 113 d 0 (ment 2 [.int (nI j), .int (nI n)]) [] H = some (none, H) := by
  simp only [ment, mfl, List.length, List.replicate, List.cons_append, List.nil_append, Nat.reduceAdd, Nat.reduceSub]
  simp only [r_il0 c_JS_checkIndex_0, r_il1 c_JS_checkIndex_1, r_cv c_JS_checkIndex_2, r_ca3 c_JS_checkIndex_5, r_popi c_JS_checkIndex_8, r_popr c_JS_checkIndex_8, r_vret c_JS_checkIndex_9, ↓reduceIte, hs_h, Option.bind_some, mfix_i, mfix_r, mfix_n, mfix_a, Option.toList_some, Option.toList_none, List.cons_append, List.nil_append, List.singleton_append, mwt, Value.category, Nat.reduceAdd, Nat.reduceLeDiff, true_and, and_true, and_self, JP_checkIndex_ok (w := .null) hn hj]
def chS (i j : Nat) : Int32 := ((sbyt i j &&& 255).toUInt32 % 65536).toInt32
theorem JL_charAt_ok (hE : okE E) (hi : i < 27) (hj : j < slen i) : mres cT 114 d 0 (ment 2 [.ref (2000000 + i), .int (nI j)]) [] (hs E S) = some (some (.int (chS i j)), hs E S) := by
  have := slen_le i hi
  simp only [ment, mfl, List.length, List.replicate, List.cons_append, List.nil_append, Nat.reduceAdd, Nat.reduceSub]
  simp only [r_il1 c_JL_charAt_0, r_al0 c_JL_charAt_1, r_len c_JL_charAt_2, r_ca2 c_JL_charAt_3, r_al0 c_JL_charAt_6, r_il1 c_JL_charAt_7, r_bal c_JL_charAt_8, r_ci c_JL_charAt_9, r_iand c_JL_charAt_12, r_i2c c_JL_charAt_13, r_zret c_JL_charAt_14, ↓reduceIte, hs_h, Option.bind_some, mfix_i, mfix_r, mfix_n, mfix_a, Option.toList_some, Option.toList_none, List.cons_append, List.nil_append, List.singleton_append, mwt, Value.category, Nat.reduceAdd, Nat.reduceLeDiff, true_and, and_true, and_self, s_len hE hi, JS_checkIndex_ok (show slen i < 2 ^ 31 by omega) hj, s_at hE hi hj, pk_nc]
  rfl
theorem JS_charAt_ok (hE : okE E) (hi : i < 27) (hj : j < slen i) : mres cT 115 d 0 (ment 2 [.ref (1000000 + i), .int (nI j)]) [] (hs E S) = some (some (.int (chS i j)), hs E S) := by
  have e : narrow .char (.int (chS i j)) = .int (chS i j) := pk_nc _
  simp only [ment, mfl, List.length, List.replicate, List.cons_append, List.nil_append, Nat.reduceAdd, Nat.reduceSub]
  simp only [r_al0 c_JS_charAt_0, r_cv1 c_JS_charAt_1, r_ifeq c_JS_charAt_4, r_al0 c_JS_charAt_7, r_gf c_JS_charAt_8, r_il1 c_JS_charAt_11, r_ca2 c_JS_charAt_12, r_zret c_JS_charAt_15, r_al0 c_JS_charAt_16, r_gf c_JS_charAt_17, r_il1 c_JS_charAt_20, r_zret c_JS_charAt_24, ↓reduceIte, hs_h, Option.bind_some, mfix_i, mfix_r, mfix_n, mfix_a, Option.toList_some, Option.toList_none, List.cons_append, List.nil_append, List.singleton_append, mwt, Value.category, Nat.reduceAdd, Nat.reduceLeDiff, true_and, and_true, and_self, s_misc hE hi, JS_isLatin1_ok hE hi, one_nz, if_false, s_val hE hi, JL_charAt_ok hE hi hj, e]
def ceS (c : Int32) : Int32 := if c < 0 then 0 else if 255 < c then 0 else 1
theorem JL_canEncode_ok {H : mH} : mres cT 122 d 0 (ment 1 [.int c]) [] H = some (some (.int (ceS c)), H) := by
  simp only [ment, mfl, List.length, List.replicate, List.cons_append, List.nil_append, Nat.reduceAdd, Nat.reduceSub]
  simp only [r_il0 c_JL_canEncode_0, r_iflt c_JL_canEncode_1, r_il0 c_JL_canEncode_4, r_ci c_JL_canEncode_5, r_icgt c_JL_canEncode_8, r_ci c_JL_canEncode_11, r_goto c_JL_canEncode_12, r_ci c_JL_canEncode_15, r_zret c_JL_canEncode_16, ↓reduceIte, hs_h, Option.bind_some, mfix_i, mfix_r, mfix_n, mfix_a, Option.toList_some, Option.toList_none, List.cons_append, List.nil_append, List.singleton_append, mz0, mz1, ite_out, ceS]
def ixF (f : Nat → Int32) (c : Int32) : Nat → Nat → Int32
  | _, 0 => -1
  | j, m + 1 => if f j = c then nI j else ixF f c (j + 1) m
theorem JL_indexOfChar_ok (hE : okE E) (hi : i < 27) : mres cT 123 d 0 (ment 6 [.ref (2000000 + i), .int c, .int 0, .int (nI (slen i))]) [] (hs E S) = some (some (.int (ixF (sbyt i) c.toInt8.toInt32 0 (slen i))), hs E S) := by
  have hl := slen_le i hi
  have lp : ∀ m j, j + m = slen i → mres cT 123 d 7 [.ref (2000000 + i), .int c, .int 0, .int (nI (slen i)), .int c.toInt8.toInt32, .int (nI j)] [] (hs E S) = some (some (.int (ixF (sbyt i) c.toInt8.toInt32 j m)), hs E S) := by
    intro m
    induction m with
    | zero =>
      intro j hj
      have h1 : nI (slen i) ≤ nI j := nI_le (by omega) (by omega)
      simp only [r_il5 c_JL_indexOfChar_7, r_il3 c_JL_indexOfChar_9, r_icge c_JL_indexOfChar_10, r_ci c_JL_indexOfChar_31, r_iret c_JL_indexOfChar_32, ↓reduceIte, hs_h, Option.bind_some, mfix_i, mfix_r, mfix_n, mfix_a, Option.toList_some, Option.toList_none, List.cons_append, List.nil_append, List.singleton_append, h1, if_true, ixF]
    | succ m ih =>
      intro j hj
      have h1 : ¬ nI (slen i) ≤ nI j := nI_ge (by omega) (by omega)
      have ih := ih (j + 1) (by omega)
      simp only [r_il5 c_JL_indexOfChar_7, r_il3 c_JL_indexOfChar_9, r_icge c_JL_indexOfChar_10, ↓reduceIte, hs_h, Option.bind_some, mfix_i, mfix_r, mfix_n, mfix_a, Option.toList_some, Option.toList_none, List.cons_append, List.nil_append, List.singleton_append, h1]
      simp only [r_al0 c_JL_indexOfChar_13, r_il5 c_JL_indexOfChar_14, r_bal c_JL_indexOfChar_16, r_il4 c_JL_indexOfChar_17, r_icne c_JL_indexOfChar_19, r_il5 c_JL_indexOfChar_22, r_iret c_JL_indexOfChar_24, r_inc5 c_JL_indexOfChar_25, r_goto c_JL_indexOfChar_28, ↓reduceIte, hs_h, Option.bind_some, mfix_i, mfix_r, mfix_n, mfix_a, Option.toList_some, Option.toList_none, List.cons_append, List.nil_append, List.singleton_append, s_at hE hi (show j < slen i by omega), nI_1, ih, ite_out, if_false, ixF]
  have lq := lp (slen i) 0 (by omega)
  rw [nI_0] at lq
  simp only [ment, mfl, List.length, List.replicate, List.cons_append, List.nil_append, Nat.reduceAdd, Nat.reduceSub]
  simp only [r_il1 c_JL_indexOfChar_0, r_i2b c_JL_indexOfChar_1, r_is4 c_JL_indexOfChar_2, r_il2 c_JL_indexOfChar_4, r_is5 c_JL_indexOfChar_5, ↓reduceIte, hs_h, Option.bind_some, mfix_i, mfix_r, mfix_n, mfix_a, Option.toList_some, Option.toList_none, List.cons_append, List.nil_append, List.singleton_append, lq]
def ixS (i : Nat) (c : Int32) : Int32 := if ceS c = 0 then -1 else ixF (sbyt i) c.toInt8.toInt32 0 (slen i)
theorem JL_indexOf_ok (hE : okE E) (hi : i < 27) : mres cT 124 d 0 (ment 4 [.ref (2000000 + i), .int c, .int 0, .int (nI (slen i))]) [] (hs E S) = some (some (.int (ixS i c)), hs E S) := by
  have hl := slen_le i hi
  have e0 : (if (0 : Int32) < 0 then (0 : Int32) else 0) = 0 := by decide
  have e1 : (if nI (slen i) < nI (slen i) then nI (slen i) else nI (slen i)) = nI (slen i) := ite_self _
  simp only [ment, mfl, List.length, List.replicate, List.cons_append, List.nil_append, Nat.reduceAdd, Nat.reduceSub]
  by_cases hc : ceS c = 0
  · simp only [r_il1 c_JL_indexOf_0, r_ca1 c_JL_indexOf_1, r_ifne c_JL_indexOf_4, r_ci c_JL_indexOf_7, r_iret c_JL_indexOf_8, r_il2 c_JL_indexOf_9, r_ci c_JL_indexOf_10, r_ca2 c_JL_indexOf_11, r_is2 c_JL_indexOf_14, r_il3 c_JL_indexOf_15, r_al0 c_JL_indexOf_16, r_len c_JL_indexOf_17, r_ca2 c_JL_indexOf_18, r_is3 c_JL_indexOf_21, r_il2 c_JL_indexOf_22, r_il3 c_JL_indexOf_23, r_iclt c_JL_indexOf_24, r_ci c_JL_indexOf_27, r_iret c_JL_indexOf_28, r_al0 c_JL_indexOf_29, r_il1 c_JL_indexOf_30, r_il2 c_JL_indexOf_31, r_il3 c_JL_indexOf_32, r_ca4 c_JL_indexOf_33, r_iret c_JL_indexOf_36, ↓reduceIte, hs_h, Option.bind_some, mfix_i, mfix_r, mfix_n, mfix_a, Option.toList_some, Option.toList_none, List.cons_append, List.nil_append, List.singleton_append, mwt, Value.category, Nat.reduceAdd, Nat.reduceLeDiff, true_and, and_true, and_self, JL_canEncode_ok, hc, if_true, ixS]
  · by_cases hs0 : slen i = 0
    · have h1 : ¬ (0 : Int32) < nI (slen i) := by rw [hs0]; decide
      simp only [r_il1 c_JL_indexOf_0, r_ca1 c_JL_indexOf_1, r_ifne c_JL_indexOf_4, r_ci c_JL_indexOf_7, r_iret c_JL_indexOf_8, r_il2 c_JL_indexOf_9, r_ci c_JL_indexOf_10, r_ca2 c_JL_indexOf_11, r_is2 c_JL_indexOf_14, r_il3 c_JL_indexOf_15, r_al0 c_JL_indexOf_16, r_len c_JL_indexOf_17, r_ca2 c_JL_indexOf_18, r_is3 c_JL_indexOf_21, r_il2 c_JL_indexOf_22, r_il3 c_JL_indexOf_23, r_iclt c_JL_indexOf_24, r_ci c_JL_indexOf_27, r_iret c_JL_indexOf_28, r_al0 c_JL_indexOf_29, r_il1 c_JL_indexOf_30, r_il2 c_JL_indexOf_31, r_il3 c_JL_indexOf_32, r_ca4 c_JL_indexOf_33, r_iret c_JL_indexOf_36, ↓reduceIte, hs_h, Option.bind_some, mfix_i, mfix_r, mfix_n, mfix_a, Option.toList_some, Option.toList_none, List.cons_append, List.nil_append, List.singleton_append, mwt, Value.category, Nat.reduceAdd, Nat.reduceLeDiff, true_and, and_true, and_self, JL_canEncode_ok, hc, if_false, JM_max_ok, JM_min_ok, s_len hE hi, e0, e1, h1, ixS]
      rw [hs0]; rfl
    · have h1 : (0 : Int32) < nI (slen i) := nI_lt (a := 0) (by omega) (by omega)
      simp only [r_il1 c_JL_indexOf_0, r_ca1 c_JL_indexOf_1, r_ifne c_JL_indexOf_4, r_ci c_JL_indexOf_7, r_iret c_JL_indexOf_8, r_il2 c_JL_indexOf_9, r_ci c_JL_indexOf_10, r_ca2 c_JL_indexOf_11, r_is2 c_JL_indexOf_14, r_il3 c_JL_indexOf_15, r_al0 c_JL_indexOf_16, r_len c_JL_indexOf_17, r_ca2 c_JL_indexOf_18, r_is3 c_JL_indexOf_21, r_il2 c_JL_indexOf_22, r_il3 c_JL_indexOf_23, r_iclt c_JL_indexOf_24, r_ci c_JL_indexOf_27, r_iret c_JL_indexOf_28, r_al0 c_JL_indexOf_29, r_il1 c_JL_indexOf_30, r_il2 c_JL_indexOf_31, r_il3 c_JL_indexOf_32, r_ca4 c_JL_indexOf_33, r_iret c_JL_indexOf_36, ↓reduceIte, hs_h, Option.bind_some, mfix_i, mfix_r, mfix_n, mfix_a, Option.toList_some, Option.toList_none, List.cons_append, List.nil_append, List.singleton_append, mwt, Value.category, Nat.reduceAdd, Nat.reduceLeDiff, true_and, and_true, and_self, JL_canEncode_ok, hc, if_false, if_true, JM_max_ok, JM_min_ok, s_len hE hi, e0, e1, h1, JL_indexOfChar_ok hE hi, ixS]
theorem JS_indexOf_ok (hE : okE E) (hi : i < 27) : mres cT 125 d 0 (ment 3 [.ref (1000000 + i), .int c, .int 0]) [] (hs E S) = some (some (.int (ixS i c)), hs E S) := by
  simp only [ment, mfl, List.length, List.replicate, List.cons_append, List.nil_append, Nat.reduceAdd, Nat.reduceSub]
  simp only [r_al0 c_JS_indexOf_0, r_cv1 c_JS_indexOf_1, r_ifeq c_JS_indexOf_4, r_al0 c_JS_indexOf_7, r_gf c_JS_indexOf_8, r_il1 c_JS_indexOf_11, r_il2 c_JS_indexOf_12, r_al0 c_JS_indexOf_13, r_cv1 c_JS_indexOf_14, r_ca4 c_JS_indexOf_17, r_goto c_JS_indexOf_20, r_al0 c_JS_indexOf_23, r_gf c_JS_indexOf_24, r_il1 c_JS_indexOf_27, r_il2 c_JS_indexOf_28, r_al0 c_JS_indexOf_29, r_cv1 c_JS_indexOf_30, r_iret c_JS_indexOf_36, ↓reduceIte, hs_h, Option.bind_some, mfix_i, mfix_r, mfix_n, mfix_a, Option.toList_some, Option.toList_none, List.cons_append, List.nil_append, List.singleton_append, mwt, Value.category, Nat.reduceAdd, Nat.reduceLeDiff, true_and, and_true, and_self, s_misc hE hi, JS_isLatin1_ok hE hi, one_nz, if_false, s_val hE hi, JS_length_ok hE hi, JL_indexOf_ok hE hi]
theorem JS_indexOf1_ok (hE : okE E) (hi : i < 27) : mres cT 126 d 0 (ment 2 [.ref (1000000 + i), .int c]) [] (hs E S) = some (some (.int (ixS i c)), hs E S) := by
  simp only [ment, mfl, List.length, List.replicate, List.cons_append, List.nil_append, Nat.reduceAdd, Nat.reduceSub]
  simp only [r_al0 c_JS_indexOf1_0, r_il1 c_JS_indexOf1_1, r_ci c_JS_indexOf1_2, r_cv3 c_JS_indexOf1_3, r_iret c_JS_indexOf1_6, ↓reduceIte, hs_h, Option.bind_some, mfix_i, mfix_r, mfix_n, mfix_a, Option.toList_some, Option.toList_none, List.cons_append, List.nil_append, List.singleton_append, mwt, Value.category, Nat.reduceAdd, Nat.reduceLeDiff, true_and, and_true, and_self, s_misc hE hi, JS_indexOf_ok hE hi]
end STRINGS
