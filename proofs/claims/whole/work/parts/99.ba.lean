/-! call: board -/
section BOARDQ
variable {E : EE} {S S1 : SS} {b d k n m i j p a s r q o : Nat} {c v w x y l : Int32}
theorem bt_nI (h : k < 2 ^ 31) : btI (nI k) i = k.testBit i := by
  rw [btI, show (nI k).toBitVec = BitVec.ofNat 32 k from rfl, BitVec.getLsbD_ofNat]
  by_cases e : i < 32
  · simp [e]
  · have : k.testBit i = false := Nat.testBit_lt_two_pow (Nat.lt_of_lt_of_le h (Nat.pow_le_pow_right (by decide) (by omega)))
    rw [this]; simp
theorem msk_b : ∀ z : Fin 13, ∀ i : Fin 32, btI (((1 <<< (nI z.1 &&& 31)) - 1) ^^^ (-1)) i.1 = decide (z.1 ≤ i.1) := by decide +kernel
theorem msk_1 : ∀ z : Fin 13, (1 <<< (nI z.1 &&& 31) : Int32) = nI (2 ^ z.1) := by decide +kernel
theorem msk_2 : ∀ z : Fin 13, 2 ^ z.1 ≤ 4096 := by decide
theorem msk_p (hm : m ≤ 12) (h : x &&& (((1 <<< (nI m &&& 31)) - 1) ^^^ (-1)) = 0) : ¬ x < 0 ∧ ¬ (1 <<< (nI m &&& 31)) ≤ x := by
  have hb : ∀ i, m ≤ i → x.toBitVec.toNat.testBit i = false := fun i hi => by
    by_cases e : i < 32
    · have h1 : btI (x &&& (((1 <<< (nI m &&& 31)) - 1) ^^^ (-1))) i = false := by rw [h, bt_0]
      rw [bt_and, msk_b ⟨m, by omega⟩ ⟨i, e⟩] at h1
      simp only [show m ≤ i from hi, decide_true, Bool.and_true] at h1
      exact h1
    · exact Nat.testBit_lt_two_pow (Nat.lt_of_lt_of_le x.toBitVec.isLt (Nat.pow_le_pow_right (by decide) (by omega)))
  have hk : x.toBitVec.toNat < 2 ^ m := Nat.lt_pow_two_of_testBit _ hb
  have h4 := msk_2 ⟨m, by omega⟩
  have h4 : 2 ^ m ≤ 4096 := h4
  have hx : x = nI x.toBitVec.toNat := by
    apply Int32.toBitVec_inj.mp
    rw [show (nI x.toBitVec.toNat).toBitVec = BitVec.ofNat 32 x.toBitVec.toNat from rfl, BitVec.ofNat_toNat, BitVec.setWidth_eq]
  rw [hx, msk_1 ⟨m, by omega⟩]
  exact ⟨nI_pos (by omega), nI_ge hk (by omega)⟩
theorem msk_n (hm : m ≤ 12) (h : ¬ x &&& (((1 <<< (nI m &&& 31)) - 1) ^^^ (-1)) = 0) : x < 0 ∨ (1 <<< (nI m &&& 31)) ≤ x := by
  by_cases h0 : x < 0
  · exact Or.inl h0
  · refine Or.inr ?_
    obtain ⟨k, hk, rfl⟩ := nI_of h0
    rw [msk_1 ⟨m, by omega⟩]
    by_cases e : k < 2 ^ m
    · refine absurd (bt_ext fun i hi => ?_) h
      rw [bt_and, bt_0, msk_b ⟨m, by omega⟩ ⟨i, hi⟩, bt_nI hk]
      by_cases e2 : m ≤ i
      · rw [Nat.testBit_lt_two_pow (Nat.lt_of_lt_of_le e (Nat.pow_le_pow_right (by decide) e2))]; rfl
      · simp [e2]
    · exact nI_le (by simpa using e) hk
theorem q_board (h : Inv E S) : opE E S 179 184 5 5 [.int c, .int v, .int w] := by
  obtain ⟨hE, hpar, ⟨z, t, hc, pk, td, htd, hR⟩, hI, hTp, hWt, hSh, hKy⟩ := id h
  obtain ⟨b, hb1⟩ : ∃ b, b = 1 := ⟨1, rfl⟩
  have hb : bkb b := Or.inl hb1
  rw [← hb1] at hR
  have o9 := o_X hE hb1
  have o0 := o_B hE hb
  have o8 := o_I hE hb
  have o1 := o_L hE hb
  have o5 := o_P hE
  have o10 := o_M hE
  have m10 := m_M hE
  have m9 : ∀ S, misc (hp E S 0) 9 = true := fun S => misc_o o9
  have m0 : ∀ S, misc (hp E S b) 0 = true := fun S => misc_o o0
  have m8 : ∀ S, misc (hp E S (b + 13)) 8 = true := fun S => misc_o o8
  have m1 : ∀ S, misc (hp E S (b + 22)) 1 = true := fun S => misc_o o1
  have m5 : ∀ S, misc (hp E S 79) 5 = true := fun S => misc_o o5
  obtain ⟨n1, n14, n16, n18, n20, n22, n3, n5, n7⟩ := rl_okm hR
  obtain ⟨⟨g1, g3, g5, g7, g14, g16, g18, g20, g22, gt, gw⟩, hH, hP⟩ := rl_okh hR
  have ht := rl_tod hR
  by_cases hm : c &&& (((1 <<< (nI (z 1) &&& 31)) - 1) ^^^ (-1)) = 0
  · obtain ⟨p1, p2⟩ := msk_p n1.2 hm
    rcases wi01 (x := v) (y := 0) (w := 5) with h2 | h2
    · refine op_v h (-1000000001) (fun d => ?_) (fun d => ?_)
      · simp only [ment, mfl, List.length, List.replicate, List.cons_append, List.nil_append, Nat.reduceAdd, Nat.reduceSub]; simp only [r_ci c_X_board_0, r_al0 c_X_board_1, r_an0 c_X_board_1, r_gfSr c_X_board_2 o9 rfl, r_gfSr c_X_board_5 o0 rfl, r_gfR3 c_X_board_8 (w_1 hE hb), r_gfR3 c_X_board_8 (w_3 hE hb), r_gfR3 c_X_board_8 (w_5 hE hb), r_gfR3 c_X_board_8 (w_7 hE hb), r_gfR3 c_X_board_8 (w_9 hE hb), r_gfR3 c_X_board_8 (w_11 hE hb), r_gfR3 c_X_board_8 (w_14 hE hb), r_gfR3 c_X_board_8 (w_16 hE hb), r_gfR3 c_X_board_8 (w_18 hE hb), r_gfR3 c_X_board_8 (w_20 hE hb), r_ishl c_X_board_11, r_ci c_X_board_12, r_isub c_X_board_13, r_is4 c_X_board_14, r_il1 c_X_board_16, r_il4 c_X_board_17, r_ci c_X_board_19, r_ixor c_X_board_20, r_iand c_X_board_21, r_ifne c_X_board_22, r_il2 c_X_board_25, r_ci c_X_board_26, r_ci c_X_board_27, r_ca3 c_X_board_28, r_ifeq c_X_board_31, r_il3 c_X_board_34, r_ci c_X_board_35, r_ci c_X_board_36, r_ca3 c_X_board_39, r_ifne c_X_board_42, r_ci c_X_board_45, r_iret c_X_board_47, r_al0 c_X_board_48, r_an0 c_X_board_48, r_gfSr c_X_board_49 o9 rfl, r_il1 c_X_board_52, r_il2 c_X_board_53, r_il3 c_X_board_54, r_cv4 c_X_board_55, r_iret c_X_board_58, ↓reduceIte, hs_h, Option.bind_some, mfix_i, mfix_r, mfix_n, mfix_a, Option.toList_some, Option.toList_none, List.cons_append, List.nil_append, List.singleton_append, mwt, Value.category, Nat.reduceAdd, Nat.reduceLeDiff, true_and, and_true, and_self, g1.1, hm, if_true, X_within_ok, h2]
      · simp only [ment, mfl, List.length, List.replicate, List.cons_append, List.nil_append, Nat.reduceAdd, Nat.reduceSub]; simp only [r_il1 c_M_board_0, r_iflt c_M_board_1, r_il1 c_M_board_4, r_ci c_M_board_5, r_al0 c_M_board_6, r_gfSr c_M_board_7 o10 rfl, r_ci c_M_board_10, r_ial c_M_board_11, r_ishl c_M_board_12, r_icge c_M_board_13, r_il2 c_M_board_16, r_i2l c_M_board_17, r_cl c_M_board_18, r_cl c_M_board_19, r_ca3 c_M_board_22, r_ifeq c_M_board_25, r_il3 c_M_board_28, r_i2l c_M_board_29, r_cl c_M_board_30, r_cl c_M_board_31, r_ca3 c_M_board_34, r_ifne c_M_board_37, r_ci c_M_board_40, r_iret c_M_board_42, ↓reduceIte, hs_h, Option.bind_some, mfix_i, mfix_r, mfix_n, mfix_a, Option.toList_some, Option.toList_none, List.cons_append, List.nil_append, List.singleton_append, mwt, Value.category, Nat.reduceAdd, Nat.reduceLeDiff, true_and, and_true, and_self, mn2 hE, n1.1, p1, p2, if_false, M_within_k (y := 0) (w := 5) (y' := 0) (w' := 5) (by decide) (by decide), h2, if_true]
    rcases wi01 (x := w) (y := 0) (w := 9999) with h3 | h3
    · refine op_v h (-1000000001) (fun d => ?_) (fun d => ?_)
      · simp only [ment, mfl, List.length, List.replicate, List.cons_append, List.nil_append, Nat.reduceAdd, Nat.reduceSub]; simp only [r_ci c_X_board_0, r_al0 c_X_board_1, r_an0 c_X_board_1, r_gfSr c_X_board_2 o9 rfl, r_gfSr c_X_board_5 o0 rfl, r_gfR3 c_X_board_8 (w_1 hE hb), r_gfR3 c_X_board_8 (w_3 hE hb), r_gfR3 c_X_board_8 (w_5 hE hb), r_gfR3 c_X_board_8 (w_7 hE hb), r_gfR3 c_X_board_8 (w_9 hE hb), r_gfR3 c_X_board_8 (w_11 hE hb), r_gfR3 c_X_board_8 (w_14 hE hb), r_gfR3 c_X_board_8 (w_16 hE hb), r_gfR3 c_X_board_8 (w_18 hE hb), r_gfR3 c_X_board_8 (w_20 hE hb), r_ishl c_X_board_11, r_ci c_X_board_12, r_isub c_X_board_13, r_is4 c_X_board_14, r_il1 c_X_board_16, r_il4 c_X_board_17, r_ci c_X_board_19, r_ixor c_X_board_20, r_iand c_X_board_21, r_ifne c_X_board_22, r_il2 c_X_board_25, r_ci c_X_board_26, r_ci c_X_board_27, r_ca3 c_X_board_28, r_ifeq c_X_board_31, r_il3 c_X_board_34, r_ci c_X_board_35, r_ci c_X_board_36, r_ca3 c_X_board_39, r_ifne c_X_board_42, r_ci c_X_board_45, r_iret c_X_board_47, r_al0 c_X_board_48, r_an0 c_X_board_48, r_gfSr c_X_board_49 o9 rfl, r_il1 c_X_board_52, r_il2 c_X_board_53, r_il3 c_X_board_54, r_cv4 c_X_board_55, r_iret c_X_board_58, ↓reduceIte, hs_h, Option.bind_some, mfix_i, mfix_r, mfix_n, mfix_a, Option.toList_some, Option.toList_none, List.cons_append, List.nil_append, List.singleton_append, mwt, Value.category, Nat.reduceAdd, Nat.reduceLeDiff, true_and, and_true, and_self, g1.1, hm, if_true, X_within_ok, h2, one_nz, if_false, h3]
      · simp only [ment, mfl, List.length, List.replicate, List.cons_append, List.nil_append, Nat.reduceAdd, Nat.reduceSub]; simp only [r_il1 c_M_board_0, r_iflt c_M_board_1, r_il1 c_M_board_4, r_ci c_M_board_5, r_al0 c_M_board_6, r_gfSr c_M_board_7 o10 rfl, r_ci c_M_board_10, r_ial c_M_board_11, r_ishl c_M_board_12, r_icge c_M_board_13, r_il2 c_M_board_16, r_i2l c_M_board_17, r_cl c_M_board_18, r_cl c_M_board_19, r_ca3 c_M_board_22, r_ifeq c_M_board_25, r_il3 c_M_board_28, r_i2l c_M_board_29, r_cl c_M_board_30, r_cl c_M_board_31, r_ca3 c_M_board_34, r_ifne c_M_board_37, r_ci c_M_board_40, r_iret c_M_board_42, ↓reduceIte, hs_h, Option.bind_some, mfix_i, mfix_r, mfix_n, mfix_a, Option.toList_some, Option.toList_none, List.cons_append, List.nil_append, List.singleton_append, mwt, Value.category, Nat.reduceAdd, Nat.reduceLeDiff, true_and, and_true, and_self, mn2 hE, n1.1, p1, p2, if_false, M_within_k (y := 0) (w := 5) (y' := 0) (w' := 5) (by decide) (by decide), h2, one_nz, M_within_k (y := 0) (w := 9999) (y' := 0) (w' := 9999) (by decide) (by decide), h3, if_true]
    · have ebo := bo_eq (pe := c) (pr := v) (dy := w) (rl_mem hR).2 n5.2 (by have := (rl_mem hR).1; omega)
      have rb := fun d => M_boardFor_ok (d := d) (S := S) (pe := c) (pr := v) (dy := w) hE n5.1 n5.2
      rw [ebo] at rb
      have hbd : bdp (boS (iA S (b + 6)) (z 5) (mfS (iA S (b + 6)) (z 5) c v w)) := boS_p n5.2
      refine op_v h (boS (iA S (b + 6)) (z 5) (mfS (iA S (b + 6)) (z 5) c v w)) (fun d => ?_) (fun d => ?_)
      · simp only [ment, mfl, List.length, List.replicate, List.cons_append, List.nil_append, Nat.reduceAdd, Nat.reduceSub]; simp only [r_ci c_X_board_0, r_al0 c_X_board_1, r_an0 c_X_board_1, r_gfSr c_X_board_2 o9 rfl, r_gfSr c_X_board_5 o0 rfl, r_gfR3 c_X_board_8 (w_1 hE hb), r_gfR3 c_X_board_8 (w_3 hE hb), r_gfR3 c_X_board_8 (w_5 hE hb), r_gfR3 c_X_board_8 (w_7 hE hb), r_gfR3 c_X_board_8 (w_9 hE hb), r_gfR3 c_X_board_8 (w_11 hE hb), r_gfR3 c_X_board_8 (w_14 hE hb), r_gfR3 c_X_board_8 (w_16 hE hb), r_gfR3 c_X_board_8 (w_18 hE hb), r_gfR3 c_X_board_8 (w_20 hE hb), r_ishl c_X_board_11, r_ci c_X_board_12, r_isub c_X_board_13, r_is4 c_X_board_14, r_il1 c_X_board_16, r_il4 c_X_board_17, r_ci c_X_board_19, r_ixor c_X_board_20, r_iand c_X_board_21, r_ifne c_X_board_22, r_il2 c_X_board_25, r_ci c_X_board_26, r_ci c_X_board_27, r_ca3 c_X_board_28, r_ifeq c_X_board_31, r_il3 c_X_board_34, r_ci c_X_board_35, r_ci c_X_board_36, r_ca3 c_X_board_39, r_ifne c_X_board_42, r_ci c_X_board_45, r_iret c_X_board_47, r_al0 c_X_board_48, r_an0 c_X_board_48, r_gfSr c_X_board_49 o9 rfl, r_il1 c_X_board_52, r_il2 c_X_board_53, r_il3 c_X_board_54, r_cv4 c_X_board_55, r_iret c_X_board_58, ↓reduceIte, hs_h, Option.bind_some, mfix_i, mfix_r, mfix_n, mfix_a, Option.toList_some, Option.toList_none, List.cons_append, List.nil_append, List.singleton_append, mwt, Value.category, Nat.reduceAdd, Nat.reduceLeDiff, true_and, and_true, and_self, m0, g1.1, hm, if_true, X_within_ok, h2, one_nz, if_false, h3, B_boardFor_ok hE hb g5.1 g5.2]
      · by_cases qn : boS (iA S (b + 6)) (z 5) (mfS (iA S (b + 6)) (z 5) c v w) = -1000000005
        · rw [if_pos qn] at rb
          rw [qn]
          simp only [ment, mfl, List.length, List.replicate, List.cons_append, List.nil_append, Nat.reduceAdd, Nat.reduceSub]; simp only [r_il1 c_M_board_0, r_iflt c_M_board_1, r_il1 c_M_board_4, r_ci c_M_board_5, r_al0 c_M_board_6, r_gfSr c_M_board_7 o10 rfl, r_ci c_M_board_10, r_ial c_M_board_11, r_ishl c_M_board_12, r_icge c_M_board_13, r_il2 c_M_board_16, r_i2l c_M_board_17, r_cl c_M_board_18, r_cl c_M_board_19, r_ca3 c_M_board_22, r_ifeq c_M_board_25, r_il3 c_M_board_28, r_i2l c_M_board_29, r_cl c_M_board_30, r_cl c_M_board_31, r_ca3 c_M_board_34, r_ifne c_M_board_37, r_ci c_M_board_40, r_iret c_M_board_42, r_al0 c_M_board_43, r_il1 c_M_board_44, r_il2 c_M_board_45, r_il3 c_M_board_46, r_cv4 c_M_board_47, r_is4 c_M_board_50, r_il4 c_M_board_52, r_ifge c_M_board_54, r_ci c_M_board_57, r_goto c_M_board_59, r_il4 c_M_board_62, r_iret c_M_board_64, ↓reduceIte, hs_h, Option.bind_some, mfix_i, mfix_r, mfix_n, mfix_a, Option.toList_some, Option.toList_none, List.cons_append, List.nil_append, List.singleton_append, mwt, Value.category, Nat.reduceAdd, Nat.reduceLeDiff, true_and, and_true, and_self, m10, mn2 hE, n1.1, p1, p2, if_false, M_within_k (y := 0) (w := 5) (y' := 0) (w' := 5) (by decide) (by decide), h2, one_nz, M_within_k (y := 0) (w := 9999) (y' := 0) (w' := 9999) (by decide) (by decide), h3, rb, show ((0 : Int32) ≤ -1) = False from eq_false (by decide)]
        · have nn : 0 ≤ boS (iA S (b + 6)) (z 5) (mfS (iA S (b + 6)) (z 5) c v w) := by
            obtain ⟨x, y, w, hx, hy, hw, e⟩ := hbd.resolve_left qn
            rw [e]; exact Int32.not_lt.1 (nI_pos (by omega))
          rw [if_neg qn] at rb
          simp only [ment, mfl, List.length, List.replicate, List.cons_append, List.nil_append, Nat.reduceAdd, Nat.reduceSub]; simp only [r_il1 c_M_board_0, r_iflt c_M_board_1, r_il1 c_M_board_4, r_ci c_M_board_5, r_al0 c_M_board_6, r_gfSr c_M_board_7 o10 rfl, r_ci c_M_board_10, r_ial c_M_board_11, r_ishl c_M_board_12, r_icge c_M_board_13, r_il2 c_M_board_16, r_i2l c_M_board_17, r_cl c_M_board_18, r_cl c_M_board_19, r_ca3 c_M_board_22, r_ifeq c_M_board_25, r_il3 c_M_board_28, r_i2l c_M_board_29, r_cl c_M_board_30, r_cl c_M_board_31, r_ca3 c_M_board_34, r_ifne c_M_board_37, r_ci c_M_board_40, r_iret c_M_board_42, r_al0 c_M_board_43, r_il1 c_M_board_44, r_il2 c_M_board_45, r_il3 c_M_board_46, r_cv4 c_M_board_47, r_is4 c_M_board_50, r_il4 c_M_board_52, r_ifge c_M_board_54, r_ci c_M_board_57, r_goto c_M_board_59, r_il4 c_M_board_62, r_iret c_M_board_64, ↓reduceIte, hs_h, Option.bind_some, mfix_i, mfix_r, mfix_n, mfix_a, Option.toList_some, Option.toList_none, List.cons_append, List.nil_append, List.singleton_append, mwt, Value.category, Nat.reduceAdd, Nat.reduceLeDiff, true_and, and_true, and_self, m10, mn2 hE, n1.1, p1, p2, if_false, M_within_k (y := 0) (w := 5) (y' := 0) (w' := 5) (by decide) (by decide), h2, one_nz, M_within_k (y := 0) (w := 9999) (y' := 0) (w' := 9999) (by decide) (by decide), h3, rb, nn, if_true]
  · refine op_v h (-1000000001) (fun d => ?_) (fun d => ?_)
    · simp only [ment, mfl, List.length, List.replicate, List.cons_append, List.nil_append, Nat.reduceAdd, Nat.reduceSub]; simp only [r_ci c_X_board_0, r_al0 c_X_board_1, r_an0 c_X_board_1, r_gfSr c_X_board_2 o9 rfl, r_gfSr c_X_board_5 o0 rfl, r_gfR3 c_X_board_8 (w_1 hE hb), r_gfR3 c_X_board_8 (w_3 hE hb), r_gfR3 c_X_board_8 (w_5 hE hb), r_gfR3 c_X_board_8 (w_7 hE hb), r_gfR3 c_X_board_8 (w_9 hE hb), r_gfR3 c_X_board_8 (w_11 hE hb), r_gfR3 c_X_board_8 (w_14 hE hb), r_gfR3 c_X_board_8 (w_16 hE hb), r_gfR3 c_X_board_8 (w_18 hE hb), r_gfR3 c_X_board_8 (w_20 hE hb), r_ishl c_X_board_11, r_ci c_X_board_12, r_isub c_X_board_13, r_is4 c_X_board_14, r_il1 c_X_board_16, r_il4 c_X_board_17, r_ci c_X_board_19, r_ixor c_X_board_20, r_iand c_X_board_21, r_ifne c_X_board_22, r_il2 c_X_board_25, r_ci c_X_board_26, r_ci c_X_board_27, r_ca3 c_X_board_28, r_ifeq c_X_board_31, r_il3 c_X_board_34, r_ci c_X_board_35, r_ci c_X_board_36, r_ca3 c_X_board_39, r_ifne c_X_board_42, r_ci c_X_board_45, r_iret c_X_board_47, r_al0 c_X_board_48, r_an0 c_X_board_48, r_gfSr c_X_board_49 o9 rfl, r_il1 c_X_board_52, r_il2 c_X_board_53, r_il3 c_X_board_54, r_cv4 c_X_board_55, r_iret c_X_board_58, ↓reduceIte, hs_h, Option.bind_some, mfix_i, mfix_r, mfix_n, mfix_a, Option.toList_some, Option.toList_none, List.cons_append, List.nil_append, List.singleton_append, mwt, Value.category, Nat.reduceAdd, Nat.reduceLeDiff, true_and, and_true, and_self, g1.1, hm, if_false]
    · rcases msk_n n1.2 hm with e | e
      · simp only [ment, mfl, List.length, List.replicate, List.cons_append, List.nil_append, Nat.reduceAdd, Nat.reduceSub]; simp only [r_il1 c_M_board_0, r_iflt c_M_board_1, r_il1 c_M_board_4, r_ci c_M_board_5, r_al0 c_M_board_6, r_gfSr c_M_board_7 o10 rfl, r_ci c_M_board_10, r_ial c_M_board_11, r_ishl c_M_board_12, r_icge c_M_board_13, r_il2 c_M_board_16, r_i2l c_M_board_17, r_cl c_M_board_18, r_cl c_M_board_19, r_ca3 c_M_board_22, r_ifeq c_M_board_25, r_il3 c_M_board_28, r_i2l c_M_board_29, r_cl c_M_board_30, r_cl c_M_board_31, r_ca3 c_M_board_34, r_ifne c_M_board_37, r_ci c_M_board_40, r_iret c_M_board_42, ↓reduceIte, hs_h, Option.bind_some, mfix_i, mfix_r, mfix_n, mfix_a, Option.toList_some, Option.toList_none, List.cons_append, List.nil_append, List.singleton_append, mwt, Value.category, Nat.reduceAdd, Nat.reduceLeDiff, true_and, and_true, and_self, e, if_true]
      · by_cases e0 : c < 0
        · simp only [ment, mfl, List.length, List.replicate, List.cons_append, List.nil_append, Nat.reduceAdd, Nat.reduceSub]; simp only [r_il1 c_M_board_0, r_iflt c_M_board_1, r_il1 c_M_board_4, r_ci c_M_board_5, r_al0 c_M_board_6, r_gfSr c_M_board_7 o10 rfl, r_ci c_M_board_10, r_ial c_M_board_11, r_ishl c_M_board_12, r_icge c_M_board_13, r_il2 c_M_board_16, r_i2l c_M_board_17, r_cl c_M_board_18, r_cl c_M_board_19, r_ca3 c_M_board_22, r_ifeq c_M_board_25, r_il3 c_M_board_28, r_i2l c_M_board_29, r_cl c_M_board_30, r_cl c_M_board_31, r_ca3 c_M_board_34, r_ifne c_M_board_37, r_ci c_M_board_40, r_iret c_M_board_42, ↓reduceIte, hs_h, Option.bind_some, mfix_i, mfix_r, mfix_n, mfix_a, Option.toList_some, Option.toList_none, List.cons_append, List.nil_append, List.singleton_append, mwt, Value.category, Nat.reduceAdd, Nat.reduceLeDiff, true_and, and_true, and_self, e0, if_true]
        · simp only [ment, mfl, List.length, List.replicate, List.cons_append, List.nil_append, Nat.reduceAdd, Nat.reduceSub]; simp only [r_il1 c_M_board_0, r_iflt c_M_board_1, r_il1 c_M_board_4, r_ci c_M_board_5, r_al0 c_M_board_6, r_gfSr c_M_board_7 o10 rfl, r_ci c_M_board_10, r_ial c_M_board_11, r_ishl c_M_board_12, r_icge c_M_board_13, r_il2 c_M_board_16, r_i2l c_M_board_17, r_cl c_M_board_18, r_cl c_M_board_19, r_ca3 c_M_board_22, r_ifeq c_M_board_25, r_il3 c_M_board_28, r_i2l c_M_board_29, r_cl c_M_board_30, r_cl c_M_board_31, r_ca3 c_M_board_34, r_ifne c_M_board_37, r_ci c_M_board_40, r_iret c_M_board_42, ↓reduceIte, hs_h, Option.bind_some, mfix_i, mfix_r, mfix_n, mfix_a, Option.toList_some, Option.toList_none, List.cons_append, List.nil_append, List.singleton_append, mwt, Value.category, Nat.reduceAdd, Nat.reduceLeDiff, true_and, and_true, and_self, mn2 hE, n1.1, e0, e, if_false, if_true]
end BOARDQ
