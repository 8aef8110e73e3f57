/-! sheets: which one -/
section SHAT
variable {E : EE} {S : SS} {b d k n m i j p a s q : Nat} {c v w x y l : Int32}
theorem shX_s (hE : okE E) (hs4 : s < 4) : shX E (84 + 2 * s) := by
  have := hE.1
  rcases (show s = 0 ∨ s = 1 ∨ s = 2 ∨ s = 3 by omega) with rfl | rfl | rfl | rfl
  · exact ⟨⟨fun S => hp_r (o := 5) hE (by omega), by omega⟩, ⟨fun S => hp_r (o := 6) hE (by omega), by omega⟩⟩
  · exact ⟨⟨fun S => hp_r (o := 7) hE (by omega), by omega⟩, ⟨fun S => hp_r (o := 8) hE (by omega), by omega⟩⟩
  · exact ⟨⟨fun S => hp_r (o := 9) hE (by omega), by omega⟩, ⟨fun S => hp_r (o := 10) hE (by omega), by omega⟩⟩
  · exact ⟨⟨fun S => hp_r (o := 11) hE (by omega), by omega⟩, ⟨fun S => hp_r (o := 12) hE (by omega), by omega⟩⟩
theorem M_isSheet_ok {H : mH} : mres cT 248 d 0 (ment 1 [.int c]) [] H = some (some (.int (wiS c 0 3)), H) := by
  simp only [ment, mfl, List.length, List.replicate, List.cons_append, List.nil_append, Nat.reduceAdd, Nat.reduceSub]
  simp only [r_il0 c_M_isSheet_0, r_i2l c_M_isSheet_1, r_cl c_M_isSheet_2, r_cl c_M_isSheet_3, r_ca3 c_M_isSheet_6, r_zret c_M_isSheet_9, ↓reduceIte, hs_h, Option.bind_some, mfix_i, mfix_r, mfix_n, mfix_a, Option.toList_some, Option.toList_none, List.cons_append, List.nil_append, List.singleton_append, mwt, Value.category, Nat.reduceAdd, Nat.reduceLeDiff, true_and, and_true, and_self, M_within_k (y := 0) (w := 3) (y' := 0) (w' := 3) (by decide) (by decide), mzw]
theorem mqa_H (hE : okE E) (hs4 : s < 4) : mqa (hp E S 83) 3 (nI s) = some (iQ S 83 s) := by
  rw [show hp E S 83 = shR 4 (S 83) from hp_r (o := 4) hE (by omega), shR, shQ, mqa, if_pos ⟨rfl, nI_in hs4 (by omega)⟩, nI_clamp (by omega)]
theorem mlen_H (hE : okE E) : mlen (hp E S 83) = some 4 := by
  rw [show hp E S 83 = shR 4 (S 83) from hp_r (o := 4) hE (by omega)]; rfl
theorem k4m : (nI 4 - 1 : Int32) = 3 := by decide
theorem X_sheetAt_n (hE : okE E) (h : wiS c 0 3 = 0) : mres cT 244 d 0 (ment 2 [.ref 0, .int c]) [] (hs E S) = some (some .null, hs E S) := by
  have o9 := o_X hE rfl
  simp only [ment, mfl, List.length, List.replicate, List.cons_append, List.nil_append, Nat.reduceAdd, Nat.reduceSub]
  simp only [r_il1 c_X_sheetAt_0, r_ci c_X_sheetAt_1, r_al0 c_X_sheetAt_2, r_an0 c_X_sheetAt_2, r_gfSr c_X_sheetAt_3 o9 rfl, r_len c_X_sheetAt_6, r_ci c_X_sheetAt_7, r_isub c_X_sheetAt_8, r_ca3 c_X_sheetAt_9, r_ifeq c_X_sheetAt_12, r_al0 c_X_sheetAt_15, r_an0 c_X_sheetAt_15, r_gfSr c_X_sheetAt_16 o9 rfl, r_il1 c_X_sheetAt_19, r_aal c_X_sheetAt_20, r_goto c_X_sheetAt_21, r_nul c_X_sheetAt_24, r_aret c_X_sheetAt_25, r_aretn c_X_sheetAt_25, ↓reduceIte, hs_h, Option.bind_some, mfix_i, mfix_r, mfix_n, mfix_a, Option.toList_some, Option.toList_none, List.cons_append, List.nil_append, List.singleton_append, mwt, Value.category, Nat.reduceAdd, Nat.reduceLeDiff, true_and, and_true, and_self, mlen_H hE, k4m, X_within_ok, h, if_true]
theorem X_sheetAt_ok (hE : okE E) (hs4 : s < 4) (h : wiS (nI s) 0 3 = 1) (hQ : iQ S 83 s = some a) : mres cT 244 d 0 (ment 2 [.ref 0, .int (nI s)]) [] (hs E S) = some (some (.ref a), hs E S) := by
  have o9 := o_X hE rfl
  simp only [ment, mfl, List.length, List.replicate, List.cons_append, List.nil_append, Nat.reduceAdd, Nat.reduceSub]
  simp only [r_il1 c_X_sheetAt_0, r_ci c_X_sheetAt_1, r_al0 c_X_sheetAt_2, r_an0 c_X_sheetAt_2, r_gfSr c_X_sheetAt_3 o9 rfl, r_len c_X_sheetAt_6, r_ci c_X_sheetAt_7, r_isub c_X_sheetAt_8, r_ca3 c_X_sheetAt_9, r_ifeq c_X_sheetAt_12, r_al0 c_X_sheetAt_15, r_an0 c_X_sheetAt_15, r_gfSr c_X_sheetAt_16 o9 rfl, r_il1 c_X_sheetAt_19, r_aal c_X_sheetAt_20, r_goto c_X_sheetAt_21, r_nul c_X_sheetAt_24, r_aret c_X_sheetAt_25, r_aretn c_X_sheetAt_25, ↓reduceIte, hs_h, Option.bind_some, mfix_i, mfix_r, mfix_n, mfix_a, Option.toList_some, Option.toList_none, List.cons_append, List.nil_append, List.singleton_append, mwt, Value.category, Nat.reduceAdd, Nat.reduceLeDiff, true_and, and_true, and_self, mlen_H hE, k4m, X_within_ok, h, one_nz, if_false, mqa_H hE hs4, hQ, va_rf]
end SHAT
