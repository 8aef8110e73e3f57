/-! the books: a list put off, a list heard -/
section LISTS
variable {E : EE} {S S1 : SS} {b : Nat} {c : Int32} {hc z t : Nat → Nat}
def paG (b : Nat) (z t hc : Nat → Nat) (c : Int32) (i : Nat) (S : SS) : SS := if c >>> (nI i &&& 31) &&& 1 = 1 then poS S b z t i (hc i) 4 else S
theorem B_putAllOff_ok (hE : okE E) (hb : bkb b) (hz : okB E S b z t) (hH : hcs S b (z 7) hc) (h : eqS b S S1) : ∃ S2, eqS b (rfor (paG b z t hc c) 0 (z 7) S) S2 ∧ ∀ d, mres cT 213 d 0 (ment 3 [.ref b, .int c]) [] (hs E S1) = some (none, hs E S2) := by
  have o0 := o_B hE hb
  have m0 : ∀ S, misc (hp E S b) 0 = true := fun S => misc_o o0
  have lp : ∀ m i S S1, okB E S b z t → hcs S b (z 7) hc → eqS b S S1 → i + m = z 7 → ∃ S2, eqS b (rfor (paG b z t hc c) i m S) S2 ∧ ∀ d, mres cT 213 d 2 [.ref b, .int c, .int (nI i)] [] (hs E S1) = some (none, hs E S2) := by
    intro m
    induction m with
    | zero =>
      intro i S S1 hz hH h hi
      obtain ⟨-, -, -, g7, -⟩ := okB_eq hb h hz
      have h1 : nI (z 7) ≤ nI i := nI_le (by omega) (by omega)
      refine ⟨S1, h, fun d => ?_⟩
      simp only [r_il2 c_B_putAllOff_2, r_al0 c_B_putAllOff_3, r_gfSr c_B_putAllOff_4 o0 rfl, r_gfR3 c_B_putAllOff_7 (w_1 hE hb), r_gfR3 c_B_putAllOff_7 (w_3 hE hb), r_gfR3 c_B_putAllOff_7 (w_5 hE hb), r_gfR3 c_B_putAllOff_7 (w_7 hE hb), r_gfR3 c_B_putAllOff_7 (w_9 hE hb), r_gfR3 c_B_putAllOff_7 (w_11 hE hb), r_gfR3 c_B_putAllOff_7 (w_14 hE hb), r_gfR3 c_B_putAllOff_7 (w_16 hE hb), r_gfR3 c_B_putAllOff_7 (w_18 hE hb), r_gfR3 c_B_putAllOff_7 (w_20 hE hb), r_icge c_B_putAllOff_10, r_vret c_B_putAllOff_34, ↓reduceIte, hs_h, Option.bind_some, mfix_i, mfix_r, mfix_n, mfix_a, Option.toList_some, Option.toList_none, List.cons_append, List.nil_append, List.singleton_append, g7.1, h1, if_true]
    | succ m ih =>
      intro i S S1 hz hH h hi
      obtain ⟨-, -, -, g7, -⟩ := okB_eq hb h hz
      have h1 : ¬ nI (z 7) ≤ nI i := nI_ge (by omega) (by omega)
      rw [rfor, paG]
      simp only [r_il2 c_B_putAllOff_2, r_al0 c_B_putAllOff_3, r_gfSr c_B_putAllOff_4 o0 rfl, r_gfR3 c_B_putAllOff_7 (w_1 hE hb), r_gfR3 c_B_putAllOff_7 (w_3 hE hb), r_gfR3 c_B_putAllOff_7 (w_5 hE hb), r_gfR3 c_B_putAllOff_7 (w_7 hE hb), r_gfR3 c_B_putAllOff_7 (w_9 hE hb), r_gfR3 c_B_putAllOff_7 (w_11 hE hb), r_gfR3 c_B_putAllOff_7 (w_14 hE hb), r_gfR3 c_B_putAllOff_7 (w_16 hE hb), r_gfR3 c_B_putAllOff_7 (w_18 hE hb), r_gfR3 c_B_putAllOff_7 (w_20 hE hb), r_icge c_B_putAllOff_10, ↓reduceIte, hs_h, Option.bind_some, mfix_i, mfix_r, mfix_n, mfix_a, Option.toList_some, Option.toList_none, List.cons_append, List.nil_append, List.singleton_append, g7.1, h1]
      by_cases q : c >>> (nI i &&& 31) &&& 1 = 1
      · obtain ⟨S2, e2, r2⟩ := B_putOff_ok (k := i) (q := 4) hE hb hz hH (by omega) (by decide) h
        obtain ⟨S3, e3, r3⟩ := ih (i + 1) _ S2 (okB_poS hb hz) (hcs_poS hH) e2 (by omega)
        refine ⟨S3, by rw [if_pos q]; exact e3, fun d => ?_⟩
        have e4 : nI 4 = 4 := by decide
        rw [e4] at r2
        simp only [r_il1 c_B_putAllOff_13, r_il2 c_B_putAllOff_14, r_ishr c_B_putAllOff_15, r_ci c_B_putAllOff_16, r_iand c_B_putAllOff_17, r_ci c_B_putAllOff_18, r_icne c_B_putAllOff_19, r_al0 c_B_putAllOff_22, r_il2 c_B_putAllOff_23, r_ci c_B_putAllOff_24, r_cv3 c_B_putAllOff_25, r_inc2 c_B_putAllOff_28, r_goto c_B_putAllOff_31, ↓reduceIte, hs_h, Option.bind_some, mfix_i, mfix_r, mfix_n, mfix_a, Option.toList_some, Option.toList_none, List.cons_append, List.nil_append, List.singleton_append, mwt, Value.category, Nat.reduceAdd, Nat.reduceLeDiff, true_and, and_true, and_self, m0, q, if_true, r2, nI_1, r3]
      · obtain ⟨S3, e3, r3⟩ := ih (i + 1) S S1 hz hH h (by omega)
        refine ⟨S3, by rw [if_neg q]; exact e3, fun d => ?_⟩
        simp only [r_il1 c_B_putAllOff_13, r_il2 c_B_putAllOff_14, r_ishr c_B_putAllOff_15, r_ci c_B_putAllOff_16, r_iand c_B_putAllOff_17, r_ci c_B_putAllOff_18, r_icne c_B_putAllOff_19, r_al0 c_B_putAllOff_22, r_il2 c_B_putAllOff_23, r_ci c_B_putAllOff_24, r_cv3 c_B_putAllOff_25, r_inc2 c_B_putAllOff_28, r_goto c_B_putAllOff_31, ↓reduceIte, hs_h, Option.bind_some, mfix_i, mfix_r, mfix_n, mfix_a, Option.toList_some, Option.toList_none, List.cons_append, List.nil_append, List.singleton_append, q, if_false, nI_1, r3]
  simp only [ment, mfl, List.length, List.replicate, List.cons_append, List.nil_append, Nat.reduceAdd, Nat.reduceSub]
  simp only [r_ci c_B_putAllOff_0, r_is2 c_B_putAllOff_1, ↓reduceIte, hs_h, Option.bind_some, mfix_i, mfix_r, mfix_n, mfix_a, Option.toList_some, Option.toList_none, List.cons_append, List.nil_append, List.singleton_append]
  exact lp (z 7) 0 S S1 hz hH h (by omega)
def haG (b : Nat) (z t hc : Nat → Nat) (c : Int32) (i : Nat) (S : SS) : SS := if c >>> (nI i &&& 31) &&& 1 = 1 then hoS S b z t i (hc i) else S
theorem B_hearAll_ok (hE : okE E) (hb : bkb b) (hz : okB E S b z t) (hH : hcs S b (z 7) hc) (h : eqS b S S1) : ∃ S2, eqS b (rfor (haG b z t hc c) 0 (z 7) S) S2 ∧ ∀ d, mres cT 217 d 0 (ment 3 [.ref b, .int c]) [] (hs E S1) = some (none, hs E S2) := by
  have o0 := o_B hE hb
  have m0 : ∀ S, misc (hp E S b) 0 = true := fun S => misc_o o0
  have lp : ∀ m i S S1, okB E S b z t → hcs S b (z 7) hc → eqS b S S1 → i + m = z 7 → ∃ S2, eqS b (rfor (haG b z t hc c) i m S) S2 ∧ ∀ d, mres cT 217 d 2 [.ref b, .int c, .int (nI i)] [] (hs E S1) = some (none, hs E S2) := by
    intro m
    induction m with
    | zero =>
      intro i S S1 hz hH h hi
      obtain ⟨-, -, -, g7, -⟩ := okB_eq hb h hz
      have h1 : nI (z 7) ≤ nI i := nI_le (by omega) (by omega)
      refine ⟨S1, h, fun d => ?_⟩
      simp only [r_il2 c_B_hearAll_2, r_al0 c_B_hearAll_3, r_gfSr c_B_hearAll_4 o0 rfl, r_gfR3 c_B_hearAll_7 (w_1 hE hb), r_gfR3 c_B_hearAll_7 (w_3 hE hb), r_gfR3 c_B_hearAll_7 (w_5 hE hb), r_gfR3 c_B_hearAll_7 (w_7 hE hb), r_gfR3 c_B_hearAll_7 (w_9 hE hb), r_gfR3 c_B_hearAll_7 (w_11 hE hb), r_gfR3 c_B_hearAll_7 (w_14 hE hb), r_gfR3 c_B_hearAll_7 (w_16 hE hb), r_gfR3 c_B_hearAll_7 (w_18 hE hb), r_gfR3 c_B_hearAll_7 (w_20 hE hb), r_icge c_B_hearAll_10, r_vret c_B_hearAll_33, ↓reduceIte, hs_h, Option.bind_some, mfix_i, mfix_r, mfix_n, mfix_a, Option.toList_some, Option.toList_none, List.cons_append, List.nil_append, List.singleton_append, g7.1, h1, if_true]
    | succ m ih =>
      intro i S S1 hz hH h hi
      obtain ⟨-, -, -, g7, -⟩ := okB_eq hb h hz
      have h1 : ¬ nI (z 7) ≤ nI i := nI_ge (by omega) (by omega)
      rw [rfor, haG]
      simp only [r_il2 c_B_hearAll_2, r_al0 c_B_hearAll_3, r_gfSr c_B_hearAll_4 o0 rfl, r_gfR3 c_B_hearAll_7 (w_1 hE hb), r_gfR3 c_B_hearAll_7 (w_3 hE hb), r_gfR3 c_B_hearAll_7 (w_5 hE hb), r_gfR3 c_B_hearAll_7 (w_7 hE hb), r_gfR3 c_B_hearAll_7 (w_9 hE hb), r_gfR3 c_B_hearAll_7 (w_11 hE hb), r_gfR3 c_B_hearAll_7 (w_14 hE hb), r_gfR3 c_B_hearAll_7 (w_16 hE hb), r_gfR3 c_B_hearAll_7 (w_18 hE hb), r_gfR3 c_B_hearAll_7 (w_20 hE hb), r_icge c_B_hearAll_10, ↓reduceIte, hs_h, Option.bind_some, mfix_i, mfix_r, mfix_n, mfix_a, Option.toList_some, Option.toList_none, List.cons_append, List.nil_append, List.singleton_append, g7.1, h1]
      by_cases q : c >>> (nI i &&& 31) &&& 1 = 1
      · obtain ⟨S2, e2, r2⟩ := B_hearOne_ok (k := i) hE hb hz hH (by omega) h
        obtain ⟨S3, e3, r3⟩ := ih (i + 1) _ S2 (okB_hoS hb hz) (hcs_hoS hH) e2 (by omega)
        refine ⟨S3, by rw [if_pos q]; exact e3, fun d => ?_⟩
        simp only [r_il1 c_B_hearAll_13, r_il2 c_B_hearAll_14, r_ishr c_B_hearAll_15, r_ci c_B_hearAll_16, r_iand c_B_hearAll_17, r_ci c_B_hearAll_18, r_icne c_B_hearAll_19, r_al0 c_B_hearAll_22, r_il2 c_B_hearAll_23, r_cv2 c_B_hearAll_24, r_inc2 c_B_hearAll_27, r_goto c_B_hearAll_30, ↓reduceIte, hs_h, Option.bind_some, mfix_i, mfix_r, mfix_n, mfix_a, Option.toList_some, Option.toList_none, List.cons_append, List.nil_append, List.singleton_append, mwt, Value.category, Nat.reduceAdd, Nat.reduceLeDiff, true_and, and_true, and_self, m0, q, if_true, r2, nI_1, r3]
      · obtain ⟨S3, e3, r3⟩ := ih (i + 1) S S1 hz hH h (by omega)
        refine ⟨S3, by rw [if_neg q]; exact e3, fun d => ?_⟩
        simp only [r_il1 c_B_hearAll_13, r_il2 c_B_hearAll_14, r_ishr c_B_hearAll_15, r_ci c_B_hearAll_16, r_iand c_B_hearAll_17, r_ci c_B_hearAll_18, r_icne c_B_hearAll_19, r_al0 c_B_hearAll_22, r_il2 c_B_hearAll_23, r_cv2 c_B_hearAll_24, r_inc2 c_B_hearAll_27, r_goto c_B_hearAll_30, ↓reduceIte, hs_h, Option.bind_some, mfix_i, mfix_r, mfix_n, mfix_a, Option.toList_some, Option.toList_none, List.cons_append, List.nil_append, List.singleton_append, q, if_false, nI_1, r3]
  simp only [ment, mfl, List.length, List.replicate, List.cons_append, List.nil_append, Nat.reduceAdd, Nat.reduceSub]
  simp only [r_ci c_B_hearAll_0, r_is2 c_B_hearAll_1, ↓reduceIte, hs_h, Option.bind_some, mfix_i, mfix_r, mfix_n, mfix_a, Option.toList_some, Option.toList_none, List.cons_append, List.nil_append, List.singleton_append]
  exact lp (z 7) 0 S S1 hz hH h (by omega)
end LISTS
