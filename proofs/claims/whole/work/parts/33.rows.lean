/-! rows of ints -/
theorem mz0 : narrow .boolean (.int 0) = .int 0 := by decide
theorem mz1 : narrow .boolean (.int 1) = .int 1 := by decide
def isR (E : EE) (lim wid r : Nat) : Prop := (∀ S : SS, hp E S r = shW lim wid (r + 1) (S r) ∧ hp E S (r + 1) = shI 0 (lim * wid) (S (r + 1))) ∧ r + 1 < E.1 ∧ lim * wid ≤ 1000 ∧ 0 < wid
section ROWS
variable {E : EE} {S : SS} {d lim wid r : Nat} {row col v : Int32}
def rwOut (lim wid : Nat) (row col : Int32) : Prop := col < 0 ∨ nI wid ≤ col ∨ row * nI wid + col < 0 ∨ nI (lim * wid) ≤ row * nI wid + col
def rwAt (lim wid : Nat) (f : Nat → Int32) (row col : Int32) : Int32 :=
  if col < 0 ∨ nI wid ≤ col ∨ row * nI wid + col < 0 ∨ nI (lim * wid) ≤ row * nI wid + col then 0 else f (row * nI wid + col).toNatClampNeg
def rwPut (S : SS) (r lim wid : Nat) (row col v : Int32) : SS :=
  if col < 0 ∨ nI wid ≤ col ∨ row * nI wid + col < 0 ∨ nI (lim * wid) ≤ row * nI wid + col then S else sA S (r + 1) (upd (iA S (r + 1)) (row * nI wid + col).toNatClampNeg v)
theorem in_of {x : Int32} {n : Nat} (h0 : ¬ x < 0) (h1 : x < nI n) (hn : n ≤ 1000) : ¬ (x < 0 ∨ n ≤ x.toNatClampNeg) := by
  rintro (h | h)
  · exact h0 h
  · obtain ⟨j, hj, rfl⟩ := nI_of h0
    rw [nI_clamp hj] at h
    exact nI_nlt h hj h1
theorem R_at_ok (hR : isR E lim wid r) : mres cT 22 d 0 (ment 4 [.ref r, .int row, .int col]) [] (hs E S) = some (some (.int (rwAt lim wid (iA S (r + 1)) row col)), hs E S) := by
  obtain ⟨h1, h2⟩ := hR.1 S
  simp only [ment, mfl, List.length, List.replicate, List.cons_append, List.nil_append, Nat.reduceAdd, Nat.reduceSub]
  simp only [r_il1 c_R_at_0, r_al0 c_R_at_1, r_gf c_R_at_2, r_imul c_R_at_5, r_il2 c_R_at_6, r_iadd c_R_at_7, r_is3 c_R_at_8, r_il2 c_R_at_9, r_iflt c_R_at_10, r_il2 c_R_at_13, r_al0 c_R_at_14, r_gf c_R_at_15, r_icge c_R_at_18, r_il3 c_R_at_21, r_iflt c_R_at_22, r_il3 c_R_at_25, r_al0 c_R_at_26, r_gf c_R_at_27, r_len c_R_at_30, r_iclt c_R_at_31, r_ci c_R_at_34, r_iret c_R_at_35, r_al0 c_R_at_36, r_gf c_R_at_37, r_il3 c_R_at_40, r_ial c_R_at_41, r_iret c_R_at_42, ↓reduceIte, hs_h, Option.bind_some, mfix_i, mfix_r, mfix_n, mfix_a, Option.toList_some, Option.toList_none, List.cons_append, List.nil_append, List.singleton_append, h1, h2, shW, shI, mfld_at, mlen, List.getElem?_cons_succ, List.getElem?_cons_zero]
  unfold rwAt
  by_cases c1 : col < 0
  · simp [c1]
  by_cases c2 : nI wid ≤ col
  · simp [c1, c2]
  by_cases c3 : row * nI wid + col < 0
  · simp [c1, c2, c3]
  by_cases c4 : row * nI wid + col < nI (lim * wid)
  · have c5 : ¬ nI (lim * wid) ≤ row * nI wid + col := Int32.not_le.mpr c4
    simp only [c1, c2, c3, c4, c5, if_true, if_false, or_self]
    rw [mia, if_pos ⟨Or.inl rfl, in_of c3 c4 hR.2.2.1⟩]
    rfl
  · have c5 : nI (lim * wid) ≤ row * nI wid + col := Int32.not_lt.mp c4
    simp [c1, c2, c3, c4, c5]
theorem hs_sA (hR : isR E lim wid r) (g : Nat → Int32) : mset (hs E S) (r + 1) (.inl (0, lim * wid, .inl g)) = hs E (sA S (r + 1) g) := by
  refine hs_set hR.2.1 ?_
  rw [(hR.1 _).2, va_up, if_pos rfl]
  rfl
theorem hs_sF (hR : isR E lim wid r) (v : Int32) : mset (hs E S) r (.inr (2, [.int (nI lim), .int (nI wid), .ref (r + 1), .int v])) = hs E (sF S r 3 v) := by
  refine hs_set (Nat.lt_of_succ_lt hR.2.1) ?_
  rw [(hR.1 _).1, va_up, if_pos rfl]
  simp [shW, upd]
theorem R_put_ok (hR : isR E lim wid r) : mres cT 13 d 0 (ment 5 [.ref r, .int row, .int col, .int v]) [] (hs E S) = some (none, hs E (rwPut S r lim wid row col v)) := by
  obtain ⟨h1, h2⟩ := hR.1 S
  simp only [ment, mfl, List.length, List.replicate, List.cons_append, List.nil_append, Nat.reduceAdd, Nat.reduceSub]
  simp only [r_il1 c_R_put_0, r_al0 c_R_put_1, r_gf c_R_put_2, r_imul c_R_put_5, r_il2 c_R_put_6, r_iadd c_R_put_7, r_is4 c_R_put_8, r_il2 c_R_put_10, r_iflt c_R_put_11, r_il2 c_R_put_14, r_al0 c_R_put_15, r_gf c_R_put_16, r_icge c_R_put_19, r_il4 c_R_put_22, r_iflt c_R_put_24, r_il4 c_R_put_27, r_al0 c_R_put_29, r_gf c_R_put_30, r_len c_R_put_33, r_iclt c_R_put_34, r_vret c_R_put_37, r_al0 c_R_put_38, r_gf c_R_put_39, r_il4 c_R_put_42, r_il3 c_R_put_44, r_ias c_R_put_45, r_vret c_R_put_46, ↓reduceIte, hs_h, Option.bind_some, mfix_i, mfix_r, mfix_n, mfix_a, Option.toList_some, Option.toList_none, List.cons_append, List.nil_append, List.singleton_append, h1, h2, shW, shI, mfld_at, mlen, List.getElem?_cons_succ, List.getElem?_cons_zero]
  unfold rwPut
  by_cases c1 : col < 0
  · simp [c1]
  by_cases c2 : nI wid ≤ col
  · simp [c1, c2]
  by_cases c3 : row * nI wid + col < 0
  · simp [c1, c2, c3]
  by_cases c4 : row * nI wid + col < nI (lim * wid)
  · have c5 : ¬ nI (lim * wid) ≤ row * nI wid + col := Int32.not_le.mpr c4
    simp only [c1, c2, c3, c4, c5, if_true, if_false, or_self]
    rw [mis, if_pos ⟨rfl, in_of c3 c4 hR.2.2.1⟩, Option.bind_some, hs_sA hR]
  · have c5 : nI (lim * wid) ≤ row * nI wid + col := Int32.not_lt.mp c4
    simp [c1, c2, c3, c4, c5]
theorem R_has_ok (hR : isR E lim wid r) : mres cT 21 d 0 (ment 2 [.ref r, .int row]) [] (hs E S) = some (some (.int (if row < 0 ∨ iF S r 3 ≤ row then 0 else 1)), hs E S) := by
  obtain ⟨h1, h2⟩ := hR.1 S
  simp only [ment, mfl, List.length, List.replicate, List.cons_append, List.nil_append, Nat.reduceAdd, Nat.reduceSub]
  simp only [r_il1 c_R_has_0, r_iflt c_R_has_1, r_il1 c_R_has_4, r_al0 c_R_has_5, r_gf c_R_has_6, r_icge c_R_has_9, r_ci c_R_has_12, r_goto c_R_has_13, r_ci c_R_has_16, r_zret c_R_has_17, ↓reduceIte, hs_h, Option.bind_some, mfix_i, mfix_r, mfix_n, mfix_a, Option.toList_some, Option.toList_none, List.cons_append, List.nil_append, List.singleton_append, h1, shW, mfld_at, List.getElem?_cons_succ, List.getElem?_cons_zero, mz0, mz1]
  by_cases c1 : row < 0
  · simp [c1]
  by_cases c2 : iF S r 3 ≤ row
  · simp [c1, c2]
  · simp [c1, c2]
theorem R_isFull_ok (hR : isR E lim wid r) : mres cT 12 d 0 (ment 1 [.ref r]) [] (hs E S) = some (some (.int (if nI lim ≤ iF S r 3 then 1 else 0)), hs E S) := by
  obtain ⟨h1, h2⟩ := hR.1 S
  simp only [ment, mfl, List.length, List.replicate, List.cons_append, List.nil_append, Nat.reduceAdd, Nat.reduceSub]
  simp only [r_al0 c_R_isFull_0, r_gf c_R_isFull_1, r_al0 c_R_isFull_4, r_gf c_R_isFull_5, r_iclt c_R_isFull_8, r_ci c_R_isFull_11, r_goto c_R_isFull_12, r_ci c_R_isFull_15, r_zret c_R_isFull_16, ↓reduceIte, hs_h, Option.bind_some, mfix_i, mfix_r, mfix_n, mfix_a, Option.toList_some, Option.toList_none, List.cons_append, List.nil_append, List.singleton_append, h1, shW, mfld_at, List.getElem?_cons_succ, List.getElem?_cons_zero, mz0, mz1]
  by_cases c2 : nI lim ≤ iF S r 3
  · simp [c2]
  · simp [c2]
end ROWS
