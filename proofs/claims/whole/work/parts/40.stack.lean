/-! arrays of ints by cells; the stack of a rule -/
def isI (E : EE) (a len : Nat) : Prop := (∀ S : SS, hp E S a = shI 0 len (S a)) ∧ a < E.1
section ARR
variable {E : EE} {S : SS} {d b a len j : Nat} {x : Int32} {e : va_E}
theorem mia_h (h : hp E S a = shI 0 len (S a)) (hj : j < len) (hl : len ≤ 10000) : mia (hp E S a) 0 10 (nI j) = some (iA S a j) := by
  rw [h, shI, mia, if_pos ⟨Or.inl rfl, nI_in hj (by omega)⟩, nI_clamp (by omega)]
theorem mia_I (h : isI E a len) (hj : j < len) (hl : len ≤ 10000) : mia (hp E S a) 0 10 (nI j) = some (iA S a j) := mia_h (h.1 S) hj hl
theorem mis_I (h : isI E a len) (hj : j < len) (hl : len ≤ 10000) : mis (hp E S a) 0 (nI j) x = some (.inl (0, len, .inl (upd (iA S a) j x))) := by
  rw [h.1 S, shI, mis, if_pos ⟨rfl, nI_in hj (by omega)⟩, nI_clamp (by omega)]
theorem mlen_h (h : hp E S a = shI 0 len (S a)) : mlen (hp E S a) = some len := by rw [h]; rfl
theorem mlen_I (h : isI E a len) : mlen (hp E S a) = some len := mlen_h (h.1 S)
theorem hs_I (h : isI E a len) {g : Nat → Int32} : mset (hs E S) a (.inl (0, len, .inl g)) = hs E (sA S a g) := by
  refine hs_set h.2 ?_
  rw [h.1, va_up, if_pos rfl]
  rfl
end ARR
section STK
variable {E : EE} {S : SS} {d b k : Nat} {g g' : Nat → Int32} {v : Int32}
theorem i_K (hE : okE E) (hb : bkb b) : isI E (b + 25) 96 := ⟨fun S => hp_b hE hb (by omega), by have := bkb_lt hb; have := hE.1; omega⟩
def stk (S : SS) (b : Nat) (g : Nat → Int32) (k : Nat) : SS := sF (sA S (b + 25) g) (b + 24) 1 (nI k)
theorem stk_a : iA (stk S b g k) (b + 25) = g := by rw [stk, iA_sF, iA_sA]
theorem stk_f : iF (stk S b g k) (b + 24) 1 = nI k := by rw [stk, iF_sF]
theorem stk_o {q : Nat} (h1 : q ≠ b + 24) (h2 : q ≠ b + 25) : stk S b g k q = S q := by
  rw [stk, sF, va_up, if_neg h1, sA, va_up, if_neg h2]
theorem stk_F {k' : Nat} : sF (stk S b g k) (b + 24) 1 (nI k') = stk S b g k' := by
  funext q
  by_cases h1 : q = b + 24
  · subst h1
    simp only [stk, sF, sA, va_up, if_true]
    refine Prod.ext ?_ rfl
    funext j
    simp only [upd]
    split <;> rfl
  · simp only [stk, sF, va_up, h1, if_false]
theorem stk_A : sA (stk S b g k) (b + 25) g' = stk S b g' k := by
  have h0 : ¬ b + 24 = b + 25 := by omega
  have h3 : ¬ b + 25 = b + 24 := by omega
  funext q
  by_cases h2 : q = b + 25
  · subst h2
    simp only [stk, sF, sA, va_up, if_true, h3, if_false]
  · by_cases h1 : q = b + 24
    · subst h1
      simp only [stk, sF, sA, va_up, if_true, h0, if_false]
    · simp only [stk, sF, sA, va_up, h1, h2, if_false]
theorem stk_0 : sF S (b + 24) 1 0 = stk S b (iA S (b + 25)) 0 := by
  have e : sA S (b + 25) (iA S (b + 25)) = S := by
    funext q
    by_cases h2 : q = b + 25
    · subst h2
      simp only [sA, va_up, if_true]
    · simp only [sA, va_up, h2, if_false]
  rw [stk, e, nI_0]
theorem K_clear_ok (hE : okE E) (hb : bkb b) : mres cT 78 d 0 (ment 1 [.ref (b + 24)]) [] (hs E S) = some (none, hs E (stk S b (iA S (b + 25)) 0)) := by
  have o4 := o_K hE hb
  simp only [ment, mfl, List.length, List.replicate, List.cons_append, List.nil_append, Nat.reduceAdd, Nat.reduceSub]
  simp only [r_al0 c_K_clear_0, r_ci c_K_clear_1, r_pfS c_K_clear_2 o4 rfl, r_vret c_K_clear_5, ↓reduceIte, hs_h, Option.bind_some, mfix_i, mfix_r, mfix_n, mfix_a, Option.toList_some, Option.toList_none, List.cons_append, List.nil_append, List.singleton_append, stk_0]
theorem K_push_ok (hE : okE E) (hb : bkb b) (hk : k < 96) : mres cT 79 d 0 (ment 2 [.ref (b + 24), .int v]) [] (hs E (stk S b g k)) = some (none, hs E (stk S b (upd g k v) (k + 1))) := by
  have o4 := o_K hE hb
  have h1 : ¬ nI k < 0 := nI_pos (by omega)
  have h2 : nI k < nI 96 := nI_lt hk (by omega)
  have hi := i_K hE hb
  simp only [ment, mfl, List.length, List.replicate, List.cons_append, List.nil_append, Nat.reduceAdd, Nat.reduceSub]
  simp only [r_al0 c_K_push_0, r_gfS0 c_K_push_1 o4 rfl, r_iflt c_K_push_4, r_al0 c_K_push_7, r_gfS0 c_K_push_8 o4 rfl, r_al0 c_K_push_11, r_gfSr c_K_push_12 o4 rfl, r_len c_K_push_15, r_iclt c_K_push_16, r_vret c_K_push_19, r_al0 c_K_push_20, r_gfSr c_K_push_21 o4 rfl, r_al0 c_K_push_24, r_gfS0 c_K_push_25 o4 rfl, r_il1 c_K_push_28, r_ias c_K_push_29, r_al0 c_K_push_30, r_dupi c_K_push_31, r_dupr c_K_push_31, r_gfS0 c_K_push_32 o4 rfl, r_ci c_K_push_35, r_iadd c_K_push_36, r_pfS c_K_push_37 o4 rfl, r_vret c_K_push_40, ↓reduceIte, hs_h, Option.bind_some, mfix_i, mfix_r, mfix_n, mfix_a, Option.toList_some, Option.toList_none, List.cons_append, List.nil_append, List.singleton_append, stk_f, stk_a, stk_A, stk_F, h1, h2, if_true, if_false, mlen_I hi, mis_I hi hk (by decide), hs_I hi, nI_1]
theorem K_pop_ok (hE : okE E) (hb : bkb b) (hk : k < 96) : mres cT 81 d 0 (ment 1 [.ref (b + 24)]) [] (hs E (stk S b g (k + 1))) = some (some (.int (g k)), hs E (stk S b g k)) := by
  have o4 := o_K hE hb
  have h1 : ¬ nI (k + 1) ≤ 0 := nI_nle (by omega) (by omega)
  have h2 : nI (k + 1) ≤ nI 96 := nI_le (by omega) (by omega)
  have hi := i_K hE hb
  simp only [ment, mfl, List.length, List.replicate, List.cons_append, List.nil_append, Nat.reduceAdd, Nat.reduceSub]
  simp only [r_al0 c_K_pop_0, r_gfS0 c_K_pop_1 o4 rfl, r_ifle c_K_pop_4, r_al0 c_K_pop_7, r_gfS0 c_K_pop_8 o4 rfl, r_al0 c_K_pop_11, r_gfSr c_K_pop_12 o4 rfl, r_len c_K_pop_15, r_icle c_K_pop_16, r_ci c_K_pop_19, r_iret c_K_pop_20, r_al0 c_K_pop_21, r_dupi c_K_pop_22, r_dupr c_K_pop_22, r_gfS0 c_K_pop_23 o4 rfl, r_ci c_K_pop_26, r_isub c_K_pop_27, r_pfS c_K_pop_28 o4 rfl, r_al0 c_K_pop_31, r_gfSr c_K_pop_32 o4 rfl, r_al0 c_K_pop_35, r_gfS0 c_K_pop_36 o4 rfl, r_ial c_K_pop_39, r_iret c_K_pop_40, ↓reduceIte, hs_h, Option.bind_some, mfix_i, mfix_r, mfix_n, mfix_a, Option.toList_some, Option.toList_none, List.cons_append, List.nil_append, List.singleton_append, stk_f, stk_a, stk_A, stk_F, h1, h2, if_true, if_false, mlen_I hi, mia_I hi hk (by decide), nI_pm]
end STK
