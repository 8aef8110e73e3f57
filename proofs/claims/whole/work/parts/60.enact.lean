/-! the law: one more text -/
section ENACT
variable {E : EE} {S : SS} {d b n q j : Nat} {g : Nat → Option Nat}
theorem mqs_L (hE : okE E) (hb : bkb b) (hj : j < 16) : mqs (hp E S (b + 23)) 4 (nI j) (some q) = some (.inl (4, 16, .inr (.inr (.inr (.inr (va_up (iQ S (b + 23)) j (some q))))))) := by
  rw [hp_b hE hb (show 23 < 26 by decide), shB, shQ, mqs, if_pos ⟨rfl, nI_in hj (by omega)⟩, nI_clamp (by omega)]
theorem hs_L (hE : okE E) (hb : bkb b) : mset (hs E S) (b + 23) (.inl (4, 16, .inr (.inr (.inr (.inr g))))) = hs E (sQ S (b + 23) g) := by
  have bl := bkb_lt hb
  refine hs_set (by have := hE.1; omega) ?_
  rw [hp_b hE hb (show 23 < 26 by decide), va_up, if_pos rfl]
  rfl
theorem iF_sQ {a p i : Nat} : iF (sQ S a g) p i = iF S p i := by
  by_cases e : p = a
  · subst e
    simp only [iF, sQ, va_up, if_true]
  · simp only [iF, sQ, va_up, e, if_false]
theorem L_enact_ok (hE : okE E) (hb : bkb b) (hn : iF S (b + 22) 1 = nI n) (hn2 : n < 16) (m6 : misc (hp E S q) 6 = true) : mres cT 138 d 0 (ment 2 [.ref (b + 22), .ref q]) [] (hs E S) = some (some (.int (nI n)), hs E (sF (sQ S (b + 23) (va_up (iQ S (b + 23)) n (some q))) (b + 22) 1 (nI (n + 1)))) := by
  have o1 := o_L hE hb
  have h1 : ¬ nI n < 0 := nI_pos (by omega)
  have h2 : nI n < nI 16 := nI_lt hn2 (by omega)
  simp only [ment, mfl, List.length, List.replicate, List.cons_append, List.nil_append, Nat.reduceAdd, Nat.reduceSub]
  simp only [r_al0 c_L_enact_0, r_gfS0 c_L_enact_1 o1 rfl, r_iflt c_L_enact_4, r_al0 c_L_enact_7, r_gfS0 c_L_enact_8 o1 rfl, r_al0 c_L_enact_11, r_gfSr c_L_enact_12 o1 rfl, r_len c_L_enact_15, r_iclt c_L_enact_16, r_ci c_L_enact_19, r_iret c_L_enact_21, r_al0 c_L_enact_22, r_gfSr c_L_enact_23 o1 rfl, r_al0 c_L_enact_26, r_gfS0 c_L_enact_27 o1 rfl, r_al1 c_L_enact_30, r_aas c_L_enact_31, r_aasn c_L_enact_31, r_al0 c_L_enact_32, r_dupi c_L_enact_33, r_dupr c_L_enact_33, r_gfS0 c_L_enact_34 o1 rfl, r_ci c_L_enact_37, r_iadd c_L_enact_38, r_pfS c_L_enact_39 o1 rfl, r_al0 c_L_enact_42, r_gfS0 c_L_enact_43 o1 rfl, r_ci c_L_enact_46, r_isub c_L_enact_47, r_iret c_L_enact_48, ↓reduceIte, hs_h, Option.bind_some, mfix_i, mfix_r, mfix_n, mfix_a, Option.toList_some, Option.toList_none, List.cons_append, List.nil_append, List.singleton_append, hn, h1, h2, if_true, if_false, mlen_L hE hb, m6, mqs_L hE hb hn2, hs_L hE hb, iF_sQ, nI_1, iF_sF, nI_pm]
theorem L_enact_full (hE : okE E) (hb : bkb b) (hn : iF S (b + 22) 1 = nI 16) : mres cT 138 d 0 (ment 2 [.ref (b + 22), .ref q]) [] (hs E S) = some (some (.int (-1000000003)), hs E S) := by
  have o1 := o_L hE hb
  have h1 : ¬ nI 16 < 0 := nI_pos (by omega)
  have h2 : ¬ nI 16 < nI 16 := nI_nlt (by omega) (by omega)
  simp only [ment, mfl, List.length, List.replicate, List.cons_append, List.nil_append, Nat.reduceAdd, Nat.reduceSub]
  simp only [r_al0 c_L_enact_0, r_gfS0 c_L_enact_1 o1 rfl, r_iflt c_L_enact_4, r_al0 c_L_enact_7, r_gfS0 c_L_enact_8 o1 rfl, r_al0 c_L_enact_11, r_gfSr c_L_enact_12 o1 rfl, r_len c_L_enact_15, r_iclt c_L_enact_16, r_ci c_L_enact_19, r_iret c_L_enact_21, r_al0 c_L_enact_22, r_gfSr c_L_enact_23 o1 rfl, r_al0 c_L_enact_26, r_gfS0 c_L_enact_27 o1 rfl, r_al1 c_L_enact_30, r_aas c_L_enact_31, r_aasn c_L_enact_31, r_al0 c_L_enact_32, r_dupi c_L_enact_33, r_dupr c_L_enact_33, r_gfS0 c_L_enact_34 o1 rfl, r_ci c_L_enact_37, r_iadd c_L_enact_38, r_pfS c_L_enact_39 o1 rfl, r_al0 c_L_enact_42, r_gfS0 c_L_enact_43 o1 rfl, r_ci c_L_enact_46, r_isub c_L_enact_47, r_iret c_L_enact_48, ↓reduceIte, hs_h, Option.bind_some, mfix_i, mfix_r, mfix_n, mfix_a, Option.toList_some, Option.toList_none, List.cons_append, List.nil_append, List.singleton_append, hn, h1, h2, if_false, mlen_L hE hb]
end ENACT
