/-! the tape; a reader's state -/
section TAPE
variable {E : EE} {S : SS} {d n p j : Nat} {T : Nat → Nat} {c v x : Int32} {g : Nat → Int32}
theorem hp_r (hE : okE E) {o : Nat} (ho : o < 30) : hp E S (79 + o) = shR o (S (79 + o)) := by
  rw [hp_lo hE (by omega), shp, if_neg (by omega), if_neg (by omega), if_neg (by omega), if_neg (by omega), if_pos (by omega), show 79 + o - 79 = o by omega]
theorem o_P (hE : okE E) : isO E 79 5 [82, 0] := ⟨fun S => hp_r (o := 0) hE (by omega), by have := hE.1; omega⟩
theorem o_D (hE : okE E) : isO E 81 7 [81, 84, 0, 0, 0, 0, 0, 0, 0] := ⟨fun S => hp_r (o := 2) hE (by omega), by have := hE.1; omega⟩
theorem i_D (hE : okE E) : isI E 82 96 := ⟨fun S => hp_r (o := 3) hE (by omega), by have := hE.1; omega⟩
def isY (E : EE) (a len : Nat) : Prop := (∀ S : SS, hp E S a = shI 1 len (S a)) ∧ a < E.1
theorem y_P (hE : okE E) : isY E 80 96 := ⟨fun S => hp_r (o := 1) hE (by omega), by have := hE.1; omega⟩
theorem mlen_Y {a len : Nat} (h : isY E a len) : mlen (hp E S a) = some len := by rw [h.1 S]; rfl
theorem mia_Y {a len : Nat} (h : isY E a len) (hj : j < len) (hl : len ≤ 10000) : mia (hp E S a) 1 11 (nI j) = some (iA S a j) := by
  rw [h.1 S, shI, mia, if_pos ⟨Or.inl rfl, nI_in hj (by omega)⟩, nI_clamp (by omega)]
theorem mis_Y {a len : Nat} (h : isY E a len) (hj : j < len) (hl : len ≤ 10000) : mis (hp E S a) 1 (nI j) x = some (.inl (1, len, .inl (upd (iA S a) j x))) := by
  rw [h.1 S, shI, mis, if_pos ⟨rfl, nI_in hj (by omega)⟩, nI_clamp (by omega)]
theorem hs_Y {a len : Nat} (h : isY E a len) : mset (hs E S) a (.inl (1, len, .inl g)) = hs E (sA S a g) := by
  refine hs_set h.2 ?_
  rw [h.1, va_up, if_pos rfl]
  rfl
theorem P_hasRoom_ok (hE : okE E) (hn : iF S 79 1 = nI n) (hn2 : n ≤ 96) : mres cT 98 d 0 (ment 1 [.ref 79]) [] (hs E S) = some (some (.int (if n ≤ 84 then 1 else 0)), hs E S) := by
  have o5 := o_P hE
  have e : nI n + 12 = nI (n + 12) := nI_add n 12
  simp only [ment, mfl, List.length, List.replicate, List.cons_append, List.nil_append, Nat.reduceAdd, Nat.reduceSub]
  by_cases h : n ≤ 84
  · have h1 : ¬ (96 : Int32) < nI (n + 12) := nI_nlt (b := n + 12) (a := 96) (by omega) (by omega)
    simp only [r_al0 c_P_hasRoom_0, r_gfS0 c_P_hasRoom_1 o5 rfl, r_ci c_P_hasRoom_4, r_iadd c_P_hasRoom_6, r_ci c_P_hasRoom_7, r_icgt c_P_hasRoom_9, r_ci c_P_hasRoom_12, r_goto c_P_hasRoom_13, r_ci c_P_hasRoom_16, r_zret c_P_hasRoom_17, ↓reduceIte, hs_h, Option.bind_some, mfix_i, mfix_r, mfix_n, mfix_a, Option.toList_some, Option.toList_none, List.cons_append, List.nil_append, List.singleton_append, hn, e, h1, h, if_true, if_false, mz1]
  · have h1 : (96 : Int32) < nI (n + 12) := nI_lt (a := 96) (by omega) (by omega)
    simp only [r_al0 c_P_hasRoom_0, r_gfS0 c_P_hasRoom_1 o5 rfl, r_ci c_P_hasRoom_4, r_iadd c_P_hasRoom_6, r_ci c_P_hasRoom_7, r_icgt c_P_hasRoom_9, r_ci c_P_hasRoom_12, r_goto c_P_hasRoom_13, r_ci c_P_hasRoom_16, r_zret c_P_hasRoom_17, ↓reduceIte, hs_h, Option.bind_some, mfix_i, mfix_r, mfix_n, mfix_a, Option.toList_some, Option.toList_none, List.cons_append, List.nil_append, List.singleton_append, hn, e, h1, h, if_true, if_false, mz0]
/-- one byte more -/
def tpA (S : SS) (n : Nat) (x : Int32) : SS := sF (sA S 80 (upd (iA S 80) n x.toInt8.toInt32)) 79 1 (nI (n + 1))
theorem P_append_ok (hE : okE E) (hn : iF S 79 1 = nI n) (hn2 : n + 4 ≤ 96) : mres cT 99 d 0 (ment 3 [.ref 79, .int x]) [] (hs E S) = some (none, hs E (tpA (tpA (tpA (tpA S n (x >>> ((24 : Int32) &&& 31))) (n + 1) (x >>> ((16 : Int32) &&& 31))) (n + 2) (x >>> ((8 : Int32) &&& 31))) (n + 3) (x >>> ((0 : Int32) &&& 31)))) := by
  have o5 := o_P hE
  have st : ∀ (S : SS) (k : Nat) (s : Int32), iF S 79 1 = nI k → k < 96 → ¬ s < 0 → mres cT 99 d 3 [.ref 79, .int x, .int s] [] (hs E S) = mres cT 99 d 3 [.ref 79, .int x, .int (s + -8)] [] (hs E (tpA S k (x >>> (s &&& 31)))) := by
    intro S k s hk hk2 hs0
    have h1 : ¬ nI k < 0 := nI_pos (by omega)
    have h2 : nI k < nI 96 := nI_lt hk2 (by omega)
    have e0 : ∀ g, iF (sA S 80 g) 79 1 = nI k := fun g => by rw [iF_sA]; exact hk
    have hid : ∀ z : Int32, z.toInt8.toInt32.toInt8.toInt32 = z.toInt8.toInt32 := fun z => by simp
    generalize hR : mres cT 99 d 3 [.ref 79, .int x, .int (s + -8)] [] (hs E (tpA S k (x >>> (s &&& 31)))) = R
    simp only [r_il2 c_P_append_3, r_iflt c_P_append_4, ↓reduceIte, hs_h, Option.bind_some, mfix_i, mfix_r, mfix_n, mfix_a, Option.toList_some, Option.toList_none, List.cons_append, List.nil_append, List.singleton_append, hs0, if_false]
    simp only [r_al0 c_P_append_7, r_gfS0 c_P_append_8 o5 rfl, r_iflt c_P_append_11, r_al0 c_P_append_14, r_gfS0 c_P_append_15 o5 rfl, r_al0 c_P_append_18, r_gfSr c_P_append_19 o5 rfl, r_len c_P_append_22, r_iclt c_P_append_23, r_vret c_P_append_26, r_al0 c_P_append_27, r_gfSr c_P_append_28 o5 rfl, r_al0 c_P_append_31, r_gfS0 c_P_append_32 o5 rfl, r_il1 c_P_append_35, r_il2 c_P_append_36, r_ishr c_P_append_37, r_i2b c_P_append_38, r_bas c_P_append_39, r_al0 c_P_append_40, r_dupi c_P_append_41, r_dupr c_P_append_41, r_gfS0 c_P_append_42 o5 rfl, r_ci c_P_append_45, r_iadd c_P_append_46, r_pfS c_P_append_47 o5 rfl, r_inc2 c_P_append_50, ↓reduceIte, hs_h, Option.bind_some, mfix_i, mfix_r, mfix_n, mfix_a, Option.toList_some, Option.toList_none, List.cons_append, List.nil_append, List.singleton_append, hk, h1, h2, if_true, if_false, mlen_Y (y_P hE), mis_Y (y_P hE) hk2 (by decide), hs_Y (y_P hE), e0, nI_1, hid]
    simp only [r_goto c_P_append_53]
    exact hR
  have en : ∀ S : SS, mres cT 99 d 3 [.ref 79, .int x, .int (-8)] [] (hs E S) = some (none, hs E S) := fun S => by
    simp only [r_il2 c_P_append_3, r_iflt c_P_append_4, ↓reduceIte, hs_h, Option.bind_some, mfix_i, mfix_r, mfix_n, mfix_a, Option.toList_some, Option.toList_none, List.cons_append, List.nil_append, List.singleton_append, show ((-8 : Int32) < 0) = True from eq_true (by decide), if_true, r_vret c_P_append_56]
  have f : ∀ (S : SS) k y, iF (tpA S k y) 79 1 = nI (k + 1) := fun S k y => by rw [tpA, iF_sF]
  simp only [ment, mfl, List.length, List.replicate, List.cons_append, List.nil_append, Nat.reduceAdd, Nat.reduceSub]
  simp only [r_ci c_P_append_0, r_is2 c_P_append_2, ↓reduceIte, hs_h, Option.bind_some, mfix_i, mfix_r, mfix_n, mfix_a, Option.toList_some, Option.toList_none, List.cons_append, List.nil_append, List.singleton_append]
  rw [st S n 24 hn (by omega) (by decide), show (24 : Int32) + -8 = 16 by decide, st _ (n + 1) 16 (f _ _ _) (by omega) (by decide), show (16 : Int32) + -8 = 8 by decide, st _ (n + 2) 8 (f _ _ _) (by omega) (by decide), show (8 : Int32) + -8 = 0 by decide, st _ (n + 3) 0 (f _ _ _) (by omega) (by decide), show (0 : Int32) + -8 = -8 by decide, en]
/-- the tape holds the bytes T -/
def tpS (S : SS) (n : Nat) (T : Nat → Nat) : Prop := iF S 79 1 = nI n ∧ n ≤ 96 ∧ ∀ j, j < n → iA S 80 j &&& 255 = nI (T j) ∧ T j < 256
def btN (n : Nat) (T : Nat → Nat) (p : Nat) : Int32 := if p < n then nI (T p) else -1
theorem P_byteAt_ok (hE : okE E) (hT : tpS S n T) (hp2 : p < 2 ^ 31) : mres cT 105 d 0 (ment 2 [.ref 79, .int (nI p)]) [] (hs E S) = some (some (.int (btN n T p)), hs E S) := by
  have o5 := o_P hE
  have h1 : ¬ nI p < 0 := nI_pos hp2
  obtain ⟨hn, hn2, hT⟩ := hT
  simp only [ment, mfl, List.length, List.replicate, List.cons_append, List.nil_append, Nat.reduceAdd, Nat.reduceSub, btN]
  by_cases h : p < n
  · have h2 : ¬ nI n ≤ nI p := nI_ge h (by omega)
    have h3 : nI p < nI 96 := nI_lt (by omega) (by omega)
    simp only [r_il1 c_P_byteAt_0, r_iflt c_P_byteAt_1, r_il1 c_P_byteAt_4, r_al0 c_P_byteAt_5, r_gfS0 c_P_byteAt_6 o5 rfl, r_icge c_P_byteAt_9, r_il1 c_P_byteAt_12, r_al0 c_P_byteAt_13, r_gfSr c_P_byteAt_14 o5 rfl, r_len c_P_byteAt_17, r_iclt c_P_byteAt_18, r_ci c_P_byteAt_21, r_iret c_P_byteAt_22, r_al0 c_P_byteAt_23, r_gfSr c_P_byteAt_24 o5 rfl, r_il1 c_P_byteAt_27, r_bal c_P_byteAt_28, r_ci c_P_byteAt_29, r_iand c_P_byteAt_32, r_iret c_P_byteAt_33, ↓reduceIte, hs_h, Option.bind_some, mfix_i, mfix_r, mfix_n, mfix_a, Option.toList_some, Option.toList_none, List.cons_append, List.nil_append, List.singleton_append, hn, h1, h2, h3, h, if_true, if_false, mlen_Y (y_P hE), mia_Y (y_P hE) (show p < 96 by omega) (by decide), (hT p h).1]
  · have h2 : nI n ≤ nI p := nI_le (by omega) hp2
    simp only [r_il1 c_P_byteAt_0, r_iflt c_P_byteAt_1, r_il1 c_P_byteAt_4, r_al0 c_P_byteAt_5, r_gfS0 c_P_byteAt_6 o5 rfl, r_icge c_P_byteAt_9, r_il1 c_P_byteAt_12, r_al0 c_P_byteAt_13, r_gfSr c_P_byteAt_14 o5 rfl, r_len c_P_byteAt_17, r_iclt c_P_byteAt_18, r_ci c_P_byteAt_21, r_iret c_P_byteAt_22, r_al0 c_P_byteAt_23, r_gfSr c_P_byteAt_24 o5 rfl, r_il1 c_P_byteAt_27, r_bal c_P_byteAt_28, r_ci c_P_byteAt_29, r_iand c_P_byteAt_32, r_iret c_P_byteAt_33, ↓reduceIte, hs_h, Option.bind_some, mfix_i, mfix_r, mfix_n, mfix_a, Option.toList_some, Option.toList_none, List.cons_append, List.nil_append, List.singleton_append, hn, h1, h2, h, if_true, if_false]
end TAPE
