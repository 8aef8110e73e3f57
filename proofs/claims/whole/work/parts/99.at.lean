/-! a sheet made anew: what holds between calls holds again -/
section SHNEW
variable {E : EE} {S : SS} {b d k n m i j p a s q : Nat} {c v w x y l : Int32}
def shN (S : SS) (s : Nat) (x y : Int32) : SS := sL (sA (sA (sbS S (84 + 2 * s) x y) 99 (upd (iA S 99) s x)) 100 (upd (iA S 100) s y)) 101 (flM (iL S 101) s 24)
theorem shN_o (hs4 : s < 4) (h1 : q ≠ 84 + 2 * s) (h2 : q ≠ 85 + 2 * s) (h3 : q ≠ 99) (h4 : q ≠ 100) (h5 : q ≠ 101) : shN S s x y q = S q := by
  rw [shN, sL, va_up, if_neg h5, sA, va_up, if_neg h4, sA, va_up, if_neg h3, sbS, sL, va_up, if_neg (by omega), sF, va_up, if_neg h1, sF, va_up, if_neg h1]
theorem InvH_new (h : InvH S) (hs4 : s < 4) (hx : x = -1 ∨ x = 0 ∨ x = 1 ∨ x = 2) (hn : n ≤ 24) (h0 : x = -1 → n = 0) : InvH (shN S s x (nI n)) := by
  have e99 : iA (shN S s x (nI n)) 99 = upd (iA S 99) s x := by rw [shN, iA_sL, iA_sA_ne (by omega), iA_sA]
  have e100 : iA (shN S s x (nI n)) 100 = upd (iA S 100) s (nI n) := by rw [shN, iA_sL, iA_sA]
  have e101 : iL (shN S s x (nI n)) 101 = flM (iL S 101) s 24 := by rw [shN, iL_sL]
  intro r hr
  obtain ⟨r1, r2, r3, r4, r5⟩ := h r hr
  have eQ : iQ (shN S s x (nI n)) 83 r = some (84 + 2 * r) := by rw [sS_Q (shN_o hs4 (by omega) (by omega) (by omega) (by omega) (by omega))]; exact r1
  rw [e99, e100, e101]
  by_cases e : r = s
  · subst e
    have f1 : iF (shN S r x (nI n)) (84 + 2 * r) 1 = x := by rw [shN, iF_sL, iF_sA, iF_sA, sbS, iF_sL, iF_sF_ne (Or.inr (by omega)), iF_sF]
    have f2 : iF (shN S r x (nI n)) (84 + 2 * r) 2 = nI n := by rw [shN, iF_sL, iF_sA, iF_sA, sbS, iF_sL, iF_sF]
    refine ⟨eQ, by rw [f1, pk_us], ⟨n, hn, f2, pk_us, by rw [pk_us]; exact h0⟩, by rw [pk_us]; exact hx, fun j hj => ?_⟩
    have f3 : shN S r x (nI n) (85 + 2 * r) = sbS S (84 + 2 * r) x (nI n) (84 + 2 * r + 1) := by
      rw [shN, sL, va_up, if_neg (by omega), sA, va_up, if_neg (by omega), sA, va_up, if_neg (by omega), show 85 + 2 * r = 84 + 2 * r + 1 by omega]
    have f4 : iL (shN S r x (nI n)) (85 + 2 * r) j = iL (sbS S (84 + 2 * r) x (nI n)) (84 + 2 * r + 1) j := by simp only [iL, f3]
    rw [f4, sbS, iL_sL, flL, if_pos hj, flM, if_pos (by omega)]
  · have g1 : shN S s x (nI n) (84 + 2 * r) = S (84 + 2 * r) := shN_o hs4 (by omega) (by omega) (by omega) (by omega) (by omega)
    have g2 : shN S s x (nI n) (85 + 2 * r) = S (85 + 2 * r) := shN_o hs4 (by omega) (by omega) (by omega) (by omega) (by omega)
    have g3 : iL (shN S s x (nI n)) (85 + 2 * r) = iL S (85 + 2 * r) := by simp only [iL, g2]
    rw [pk_un e, pk_un e, sS_F g1, sS_F g1, g3]
    refine ⟨eQ, r2, r3, r4, fun j hj => ?_⟩
    rw [flM, if_neg (by omega)]
    exact r5 j hj
theorem Inv_new (h : Inv E S) (hs4 : s < 4) (hx : x = -1 ∨ x = 0 ∨ x = 1 ∨ x = 2) (hn : n ≤ 24) (h0 : x = -1 → n = 0) : Inv E (shN S s x (nI n)) :=
  Inv_S h (fun q h1 h2 => shN_o hs4 (by omega) (by omega) (by omega) (by omega) (by omega)) (InvH_new h.2.2.2.2.2.2.1 hs4 hx hn h0)
end SHNEW
