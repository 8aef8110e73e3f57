/-! call: feed -/
section FEED
variable {E : EE} {R R' S S1 S2 V U : SS} {b d k n m i j p td B a s q : Nat} {c v w x y l : Int32} {z t hc pk : Nat → Nat} {f f' f0 f1 g g' : Nat → Int32} {fB : Nat → Int32}
theorem by8 : ∀ i : Fin 32, (Int32.toBitVec 255).getLsbD i.1 = decide (i.1 < 8) := by decide
theorem by255 (y : Int32) : y.toInt8.toInt32 &&& 255 = y &&& 255 := by
  apply Int32.toBitVec_inj.1
  simp only [Int32.toBitVec_and, Int8.toBitVec_toInt32, Int32.toBitVec_toInt8]
  ext i hi
  have h255 : (Int32.toBitVec 255)[i] = decide (i < 8) := by
    rw [← BitVec.getLsbD_eq_getElem]
    exact by8 ⟨i, hi⟩
  rw [BitVec.getElem_and, BitVec.getElem_and, h255]
  by_cases e : i < 8
  · simp only [e, decide_true, Bool.and_true]
    simp [BitVec.getElem_signExtend, e, hi]
  · simp only [e, decide_false, Bool.and_false]
theorem byM (y : Int32) : ∃ m : Nat, m < 256 ∧ y &&& 255 = nI m := by
  have h : (y &&& 255).toBitVec.toNat < 256 := by
    rw [Int32.toBitVec_and, BitVec.toNat_and]
    exact Nat.lt_of_le_of_lt Nat.and_le_right (by decide)
  refine ⟨(y &&& 255).toBitVec.toNat, h, ?_⟩
  apply Int32.toBitVec_inj.1
  apply BitVec.eq_of_toNat_eq
  generalize (y &&& 255).toBitVec.toNat = m at h
  show m = m % 2 ^ 32
  omega
def clG (n : Nat) (fB : Nat → Int32) (k : Nat) (V : SS) : SS := tpA V (n + k) (fB k)
def mlG (n : Nat) (fB : Nat → Int32) (k : Nat) (V : SS) : SS := sF (sA V 97 (upd (iA V 97) (n + k) (fB k &&& 255))) 93 5 (nI (n + k + 1))
theorem cl_all (h0 : iF S 79 1 = nI n) : ∀ m, iF (rfor (clG n fB) 0 m S) 79 1 = nI (n + m) ∧ (∀ j, iA (rfor (clG n fB) 0 m S) 80 j = if n ≤ j ∧ j < n + m then (fB (j - n)).toInt8.toInt32 else iA S 80 j) ∧ ∀ q, q ≠ 79 → q ≠ 80 → rfor (clG n fB) 0 m S q = S q := by
  intro m
  induction m with
  | zero => exact ⟨h0, fun j => by rw [if_neg (by omega)]; rfl, fun q _ _ => rfl⟩
  | succ m ih =>
    obtain ⟨i1, i2, i3⟩ := ih
    rw [rfor_last, Nat.zero_add, clG, tpA]
    refine ⟨by rw [iF_sF]; rfl, fun j => ?_, fun q h1 h2 => ?_⟩
    · rw [iA_sF, iA_sA]
      by_cases e : j = n + m
      · rw [e, pk_us, if_pos (by omega), show n + m - n = m by omega]
      · rw [pk_un e, i2]
        by_cases e2 : n ≤ j ∧ j < n + m
        · rw [if_pos e2, if_pos (by omega)]
        · rw [if_neg e2, if_neg (by omega)]
    · rw [sF, va_up, if_neg h1, sA, va_up, if_neg h2, i3 q h1 h2]
theorem ml_all (h0 : iF S 93 5 = nI n) : ∀ m, iF (rfor (mlG n fB) 0 m S) 93 5 = nI (n + m) ∧ (∀ j, iA (rfor (mlG n fB) 0 m S) 97 j = if n ≤ j ∧ j < n + m then fB (j - n) &&& 255 else iA S 97 j) ∧ (∀ q, q ≠ 93 → q ≠ 97 → rfor (mlG n fB) 0 m S q = S q) ∧ ∀ k, k ≠ 5 → iF (rfor (mlG n fB) 0 m S) 93 k = iF S 93 k := by
  intro m
  induction m with
  | zero => exact ⟨h0, fun j => by rw [if_neg (by omega)]; rfl, fun q _ _ => rfl, fun k _ => rfl⟩
  | succ m ih =>
    obtain ⟨i1, i2, i3, i4⟩ := ih
    rw [rfor_last, Nat.zero_add, mlG]
    refine ⟨by rw [iF_sF]; rfl, fun j => ?_, fun q h1 h2 => ?_, fun k hk => ?_⟩
    · rw [iA_sF, iA_sA]
      by_cases e : j = n + m
      · rw [e, pk_us, if_pos (by omega), show n + m - n = m by omega]
      · rw [pk_un e, i2]
        by_cases e2 : n ≤ j ∧ j < n + m
        · rw [if_pos e2, if_pos (by omega)]
        · rw [if_neg e2, if_neg (by omega)]
    · rw [sF, va_up, if_neg h1, sA, va_up, if_neg h2, i3 q h1 h2]
    · rw [iF_sF_ne (Or.inr hk), iF_sA, i4 k hk]
end FEED
