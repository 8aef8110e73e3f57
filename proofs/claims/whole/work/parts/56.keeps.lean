/-! what keeps the sizes, the texts, the cases of hearings, the kinds of papers -/
section KEEPS
variable {E : EE} {S S1 : SS} {d b n k q j a : Nat} {c v x : Int32} {g : Nat → Int32} {hc z t pk : Nat → Nat}
theorem okB_sA (ha : a < 109) (hz : okB E S b z t) : okB E (sA S a g) b z t := by
  obtain ⟨h1, h3, h5, h7, h14, h16, h18, h20, h22, ht, hw⟩ := hz
  have hq : ∀ p, iQ (sA S a g) p = iQ S p := fun p => by
    by_cases e : p = a
    · subst e
      simp only [iQ, sA, va_up, if_true]
    · simp only [iQ, sA, va_up, e, if_false]
  refine ⟨?_, ?_, ?_, ?_, ?_, ?_, ?_, ?_, ?_, fun i hi => ?_, fun i hi => ?_⟩
  · rw [iF_sA]; exact h1
  · rw [iF_sA]; exact h3
  · rw [iF_sA]; exact h5
  · rw [iF_sA]; exact h7
  · rw [iF_sA]; exact h14
  · rw [iF_sA]; exact h16
  · rw [iF_sA]; exact h18
  · rw [iF_sA]; exact h20
  · rw [iF_sA]; exact h22
  · rw [hq]; exact ht i hi
  · have h9 := (ht i hi).2.1
    rw [iF_sA, iA_sA_ne (by omega)]
    exact hw i hi
theorem hcs_sA (ha : a ≠ b + 8) (h : hcs S b n hc) : hcs (sA S a g) b n hc := fun i hi => by
  rw [iA_sA_ne (fun e => ha e.symm)]
  exact h i hi
theorem hcs_up {r : Nat} (hr : 0 < r) (hr5 : r < 5) (h : ∀ i, i < n → g (i * 5) = nI (hc i) ∧ hc i < 12) : ∀ i, i < n → upd g (k * 5 + r) v (i * 5) = nI (hc i) ∧ hc i < 12 := fun i hi => by
  rw [upd, if_neg (by omega)]
  exact h i hi
theorem hcs_8 (h : ∀ i, i < n → g (i * 5) = nI (hc i) ∧ hc i < 12) : hcs (sA S (b + 8) g) b n hc := fun i hi => by
  rw [iA_sA]
  exact h i hi
theorem pks_sA (ha : a ≠ b + 4) (h : pks S b n pk) : pks (sA S a g) b n pk := fun i hi => by
  rw [iA_sA_ne (fun e => ha e.symm)]
  exact h i hi
theorem enS_c : enS S b n c x = S ∨ ∃ g, enS S b n c x = sA S (b + 17) g := by
  rw [enS]
  cases lsq (iA S (b + 17)) c n with
  | none => exact Or.inl rfl
  | some k =>
    by_cases e : iA S (b + 17) (k * 3 + 2) = 2147483647
    · exact Or.inr ⟨_, if_pos e⟩
    · exact Or.inl (if_neg e)
theorem okB_poS (hb : bkb b) (hz : okB E S b z t) : okB E (poS S b z t k j q) b z t := by
  have bl := bkb_lt hb
  exact okB_sA (by omega) (okB_sA (by omega) hz)
theorem hcs_poS (h : hcs S b n hc) : hcs (poS S b z t k j q) b n hc := by
  refine hcs_sA (by omega) (hcs_8 ?_)
  exact hcs_up (by omega) (by omega) (hcs_up (by omega) (by omega) (hcs_up (by omega) (by omega) h))
theorem okB_hoS (hb : bkb b) (hz : okB E S b z t) : okB E (hoS S b z t k j) b z t := by
  have bl := bkb_lt hb
  have hA : ∀ v, okB E (hoA S b k j v) b z t := fun v => okB_sA (by omega) (okB_sA (by omega) hz)
  rw [hoS]
  by_cases e : leV S b z t j = 0
  · rw [if_pos e]; exact hA 1
  · rw [if_neg e, lvS]
    have hB := okB_sA (a := b + 2) (g := upd (iA (hoA S b k j 2) (b + 2)) (j * 6 + 3) 1) (by omega) (hA 2)
    rcases enS_c (S := sA (hoA S b k j 2) (b + 2) (upd (iA (hoA S b k j 2) (b + 2)) (j * 6 + 3) 1)) (b := b) (n := z 16) (c := nI j) (x := iF (hoA S b k j 2) b 8) with r | ⟨g, r⟩
    · rw [r]; exact hB
    · rw [r]; exact okB_sA (by omega) hB
theorem hcs_hoS (h : hcs S b n hc) : hcs (hoS S b z t k j) b n hc := by
  have hA : ∀ v, hcs (hoA S b k j v) b n hc := fun v => hcs_8 (hcs_up (by omega) (by omega) h)
  rw [hoS]
  by_cases e : leV S b z t j = 0
  · rw [if_pos e]; exact hA 1
  · rw [if_neg e, lvS]
    have hB := hcs_sA (a := b + 2) (g := upd (iA (hoA S b k j 2) (b + 2)) (j * 6 + 3) 1) (by omega) (hA 2)
    rcases enS_c (S := sA (hoA S b k j 2) (b + 2) (upd (iA (hoA S b k j 2) (b + 2)) (j * 6 + 3) 1)) (b := b) (n := z 16) (c := nI j) (x := iF (hoA S b k j 2) b 8) with r | ⟨g, r⟩
    · rw [r]; exact hB
    · rw [r]; exact hcs_sA (by omega) hB
end KEEPS
