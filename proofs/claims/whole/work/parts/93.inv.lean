/-! what holds between calls -/
section INV
variable {E E' : EE} {R R' S S' : SS} {b td B n k : Nat} {z t hc pk T : Nat → Nat} {f : Nat → Int32}
theorem okH_cells (hb : bkb b) (e : ∀ q, (b ≤ q ∧ q ≤ b + 23) ∨ (109 ≤ q ∧ q < E.1) → R' q = R q) (hEE : E.1 ≤ E'.1) (h : okH E R b z t hc pk) : okH E' R' b z t hc pk := by
  have bl := bkb_lt hb
  obtain ⟨⟨h1, h3, h5, h7, h14, h16, h18, h20, h22, ht, hw⟩, hH, hP⟩ := h
  have eb : ∀ c, c ≤ 23 → R' (b + c) = R (b + c) := fun c hc => e _ (Or.inl (by omega))
  refine ⟨⟨?_, ?_, ?_, ?_, ?_, ?_, ?_, ?_, ?_, fun j hj => ?_, fun j hj => ?_⟩, fun i hi => ?_, fun i hi => ?_⟩
  · rw [iF, eb _ (by omega)]; exact h1
  · rw [iF, eb _ (by omega)]; exact h3
  · rw [iF, eb _ (by omega)]; exact h5
  · rw [iF, eb _ (by omega)]; exact h7
  · rw [iF, eb _ (by omega)]; exact h14
  · rw [iF, eb _ (by omega)]; exact h16
  · rw [iF, eb _ (by omega)]; exact h18
  · rw [iF, eb _ (by omega)]; exact h20
  · rw [iF, eb _ (by omega)]; exact h22
  · rw [iQ, eb _ (by omega)]
    obtain ⟨q1, q2, q3, q4⟩ := ht j hj
    exact ⟨q1, q2, q3, by omega⟩
  · obtain ⟨q1, q2, q3, q4⟩ := ht j hj
    rw [iF, iA, e _ (Or.inr ⟨by omega, by omega⟩)]
    exact hw j hj
  · rw [iA, eb _ (by omega)]; exact hH i hi
  · rw [iA, eb _ (by omega)]; exact hP i hi
theorem Rel_cells (hb : bkb b) (e : ∀ q, (b ≤ q ∧ q ≤ b + 23) ∨ (109 ≤ q ∧ q < E.1) → R' q = R q) (hEE : E.1 ≤ E'.1) (h : Rel E R b z t hc pk td B f) : Rel E' R' b z t hc pk td B f := by
  have eb : ∀ c, c ≤ 23 → R' (b + c) = R (b + c) := fun c hc => e _ (Or.inl (by omega))
  have eA : ∀ c, c ≤ 23 → iA R' (b + c) = iA R (b + c) := fun c hc => by rw [iA, eb c hc]
  have eF : ∀ k, iF R' b k = iF R b k := fun k => by rw [iF, e b (Or.inl (by omega))]
  have htx := rl_tx h
  obtain ⟨-, -, -, -, -, -, -, -, -, ht, -⟩ := (rl_okh h).1
  refine ⟨okH_cells hb e hEE (rl_okh h), rl_okm h, ?_, ?_, ?_, ?_, ?_, ?_, ?_, ?_, ?_, ?_, ?_, ?_, ?_, ?_, ?_, ?_, ?_, ?_⟩
  · rw [eF]; exact rl_tod h
  · rw [eF]; exact rl_see h
  · rw [eF, eF]; exact rl_dou h
  · rw [eA 12 (by omega)]; exact rl_put h
  · rw [eA 2 (by omega)]; exact rl_cas h
  · rw [eA 15 (by omega)]; exact rl_sen h
  · rw [eA 17 (by omega)]; exact rl_sps h
  · rw [eA 17 (by omega)]; exact rl_spg h
  · rw [eA 2 (by omega), eA 17 (by omega)]; exact rl_lat h
  · rw [eA 19 (by omega)]; exact rl_gap h
  · rw [eA 21 (by omega)]; exact rl_cre h
  · rw [eA 4 (by omega)]; exact rl_pap h
  · rw [eA 6 (by omega)]; exact rl_mem h
  · rw [eA 8 (by omega)]; exact rl_hea h
  · rw [eA 8 (by omega)]; exact rl_unq h
  · rw [eA 2 (by omega), eA 8 (by omega)]; exact rl_was h
  · rw [eA 10 (by omega)]; exact rl_tab h
  · refine cg_txt (fun _ _ _ => rfl) htx.1 htx.2.1 htx.2.2 (fun j hj => ?_) (rl_txt h)
    have := ht j hj
    exact ⟨e _ (Or.inr ⟨by omega, by omega⟩), e _ (Or.inr ⟨by omega, by omega⟩)⟩
/-- books at b and the numbers at cell a tell the same -/
def InvB (E : EE) (S : SS) (b a : Nat) : Prop := ∃ (z t hc pk : Nat → Nat) (td : Nat), td ≤ 2999 ∧ Rel E S b z t hc pk td (18 * td) (iA S a)
def InvI (E : EE) (S : SS) : Prop := iF S 0 3 = iF S 93 3 ∧ (iF S 0 3 = 0 ∨ iF S 0 3 = 1 ∧ InvB E S 27 95)
def InvT (S : SS) : Prop := ∃ (n : Nat) (T : Nat → Nat), tpS S n T ∧ iF S 93 5 = nI n ∧ ∀ j, j < n → iA S 97 j = nI (T j)
def InvW (S : SS) : Prop := ∃ w : Nat, w ≤ 60 ∧ iF S 0 8 = nI w ∧ iF S 93 7 = nI w ∧ ∀ j, j < w → iA S 92 j = iA S 98 j
def InvH (S : SS) : Prop := ∀ s, s < 4 → iQ S 83 s = some (84 + 2 * s) ∧ iF S (84 + 2 * s) 1 = iA S 99 s ∧ (∃ n : Nat, n ≤ 24 ∧ iF S (84 + 2 * s) 2 = nI n ∧ iA S 100 s = nI n ∧ (iA S 99 s = -1 → n = 0)) ∧ (iA S 99 s = -1 ∨ iA S 99 s = 0 ∨ iA S 99 s = 1 ∨ iA S 99 s = 2) ∧ ∀ j, j < 24 → iL S (85 + 2 * s) j = iL S 101 (24 * s + j)
/-- the texts of books are texts, the words are words -/
def txA (E : EE) (S : SS) (b : Nat) : Prop := ∀ j p, j < 16 → iQ S (b + 23) j = some p → 109 ≤ p ∧ p % 2 = 1 ∧ p + 1 < E.1
def InvK (E : EE) (S : SS) : Prop := txA E S 1 ∧ txA E S 27 ∧ (∀ j, j < 5 → iQ S 104 j = some (1000016 + j) ∧ iQ S 105 j = some (1000021 + j))
def Inv (E : EE) (S : SS) : Prop := okE E ∧ E.1 % 2 = 1 ∧ InvB E S 1 94 ∧ InvI E S ∧ InvT S ∧ InvW S ∧ InvH S ∧ InvK E S
theorem txo_A (hE : okE E) (h : txA E S b) : txo E S b := fun j p hj hp S => by
  obtain ⟨h1, h2, h3⟩ := h j p hj hp
  exact misc_o (o_T h1 h2 (by omega))
/-- only the books in use and the model's numbers have changed -/
def chB (S S' : SS) : Prop := (∀ q, (q = 0 ∨ 27 ≤ q) → q ≠ 93 → q ≠ 94 → q ≠ 102 → q ≠ 106 → q ≠ 107 → S' q = S q) ∧ ∀ k, k ≠ 12 → iF S' 93 k = iF S 93 k
theorem chB_rf : chB S S := ⟨fun _ _ _ _ _ _ _ => rfl, fun _ _ => rfl⟩
theorem chB_tr {S2 : SS} (h : chB S S') (h2 : chB S' S2) : chB S S2 := ⟨fun q a b c d e f => (h2.1 q a b c d e f).trans (h.1 q a b c d e f), fun k hk => (h2.2 k hk).trans (h.2 k hk)⟩
theorem chB_N (h : eqN S S') : chB S S' := ⟨fun q _ b c d e f => h.1 q b c d e f, h.2⟩
theorem Inv_B (h : Inv E S) (e : chB S S') (hB : InvB E S' 1 94) (hA : txA E S' 1) : Inv E S' := by
  obtain ⟨h1, h2, -, ⟨i1, i2⟩, ⟨n, T, t1, t2, t3⟩, ⟨w, w1, w2, w3, w4⟩, hH, ⟨-, k2, k3⟩⟩ := h
  obtain ⟨e1, e2⟩ := e
  have eF0 : ∀ k, iF S' 0 k = iF S 0 k := fun k => by rw [iF, e1 0 (Or.inl rfl) (by omega) (by omega) (by omega) (by omega) (by omega)]
  have ec : ∀ q, 27 ≤ q → q ≠ 93 → q ≠ 94 → q ≠ 102 → q ≠ 106 → q ≠ 107 → S' q = S q := fun q h => e1 q (Or.inr h)
  refine ⟨h1, h2, hB, ⟨?_, ?_⟩, ⟨n, T, ?_, ?_, ?_⟩, ⟨w, w1, ?_, ?_, ?_⟩, fun s hs => ?_, ⟨hA, ?_, ?_⟩⟩
  · rw [eF0, e2 3 (by omega)]; exact i1
  · rw [eF0]
    refine i2.imp id (fun ⟨q1, z, t, hc, pk, td, q2, q3⟩ => ⟨q1, z, t, hc, pk, td, q2, ?_⟩)
    have e95 : iA S' 95 = iA S 95 := by rw [iA, ec 95 (by omega) (by omega) (by omega) (by omega) (by omega) (by omega)]
    rw [e95]
    refine Rel_cells (Or.inr (Or.inl rfl)) (fun q hq => ec q ?_ ?_ ?_ ?_ ?_ ?_) (Nat.le_refl _) q3 <;> omega
  · unfold tpS at t1 ⊢
    rw [iF, iA, ec 79 (by omega) (by omega) (by omega) (by omega) (by omega) (by omega), ec 80 (by omega) (by omega) (by omega) (by omega) (by omega) (by omega)]
    exact t1
  · rw [e2 5 (by omega)]; exact t2
  · rw [iA, ec 97 (by omega) (by omega) (by omega) (by omega) (by omega) (by omega)]; exact t3
  · rw [eF0]; exact w2
  · rw [e2 7 (by omega)]; exact w3
  · rw [iA, iA, ec 92 (by omega) (by omega) (by omega) (by omega) (by omega) (by omega), ec 98 (by omega) (by omega) (by omega) (by omega) (by omega) (by omega)]; exact w4
  · have := hH s hs
    unfold iQ iF iA iL at this ⊢
    rw [ec 83 (by omega) (by omega) (by omega) (by omega) (by omega) (by omega), ec (84 + 2 * s) (by omega) (by omega) (by omega) (by omega) (by omega) (by omega), ec (85 + 2 * s) (by omega) (by omega) (by omega) (by omega) (by omega) (by omega), ec 99 (by omega) (by omega) (by omega) (by omega) (by omega) (by omega), ec 100 (by omega) (by omega) (by omega) (by omega) (by omega) (by omega), ec 101 (by omega) (by omega) (by omega) (by omega) (by omega) (by omega)]
    exact this
  · intro j p hj hp
    rw [iQ, ec (27 + 23) (by omega) (by omega) (by omega) (by omega) (by omega) (by omega)] at hp
    exact k2 j p hj hp
  · intro j hj
    rw [iQ, iQ, ec 104 (by omega) (by omega) (by omega) (by omega) (by omega) (by omega), ec 105 (by omega) (by omega) (by omega) (by omega) (by omega) (by omega)]
    exact k3 j hj
end INV
