/-! what the relation rests on, piece by piece -/
section CG
variable {E : EE} {R R' S S1 S2 : SS} {b td n nc m k B : Nat} {z t hc pk : Nat → Nat} {f f' A A' A2 A2' A8 : Nat → Int32} {x y : Int32} {C F T : Nat → Nat}
theorem cg_okm (e : ∀ q, 2 ≤ q → q < 11 → f' q = f q) (h : okM f z) : okM f' z := by
  unfold okM at h ⊢
  rw [e 2 (by omega) (by omega), e 3 (by omega) (by omega), e 4 (by omega) (by omega), e 5 (by omega) (by omega), e 6 (by omega) (by omega), e 7 (by omega) (by omega), e 8 (by omega) (by omega), e 9 (by omega) (by omega), e 10 (by omega) (by omega)]
  exact h
theorem cg_dou (e0 : f' 11 = f 11) (e : ∀ q, 850 ≤ q → q < 890 → f' q = f q) (h : gDou x y f) : gDou x y f' := by
  obtain ⟨n, h1, h2, h3, h4⟩ := h
  refine ⟨n, h1, h2, by rw [e0]; exact h3, h4.trans (rfor_congr n 0 0 fun i s _ hi => ?_)⟩
  show s + _ = s + _
  rw [e _ (by omega) (by omega), e _ (by omega) (by omega)]
theorem cg_12 (e : ∀ q, 13 ≤ q → q < 17 → f' q = f q) (h : k12 A f) : k12 A f' := by
  intro q h1 h2
  rw [e _ (by omega) (by omega)]
  exact h q h1 h2
theorem cg_20 (hn : n ≤ 12) (e : ∀ q, 20 ≤ q → q < 92 → f' q = f q) (h : k20 A n f) : k20 A n f' := by
  intro i hi
  obtain ⟨h1, h2⟩ := h i hi
  exact ⟨fun c hc => by rw [e _ (by omega) (by omega)]; exact h1 c hc, h2⟩
theorem cg_92 (hn : n ≤ 24) (e : ∀ q, 92 ≤ q → q < 164 → f' q = f q) (h : k92 A n f) : k92 A n f' := by
  intro i hi
  obtain ⟨h1, h2⟩ := h i hi
  exact ⟨fun c hc => by rw [e _ (by omega) (by omega)]; exact h1 c hc, h2⟩
theorem cg_474 (hn : n ≤ 40) (e : ∀ q, 474 ≤ q → q < 634 → f' q = f q) (h : k474 A n f) : k474 A n f' := by
  intro i hi
  obtain ⟨h1, h2⟩ := h i hi
  exact ⟨fun c hc => by rw [e _ (by omega) (by omega)]; exact h1 c hc, h2⟩
theorem cg_634 (hn : n ≤ 9) (e : ∀ q, 634 ≤ q → q < 670 → f' q = f q) (h : k634 A n B f) : k634 A n B f' := by
  intro i hi
  obtain ⟨h1, h2⟩ := h i hi
  exact ⟨fun c hc => by rw [e _ (by omega) (by omega)]; exact h1 c hc, h2⟩
theorem cg_670 (hn : n ≤ 30) (e : ∀ q, 670 ≤ q → q < 850 → f' q = f q) (h : k670 A n f) : k670 A n f' := by
  intro i hi c hc
  rw [e _ (by omega) (by omega)]
  exact h i hi c hc
theorem cg_890 (e : ∀ q, 890 ≤ q → q < 914 → f' q = f q) (h : k890 A f) : k890 A f' := by
  intro i hi c hc
  rw [e _ (by omega) (by omega)]
  exact h i hi c hc
theorem cg_314 (hn : n ≤ 40) (e : ∀ q, 314 ≤ q → q < 474 → f' q = f q) (h : k314 A n td f) : k314 A n td f' := by
  intro i hi
  obtain ⟨h0, h1, h2, h3, h4⟩ := h i hi
  rw [e _ (by omega) (by omega), e _ (by omega) (by omega), e _ (by omega) (by omega), e _ (by omega) (by omega)]
  exact ⟨h0, h1, h2, h3, h4⟩
theorem cg_sps (hn : n ≤ 30) (e : ∀ q, 164 ≤ q → q < 254 → f' q = f q) (h : trS f n C F T) : trS f' n C F T := by
  intro i hi
  rw [e _ (by omega) (by omega), e _ (by omega) (by omega), e _ (by omega) (by omega)]
  exact h i hi
theorem cg_gap (hn : n ≤ 20) (e : ∀ q, 254 ≤ q → q < 314 → f' q = f q) (h : trG f n C F T) : trG f' n C F T := by
  intro i hi
  rw [e _ (by omega) (by omega), e _ (by omega) (by omega), e _ (by omega) (by omega)]
  exact h i hi
theorem cg_lat (hn : nc ≤ 12) (e : ∀ q, 20 ≤ q → q < 92 → f' q = f q) (h : gLat A2 A nc n f) : gLat A2 A nc n f' := by
  intro i hi
  obtain ⟨s, h1, h2, h3⟩ := h i hi
  exact ⟨s, h1, by rw [e _ (by omega) (by omega)]; exact h2, h3⟩
theorem cg_was (hn : n ≤ 30) (e : ∀ q, 670 ≤ q → q < 850 → f' q = f q) (h : gWas A2 A n nc f) : gWas A2 A n nc f' := by
  refine ⟨fun i hi hz => ?_, fun k hk => ?_⟩
  · rw [e _ (by omega) (by omega)]
    exact h.1 i hi hz
  · rw [← h.2 k hk]
    refine rfor_congr n 0 0 fun i s _ hi => ?_
    rw [hoM, hoM, e _ (by omega) (by omega), e _ (by omega) (by omega)]
theorem cg_txt (e : ∀ q, 914 ≤ q → q < 2578 → f' q = f q) (hn : n ≤ 16) (hw : ∀ j, j < n → (iF R (t j + 1) 0).toNatClampNeg ≤ 96) (ht : ∀ j, j < n → 109 ≤ t j) (hR : ∀ j, j < n → R' (t j) = R (t j) ∧ R' (t j + 1) = R (t j + 1)) (h : txR R n t f) : txR R' n t f' := by
  intro j hj
  obtain ⟨h0, h1, h2, h3, h4, h5, h6⟩ := h j hj
  obtain ⟨r1, r2⟩ := hR j hj
  have h9 := hw j hj
  unfold iF iA at *
  rw [r1, r2, e _ (by omega) (by omega), e _ (by omega) (by omega), e _ (by omega) (by omega), e _ (by omega) (by omega), e _ (by omega) (by omega)]
  exact ⟨h0, h1, h2, h3, h4, fun i hi => by rw [e _ (by omega) (by omega)]; exact h5 i hi, h6⟩
/-- outside the model's own cells nothing has changed -/
def eqN (S S' : SS) : Prop := (∀ q, q ≠ 93 → q ≠ 94 → q ≠ 102 → q ≠ 106 → q ≠ 107 → S' q = S q) ∧ ∀ k, k ≠ 12 → iF S' 93 k = iF S 93 k
theorem eqN_rf : eqN S S := ⟨fun _ _ _ _ _ _ => rfl, fun _ _ => rfl⟩
theorem eqN_tr (h : eqN S S1) (h2 : eqN S1 S2) : eqN S S2 := ⟨fun q a b c d e => (h2.1 q a b c d e).trans (h.1 q a b c d e), fun k hk => (h2.2 k hk).trans (h.2 k hk)⟩
theorem eqN_M (h : eqM S S1) : eqN S S1 := ⟨fun q a _ c d e => h.1 q a c d e, h.2⟩
theorem eqN_94 {g : Nat → Int32} : eqN S (sA S 94 g) := ⟨fun q _ h2 _ _ _ => by rw [sA, va_up, if_neg h2], fun k _ => iF_sA⟩
/-- the texts' cells, from the relation -/
theorem rl_tx (h : Rel E R b z t hc pk td B f) : z 22 ≤ 16 ∧ (∀ j, j < z 22 → (iF R (t j + 1) 0).toNatClampNeg ≤ 96) ∧ ∀ j, j < z 22 → 109 ≤ t j := by
  obtain ⟨-, -, -, -, -, -, -, -, h22, ht, hw⟩ := (rl_okh h).1
  exact ⟨h22.2, fun j hj => (hw j hj).1, fun j hj => (ht j hj).2.1⟩
end CG
