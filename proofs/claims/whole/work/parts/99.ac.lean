/-! one more row: sentences, gaps, credits, papers, members, hearings -/
section ADDROW
variable {E : EE} {R S S1 S2 : SS} {b d k n m i j p td B a : Nat} {c v w x y x0 x1 x2 x3 : Int32} {z t hc pk : Nat → Nat} {f f0 f1 g : Nat → Int32}
/-- rows at b + a, one more -/
def adR (S : SS) (b a n : Nat) (g : Nat → Int32) : SS := sA (sF S (b + a) 3 (nI (n + 1))) (b + a + 1) g
theorem ad_F (h : k ≠ b + a ∨ j ≠ 3) : iF (adR S b a n g) k j = iF S k j := by rw [adR, iF_sA, iF_sF_ne h]
theorem ad_F3 : iF (adR S b a n g) (b + a) 3 = nI (n + 1) := by rw [adR, iF_sA, iF_sF]
theorem ad_A (h : k ≠ b + a + 1) : iA (adR S b a n g) k = iA S k := by rw [adR, iA_sA_ne h, iA_sF]
theorem ad_A1 : iA (adR S b a n g) (b + a + 1) = g := by rw [adR, iA_sA]
theorem ad_o (h1 : k ≠ b + a) (h2 : k ≠ b + a + 1) : adR S b a n g k = S k := by rw [adR, sA, va_up, if_neg h2, sF, va_up, if_neg h1]
def lmA (a lim : Nat) : Prop := (a = 1 ∧ lim = 12) ∨ (a = 3 ∧ lim = 40) ∨ (a = 5 ∧ lim = 9) ∨ (a = 7 ∧ lim = 30) ∨ (a = 14 ∧ lim = 24) ∨ (a = 16 ∧ lim = 30) ∨ (a = 18 ∧ lim = 20) ∨ (a = 20 ∧ lim = 40)
theorem okB_add {lim : Nat} (hb : bkb b) (ha : lmA a lim) (hz : okB E S b z t) (hl : z a < lim) : okB E (adR S b a (z a) g) b (va_up z a (z a + 1)) t := by
  have bl := bkb_lt hb
  obtain ⟨h1, h3, h5, h7, h14, h16, h18, h20, h22, ht, hw⟩ := hz
  have up : ∀ c, c ≠ a → va_up z a (z a + 1) c = z c := fun c h => by rw [va_up, if_neg h]
  have u0 : va_up z a (z a + 1) a = z a + 1 := by rw [va_up, if_pos rfl]
  have e0 : iF (adR S b a (z a) g) (b + a) 3 = nI (va_up z a (z a + 1) a) ∧ va_up z a (z a + 1) a ≤ lim := by rw [u0]; exact ⟨ad_F3, hl⟩
  have en : ∀ c L, c ≠ a → (iF S (b + c) 3 = nI (z c) ∧ z c ≤ L) → (iF (adR S b a (z a) g) (b + c) 3 = nI (va_up z a (z a + 1) c) ∧ va_up z a (z a + 1) c ≤ L) := fun c L h q => by
    rw [up c h, ad_F (Or.inl (by omega))]; exact q
  have h22' : iF (adR S b a (z a) g) (b + 22) 1 = nI (va_up z a (z a + 1) 22) ∧ va_up z a (z a + 1) 22 ≤ 16 := by
    rw [up 22 (by rcases ha with h | h | h | h | h | h | h | h <;> omega), ad_F (Or.inr (by omega))]; exact h22
  have ht' : txs E (adR S b a (z a) g) b (va_up z a (z a + 1) 22) t := by
    rw [up 22 (by rcases ha with h | h | h | h | h | h | h | h <;> omega)]
    intro j hj
    rw [iQ, ad_o (by rcases ha with h | h | h | h | h | h | h | h <;> omega) (by rcases ha with h | h | h | h | h | h | h | h <;> omega)]
    exact ht j hj
  have hw' : txw (adR S b a (z a) g) (va_up z a (z a + 1) 22) t := by
    rw [up 22 (by rcases ha with h | h | h | h | h | h | h | h <;> omega)]
    intro j hj
    have := (ht j hj).2.1
    rw [iF, iA, ad_o (by rcases ha with h | h | h | h | h | h | h | h <;> omega) (by rcases ha with h | h | h | h | h | h | h | h <;> omega)]
    exact hw j hj
  rcases ha with ⟨rfl, rfl⟩ | ⟨rfl, rfl⟩ | ⟨rfl, rfl⟩ | ⟨rfl, rfl⟩ | ⟨rfl, rfl⟩ | ⟨rfl, rfl⟩ | ⟨rfl, rfl⟩ | ⟨rfl, rfl⟩
  · exact ⟨e0, en 3 _ (by omega) h3, en 5 _ (by omega) h5, en 7 _ (by omega) h7, en 14 _ (by omega) h14, en 16 _ (by omega) h16, en 18 _ (by omega) h18, en 20 _ (by omega) h20, h22', ht', hw'⟩
  · exact ⟨en 1 _ (by omega) h1, e0, en 5 _ (by omega) h5, en 7 _ (by omega) h7, en 14 _ (by omega) h14, en 16 _ (by omega) h16, en 18 _ (by omega) h18, en 20 _ (by omega) h20, h22', ht', hw'⟩
  · exact ⟨en 1 _ (by omega) h1, en 3 _ (by omega) h3, e0, en 7 _ (by omega) h7, en 14 _ (by omega) h14, en 16 _ (by omega) h16, en 18 _ (by omega) h18, en 20 _ (by omega) h20, h22', ht', hw'⟩
  · exact ⟨en 1 _ (by omega) h1, en 3 _ (by omega) h3, en 5 _ (by omega) h5, e0, en 14 _ (by omega) h14, en 16 _ (by omega) h16, en 18 _ (by omega) h18, en 20 _ (by omega) h20, h22', ht', hw'⟩
  · exact ⟨en 1 _ (by omega) h1, en 3 _ (by omega) h3, en 5 _ (by omega) h5, en 7 _ (by omega) h7, e0, en 16 _ (by omega) h16, en 18 _ (by omega) h18, en 20 _ (by omega) h20, h22', ht', hw'⟩
  · exact ⟨en 1 _ (by omega) h1, en 3 _ (by omega) h3, en 5 _ (by omega) h5, en 7 _ (by omega) h7, en 14 _ (by omega) h14, e0, en 18 _ (by omega) h18, en 20 _ (by omega) h20, h22', ht', hw'⟩
  · exact ⟨en 1 _ (by omega) h1, en 3 _ (by omega) h3, en 5 _ (by omega) h5, en 7 _ (by omega) h7, en 14 _ (by omega) h14, en 16 _ (by omega) h16, e0, en 20 _ (by omega) h20, h22', ht', hw'⟩
  · exact ⟨en 1 _ (by omega) h1, en 3 _ (by omega) h3, en 5 _ (by omega) h5, en 7 _ (by omega) h7, en 14 _ (by omega) h14, en 16 _ (by omega) h16, en 18 _ (by omega) h18, e0, h22', ht', hw'⟩
/-- where the model keeps how many there are -/
def ixA (a ix lim : Nat) : Prop := (a = 1 ∧ ix = 2 ∧ lim = 12) ∨ (a = 14 ∧ ix = 3 ∧ lim = 24) ∨ (a = 16 ∧ ix = 4 ∧ lim = 30) ∨ (a = 18 ∧ ix = 5 ∧ lim = 20) ∨ (a = 20 ∧ ix = 6 ∧ lim = 40) ∨ (a = 3 ∧ ix = 8 ∧ lim = 40) ∨ (a = 5 ∧ ix = 9 ∧ lim = 9) ∨ (a = 7 ∧ ix = 10 ∧ lim = 30)
theorem okM_add {ix lim : Nat} (ha : ixA a ix lim) (e : ∀ q, 2 ≤ q → q < 11 → f0 q = f q) (h : okM f z) (hl : z a < lim) : okM (upd f0 ix (nI (z a + 1))) (va_up z a (z a + 1)) := by
  obtain ⟨n1, n14, n16, n18, n20, n22, n3, n5, n7⟩ := h
  have u0 : va_up z a (z a + 1) a = z a + 1 := by rw [va_up, if_pos rfl]
  have e0 : upd f0 ix (nI (z a + 1)) ix = nI (va_up z a (z a + 1) a) ∧ va_up z a (z a + 1) a ≤ lim := by rw [u0, pk_us]; exact ⟨rfl, hl⟩
  have en : ∀ c q L, c ≠ a → q ≠ ix → 2 ≤ q → q < 11 → (f q = nI (z c) ∧ z c ≤ L) → (upd f0 ix (nI (z a + 1)) q = nI (va_up z a (z a + 1) c) ∧ va_up z a (z a + 1) c ≤ L) := fun c q L h1 h2 h3 h4 h5 => by
    rw [va_up, if_neg h1, pk_un h2, e q h3 h4]; exact h5
  rcases ha with ⟨rfl, rfl, rfl⟩ | ⟨rfl, rfl, rfl⟩ | ⟨rfl, rfl, rfl⟩ | ⟨rfl, rfl, rfl⟩ | ⟨rfl, rfl, rfl⟩ | ⟨rfl, rfl, rfl⟩ | ⟨rfl, rfl, rfl⟩ | ⟨rfl, rfl, rfl⟩
  · exact ⟨e0, en 14 3 _ (by omega) (by omega) (by omega) (by omega) n14, en 16 4 _ (by omega) (by omega) (by omega) (by omega) n16, en 18 5 _ (by omega) (by omega) (by omega) (by omega) n18, en 20 6 _ (by omega) (by omega) (by omega) (by omega) n20, en 22 7 _ (by omega) (by omega) (by omega) (by omega) n22, en 3 8 _ (by omega) (by omega) (by omega) (by omega) n3, en 5 9 _ (by omega) (by omega) (by omega) (by omega) n5, en 7 10 _ (by omega) (by omega) (by omega) (by omega) n7⟩
  · exact ⟨en 1 2 _ (by omega) (by omega) (by omega) (by omega) n1, e0, en 16 4 _ (by omega) (by omega) (by omega) (by omega) n16, en 18 5 _ (by omega) (by omega) (by omega) (by omega) n18, en 20 6 _ (by omega) (by omega) (by omega) (by omega) n20, en 22 7 _ (by omega) (by omega) (by omega) (by omega) n22, en 3 8 _ (by omega) (by omega) (by omega) (by omega) n3, en 5 9 _ (by omega) (by omega) (by omega) (by omega) n5, en 7 10 _ (by omega) (by omega) (by omega) (by omega) n7⟩
  · exact ⟨en 1 2 _ (by omega) (by omega) (by omega) (by omega) n1, en 14 3 _ (by omega) (by omega) (by omega) (by omega) n14, e0, en 18 5 _ (by omega) (by omega) (by omega) (by omega) n18, en 20 6 _ (by omega) (by omega) (by omega) (by omega) n20, en 22 7 _ (by omega) (by omega) (by omega) (by omega) n22, en 3 8 _ (by omega) (by omega) (by omega) (by omega) n3, en 5 9 _ (by omega) (by omega) (by omega) (by omega) n5, en 7 10 _ (by omega) (by omega) (by omega) (by omega) n7⟩
  · exact ⟨en 1 2 _ (by omega) (by omega) (by omega) (by omega) n1, en 14 3 _ (by omega) (by omega) (by omega) (by omega) n14, en 16 4 _ (by omega) (by omega) (by omega) (by omega) n16, e0, en 20 6 _ (by omega) (by omega) (by omega) (by omega) n20, en 22 7 _ (by omega) (by omega) (by omega) (by omega) n22, en 3 8 _ (by omega) (by omega) (by omega) (by omega) n3, en 5 9 _ (by omega) (by omega) (by omega) (by omega) n5, en 7 10 _ (by omega) (by omega) (by omega) (by omega) n7⟩
  · exact ⟨en 1 2 _ (by omega) (by omega) (by omega) (by omega) n1, en 14 3 _ (by omega) (by omega) (by omega) (by omega) n14, en 16 4 _ (by omega) (by omega) (by omega) (by omega) n16, en 18 5 _ (by omega) (by omega) (by omega) (by omega) n18, e0, en 22 7 _ (by omega) (by omega) (by omega) (by omega) n22, en 3 8 _ (by omega) (by omega) (by omega) (by omega) n3, en 5 9 _ (by omega) (by omega) (by omega) (by omega) n5, en 7 10 _ (by omega) (by omega) (by omega) (by omega) n7⟩
  · exact ⟨en 1 2 _ (by omega) (by omega) (by omega) (by omega) n1, en 14 3 _ (by omega) (by omega) (by omega) (by omega) n14, en 16 4 _ (by omega) (by omega) (by omega) (by omega) n16, en 18 5 _ (by omega) (by omega) (by omega) (by omega) n18, en 20 6 _ (by omega) (by omega) (by omega) (by omega) n20, en 22 7 _ (by omega) (by omega) (by omega) (by omega) n22, e0, en 5 9 _ (by omega) (by omega) (by omega) (by omega) n5, en 7 10 _ (by omega) (by omega) (by omega) (by omega) n7⟩
  · exact ⟨en 1 2 _ (by omega) (by omega) (by omega) (by omega) n1, en 14 3 _ (by omega) (by omega) (by omega) (by omega) n14, en 16 4 _ (by omega) (by omega) (by omega) (by omega) n16, en 18 5 _ (by omega) (by omega) (by omega) (by omega) n18, en 20 6 _ (by omega) (by omega) (by omega) (by omega) n20, en 22 7 _ (by omega) (by omega) (by omega) (by omega) n22, en 3 8 _ (by omega) (by omega) (by omega) (by omega) n3, e0, en 7 10 _ (by omega) (by omega) (by omega) (by omega) n7⟩
  · exact ⟨en 1 2 _ (by omega) (by omega) (by omega) (by omega) n1, en 14 3 _ (by omega) (by omega) (by omega) (by omega) n14, en 16 4 _ (by omega) (by omega) (by omega) (by omega) n16, en 18 5 _ (by omega) (by omega) (by omega) (by omega) n18, en 20 6 _ (by omega) (by omega) (by omega) (by omega) n20, en 22 7 _ (by omega) (by omega) (by omega) (by omega) n22, en 3 8 _ (by omega) (by omega) (by omega) (by omega) n3, en 5 9 _ (by omega) (by omega) (by omega) (by omega) n5, e0⟩
theorem Rel_addS (hb : bkb b) (h : Rel E R b z t hc pk td B f) (hl : z 14 < 24) (hf : ∀ q, (q < 92 + 3 * z 14 ∨ 92 + 3 * z 14 + 3 ≤ q) → f0 q = f q) (h0 : f0 (92 + 3 * z 14) = x0) (h1 : f0 (92 + 3 * z 14 + 1) = x1) (h2 : f0 (92 + 3 * z 14 + 2) = x2) (ht2 : x2 = 0 ∨ x2 = 1) : Rel E (adR R b 14 (z 14) (rowSet (iA R (b + 15)) (z 14 * 3) 3 [x0, x1, x2, x3])) b (va_up z 14 (z 14 + 1)) t hc pk td B (upd f0 3 (nI (z 14 + 1))) := by
  obtain ⟨n1, n14, n16, n18, n20, n22, n3, n5, n7⟩ := rl_okm h
  have bl := bkb_lt hb
  have ht := rl_tod h
  have htx := rl_tx h
  have eA : ∀ c, c ≠ 15 → iA (adR R b 14 (z 14) (rowSet (iA R (b + 15)) (z 14 * 3) 3 [x0, x1, x2, x3])) (b + c) = iA R (b + c) := fun c h1 => ad_A (by omega)
  have e0 : iA (adR R b 14 (z 14) (rowSet (iA R (b + 15)) (z 14 * 3) 3 [x0, x1, x2, x3])) (b + 15) = rowSet (iA R (b + 15)) (z 14 * 3) 3 [x0, x1, x2, x3] := ad_A1
  have eF : ∀ c : Nat, iF (adR R b 14 (z 14) (rowSet (iA R (b + 15)) (z 14 * 3) 3 [x0, x1, x2, x3])) b c = iF R b c := fun c => ad_F (Or.inl (by omega))
  have eH : ∀ q, 109 ≤ q → adR R b 14 (z 14) (rowSet (iA R (b + 15)) (z 14 * 3) 3 [x0, x1, x2, x3]) q = R q := fun q hq => ad_o (by omega) (by omega)
  have ff : ∀ q, q ≠ 3 → (q < 92 + 3 * z 14 ∨ 92 + 3 * z 14 + 3 ≤ q) → upd f0 3 (nI (z 14 + 1)) q = f q := fun q h1 h2 => by rw [pk_un h1]; exact hf q h2
  have fn : ∀ q, q ≠ 3 → upd f0 3 (nI (z 14 + 1)) q = f0 q := fun q h1 => pk_un h1
  have fr : ∀ lo hi, (11 ≤ lo ∧ (hi ≤ 92 ∨ 164 ≤ lo)) → ∀ q, lo ≤ q → q < hi → upd f0 3 (nI (z 14 + 1)) q = f q := fun lo hi hh q h1 h2 => ff q (by omega) (by omega)
  refine ⟨⟨okB_add hb (lim := 24) (by simp [lmA]) (rl_okh h).1 hl, fun i hi => by rw [ad_A (by omega)]; exact (rl_okh h).2.1 i hi, fun i hi => by rw [ad_A (by omega)]; exact (rl_okh h).2.2 i hi⟩, okM_add (lim := 24) (by simp [ixA]) (fun q q1 q2 => hf q (by omega)) (rl_okm h) hl, ?_, ?_, ?_, ?_, ?_, ?_, ?_, ?_, ?_, ?_, ?_, ?_, ?_, ?_, ?_, ?_, ?_, ?_⟩
  · rw [eF 8, ff 0 (by omega) (by omega)]; exact rl_tod h
  · rw [eF 9, ff 1 (by omega) (by omega)]; exact rl_see h
  · rw [eF 10, eF 11]; exact cg_dou (ff 11 (by omega) (by omega)) (fr 850 890 (by omega)) (rl_dou h)
  · rw [eA 12 (by omega)]; exact cg_12 (fr 13 17 (by omega)) (rl_put h)
  · rw [eA 2 (by omega)]
    have q_ := cg_20 n1.2 (fr 20 92 (by omega)) (rl_cas h)
    exact q_
  · rw [e0]
    intro i hi
    have hi : i < z 14 + 1 := hi
    by_cases a : i = z 14
    · subst a
      have e0 : z 14 * 3 = z 14 * 3 + 0 := rfl
      refine ⟨fun c hc => ?_, ?_⟩
      · rw [fn _ (by omega), row_in (t := c) rfl hc]
        match c, hc with
        | 0, _ => exact h0
        | 1, _ => exact h1
        | 2, _ => exact h2
      · rw [row_in (t := 2) rfl (by omega)]; exact ht2
    · obtain ⟨q1, q2⟩ := rl_sen h i (by omega)
      refine ⟨fun c hc => ?_, by rw [row_out (by omega)]; exact q2⟩
      rw [ff _ (by omega) (by omega), row_out (by omega)]
      exact q1 c hc
  · rw [eA 17 (by omega)]
    have q_ := cg_sps n16.2 (fr 164 254 (by omega)) (rl_sps h)
    exact q_
  · rw [eA 17 (by omega)]
    have q_ := rl_spg h
    exact q_
  · rw [eA 2 (by omega), eA 17 (by omega)]
    have q_ := cg_lat n1.2 (fr 20 92 (by omega)) (rl_lat h)
    exact q_
  · rw [eA 19 (by omega)]
    have q1 := cg_gap n18.2 (fr 254 314 (by omega)) (rl_gap h).1
    have q2 := (rl_gap h).2
    exact ⟨q1, q2⟩
  · rw [eA 21 (by omega)]
    have q_ := cg_314 n20.2 (fr 314 474 (by omega)) (rl_cre h)
    exact q_
  · rw [eA 4 (by omega)]
    have q_ := cg_474 n3.2 (fr 474 634 (by omega)) (rl_pap h)
    exact q_
  · rw [eA 6 (by omega)]
    have q1 := cg_634 n5.2 (fr 634 670 (by omega)) (rl_mem h).2
    exact ⟨(rl_mem h).1, q1⟩
  · rw [eA 8 (by omega)]
    have q_ := cg_670 n7.2 (fr 670 850 (by omega)) (rl_hea h)
    exact q_
  · rw [eA 8 (by omega)]
    have q_ := rl_unq h
    exact q_
  · rw [eA 2 (by omega), eA 8 (by omega)]
    have q_ := cg_was n7.2 (fr 670 850 (by omega)) (rl_was h)
    exact q_
  · rw [eA 10 (by omega)]; exact cg_890 (fr 890 914 (by omega)) (rl_tab h)
  · have q1 : txR (adR R b 14 (z 14) (rowSet (iA R (b + 15)) (z 14 * 3) 3 [x0, x1, x2, x3])) (z 22) t (upd f0 3 (nI (z 14 + 1))) := by
      refine cg_txt (fr 914 2578 (by omega)) htx.1 htx.2.1 htx.2.2 (fun j hj => ?_) (rl_txt h)
      have := htx.2.2 j hj
      exact ⟨eH _ (by omega), eH _ (by omega)⟩
    exact q1
theorem Rel_addM (hb : bkb b) (h : Rel E R b z t hc pk td B f) (hl : z 5 < 9) (hf : ∀ q, (q < 634 + 4 * z 5 ∨ 634 + 4 * z 5 + 4 ≤ q) → f0 q = f q) (h0 : f0 (634 + 4 * z 5) = x0) (h1 : f0 (634 + 4 * z 5 + 1) = x1) (h2 : f0 (634 + 4 * z 5 + 2) = x2) (h3 : f0 (634 + 4 * z 5 + 3) = x3) (ht3 : x3 = 0) : Rel E (adR R b 5 (z 5) (rowSet (iA R (b + 6)) (z 5 * 4) 4 [x0, x1, x2, x3])) b (va_up z 5 (z 5 + 1)) t hc pk td B (upd f0 9 (nI (z 5 + 1))) := by
  obtain ⟨n1, n14, n16, n18, n20, n22, n3, n5, n7⟩ := rl_okm h
  have bl := bkb_lt hb
  have ht := rl_tod h
  have htx := rl_tx h
  have eA : ∀ c, c ≠ 6 → iA (adR R b 5 (z 5) (rowSet (iA R (b + 6)) (z 5 * 4) 4 [x0, x1, x2, x3])) (b + c) = iA R (b + c) := fun c h1 => ad_A (by omega)
  have e0 : iA (adR R b 5 (z 5) (rowSet (iA R (b + 6)) (z 5 * 4) 4 [x0, x1, x2, x3])) (b + 6) = rowSet (iA R (b + 6)) (z 5 * 4) 4 [x0, x1, x2, x3] := ad_A1
  have eF : ∀ c : Nat, iF (adR R b 5 (z 5) (rowSet (iA R (b + 6)) (z 5 * 4) 4 [x0, x1, x2, x3])) b c = iF R b c := fun c => ad_F (Or.inl (by omega))
  have eH : ∀ q, 109 ≤ q → adR R b 5 (z 5) (rowSet (iA R (b + 6)) (z 5 * 4) 4 [x0, x1, x2, x3]) q = R q := fun q hq => ad_o (by omega) (by omega)
  have ff : ∀ q, q ≠ 9 → (q < 634 + 4 * z 5 ∨ 634 + 4 * z 5 + 4 ≤ q) → upd f0 9 (nI (z 5 + 1)) q = f q := fun q h1 h2 => by rw [pk_un h1]; exact hf q h2
  have fn : ∀ q, q ≠ 9 → upd f0 9 (nI (z 5 + 1)) q = f0 q := fun q h1 => pk_un h1
  have fr : ∀ lo hi, (11 ≤ lo ∧ (hi ≤ 634 ∨ 670 ≤ lo)) → ∀ q, lo ≤ q → q < hi → upd f0 9 (nI (z 5 + 1)) q = f q := fun lo hi hh q h1 h2 => ff q (by omega) (by omega)
  refine ⟨⟨okB_add hb (lim := 9) (by simp [lmA]) (rl_okh h).1 hl, fun i hi => by rw [ad_A (by omega)]; exact (rl_okh h).2.1 i hi, fun i hi => by rw [ad_A (by omega)]; exact (rl_okh h).2.2 i hi⟩, okM_add (lim := 9) (by simp [ixA]) (fun q q1 q2 => hf q (by omega)) (rl_okm h) hl, ?_, ?_, ?_, ?_, ?_, ?_, ?_, ?_, ?_, ?_, ?_, ?_, ?_, ?_, ?_, ?_, ?_, ?_⟩
  · rw [eF 8, ff 0 (by omega) (by omega)]; exact rl_tod h
  · rw [eF 9, ff 1 (by omega) (by omega)]; exact rl_see h
  · rw [eF 10, eF 11]; exact cg_dou (ff 11 (by omega) (by omega)) (fr 850 890 (by omega)) (rl_dou h)
  · rw [eA 12 (by omega)]; exact cg_12 (fr 13 17 (by omega)) (rl_put h)
  · rw [eA 2 (by omega)]
    have q_ := cg_20 n1.2 (fr 20 92 (by omega)) (rl_cas h)
    exact q_
  · rw [eA 15 (by omega)]
    have q_ := cg_92 n14.2 (fr 92 164 (by omega)) (rl_sen h)
    exact q_
  · rw [eA 17 (by omega)]
    have q_ := cg_sps n16.2 (fr 164 254 (by omega)) (rl_sps h)
    exact q_
  · rw [eA 17 (by omega)]
    have q_ := rl_spg h
    exact q_
  · rw [eA 2 (by omega), eA 17 (by omega)]
    have q_ := cg_lat n1.2 (fr 20 92 (by omega)) (rl_lat h)
    exact q_
  · rw [eA 19 (by omega)]
    have q1 := cg_gap n18.2 (fr 254 314 (by omega)) (rl_gap h).1
    have q2 := (rl_gap h).2
    exact ⟨q1, q2⟩
  · rw [eA 21 (by omega)]
    have q_ := cg_314 n20.2 (fr 314 474 (by omega)) (rl_cre h)
    exact q_
  · rw [eA 4 (by omega)]
    have q_ := cg_474 n3.2 (fr 474 634 (by omega)) (rl_pap h)
    exact q_
  · rw [e0]
    refine ⟨(rl_mem h).1, fun i hi => ?_⟩
    have hi : i < z 5 + 1 := hi
    by_cases a : i = z 5
    · subst a
      refine ⟨fun c hc => ?_, 0, Nat.zero_le _, ?_⟩
      · rw [fn _ (by omega), row_in (t := c) rfl hc]
        match c, hc with
        | 0, _ => exact h0
        | 1, _ => exact h1
        | 2, _ => exact h2
        | 3, _ => exact h3
      · rw [row_in (t := 3) rfl (by omega)]; exact ht3
    · obtain ⟨q1, w, q2, q3⟩ := (rl_mem h).2 i (by omega)
      refine ⟨fun c hc => ?_, w, q2, by rw [row_out (by omega)]; exact q3⟩
      rw [ff _ (by omega) (by omega), row_out (by omega)]
      exact q1 c hc
  · rw [eA 8 (by omega)]
    have q_ := cg_670 n7.2 (fr 670 850 (by omega)) (rl_hea h)
    exact q_
  · rw [eA 8 (by omega)]
    have q_ := rl_unq h
    exact q_
  · rw [eA 2 (by omega), eA 8 (by omega)]
    have q_ := cg_was n7.2 (fr 670 850 (by omega)) (rl_was h)
    exact q_
  · rw [eA 10 (by omega)]; exact cg_890 (fr 890 914 (by omega)) (rl_tab h)
  · have q1 : txR (adR R b 5 (z 5) (rowSet (iA R (b + 6)) (z 5 * 4) 4 [x0, x1, x2, x3])) (z 22) t (upd f0 9 (nI (z 5 + 1))) := by
      refine cg_txt (fr 914 2578 (by omega)) htx.1 htx.2.1 htx.2.2 (fun j hj => ?_) (rl_txt h)
      have := htx.2.2 j hj
      exact ⟨eH _ (by omega), eH _ (by omega)⟩
    exact q1
theorem Rel_addC (hb : bkb b) (h : Rel E R b z t hc pk td B f) (hl : z 20 < 40) (hf : ∀ q, (q < 314 + 4 * z 20 ∨ 314 + 4 * z 20 + 4 ≤ q) → f0 q = f q) (h0 : f0 (314 + 4 * z 20) = x0) (h1 : f0 (314 + 4 * z 20 + 1) = x1) (h2 : f0 (314 + 4 * z 20 + 2) = x2) (h3 : f0 (314 + 4 * z 20 + 3) = -1) (hx1 : -99 ≤ x1.toInt ∧ x1.toInt ≤ 99) (hx2 : x2 = nI td) (hx3 : x3 = 2147483647) : Rel E (adR R b 20 (z 20) (rowSet (iA R (b + 21)) (z 20 * 4) 4 [x0, x1, x2, x3])) b (va_up z 20 (z 20 + 1)) t hc pk td B (upd f0 6 (nI (z 20 + 1))) := by
  obtain ⟨n1, n14, n16, n18, n20, n22, n3, n5, n7⟩ := rl_okm h
  have bl := bkb_lt hb
  have ht := rl_tod h
  have htx := rl_tx h
  have eA : ∀ c, c ≠ 21 → iA (adR R b 20 (z 20) (rowSet (iA R (b + 21)) (z 20 * 4) 4 [x0, x1, x2, x3])) (b + c) = iA R (b + c) := fun c h1 => ad_A (by omega)
  have e0 : iA (adR R b 20 (z 20) (rowSet (iA R (b + 21)) (z 20 * 4) 4 [x0, x1, x2, x3])) (b + 21) = rowSet (iA R (b + 21)) (z 20 * 4) 4 [x0, x1, x2, x3] := ad_A1
  have eF : ∀ c : Nat, iF (adR R b 20 (z 20) (rowSet (iA R (b + 21)) (z 20 * 4) 4 [x0, x1, x2, x3])) b c = iF R b c := fun c => ad_F (Or.inl (by omega))
  have eH : ∀ q, 109 ≤ q → adR R b 20 (z 20) (rowSet (iA R (b + 21)) (z 20 * 4) 4 [x0, x1, x2, x3]) q = R q := fun q hq => ad_o (by omega) (by omega)
  have ff : ∀ q, q ≠ 6 → (q < 314 + 4 * z 20 ∨ 314 + 4 * z 20 + 4 ≤ q) → upd f0 6 (nI (z 20 + 1)) q = f q := fun q h1 h2 => by rw [pk_un h1]; exact hf q h2
  have fn : ∀ q, q ≠ 6 → upd f0 6 (nI (z 20 + 1)) q = f0 q := fun q h1 => pk_un h1
  have fr : ∀ lo hi, (11 ≤ lo ∧ (hi ≤ 314 ∨ 474 ≤ lo)) → ∀ q, lo ≤ q → q < hi → upd f0 6 (nI (z 20 + 1)) q = f q := fun lo hi hh q h1 h2 => ff q (by omega) (by omega)
  refine ⟨⟨okB_add hb (lim := 40) (by simp [lmA]) (rl_okh h).1 hl, fun i hi => by rw [ad_A (by omega)]; exact (rl_okh h).2.1 i hi, fun i hi => by rw [ad_A (by omega)]; exact (rl_okh h).2.2 i hi⟩, okM_add (lim := 40) (by simp [ixA]) (fun q q1 q2 => hf q (by omega)) (rl_okm h) hl, ?_, ?_, ?_, ?_, ?_, ?_, ?_, ?_, ?_, ?_, ?_, ?_, ?_, ?_, ?_, ?_, ?_, ?_⟩
  · rw [eF 8, ff 0 (by omega) (by omega)]; exact rl_tod h
  · rw [eF 9, ff 1 (by omega) (by omega)]; exact rl_see h
  · rw [eF 10, eF 11]; exact cg_dou (ff 11 (by omega) (by omega)) (fr 850 890 (by omega)) (rl_dou h)
  · rw [eA 12 (by omega)]; exact cg_12 (fr 13 17 (by omega)) (rl_put h)
  · rw [eA 2 (by omega)]
    have q_ := cg_20 n1.2 (fr 20 92 (by omega)) (rl_cas h)
    exact q_
  · rw [eA 15 (by omega)]
    have q_ := cg_92 n14.2 (fr 92 164 (by omega)) (rl_sen h)
    exact q_
  · rw [eA 17 (by omega)]
    have q_ := cg_sps n16.2 (fr 164 254 (by omega)) (rl_sps h)
    exact q_
  · rw [eA 17 (by omega)]
    have q_ := rl_spg h
    exact q_
  · rw [eA 2 (by omega), eA 17 (by omega)]
    have q_ := cg_lat n1.2 (fr 20 92 (by omega)) (rl_lat h)
    exact q_
  · rw [eA 19 (by omega)]
    have q1 := cg_gap n18.2 (fr 254 314 (by omega)) (rl_gap h).1
    have q2 := (rl_gap h).2
    exact ⟨q1, q2⟩
  · rw [e0]
    intro i hi
    have hi : i < z 20 + 1 := hi
    by_cases a : i = z 20
    · subst a
      have r0 : rowSet (iA R (b + 21)) (z 20 * 4) 4 [x0, x1, x2, x3] (z 20 * 4) = x0 := row_in (t := 0) rfl (by omega)
      have r1 : rowSet (iA R (b + 21)) (z 20 * 4) 4 [x0, x1, x2, x3] (z 20 * 4 + 1) = x1 := row_in (t := 1) rfl (by omega)
      have r2 : rowSet (iA R (b + 21)) (z 20 * 4) 4 [x0, x1, x2, x3] (z 20 * 4 + 2) = x2 := row_in (t := 2) rfl (by omega)
      have r3 : rowSet (iA R (b + 21)) (z 20 * 4) 4 [x0, x1, x2, x3] (z 20 * 4 + 3) = x3 := row_in (t := 3) rfl (by omega)
      rw [fn _ (by omega), fn _ (by omega), fn _ (by omega), fn _ (by omega), r0, r1, r2, r3]
      exact ⟨h0, h1, h2, by rw [h3, hx3]; rfl, hx1, ⟨td, Nat.le_refl _, hx2⟩, Or.inl hx3⟩
    · rw [ff _ (by omega) (by omega), ff _ (by omega) (by omega), ff _ (by omega) (by omega), ff _ (by omega) (by omega), row_out (by omega), row_out (by omega), row_out (by omega), row_out (by omega)]
      exact rl_cre h i (by omega)
  · rw [eA 4 (by omega)]
    have q_ := cg_474 n3.2 (fr 474 634 (by omega)) (rl_pap h)
    exact q_
  · rw [eA 6 (by omega)]
    have q1 := cg_634 n5.2 (fr 634 670 (by omega)) (rl_mem h).2
    exact ⟨(rl_mem h).1, q1⟩
  · rw [eA 8 (by omega)]
    have q_ := cg_670 n7.2 (fr 670 850 (by omega)) (rl_hea h)
    exact q_
  · rw [eA 8 (by omega)]
    have q_ := rl_unq h
    exact q_
  · rw [eA 2 (by omega), eA 8 (by omega)]
    have q_ := cg_was n7.2 (fr 670 850 (by omega)) (rl_was h)
    exact q_
  · rw [eA 10 (by omega)]; exact cg_890 (fr 890 914 (by omega)) (rl_tab h)
  · have q1 : txR (adR R b 20 (z 20) (rowSet (iA R (b + 21)) (z 20 * 4) 4 [x0, x1, x2, x3])) (z 22) t (upd f0 6 (nI (z 20 + 1))) := by
      refine cg_txt (fr 914 2578 (by omega)) htx.1 htx.2.1 htx.2.2 (fun j hj => ?_) (rl_txt h)
      have := htx.2.2 j hj
      exact ⟨eH _ (by omega), eH _ (by omega)⟩
    exact q1
theorem Rel_addG (hb : bkb b) (h : Rel E R b z t hc pk td B f) (hl : z 18 < 20) (hf : ∀ q, (q < 254 + 3 * z 18 ∨ 254 + 3 * z 18 + 3 ≤ q) → f0 q = f q) {u v w : Nat} (h0 : f0 (254 + 3 * z 18) = nI u) (h1 : f0 (254 + 3 * z 18 + 1) = nI v) (h2 : f0 (254 + 3 * z 18 + 2) = nI w) (hu : u < 2 ^ 31) (hv : v < 2 ^ 31) (hw : w < 2 ^ 31) (hx0 : x0 = nI u) (hx1 : x1 = nI v) (hx2 : x2 = nI w) : Rel E (adR R b 18 (z 18) (rowSet (iA R (b + 19)) (z 18 * 3) 3 [x0, x1, x2, x3])) b (va_up z 18 (z 18 + 1)) t hc pk td B (upd f0 5 (nI (z 18 + 1))) := by
  obtain ⟨n1, n14, n16, n18, n20, n22, n3, n5, n7⟩ := rl_okm h
  have bl := bkb_lt hb
  have ht := rl_tod h
  have htx := rl_tx h
  have eA : ∀ c, c ≠ 19 → iA (adR R b 18 (z 18) (rowSet (iA R (b + 19)) (z 18 * 3) 3 [x0, x1, x2, x3])) (b + c) = iA R (b + c) := fun c h1 => ad_A (by omega)
  have e0 : iA (adR R b 18 (z 18) (rowSet (iA R (b + 19)) (z 18 * 3) 3 [x0, x1, x2, x3])) (b + 19) = rowSet (iA R (b + 19)) (z 18 * 3) 3 [x0, x1, x2, x3] := ad_A1
  have eF : ∀ c : Nat, iF (adR R b 18 (z 18) (rowSet (iA R (b + 19)) (z 18 * 3) 3 [x0, x1, x2, x3])) b c = iF R b c := fun c => ad_F (Or.inl (by omega))
  have eH : ∀ q, 109 ≤ q → adR R b 18 (z 18) (rowSet (iA R (b + 19)) (z 18 * 3) 3 [x0, x1, x2, x3]) q = R q := fun q hq => ad_o (by omega) (by omega)
  have ff : ∀ q, q ≠ 5 → (q < 254 + 3 * z 18 ∨ 254 + 3 * z 18 + 3 ≤ q) → upd f0 5 (nI (z 18 + 1)) q = f q := fun q h1 h2 => by rw [pk_un h1]; exact hf q h2
  have fn : ∀ q, q ≠ 5 → upd f0 5 (nI (z 18 + 1)) q = f0 q := fun q h1 => pk_un h1
  have fr : ∀ lo hi, (11 ≤ lo ∧ (hi ≤ 254 ∨ 314 ≤ lo)) → ∀ q, lo ≤ q → q < hi → upd f0 5 (nI (z 18 + 1)) q = f q := fun lo hi hh q h1 h2 => ff q (by omega) (by omega)
  refine ⟨⟨okB_add hb (lim := 20) (by simp [lmA]) (rl_okh h).1 hl, fun i hi => by rw [ad_A (by omega)]; exact (rl_okh h).2.1 i hi, fun i hi => by rw [ad_A (by omega)]; exact (rl_okh h).2.2 i hi⟩, okM_add (lim := 20) (by simp [ixA]) (fun q q1 q2 => hf q (by omega)) (rl_okm h) hl, ?_, ?_, ?_, ?_, ?_, ?_, ?_, ?_, ?_, ?_, ?_, ?_, ?_, ?_, ?_, ?_, ?_, ?_⟩
  · rw [eF 8, ff 0 (by omega) (by omega)]; exact rl_tod h
  · rw [eF 9, ff 1 (by omega) (by omega)]; exact rl_see h
  · rw [eF 10, eF 11]; exact cg_dou (ff 11 (by omega) (by omega)) (fr 850 890 (by omega)) (rl_dou h)
  · rw [eA 12 (by omega)]; exact cg_12 (fr 13 17 (by omega)) (rl_put h)
  · rw [eA 2 (by omega)]
    have q_ := cg_20 n1.2 (fr 20 92 (by omega)) (rl_cas h)
    exact q_
  · rw [eA 15 (by omega)]
    have q_ := cg_92 n14.2 (fr 92 164 (by omega)) (rl_sen h)
    exact q_
  · rw [eA 17 (by omega)]
    have q_ := cg_sps n16.2 (fr 164 254 (by omega)) (rl_sps h)
    exact q_
  · rw [eA 17 (by omega)]
    have q_ := rl_spg h
    exact q_
  · rw [eA 2 (by omega), eA 17 (by omega)]
    have q_ := cg_lat n1.2 (fr 20 92 (by omega)) (rl_lat h)
    exact q_
  · rw [e0]
    have r0 : rowSet (iA R (b + 19)) (z 18 * 3) 3 [x0, x1, x2, x3] (z 18 * 3) = nI u := by rw [← hx0]; exact row_in (t := 0) rfl (by omega)
    have r1 : rowSet (iA R (b + 19)) (z 18 * 3) 3 [x0, x1, x2, x3] (z 18 * 3 + 1) = nI v := by rw [← hx1]; exact row_in (t := 1) rfl (by omega)
    have r2 : rowSet (iA R (b + 19)) (z 18 * 3) 3 [x0, x1, x2, x3] (z 18 * 3 + 2) = nI w := by rw [← hx2]; exact row_in (t := 2) rfl (by omega)
    have c0 : tC (rowSet (iA R (b + 19)) (z 18 * 3) 3 [x0, x1, x2, x3]) (z 18) = u := by rw [tC, r0, nI_clamp hu]
    have c1 : tF (rowSet (iA R (b + 19)) (z 18 * 3) 3 [x0, x1, x2, x3]) (z 18) = v := by rw [tF, r1, nI_clamp hv]
    have c2 : tT (rowSet (iA R (b + 19)) (z 18 * 3) 3 [x0, x1, x2, x3]) (z 18) = w := by rw [tT, r2, nI_clamp hw]
    have ro : ∀ i, i < z 18 → tC (rowSet (iA R (b + 19)) (z 18 * 3) 3 [x0, x1, x2, x3]) i = tC (iA R (b + 19)) i ∧ tF (rowSet (iA R (b + 19)) (z 18 * 3) 3 [x0, x1, x2, x3]) i = tF (iA R (b + 19)) i ∧ tT (rowSet (iA R (b + 19)) (z 18 * 3) 3 [x0, x1, x2, x3]) i = tT (iA R (b + 19)) i := fun i hi => ⟨by rw [tC, tC, row_out (by omega)], by rw [tF, tF, row_out (by omega)], by rw [tT, tT, row_out (by omega)]⟩
    refine ⟨fun i hi => ?_, fun i hi => ?_⟩
    · have hi : i < z 18 + 1 := hi
      by_cases a : i = z 18
      · subst a
        rw [fn _ (by omega), fn _ (by omega), fn _ (by omega), c0, c1, c2]
        exact ⟨h0, h1, h2, hu, hv, hw⟩
      · obtain ⟨q0, q1, q2⟩ := ro i (by omega)
        rw [ff _ (by omega) (by omega), ff _ (by omega) (by omega), ff _ (by omega) (by omega), q0, q1, q2]
        exact (rl_gap h).1 i (by omega)
    · have hi : i < z 18 + 1 := hi
      by_cases a : i = z 18
      · subst a
        rw [c0, c1, c2]
        exact ⟨r0, r1, r2, hu, hv, hw⟩
      · obtain ⟨q0, q1, q2⟩ := ro i (by omega)
        rw [q0, q1, q2, row_out (by omega), row_out (by omega), row_out (by omega)]
        exact (rl_gap h).2 i (by omega)
  · rw [eA 21 (by omega)]
    have q_ := cg_314 n20.2 (fr 314 474 (by omega)) (rl_cre h)
    exact q_
  · rw [eA 4 (by omega)]
    have q_ := cg_474 n3.2 (fr 474 634 (by omega)) (rl_pap h)
    exact q_
  · rw [eA 6 (by omega)]
    have q1 := cg_634 n5.2 (fr 634 670 (by omega)) (rl_mem h).2
    exact ⟨(rl_mem h).1, q1⟩
  · rw [eA 8 (by omega)]
    have q_ := cg_670 n7.2 (fr 670 850 (by omega)) (rl_hea h)
    exact q_
  · rw [eA 8 (by omega)]
    have q_ := rl_unq h
    exact q_
  · rw [eA 2 (by omega), eA 8 (by omega)]
    have q_ := cg_was n7.2 (fr 670 850 (by omega)) (rl_was h)
    exact q_
  · rw [eA 10 (by omega)]; exact cg_890 (fr 890 914 (by omega)) (rl_tab h)
  · have q1 : txR (adR R b 18 (z 18) (rowSet (iA R (b + 19)) (z 18 * 3) 3 [x0, x1, x2, x3])) (z 22) t (upd f0 5 (nI (z 18 + 1))) := by
      refine cg_txt (fr 914 2578 (by omega)) htx.1 htx.2.1 htx.2.2 (fun j hj => ?_) (rl_txt h)
      have := htx.2.2 j hj
      exact ⟨eH _ (by omega), eH _ (by omega)⟩
    exact q1
theorem Rel_addP (hb : bkb b) (h : Rel E R b z t hc pk td B f) (hl : z 3 < 40) (hf : ∀ q, (q < 474 + 4 * z 3 ∨ 474 + 4 * z 3 + 4 ≤ q) → f0 q = f q) {u v w : Nat} (h0 : f0 (474 + 4 * z 3) = x0) (h1 : f0 (474 + 4 * z 3 + 1) = x1) (h2 : f0 (474 + 4 * z 3 + 2) = x2) (h3 : f0 (474 + 4 * z 3 + 3) = x3) (hx0 : x0 = nI u) (hu : u < 5) (hx2 : x2 = nI v) (hv : v ≤ 9999) (hx3 : x3 = nI td) : Rel E (adR R b 3 (z 3) (rowSet (iA R (b + 4)) (z 3 * 4) 4 [x0, x1, x2, x3])) b (va_up z 3 (z 3 + 1)) t hc (va_up pk (z 3) u) td B (upd f0 8 (nI (z 3 + 1))) := by
  obtain ⟨n1, n14, n16, n18, n20, n22, n3, n5, n7⟩ := rl_okm h
  have bl := bkb_lt hb
  have ht := rl_tod h
  have htx := rl_tx h
  have eA : ∀ c, c ≠ 4 → iA (adR R b 3 (z 3) (rowSet (iA R (b + 4)) (z 3 * 4) 4 [x0, x1, x2, x3])) (b + c) = iA R (b + c) := fun c h1 => ad_A (by omega)
  have e0 : iA (adR R b 3 (z 3) (rowSet (iA R (b + 4)) (z 3 * 4) 4 [x0, x1, x2, x3])) (b + 4) = rowSet (iA R (b + 4)) (z 3 * 4) 4 [x0, x1, x2, x3] := ad_A1
  have eF : ∀ c : Nat, iF (adR R b 3 (z 3) (rowSet (iA R (b + 4)) (z 3 * 4) 4 [x0, x1, x2, x3])) b c = iF R b c := fun c => ad_F (Or.inl (by omega))
  have eH : ∀ q, 109 ≤ q → adR R b 3 (z 3) (rowSet (iA R (b + 4)) (z 3 * 4) 4 [x0, x1, x2, x3]) q = R q := fun q hq => ad_o (by omega) (by omega)
  have ff : ∀ q, q ≠ 8 → (q < 474 + 4 * z 3 ∨ 474 + 4 * z 3 + 4 ≤ q) → upd f0 8 (nI (z 3 + 1)) q = f q := fun q h1 h2 => by rw [pk_un h1]; exact hf q h2
  have fn : ∀ q, q ≠ 8 → upd f0 8 (nI (z 3 + 1)) q = f0 q := fun q h1 => pk_un h1
  have fr : ∀ lo hi, (11 ≤ lo ∧ (hi ≤ 474 ∨ 634 ≤ lo)) → ∀ q, lo ≤ q → q < hi → upd f0 8 (nI (z 3 + 1)) q = f q := fun lo hi hh q h1 h2 => ff q (by omega) (by omega)
  refine ⟨⟨okB_add hb (lim := 40) (by simp [lmA]) (rl_okh h).1 hl, fun i hi => by rw [ad_A (by omega)]; exact (rl_okh h).2.1 i hi, fun i hi => by
    have hi : i < z 3 + 1 := hi
    rw [e0]
    by_cases a : i = z 3
    · subst a
      rw [va_up, if_pos rfl]
      exact ⟨(row_in (t := 0) rfl (by omega)).trans hx0, hu⟩
    · rw [va_up, if_neg a, row_out (by omega)]
      exact (rl_okh h).2.2 i (by omega)⟩, okM_add (lim := 40) (by simp [ixA]) (fun q q1 q2 => hf q (by omega)) (rl_okm h) hl, ?_, ?_, ?_, ?_, ?_, ?_, ?_, ?_, ?_, ?_, ?_, ?_, ?_, ?_, ?_, ?_, ?_, ?_⟩
  · rw [eF 8, ff 0 (by omega) (by omega)]; exact rl_tod h
  · rw [eF 9, ff 1 (by omega) (by omega)]; exact rl_see h
  · rw [eF 10, eF 11]; exact cg_dou (ff 11 (by omega) (by omega)) (fr 850 890 (by omega)) (rl_dou h)
  · rw [eA 12 (by omega)]; exact cg_12 (fr 13 17 (by omega)) (rl_put h)
  · rw [eA 2 (by omega)]
    have q_ := cg_20 n1.2 (fr 20 92 (by omega)) (rl_cas h)
    exact q_
  · rw [eA 15 (by omega)]
    have q_ := cg_92 n14.2 (fr 92 164 (by omega)) (rl_sen h)
    exact q_
  · rw [eA 17 (by omega)]
    have q_ := cg_sps n16.2 (fr 164 254 (by omega)) (rl_sps h)
    exact q_
  · rw [eA 17 (by omega)]
    have q_ := rl_spg h
    exact q_
  · rw [eA 2 (by omega), eA 17 (by omega)]
    have q_ := cg_lat n1.2 (fr 20 92 (by omega)) (rl_lat h)
    exact q_
  · rw [eA 19 (by omega)]
    have q1 := cg_gap n18.2 (fr 254 314 (by omega)) (rl_gap h).1
    have q2 := (rl_gap h).2
    exact ⟨q1, q2⟩
  · rw [eA 21 (by omega)]
    have q_ := cg_314 n20.2 (fr 314 474 (by omega)) (rl_cre h)
    exact q_
  · rw [e0]
    intro i hi
    have hi : i < z 3 + 1 := hi
    by_cases a : i = z 3
    · subst a
      refine ⟨fun c hc => ?_, v, td, hv, ht.2.1, ?_, ?_⟩
      · rw [fn _ (by omega), row_in (t := c) rfl hc]
        match c, hc with
        | 0, _ => exact h0
        | 1, _ => exact h1
        | 2, _ => exact h2
        | 3, _ => exact h3
      · rw [row_in (t := 2) rfl (by omega)]; exact hx2
      · rw [row_in (t := 3) rfl (by omega)]; exact hx3
    · obtain ⟨q1, q2, q3, q4, q5, q6, q7⟩ := rl_pap h i (by omega)
      refine ⟨fun c hc => ?_, q2, q3, q4, q5, by rw [row_out (by omega)]; exact q6, by rw [row_out (by omega)]; exact q7⟩
      rw [ff _ (by omega) (by omega), row_out (by omega)]
      exact q1 c hc
  · rw [eA 6 (by omega)]
    have q1 := cg_634 n5.2 (fr 634 670 (by omega)) (rl_mem h).2
    exact ⟨(rl_mem h).1, q1⟩
  · rw [eA 8 (by omega)]
    have q_ := cg_670 n7.2 (fr 670 850 (by omega)) (rl_hea h)
    exact q_
  · rw [eA 8 (by omega)]
    have q_ := rl_unq h
    exact q_
  · rw [eA 2 (by omega), eA 8 (by omega)]
    have q_ := cg_was n7.2 (fr 670 850 (by omega)) (rl_was h)
    exact q_
  · rw [eA 10 (by omega)]; exact cg_890 (fr 890 914 (by omega)) (rl_tab h)
  · have q1 : txR (adR R b 3 (z 3) (rowSet (iA R (b + 4)) (z 3 * 4) 4 [x0, x1, x2, x3])) (z 22) t (upd f0 8 (nI (z 3 + 1))) := by
      refine cg_txt (fr 914 2578 (by omega)) htx.1 htx.2.1 htx.2.2 (fun j hj => ?_) (rl_txt h)
      have := htx.2.2 j hj
      exact ⟨eH _ (by omega), eH _ (by omega)⟩
    exact q1
end ADDROW
