/-! one more hearing -/
section ADDH
variable {E : EE} {R S S1 S2 : SS} {b d k n m i j p td B a : Nat} {c v w x y x0 x1 x2 x3 : Int32} {z t hc pk : Nat → Nat} {f f0 f1 g : Nat → Int32}
theorem Rel_addH (hb : bkb b) (h : Rel E R b z t hc pk td B f) (hl : z 7 < 30) (hf : ∀ q, (q < 670 + 6 * z 7 ∨ 670 + 6 * z 7 + 6 ≤ q) → f0 q = f q) (hk : k < z 1) (h0 : f0 (670 + 6 * z 7) = nI k) (h1 : f0 (670 + 6 * z 7 + 1) = x1) (h2 : f0 (670 + 6 * z 7 + 2) = 0) (h3 : f0 (670 + 6 * z 7 + 3) = 0) (h4 : f0 (670 + 6 * z 7 + 4) = 0) (h5 : f0 (670 + 6 * z 7 + 5) = 0) (hx0 : x0 = nI k) (hx2 : x2 = 0) (hx3 : x3 = 0) (hns : ∀ i, i < z 7 → hc i = k → iA R (b + 8) (i * 5 + 2) ≠ 0) : Rel E (adR R b 7 (z 7) (rowSet (iA R (b + 8)) (z 7 * 5) 5 [x0, x1, x2, x3])) b (va_up z 7 (z 7 + 1)) t (va_up hc (z 7) k) pk td B (upd f0 10 (nI (z 7 + 1))) := by
  obtain ⟨n1, n14, n16, n18, n20, n22, n3, n5, n7⟩ := rl_okm h
  have bl := bkb_lt hb
  have ht := rl_tod h
  have htx := rl_tx h
  have eA : ∀ c, c ≠ 8 → iA (adR R b 7 (z 7) (rowSet (iA R (b + 8)) (z 7 * 5) 5 [x0, x1, x2, x3])) (b + c) = iA R (b + c) := fun c h1 => ad_A (by omega)
  have e0 : iA (adR R b 7 (z 7) (rowSet (iA R (b + 8)) (z 7 * 5) 5 [x0, x1, x2, x3])) (b + 8) = rowSet (iA R (b + 8)) (z 7 * 5) 5 [x0, x1, x2, x3] := ad_A1
  have eF : ∀ c : Nat, iF (adR R b 7 (z 7) (rowSet (iA R (b + 8)) (z 7 * 5) 5 [x0, x1, x2, x3])) b c = iF R b c := fun c => ad_F (Or.inl (by omega))
  have eH : ∀ q, 109 ≤ q → adR R b 7 (z 7) (rowSet (iA R (b + 8)) (z 7 * 5) 5 [x0, x1, x2, x3]) q = R q := fun q hq => ad_o (by omega) (by omega)
  have ff : ∀ q, q ≠ 10 → (q < 670 + 6 * z 7 ∨ 670 + 6 * z 7 + 6 ≤ q) → upd f0 10 (nI (z 7 + 1)) q = f q := fun q h1 h2 => by rw [pk_un h1]; exact hf q h2
  have fn : ∀ q, q ≠ 10 → upd f0 10 (nI (z 7 + 1)) q = f0 q := fun q h1 => pk_un h1
  have fr : ∀ lo hi, (11 ≤ lo ∧ (hi ≤ 670 ∨ 850 ≤ lo)) → ∀ q, lo ≤ q → q < hi → upd f0 10 (nI (z 7 + 1)) q = f q := fun lo hi hh q h1 h2 => ff q (by omega) (by omega)
  have hcs' : ∀ i, i < z 7 + 1 → iA (adR R b 7 (z 7) (rowSet (iA R (b + 8)) (z 7 * 5) 5 [x0, x1, x2, x3])) (b + 8) (i * 5) = nI (va_up hc (z 7) k i) ∧ va_up hc (z 7) k i < 12 := fun i hi => by
    rw [e0]
    by_cases a : i = z 7
    · subst a
      rw [va_up, if_pos rfl, row_in (p := z 7 * 5) (t := 0) (Nat.add_zero _).symm (by omega)]
      exact ⟨hx0, by omega⟩
    · rw [va_up, if_neg a, row_out (by omega)]
      exact (rl_okh h).2.1 i (by omega)
  refine ⟨⟨okB_add hb (lim := 30) (by simp [lmA]) (rl_okh h).1 hl, hcs', fun i hi => by rw [ad_A (by omega)]; exact (rl_okh h).2.2 i hi⟩, okM_add (lim := 30) (by simp [ixA]) (fun q q1 q2 => hf q (by omega)) (rl_okm h) hl, ?_, ?_, ?_, ?_, ?_, ?_, ?_, ?_, ?_, ?_, ?_, ?_, ?_, ?_, ?_, ?_, ?_, ?_⟩
  · rw [eF 8, ff 0 (by omega) (by omega)]; exact rl_tod h
  · rw [eF 9, ff 1 (by omega) (by omega)]; exact rl_see h
  · rw [eF 10, eF 11]; exact cg_dou (ff 11 (by omega) (by omega)) (fr 850 890 (by omega)) (rl_dou h)
  · rw [eA 12 (by omega)]; exact cg_12 (fr 13 17 (by omega)) (rl_put h)
  · rw [eA 2 (by omega)]
    have q_ := cg_20 n1.2 (fr 20 92 (by omega)) (rl_cas h)
    exact q_
  · rw [eA 15 (by omega)]
    have q_ := cg_92 n14.2 (fr 92 164 (by omega)) (rl_sen h)
    exact q_
  · rw [eA 17 (by omega)]
    have q_ := cg_sps n16.2 (fr 164 254 (by omega)) (rl_sps h)
    exact q_
  · rw [eA 17 (by omega)]
    have q_ := rl_spg h
    exact q_
  · rw [eA 2 (by omega), eA 17 (by omega)]
    have q_ := cg_lat n1.2 (fr 20 92 (by omega)) (rl_lat h)
    exact q_
  · rw [eA 19 (by omega)]
    have q1 := cg_gap n18.2 (fr 254 314 (by omega)) (rl_gap h).1
    have q2 := (rl_gap h).2
    exact ⟨q1, q2⟩
  · rw [eA 21 (by omega)]
    have q_ := cg_314 n20.2 (fr 314 474 (by omega)) (rl_cre h)
    exact q_
  · rw [eA 4 (by omega)]
    have q_ := cg_474 n3.2 (fr 474 634 (by omega)) (rl_pap h)
    exact q_
  · rw [eA 6 (by omega)]
    have q1 := (rl_mem h).1
    have q2 := cg_634 n5.2 (fr 634 670 (by omega)) (rl_mem h).2
    exact ⟨q1, q2⟩
  · rw [e0]
    intro i hi c hc5
    have hi : i < z 7 + 1 := hi
    by_cases a : i = z 7
    · subst a
      rw [fn _ (by omega), row_in (t := c) rfl hc5]
      match c, hc5 with
      | 0, _ => exact h0.trans hx0.symm
      | 1, _ => exact h1
      | 2, _ => exact h2.trans hx2.symm
      | 3, _ => exact h3.trans hx3.symm
      | 4, _ => exact h4
    · rw [ff _ (by omega) (by omega), row_out (by omega)]
      exact rl_hea h i (by omega) c hc5
  · rw [e0]
    obtain ⟨u1, u2⟩ := rl_unq h
    have v1 : ∀ i, i < z 7 + 1 → va_up hc (z 7) k i < z 1 := fun i hi => by
      by_cases a : i = z 7
      · rw [va_up, if_pos a]; exact hk
      · rw [va_up, if_neg a]; exact u1 i (by omega)
    have r2 : ∀ i, i < z 7 → rowSet (iA R (b + 8)) (z 7 * 5) 5 [x0, x1, x2, x3] (i * 5 + 2) = iA R (b + 8) (i * 5 + 2) := fun i hi => row_out (by omega)
    have v2 : ∀ i j, i < z 7 + 1 → j < z 7 + 1 → rowSet (iA R (b + 8)) (z 7 * 5) 5 [x0, x1, x2, x3] (i * 5 + 2) = 0 → rowSet (iA R (b + 8)) (z 7 * 5) 5 [x0, x1, x2, x3] (j * 5 + 2) = 0 → va_up hc (z 7) k i = va_up hc (z 7) k j → i = j := fun i j hi hj s1 s2 e => by
      by_cases a : i = z 7
      · by_cases a2 : j = z 7
        · omega
        · rw [r2 j (by omega)] at s2
          rw [va_up, va_up, if_pos a, if_neg a2] at e
          exact absurd s2 (hns j (by omega) e.symm)
      · rw [r2 i (by omega)] at s1
        by_cases a2 : j = z 7
        · rw [va_up, va_up, if_neg a, if_pos a2] at e
          exact absurd s1 (hns i (by omega) e)
        · rw [r2 j (by omega)] at s2
          rw [va_up, va_up, if_neg a, if_neg a2] at e
          exact u2 i j (by omega) (by omega) s1 s2 e
    exact ⟨v1, v2⟩
  · rw [eA 2 (by omega), e0]
    obtain ⟨u1, u2⟩ := rl_was h
    have v1 : ∀ i, i < z 7 + 1 → rowSet (iA R (b + 8)) (z 7 * 5) 5 [x0, x1, x2, x3] (i * 5 + 2) = 0 → upd f0 10 (nI (z 7 + 1)) (670 + 6 * i + 5) = 0 := fun i hi s1 => by
      by_cases a : i = z 7
      · subst a; rw [fn _ (by omega)]; exact h5
      · rw [row_out (by omega)] at s1
        rw [ff _ (by omega) (by omega)]
        exact u1 i (by omega) s1
    have v2 : ∀ k, k < z 1 → rfor (hoM (upd f0 10 (nI (z 7 + 1))) (nI k)) 0 (z 7 + 1) 0 = iA R (b + 2) (k * 6 + 5) := fun k hk => by
      rw [rfor_last, hoM, Nat.zero_add, fn (670 + 6 * z 7 + 5) (by omega), h5, ite_self, Int32.add_zero, ← u2 k hk]
      refine rfor_congr _ _ _ fun j s _ hj => ?_
      rw [hoM, hoM, ff _ (by omega) (by omega), ff _ (by omega) (by omega)]
    exact ⟨v1, v2⟩
  · rw [eA 10 (by omega)]; exact cg_890 (fr 890 914 (by omega)) (rl_tab h)
  · have q1 : txR (adR R b 7 (z 7) (rowSet (iA R (b + 8)) (z 7 * 5) 5 [x0, x1, x2, x3])) (z 22) t (upd f0 10 (nI (z 7 + 1))) := by
      refine cg_txt (fr 914 2578 (by omega)) htx.1 htx.2.1 htx.2.2 (fun j hj => ?_) (rl_txt h)
      have := htx.2.2 j hj
      exact ⟨eH _ (by omega), eH _ (by omega)⟩
    exact q1
end ADDH
