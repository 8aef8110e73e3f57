/-! the latest span goes on again -/
section REOPEN
variable {E : EE} {R S S1 S2 : SS} {b d k n m i j p td B a s : Nat} {c v w x y : Int32} {z t hc pk : Nat → Nat} {f f0 f1 g g' A A' : Nat → Int32}
def roF (f : Nat → Int32) (k s : Nat) : Nat → Int32 := upd (upd f (20 + 6 * k + 5) (nI s)) (164 + 3 * s + 2) (-1)
theorem Rel_reopen (hb : bkb b) (h : Rel E R b z t hc pk td B f) (hk : k < z 1) (hl : lsq (iA R (b + 17)) (nI k) (z 16) = some s) (hin : iA R (b + 2) (k * 6 + 3) = 0) : Rel E (sA R (b + 17) (upd (iA R (b + 17)) (s * 3 + 2) 2147483647)) b z t hc pk td B (roF f k s) := by
  obtain ⟨n1, n14, n16, n18, n20, n22, n3, n5, n7⟩ := rl_okm h
  have bl := bkb_lt hb
  have ht := rl_tod h
  have htx := rl_tx h
  obtain ⟨hs, hcs⟩ := lsq_lt hl
  obtain ⟨A', hA⟩ : ∃ A', upd (iA R (b + 17)) (s * 3 + 2) 2147483647 = A' := ⟨_, rfl⟩
  rw [hA]
  have eA : ∀ c, c ≠ 17 → iA (sA R (b + 17) A') (b + c) = iA R (b + c) := fun c h1 => iA_sA_ne (by omega)
  have e0 : iA (sA R (b + 17) A') (b + 17) = A' := iA_sA
  have eF : ∀ c : Nat, iF (sA R (b + 17) A') b c = iF R b c := fun c => iF_sA
  have eH : ∀ q, 109 ≤ q → sA R (b + 17) A' q = R q := fun q hq => by rw [sA, va_up, if_neg (by omega)]
  have ff : ∀ q, q ≠ 20 + 6 * k + 5 → q ≠ 164 + 3 * s + 2 → roF f k s q = f q := fun q h1 h2 => by rw [roF, pk_un h2, pk_un h1]
  have fr : ∀ lo hi, (hi ≤ 20 ∨ (92 ≤ lo ∧ hi ≤ 164) ∨ 254 ≤ lo) → ∀ q, lo ≤ q → q < hi → roF f k s q = f q := fun lo hi hh q h1 h2 => ff q (by omega) (by omega)
  have w5 : roF f k s (20 + 6 * k + 5) = nI s := by rw [roF, pk_un (by omega), pk_us]
  have w2 : roF f k s (164 + 3 * s + 2) = -1 := by rw [roF, pk_us]
  have a0 : ∀ i, A' (i * 3) = iA R (b + 17) (i * 3) := fun i => by rw [← hA, pk_un (by omega)]
  have a1 : ∀ i, A' (i * 3 + 1) = iA R (b + 17) (i * 3 + 1) := fun i => by rw [← hA, pk_un (by omega)]
  have a2 : ∀ i, i ≠ s → A' (i * 3 + 2) = iA R (b + 17) (i * 3 + 2) := fun i hi => by rw [← hA, pk_un (by omega)]
  have as : A' (s * 3 + 2) = 2147483647 := by rw [← hA, pk_us]
  have kC : ∀ i, tC A' i = tC (iA R (b + 17)) i := fun i => by rw [tC, tC, a0]
  have kF : ∀ i, tF A' i = tF (iA R (b + 17)) i := fun i => by rw [tF, tF, a1]
  have kT : ∀ i, i ≠ s → tT A' i = tT (iA R (b + 17)) i := fun i hi => by rw [tT, tT, a2 i hi]
  have kTs : tT A' s = 2147483647 := by rw [tT, as]; rfl
  obtain ⟨g1, g2, g3⟩ := rl_spg h
  refine ⟨⟨okB_sA (by omega) (rl_okh h).1, hcs_sA (by omega) (rl_okh h).2.1, pks_sA (by omega) (rl_okh h).2.2⟩, cg_okm (fr 2 11 (by omega)) (rl_okm h), ?_, ?_, ?_, ?_, ?_, ?_, ?_, ?_, ?_, ?_, ?_, ?_, ?_, ?_, ?_, ?_, ?_, ?_⟩
  · rw [eF 8, ff 0 (by omega) (by omega)]; exact rl_tod h
  · rw [eF 9, ff 1 (by omega) (by omega)]; exact rl_see h
  · rw [eF 10, eF 11]; exact cg_dou (ff 11 (by omega) (by omega)) (fr 850 890 (by omega)) (rl_dou h)
  · rw [eA 12 (by omega)]; exact cg_12 (fr 13 17 (by omega)) (rl_put h)
  · rw [eA 2 (by omega)]
    intro i hi
    obtain ⟨q1, q2⟩ := rl_cas h i hi
    exact ⟨fun c hc => by rw [ff _ (by omega) (by omega)]; exact q1 c hc, q2⟩
  · rw [eA 15 (by omega)]; exact cg_92 n14.2 (fr 92 164 (by omega)) (rl_sen h)
  · rw [e0]
    intro i hi
    obtain ⟨h1, h2, h3, h4, h5, h6⟩ := rl_sps h i hi
    rw [kC, kF, ff _ (by omega) (by omega), ff _ (by omega) (by omega)]
    by_cases a : i = s
    · subst a
      rw [kTs, w2]
      exact ⟨h1, h2, by rw [if_pos rfl], h4, h5, by omega⟩
    · rw [kT i a, ff _ (by omega) (by omega)]
      exact ⟨h1, h2, h3, h4, h5, h6⟩
  · rw [e0]
    refine ⟨fun i hi => ?_, fun i hi => ?_, fun i j h1 h2 h3 => ?_⟩
    · obtain ⟨t0, t1, t2, t3, t4, t5⟩ := g1 i hi
      rw [kC, kF, a0, a1]
      by_cases a : i = s
      · subst a
        rw [kTs, as]
        exact ⟨t0, t1, rfl, t3, t4, by omega⟩
      · rw [kT i a, a2 i a]
        exact ⟨t0, t1, t2, t3, t4, t5⟩
    · obtain ⟨t0, t1, t2⟩ := g2 i hi
      rw [kC, kF]
      by_cases a : i = s
      · subst a
        rw [kTs]
        exact ⟨t0, t1, Or.inr rfl⟩
      · rw [kT i a]
        exact ⟨t0, t1, t2⟩
    · rw [kC, kC] at h3
      rw [kF]
      by_cases a : i = s
      · subst a
        have q0 := lsq_last hl j h1 h2
        rw [(g1 j h2).1, ← h3, ← (g1 i hs).1] at q0
        exact absurd hcs q0
      · rw [kT i a]
        exact g3 i j h1 h2 h3
  · rw [eA 2 (by omega), e0]
    intro i hi
    obtain ⟨u, u1, u2, u3⟩ := rl_lat h i hi
    rw [lsq_cg (n := z 16) (fun q hq => a0 q) (z 16) (Nat.le_refl _)]
    by_cases a : k = i
    · subst a
      rw [hl] at u1
      cases u1
      exact ⟨s, hl, by rw [w5, as, if_pos rfl], Or.inl hin⟩
    · have hi12 : i < 12 := by have : i < z 1 := hi; omega
      have hu := lsq_lt u1
      have hne : u ≠ s := fun e => by
        subst e
        rw [hcs] at hu
        have := (nI_eq (a := k) (b := i) (by omega) (by omega)).mp hu.2
        exact a this
      exact ⟨u, u1, by rw [ff _ (by omega) (by omega), a2 u hne]; exact u2, by rw [a2 u hne]; exact u3⟩
  · rw [eA 19 (by omega)]; exact ⟨cg_gap n18.2 (fr 254 314 (by omega)) (rl_gap h).1, (rl_gap h).2⟩
  · rw [eA 21 (by omega)]; exact cg_314 n20.2 (fr 314 474 (by omega)) (rl_cre h)
  · rw [eA 4 (by omega)]; exact cg_474 n3.2 (fr 474 634 (by omega)) (rl_pap h)
  · rw [eA 6 (by omega)]; exact ⟨(rl_mem h).1, cg_634 n5.2 (fr 634 670 (by omega)) (rl_mem h).2⟩
  · rw [eA 8 (by omega)]; exact cg_670 n7.2 (fr 670 850 (by omega)) (rl_hea h)
  · rw [eA 8 (by omega)]; exact rl_unq h
  · rw [eA 2 (by omega), eA 8 (by omega)]; exact cg_was n7.2 (fr 670 850 (by omega)) (rl_was h)
  · rw [eA 10 (by omega)]; exact cg_890 (fr 890 914 (by omega)) (rl_tab h)
  · refine cg_txt (fr 914 2578 (by omega)) htx.1 htx.2.1 htx.2.2 (fun j hj => ?_) (rl_txt h)
    have := htx.2.2 j hj
    exact ⟨eH _ (by omega), eH _ (by omega)⟩
end REOPEN
