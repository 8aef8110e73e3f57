/-! one more case, with its span -/
section PERSON
variable {E : EE} {R S S1 S2 : SS} {b d k n m i j p td B a s : Nat} {c v w x y : Int32} {z t hc pk : Nat → Nat} {f f0 f1 g g' C : Nat → Int32}
theorem Rel_person (hb : bkb b) (h : Rel E R b z t hc pk td B f) (hl1 : z 1 < 12) (hl : z 16 < 30) (hf : ∀ q, (q < 20 + 6 * z 1 ∨ 20 + 6 * z 1 + 5 ≤ q) → f0 q = f q) (hC : ∀ c, c < 5 → f0 (20 + 6 * z 1 + c) = C (z 1 * 6 + c)) (hCo : ∀ q, q < z 1 * 6 → C q = iA R (b + 2) q) (hm : ∃ m : Nat, m < 256 ∧ C (z 1 * 6 + 2) = nI m) (h3 : C (z 1 * 6 + 3) = 0) (h5 : C (z 1 * 6 + 5) = 0) : Rel E (adR (adR R b 1 (z 1) C) b 16 (z 16) (rowSet (iA R (b + 17)) (z 16 * 3) 3 [nI (z 1), nI td, 2147483647, 0])) b (va_up (va_up z 1 (z 1 + 1)) 16 (z 16 + 1)) t hc pk td B (mbG (upd f0 2 (nI (z 1 + 1))) (z 1) (z 16) (nI td)) := by
  obtain ⟨n1, n14, n16, n18, n20, n22, n3, n5, n7⟩ := rl_okm h
  have bl := bkb_lt hb
  have ht := rl_tod h
  have htx := rl_tx h
  obtain ⟨A', hA⟩ : ∃ A', (rowSet (iA R (b + 17)) (z 16 * 3) 3 [nI (z 1), nI td, 2147483647, 0]) = A' := ⟨_, rfl⟩
  rw [hA]
  have eA : ∀ c, c ≠ 17 → c ≠ 2 → iA (adR (adR R b 1 (z 1) C) b 16 (z 16) A') (b + c) = iA R (b + c) := fun c h1 h2 => by rw [ad_A (by omega), ad_A (by omega)]
  have e2 : iA (adR (adR R b 1 (z 1) C) b 16 (z 16) A') (b + 2) = C := by rw [ad_A (by omega)]; exact ad_A1
  have e0 : iA (adR (adR R b 1 (z 1) C) b 16 (z 16) A') (b + 17) = A' := ad_A1
  have eF : ∀ c : Nat, iF (adR (adR R b 1 (z 1) C) b 16 (z 16) A') b c = iF R b c := fun c => by rw [ad_F (Or.inl (by omega)), ad_F (Or.inl (by omega))]
  have eH : ∀ q, 109 ≤ q → (adR (adR R b 1 (z 1) C) b 16 (z 16) A') q = R q := fun q hq => by rw [ad_o (by omega) (by omega), ad_o (by omega) (by omega)]
  have fg : ∀ q, q ≠ 4 → q ≠ 20 + 6 * z 1 + 5 → (q < 164 + 3 * z 16 ∨ 164 + 3 * z 16 + 3 ≤ q) → q ≠ 2 → mbG (upd f0 2 (nI (z 1 + 1))) (z 1) (z 16) (nI td) q = f0 q := fun q h1 h2 h3 h4 => by rw [mbG, pk_un h1, pk_un h2, pk_un (by omega), pk_un (by omega), pk_un (by omega), pk_un h4]
  have ff : ∀ q, q ≠ 4 → q ≠ 2 → (q < 20 + 6 * z 1 ∨ 20 + 6 * z 1 + 6 ≤ q) → (q < 164 + 3 * z 16 ∨ 164 + 3 * z 16 + 3 ≤ q) → mbG (upd f0 2 (nI (z 1 + 1))) (z 1) (z 16) (nI td) q = f q := fun q h1 h2 h3 h4 => by rw [fg q h1 (by omega) h4 h2]; exact hf q (by omega)
  have fr : ∀ lo hi, (11 ≤ lo ∧ (hi ≤ 20 ∨ (92 ≤ lo ∧ hi ≤ 164) ∨ 254 ≤ lo)) → ∀ q, lo ≤ q → q < hi → mbG (upd f0 2 (nI (z 1 + 1))) (z 1) (z 16) (nI td) q = f q := fun lo hi hh q h1 h2 => ff q (by omega) (by omega) (by omega) (by omega)
  have w0 : mbG (upd f0 2 (nI (z 1 + 1))) (z 1) (z 16) (nI td) (164 + 3 * z 16) = nI (z 1) := by rw [mbG, pk_un (by omega), pk_un (by omega), pk_un (by omega), pk_un (by omega), pk_us]
  have w1 : mbG (upd f0 2 (nI (z 1 + 1))) (z 1) (z 16) (nI td) (164 + 3 * z 16 + 1) = nI td := by rw [mbG, pk_un (by omega), pk_un (by omega), pk_un (by omega), pk_us]
  have w2 : mbG (upd f0 2 (nI (z 1 + 1))) (z 1) (z 16) (nI td) (164 + 3 * z 16 + 2) = -1 := by rw [mbG, pk_un (by omega), pk_un (by omega), pk_us]
  have w5 : mbG (upd f0 2 (nI (z 1 + 1))) (z 1) (z 16) (nI td) (20 + 6 * z 1 + 5) = nI (z 16) := by rw [mbG, pk_un (by omega), pk_us]
  have r0 : A' (z 16 * 3) = nI (z 1) := by rw [← hA]; exact row_in (t := 0) rfl (by omega)
  have r1 : A' (z 16 * 3 + 1) = nI td := by rw [← hA]; exact row_in (t := 1) rfl (by omega)
  have r2 : A' (z 16 * 3 + 2) = 2147483647 := by rw [← hA]; exact row_in (t := 2) rfl (by omega)
  have ro : ∀ q, q < z 16 * 3 → A' q = iA R (b + 17) q := fun q hq => by rw [← hA]; exact row_out (by omega)
  have c0 : tC A' (z 16) = z 1 := by rw [tC, r0, nI_clamp (by omega)]
  have c1 : tF A' (z 16) = td := by rw [tF, r1, nI_clamp (by omega)]
  have c2 : tT A' (z 16) = 2147483647 := by rw [tT, r2]; rfl
  have co : ∀ i, i < z 16 → tC A' i = tC (iA R (b + 17)) i ∧ tF A' i = tF (iA R (b + 17)) i ∧ tT A' i = tT (iA R (b + 17)) i := fun i hi => ⟨by rw [tC, tC, ro _ (by omega)], by rw [tF, tF, ro _ (by omega)], by rw [tT, tT, ro _ (by omega)]⟩
  obtain ⟨s1, s2, s3⟩ := rl_spg h
  have okb1 := okB_add (g := C) hb (a := 1) (lim := 12) (by simp [lmA]) (rl_okh h).1 hl1
  have okb2 := okB_add (g := A') hb (a := 16) (lim := 30) (by simp [lmA]) okb1 hl
  have okm1 := okM_add (f0 := f0) (a := 1) (ix := 2) (lim := 12) (by simp [ixA]) (fun q q1 q2 => hf q (by omega)) (rl_okm h) hl1
  have okm2 := okM_add (f0 := upd (upd (upd (upd (upd f0 2 (nI (z 1 + 1))) (164 + 3 * z 16) (nI (z 1))) (164 + 3 * z 16 + 1) (nI td)) (164 + 3 * z 16 + 2) (-1)) (20 + 6 * z 1 + 5) (nI (z 16))) (a := 16) (ix := 4) (lim := 30) (by simp [ixA]) (fun q q1 q2 => by rw [pk_un (by omega), pk_un (by omega), pk_un (by omega), pk_un (by omega)]) okm1 hl
  refine ⟨⟨okb2, fun i hi => by rw [ad_A (by omega), ad_A (by omega)]; exact (rl_okh h).2.1 i hi, fun i hi => by rw [ad_A (by omega), ad_A (by omega)]; exact (rl_okh h).2.2 i hi⟩, okm2, ?_, ?_, ?_, ?_, ?_, ?_, ?_, ?_, ?_, ?_, ?_, ?_, ?_, ?_, ?_, ?_, ?_, ?_⟩
  · rw [eF 8, ff 0 (by omega) (by omega) (by omega) (by omega)]; exact rl_tod h
  · rw [eF 9, ff 1 (by omega) (by omega) (by omega) (by omega)]; exact rl_see h
  · rw [eF 10, eF 11]; exact cg_dou (ff 11 (by omega) (by omega) (by omega) (by omega)) (fr 850 890 (by omega)) (rl_dou h)
  · rw [eA 12 (by omega) (by omega)]; exact cg_12 (fr 13 17 (by omega)) (rl_put h)
  · rw [e2]
    intro i hi
    have hi : i < z 1 + 1 := hi
    by_cases a : i = z 1
    · subst a
      exact ⟨fun c hc => by rw [fg _ (by omega) (by omega) (by omega) (by omega)]; exact hC c hc, hm⟩
    · obtain ⟨q1, q2, q3, q4⟩ := rl_cas h i (by omega)
      exact ⟨fun c hc => by rw [ff _ (by omega) (by omega) (by omega) (by omega), hCo _ (by omega)]; exact q1 c hc, q2, q3, by rw [hCo _ (by omega)]; exact q4⟩
  · rw [eA 15 (by omega) (by omega)]
    have q_ := cg_92 n14.2 (fr 92 164 (by omega)) (rl_sen h)
    exact q_
  · rw [e0]
    intro i hi
    have hi : i < z 16 + 1 := hi
    by_cases a : i = z 16
    · subst a
      rw [w0, w1, w2, c0, c1, c2]
      exact ⟨rfl, rfl, by rw [if_pos rfl], by omega, by omega, by omega⟩
    · obtain ⟨q0, q1, q2⟩ := co i (by omega)
      rw [q0, q1, q2, ff _ (by omega) (by omega) (by omega) (by omega), ff _ (by omega) (by omega) (by omega) (by omega), ff _ (by omega) (by omega) (by omega) (by omega)]
      exact rl_sps h i (by omega)
  · rw [e0]
    have v1 : tri A' (z 16 + 1) (tC A') (tF A') (tT A') := fun i hi => by
      by_cases a : i = z 16
      · subst a
        rw [r0, r1, r2, c0, c1, c2]
        exact ⟨rfl, rfl, rfl, by omega, by omega, by omega⟩
      · obtain ⟨q0, q1, q2⟩ := co i (by omega)
        rw [q0, q1, q2, ro _ (by omega), ro _ (by omega), ro _ (by omega)]
        exact s1 i (by omega)
    have v2 : ∀ i, i < z 16 + 1 → tC A' i < z 1 + 1 ∧ tF A' i ≤ td ∧ (tT A' i ≤ td ∨ tT A' i = 2147483647) := fun i hi => by
      by_cases a : i = z 16
      · subst a
        rw [c0, c1, c2]
        exact ⟨Nat.lt_succ_self _, Nat.le_refl _, Or.inr rfl⟩
      · obtain ⟨q0, q1, q2⟩ := co i (by omega)
        rw [q0, q1, q2]
        obtain ⟨y1, y2, y3⟩ := s2 i (by omega)
        exact ⟨by omega, y2, y3⟩
    have v3 : ∀ i j, i < j → j < z 16 + 1 → tC A' i = tC A' j → tT A' i ≤ tF A' j := fun i j h1 h2 h3 => by
      obtain ⟨q0, q1, q2⟩ := co i (by omega)
      by_cases a : j = z 16
      · subst a
        rw [c0, q0] at h3
        have := (s2 i (by omega)).1
        omega
      · obtain ⟨p0, p1, p2⟩ := co j (by omega)
        rw [q0, p0] at h3
        rw [q2, p1]
        exact s3 i j h1 (by omega) h3
    exact ⟨v1, v2, v3⟩
  · rw [e2, e0]
    have v1 : ∀ i, i < z 1 + 1 → ∃ s, lsq A' (nI i) (z 16 + 1) = some s ∧ mbG (upd f0 2 (nI (z 1 + 1))) (z 1) (z 16) (nI td) (20 + 6 * i + 5) = (if A' (s * 3 + 2) = 2147483647 then nI s else -1) ∧ (C (i * 6 + 3) = 0 ∨ A' (s * 3 + 2) ≠ 2147483647) := fun i hi => by
      rw [lsq, r0]
      by_cases a : z 1 = i
      · subst a
        exact ⟨z 16, by rw [if_pos rfl], by rw [w5, r2, if_pos rfl], Or.inl h3⟩
      · obtain ⟨u, u1, u2, u3⟩ := rl_lat h i (by omega)
        have hu := (lsq_lt u1).1
        refine ⟨u, ?_, ?_, ?_⟩
        · rw [if_neg (fun e => a ((nI_eq (by omega) (by omega)).mp e)), lsq_cg (n := z 16) (fun q hq => ro _ (by omega)) (z 16) (Nat.le_refl _)]
          exact u1
        · rw [ff _ (by omega) (by omega) (by omega) (by omega), ro _ (by omega)]
          exact u2
        · rw [ro _ (by omega), hCo _ (by omega)]
          exact u3
    exact v1
  · rw [eA 19 (by omega) (by omega)]
    have q1 := cg_gap n18.2 (fr 254 314 (by omega)) (rl_gap h).1
    have q2 := (rl_gap h).2
    exact ⟨q1, q2⟩
  · rw [eA 21 (by omega) (by omega)]
    have q_ := cg_314 n20.2 (fr 314 474 (by omega)) (rl_cre h)
    exact q_
  · rw [eA 4 (by omega) (by omega)]
    have q_ := cg_474 n3.2 (fr 474 634 (by omega)) (rl_pap h)
    exact q_
  · rw [eA 6 (by omega) (by omega)]
    have q1 := cg_634 n5.2 (fr 634 670 (by omega)) (rl_mem h).2
    exact ⟨(rl_mem h).1, q1⟩
  · rw [eA 8 (by omega) (by omega)]
    have q_ := cg_670 n7.2 (fr 670 850 (by omega)) (rl_hea h)
    exact q_
  · rw [eA 8 (by omega) (by omega)]
    obtain ⟨u1, u2⟩ := rl_unq h
    have v1 : ∀ i, i < z 7 → hc i < z 1 + 1 := fun i hi => Nat.lt_succ_of_lt (u1 i hi)
    exact ⟨v1, u2⟩
  · rw [e2, eA 8 (by omega) (by omega)]
    obtain ⟨u1, u2⟩ := rl_was h
    have gf : ∀ q, 670 ≤ q → q < 850 → mbG (upd f0 2 (nI (z 1 + 1))) (z 1) (z 16) (nI td) q = f q := fr 670 850 (by omega)
    have v1 : ∀ i, i < z 7 → iA R (b + 8) (i * 5 + 2) = 0 → mbG (upd f0 2 (nI (z 1 + 1))) (z 1) (z 16) (nI td) (670 + 6 * i + 5) = 0 := fun i hi e => by
      rw [gf _ (by omega) (by omega)]; exact u1 i hi e
    have v2 : ∀ k, k < z 1 + 1 → rfor (hoM (mbG (upd f0 2 (nI (z 1 + 1))) (z 1) (z 16) (nI td)) (nI k)) 0 (z 7) 0 = C (k * 6 + 5) := fun k hk => by
      have g : rfor (hoM (mbG (upd f0 2 (nI (z 1 + 1))) (z 1) (z 16) (nI td)) (nI k)) 0 (z 7) 0 = rfor (hoM f (nI k)) 0 (z 7) 0 := rfor_congr _ _ _ fun j s _ hj => by
        rw [hoM, hoM, gf _ (by omega) (by omega), gf _ (by omega) (by omega)]
      rw [g]
      by_cases a : k = z 1
      · subst a
        rw [h5, rfor_congr (g' := fun _ s => s) _ _ _ (fun j s _ hj => ?_), rfor_id (fun _ => rfl)]
        have hj : j < z 7 := by omega
        have a0 : f (670 + 6 * j) = nI (hc j) := (rl_hea h j hj 0 (by omega)).trans ((rl_okh h).2.1 j hj).1
        have a1 := (rl_unq h).1 j hj
        rw [hoM, a0, if_neg (fun e => by have := (nI_eq (by omega) (by omega)).mp e; omega), Int32.add_zero]
      · rw [hCo _ (by omega)]
        exact u2 k (by omega)
    exact ⟨v1, v2⟩
  · rw [eA 10 (by omega) (by omega)]; exact cg_890 (fr 890 914 (by omega)) (rl_tab h)
  · have q1 : txR (adR (adR R b 1 (z 1) C) b 16 (z 16) A') (z 22) t (mbG (upd f0 2 (nI (z 1 + 1))) (z 1) (z 16) (nI td)) := by
      refine cg_txt (fr 914 2578 (by omega)) htx.1 htx.2.1 htx.2.2 (fun j hj => ?_) (rl_txt h)
      have := htx.2.2 j hj
      exact ⟨eH _ (by omega), eH _ (by omega)⟩
    exact q1
end PERSON
