/-! calls that change a number: table, seed, be, conflict, back -/
section CHANGE
variable {E : EE} {R S S1 S2 : SS} {b d k n m i j p td B : Nat} {c v w x y x0 x1 x2 x3 : Int32} {z t hc pk : Nat → Nat} {f : Nat → Int32}
def mkO (j : Nat) (v : Int32) : Prop := j = 2 → ∃ m : Nat, m < 256 ∧ v = nI m
theorem Rel_table (hb : bkb b) (h : Rel E R b z t hc pk td B f) (hi : i < 8) (hj : j < 3) : Rel E (sA R (b + 10) (upd (iA R (b + 10)) (i * 3 + j) v)) b (z) t hc pk td B (upd f (890 + 3 * i + j) v) := by
  obtain ⟨n1, n14, n16, n18, n20, n22, n3, n5, n7⟩ := rl_okm h
  have bl := bkb_lt hb
  have ht := rl_tod h
  have htx := rl_tx h
  have eA : ∀ c, c ≠ 10 → iA (sA R (b + 10) (upd (iA R (b + 10)) (i * 3 + j) v)) (b + c) = iA R (b + c) := fun c h1 => iA_sA_ne (by omega)
  have e0 : iA (sA R (b + 10) (upd (iA R (b + 10)) (i * 3 + j) v)) (b + 10) = upd (iA R (b + 10)) (i * 3 + j) v := iA_sA
  have eF : ∀ c : Nat, True → iF (sA R (b + 10) (upd (iA R (b + 10)) (i * 3 + j) v)) b c = iF R b c := fun c _ => iF_sA
  have eH : ∀ q, 109 ≤ q → sA R (b + 10) (upd (iA R (b + 10)) (i * 3 + j) v) q = R q := fun q hq => by rw [sA, va_up, if_neg (by omega)]
  have ff : ∀ q, q ≠ 890 + 3 * i + j → upd f (890 + 3 * i + j) (v) q = f q := fun q h1 => pk_un h1
  have fr : ∀ lo hi, (hi ≤ 890 ∨ 914 ≤ lo) → ∀ q, lo ≤ q → q < hi → upd f (890 + 3 * i + j) (v) q = f q := fun lo hi hh q h1 h2 => ff q (by omega)
  refine ⟨⟨okB_sA (by omega) (rl_okh h).1, hcs_sA (by omega) (rl_okh h).2.1, pks_sA (by omega) (rl_okh h).2.2⟩, cg_okm (fr 2 11 (by omega)) (rl_okm h), ?_, ?_, ?_, ?_, ?_, ?_, ?_, ?_, ?_, ?_, ?_, ?_, ?_, ?_, ?_, ?_, ?_, ?_⟩
  · rw [eF 8 trivial, ff 0 (by omega)]; exact rl_tod h
  · rw [eF 9 trivial, ff 1 (by omega)]; exact rl_see h
  · rw [eF 10 trivial, eF 11 trivial]; exact cg_dou (ff 11 (by omega)) (fr 850 890 (by omega)) (rl_dou h)
  · rw [eA 12 (by omega)]; exact cg_12 (fr 13 17 (by omega)) (rl_put h)
  · rw [eA 2 (by omega)]; exact cg_20 n1.2 (fr 20 92 (by omega)) (rl_cas h)
  · rw [eA 15 (by omega)]; exact cg_92 n14.2 (fr 92 164 (by omega)) (rl_sen h)
  · rw [eA 17 (by omega)]; exact cg_sps n16.2 (fr 164 254 (by omega)) (rl_sps h)
  · rw [eA 17 (by omega)]; exact rl_spg h
  · rw [eA 2 (by omega), eA 17 (by omega)]; exact cg_lat n1.2 (fr 20 92 (by omega)) (rl_lat h)
  · rw [eA 19 (by omega)]; exact ⟨cg_gap n18.2 (fr 254 314 (by omega)) (rl_gap h).1, (rl_gap h).2⟩
  · rw [eA 21 (by omega)]; exact cg_314 n20.2 (fr 314 474 (by omega)) (rl_cre h)
  · rw [eA 4 (by omega)]; exact cg_474 n3.2 (fr 474 634 (by omega)) (rl_pap h)
  · rw [eA 6 (by omega)]; exact ⟨(rl_mem h).1, cg_634 n5.2 (fr 634 670 (by omega)) (rl_mem h).2⟩
  · rw [eA 8 (by omega)]; exact cg_670 n7.2 (fr 670 850 (by omega)) (rl_hea h)
  · rw [eA 8 (by omega)]; exact rl_unq h
  · rw [eA 2 (by omega), eA 8 (by omega)]; exact cg_was n7.2 (fr 670 850 (by omega)) (rl_was h)
  · rw [e0]
    intro p hp c hc
    by_cases a : p = i ∧ c = j
    · obtain ⟨rfl, rfl⟩ := a
      rw [pk_us, pk_us]
    · rw [ff _ (by omega), pk_un (by omega)]
      exact rl_tab h p hp c hc
  · refine cg_txt (fr 914 2578 (by omega)) htx.1 htx.2.1 htx.2.2 (fun j hj => ?_) (rl_txt h)
    have := htx.2.2 j hj
    exact ⟨eH _ (by omega), eH _ (by omega)⟩
theorem Rel_seed (hb : bkb b) (h : Rel E R b z t hc pk td B f) (hv : ∃ n : Nat, n < 65536 ∧ v = nI n) : Rel E (sF R b 9 v) b (z) t hc pk td B (upd f 1 v) := by
  obtain ⟨n1, n14, n16, n18, n20, n22, n3, n5, n7⟩ := rl_okm h
  have bl := bkb_lt hb
  have ht := rl_tod h
  have htx := rl_tx h
  have eA : ∀ c, True → iA (sF R b 9 v) (b + c) = iA R (b + c) := fun c _ => iA_sF
  have eF : ∀ c, c ≠ 9 → iF (sF R b 9 v) b c = iF R b c := fun c hc => iF_sF_ne (Or.inr hc)
  have eH : ∀ q, 109 ≤ q → sF R b 9 v q = R q := fun q hq => by rw [sF, va_up, if_neg (by omega)]
  have ff : ∀ q, q ≠ 1 → upd f 1 v q = f q := fun q h1 => pk_un h1
  have fr : ∀ lo hi, 2 ≤ lo → ∀ q, lo ≤ q → q < hi → upd f 1 v q = f q := fun lo hi hh q h1 h2 => ff q (by omega)
  refine ⟨okH_sF hb (rl_okh h), cg_okm (fr 2 11 (by omega)) (rl_okm h), ?_, ?_, ?_, ?_, ?_, ?_, ?_, ?_, ?_, ?_, ?_, ?_, ?_, ?_, ?_, ?_, ?_, ?_⟩
  · rw [eF 8 (by omega), ff 0 (by omega)]; exact rl_tod h
  · rw [iF_sF, pk_us]; exact ⟨rfl, hv⟩
  · rw [eF 10 (by omega), eF 11 (by omega)]; exact cg_dou (ff 11 (by omega)) (fr 850 890 (by omega)) (rl_dou h)
  · rw [eA 12 trivial]; exact cg_12 (fr 13 17 (by omega)) (rl_put h)
  · rw [eA 2 trivial]; exact cg_20 n1.2 (fr 20 92 (by omega)) (rl_cas h)
  · rw [eA 15 trivial]; exact cg_92 n14.2 (fr 92 164 (by omega)) (rl_sen h)
  · rw [eA 17 trivial]; exact cg_sps n16.2 (fr 164 254 (by omega)) (rl_sps h)
  · rw [eA 17 trivial]; exact rl_spg h
  · rw [eA 2 trivial, eA 17 trivial]; exact cg_lat n1.2 (fr 20 92 (by omega)) (rl_lat h)
  · rw [eA 19 trivial]; exact ⟨cg_gap n18.2 (fr 254 314 (by omega)) (rl_gap h).1, (rl_gap h).2⟩
  · rw [eA 21 trivial]; exact cg_314 n20.2 (fr 314 474 (by omega)) (rl_cre h)
  · rw [eA 4 trivial]; exact cg_474 n3.2 (fr 474 634 (by omega)) (rl_pap h)
  · rw [eA 6 trivial]; exact ⟨(rl_mem h).1, cg_634 n5.2 (fr 634 670 (by omega)) (rl_mem h).2⟩
  · rw [eA 8 trivial]; exact cg_670 n7.2 (fr 670 850 (by omega)) (rl_hea h)
  · rw [eA 8 trivial]; exact rl_unq h
  · rw [eA 2 trivial, eA 8 trivial]; exact cg_was n7.2 (fr 670 850 (by omega)) (rl_was h)
  · rw [eA 10 trivial]; exact cg_890 (fr 890 914 (by omega)) (rl_tab h)
  · refine cg_txt (fr 914 2578 (by omega)) htx.1 htx.2.1 htx.2.2 (fun j hj => ?_) (rl_txt h)
    have := htx.2.2 j hj
    exact ⟨eH _ (by omega), eH _ (by omega)⟩
theorem Rel_be (hb : bkb b) (h : Rel E R b z t hc pk td B f) (hi : i < z 1) (hj : j = 1 ∨ j = 2 ∨ j = 4) (hv : mkO j v) : Rel E (sA R (b + 2) (upd (iA R (b + 2)) (i * 6 + j) v)) b (z) t hc pk td B (upd f (20 + 6 * i + j) v) := by
  obtain ⟨n1, n14, n16, n18, n20, n22, n3, n5, n7⟩ := rl_okm h
  have bl := bkb_lt hb
  have ht := rl_tod h
  have htx := rl_tx h
  have eA : ∀ c, c ≠ 2 → iA (sA R (b + 2) (upd (iA R (b + 2)) (i * 6 + j) v)) (b + c) = iA R (b + c) := fun c h1 => iA_sA_ne (by omega)
  have e0 : iA (sA R (b + 2) (upd (iA R (b + 2)) (i * 6 + j) v)) (b + 2) = upd (iA R (b + 2)) (i * 6 + j) v := iA_sA
  have eF : ∀ c : Nat, True → iF (sA R (b + 2) (upd (iA R (b + 2)) (i * 6 + j) v)) b c = iF R b c := fun c _ => iF_sA
  have eH : ∀ q, 109 ≤ q → sA R (b + 2) (upd (iA R (b + 2)) (i * 6 + j) v) q = R q := fun q hq => by rw [sA, va_up, if_neg (by omega)]
  have ff : ∀ q, q ≠ 20 + 6 * i + j → upd f (20 + 6 * i + j) (v) q = f q := fun q h1 => pk_un h1
  have fr : ∀ lo hi, (hi ≤ 20 ∨ 92 ≤ lo) → ∀ q, lo ≤ q → q < hi → upd f (20 + 6 * i + j) (v) q = f q := fun lo hi hh q h1 h2 => ff q (by omega)
  refine ⟨⟨okB_sA (by omega) (rl_okh h).1, hcs_sA (by omega) (rl_okh h).2.1, pks_sA (by omega) (rl_okh h).2.2⟩, cg_okm (fr 2 11 (by omega)) (rl_okm h), ?_, ?_, ?_, ?_, ?_, ?_, ?_, ?_, ?_, ?_, ?_, ?_, ?_, ?_, ?_, ?_, ?_, ?_⟩
  · rw [eF 8 trivial, ff 0 (by omega)]; exact rl_tod h
  · rw [eF 9 trivial, ff 1 (by omega)]; exact rl_see h
  · rw [eF 10 trivial, eF 11 trivial]; exact cg_dou (ff 11 (by omega)) (fr 850 890 (by omega)) (rl_dou h)
  · rw [eA 12 (by omega)]; exact cg_12 (fr 13 17 (by omega)) (rl_put h)
  · rw [e0]
    intro p hp
    obtain ⟨h1, m, h2, h3⟩ := rl_cas h p hp
    refine ⟨fun c hc => ?_, ?_⟩
    · by_cases a : p = i ∧ c = j
      · obtain ⟨rfl, rfl⟩ := a
        rw [pk_us, pk_us]
      · rw [ff _ (by omega), pk_un (by omega)]
        exact h1 c hc
    · by_cases a : p = i ∧ j = 2
      · obtain ⟨rfl, rfl⟩ := a
        rw [pk_us]
        exact hv rfl
      · rw [pk_un (by omega)]
        exact ⟨m, h2, h3⟩
  · rw [eA 15 (by omega)]; exact cg_92 n14.2 (fr 92 164 (by omega)) (rl_sen h)
  · rw [eA 17 (by omega)]; exact cg_sps n16.2 (fr 164 254 (by omega)) (rl_sps h)
  · rw [eA 17 (by omega)]; exact rl_spg h
  · rw [e0, eA 17 (by omega)]
    intro p hp
    obtain ⟨s, h1, h2, h3⟩ := rl_lat h p hp
    exact ⟨s, h1, by rw [ff _ (by omega)]; exact h2, by rw [pk_un (by omega)]; exact h3⟩
  · rw [eA 19 (by omega)]; exact ⟨cg_gap n18.2 (fr 254 314 (by omega)) (rl_gap h).1, (rl_gap h).2⟩
  · rw [eA 21 (by omega)]; exact cg_314 n20.2 (fr 314 474 (by omega)) (rl_cre h)
  · rw [eA 4 (by omega)]; exact cg_474 n3.2 (fr 474 634 (by omega)) (rl_pap h)
  · rw [eA 6 (by omega)]; exact ⟨(rl_mem h).1, cg_634 n5.2 (fr 634 670 (by omega)) (rl_mem h).2⟩
  · rw [eA 8 (by omega)]; exact cg_670 n7.2 (fr 670 850 (by omega)) (rl_hea h)
  · rw [eA 8 (by omega)]; exact rl_unq h
  · rw [e0, eA 8 (by omega)]
    have hw := cg_was n7.2 (fr 670 850 (by omega)) (rl_was h)
    exact ⟨hw.1, fun p hp => by rw [pk_un (by omega)]; exact hw.2 p hp⟩
  · rw [eA 10 (by omega)]; exact cg_890 (fr 890 914 (by omega)) (rl_tab h)
  · refine cg_txt (fr 914 2578 (by omega)) htx.1 htx.2.1 htx.2.2 (fun j hj => ?_) (rl_txt h)
    have := htx.2.2 j hj
    exact ⟨eH _ (by omega), eH _ (by omega)⟩
theorem Rel_conf (hb : bkb b) (h : Rel E R b z t hc pk td B f) (hi : i < z 5) : Rel E (sA R (b + 6) (upd (iA R (b + 6)) (i * 4 + 2) v)) b (z) t hc pk td B (upd f (634 + 4 * i + 2) v) := by
  obtain ⟨n1, n14, n16, n18, n20, n22, n3, n5, n7⟩ := rl_okm h
  have bl := bkb_lt hb
  have ht := rl_tod h
  have htx := rl_tx h
  have eA : ∀ c, c ≠ 6 → iA (sA R (b + 6) (upd (iA R (b + 6)) (i * 4 + 2) v)) (b + c) = iA R (b + c) := fun c h1 => iA_sA_ne (by omega)
  have e0 : iA (sA R (b + 6) (upd (iA R (b + 6)) (i * 4 + 2) v)) (b + 6) = upd (iA R (b + 6)) (i * 4 + 2) v := iA_sA
  have eF : ∀ c : Nat, True → iF (sA R (b + 6) (upd (iA R (b + 6)) (i * 4 + 2) v)) b c = iF R b c := fun c _ => iF_sA
  have eH : ∀ q, 109 ≤ q → sA R (b + 6) (upd (iA R (b + 6)) (i * 4 + 2) v) q = R q := fun q hq => by rw [sA, va_up, if_neg (by omega)]
  have ff : ∀ q, q ≠ 634 + 4 * i + 2 → upd f (634 + 4 * i + 2) (v) q = f q := fun q h1 => pk_un h1
  have fr : ∀ lo hi, (hi ≤ 634 ∨ 670 ≤ lo) → ∀ q, lo ≤ q → q < hi → upd f (634 + 4 * i + 2) (v) q = f q := fun lo hi hh q h1 h2 => ff q (by omega)
  refine ⟨⟨okB_sA (by omega) (rl_okh h).1, hcs_sA (by omega) (rl_okh h).2.1, pks_sA (by omega) (rl_okh h).2.2⟩, cg_okm (fr 2 11 (by omega)) (rl_okm h), ?_, ?_, ?_, ?_, ?_, ?_, ?_, ?_, ?_, ?_, ?_, ?_, ?_, ?_, ?_, ?_, ?_, ?_⟩
  · rw [eF 8 trivial, ff 0 (by omega)]; exact rl_tod h
  · rw [eF 9 trivial, ff 1 (by omega)]; exact rl_see h
  · rw [eF 10 trivial, eF 11 trivial]; exact cg_dou (ff 11 (by omega)) (fr 850 890 (by omega)) (rl_dou h)
  · rw [eA 12 (by omega)]; exact cg_12 (fr 13 17 (by omega)) (rl_put h)
  · rw [eA 2 (by omega)]; exact cg_20 n1.2 (fr 20 92 (by omega)) (rl_cas h)
  · rw [eA 15 (by omega)]; exact cg_92 n14.2 (fr 92 164 (by omega)) (rl_sen h)
  · rw [eA 17 (by omega)]; exact cg_sps n16.2 (fr 164 254 (by omega)) (rl_sps h)
  · rw [eA 17 (by omega)]; exact rl_spg h
  · rw [eA 2 (by omega), eA 17 (by omega)]; exact cg_lat n1.2 (fr 20 92 (by omega)) (rl_lat h)
  · rw [eA 19 (by omega)]; exact ⟨cg_gap n18.2 (fr 254 314 (by omega)) (rl_gap h).1, (rl_gap h).2⟩
  · rw [eA 21 (by omega)]; exact cg_314 n20.2 (fr 314 474 (by omega)) (rl_cre h)
  · rw [eA 4 (by omega)]; exact cg_474 n3.2 (fr 474 634 (by omega)) (rl_pap h)
  · rw [e0]
    refine ⟨(rl_mem h).1, fun p hp => ?_⟩
    obtain ⟨h1, w, h2, h3⟩ := (rl_mem h).2 p hp
    refine ⟨fun c hc => ?_, w, h2, by rw [pk_un (by omega)]; exact h3⟩
    by_cases a : p = i ∧ c = 2
    · obtain ⟨rfl, rfl⟩ := a
      rw [pk_us, pk_us]
    · rw [ff _ (by omega), pk_un (by omega)]
      exact h1 c hc
  · rw [eA 8 (by omega)]; exact cg_670 n7.2 (fr 670 850 (by omega)) (rl_hea h)
  · rw [eA 8 (by omega)]; exact rl_unq h
  · rw [eA 2 (by omega), eA 8 (by omega)]; exact cg_was n7.2 (fr 670 850 (by omega)) (rl_was h)
  · rw [eA 10 (by omega)]; exact cg_890 (fr 890 914 (by omega)) (rl_tab h)
  · refine cg_txt (fr 914 2578 (by omega)) htx.1 htx.2.1 htx.2.2 (fun j hj => ?_) (rl_txt h)
    have := htx.2.2 j hj
    exact ⟨eH _ (by omega), eH _ (by omega)⟩
theorem Rel_back (hb : bkb b) (h : Rel E R b z t hc pk td B f) (hi : i < z 20) : Rel E (sA R (b + 21) (upd (iA R (b + 21)) (i * 4 + 3) (nI td))) b (z) t hc pk td B (upd f (314 + 4 * i + 3) (nI td)) := by
  obtain ⟨n1, n14, n16, n18, n20, n22, n3, n5, n7⟩ := rl_okm h
  have bl := bkb_lt hb
  have ht := rl_tod h
  have htx := rl_tx h
  have eA : ∀ c, c ≠ 21 → iA (sA R (b + 21) (upd (iA R (b + 21)) (i * 4 + 3) (nI td))) (b + c) = iA R (b + c) := fun c h1 => iA_sA_ne (by omega)
  have e0 : iA (sA R (b + 21) (upd (iA R (b + 21)) (i * 4 + 3) (nI td))) (b + 21) = upd (iA R (b + 21)) (i * 4 + 3) (nI td) := iA_sA
  have eF : ∀ c : Nat, True → iF (sA R (b + 21) (upd (iA R (b + 21)) (i * 4 + 3) (nI td))) b c = iF R b c := fun c _ => iF_sA
  have eH : ∀ q, 109 ≤ q → sA R (b + 21) (upd (iA R (b + 21)) (i * 4 + 3) (nI td)) q = R q := fun q hq => by rw [sA, va_up, if_neg (by omega)]
  have ff : ∀ q, q ≠ 314 + 4 * i + 3 → upd f (314 + 4 * i + 3) (nI td) q = f q := fun q h1 => pk_un h1
  have fr : ∀ lo hi, (hi ≤ 314 ∨ 474 ≤ lo) → ∀ q, lo ≤ q → q < hi → upd f (314 + 4 * i + 3) (nI td) q = f q := fun lo hi hh q h1 h2 => ff q (by omega)
  refine ⟨⟨okB_sA (by omega) (rl_okh h).1, hcs_sA (by omega) (rl_okh h).2.1, pks_sA (by omega) (rl_okh h).2.2⟩, cg_okm (fr 2 11 (by omega)) (rl_okm h), ?_, ?_, ?_, ?_, ?_, ?_, ?_, ?_, ?_, ?_, ?_, ?_, ?_, ?_, ?_, ?_, ?_, ?_⟩
  · rw [eF 8 trivial, ff 0 (by omega)]; exact rl_tod h
  · rw [eF 9 trivial, ff 1 (by omega)]; exact rl_see h
  · rw [eF 10 trivial, eF 11 trivial]; exact cg_dou (ff 11 (by omega)) (fr 850 890 (by omega)) (rl_dou h)
  · rw [eA 12 (by omega)]; exact cg_12 (fr 13 17 (by omega)) (rl_put h)
  · rw [eA 2 (by omega)]; exact cg_20 n1.2 (fr 20 92 (by omega)) (rl_cas h)
  · rw [eA 15 (by omega)]; exact cg_92 n14.2 (fr 92 164 (by omega)) (rl_sen h)
  · rw [eA 17 (by omega)]; exact cg_sps n16.2 (fr 164 254 (by omega)) (rl_sps h)
  · rw [eA 17 (by omega)]; exact rl_spg h
  · rw [eA 2 (by omega), eA 17 (by omega)]; exact cg_lat n1.2 (fr 20 92 (by omega)) (rl_lat h)
  · rw [eA 19 (by omega)]; exact ⟨cg_gap n18.2 (fr 254 314 (by omega)) (rl_gap h).1, (rl_gap h).2⟩
  · rw [e0]
    intro p hp
    obtain ⟨h1, h2, h3, h4, h5, h6, h7⟩ := rl_cre h p hp
    rw [ff _ (by omega), ff _ (by omega), ff _ (by omega), pk_un (by omega), pk_un (by omega), pk_un (by omega)]
    refine ⟨h1, h2, h3, ?_, h5, h6, ?_⟩
    · by_cases a : p = i
      · subst a
        rw [pk_us, pk_us, nvM, if_neg (fun q => by have := (nI_eq (b := 2147483647) (by omega) (by decide)).mp q; omega)]
      · rw [ff _ (by omega), pk_un (by omega)]
        exact h4
    · by_cases a : p = i
      · subst a
        rw [pk_us]
        exact Or.inr ⟨td, Nat.le_refl _, rfl⟩
      · rw [pk_un (by omega)]
        exact h7
  · rw [eA 4 (by omega)]; exact cg_474 n3.2 (fr 474 634 (by omega)) (rl_pap h)
  · rw [eA 6 (by omega)]; exact ⟨(rl_mem h).1, cg_634 n5.2 (fr 634 670 (by omega)) (rl_mem h).2⟩
  · rw [eA 8 (by omega)]; exact cg_670 n7.2 (fr 670 850 (by omega)) (rl_hea h)
  · rw [eA 8 (by omega)]; exact rl_unq h
  · rw [eA 2 (by omega), eA 8 (by omega)]; exact cg_was n7.2 (fr 670 850 (by omega)) (rl_was h)
  · rw [eA 10 (by omega)]; exact cg_890 (fr 890 914 (by omega)) (rl_tab h)
  · refine cg_txt (fr 914 2578 (by omega)) htx.1 htx.2.1 htx.2.2 (fun j hj => ?_) (rl_txt h)
    have := htx.2.2 j hj
    exact ⟨eH _ (by omega), eH _ (by omega)⟩
/-- the class changed one row of its books, the model one number -/
theorem ch_sA (hb1 : b = 1) {a : Nat} (ha : a ≤ 22) {g g' : Nat → Int32} : chB S (sA (sA S (b + a) g) 94 g') := by
  subst hb1
  refine ⟨fun q h0 h1 h2 _ _ _ => ?_, fun k _ => by rw [iF_sA, iF_sA]⟩
  rw [sA, va_up, if_neg h2, sA, va_up, if_neg (by omega)]
theorem tx_sA (h : txA E S 1) (hb1 : b = 1) {a : Nat} {g g' : Nat → Int32} : txA E (sA (sA S (b + a) g) 94 g') 1 := by
  intro j p hj hp
  have e : ∀ (S : SS) (q a : Nat) (g : Nat → Int32), iQ (sA S a g) q = iQ S q := fun S q a g => by
    by_cases e : q = a
    · subst e; simp only [iQ, sA, va_up, if_true]
    · simp only [iQ, sA, va_up, e, if_false]
  rw [e, e] at hp
  exact h j p hj hp
theorem Rel_94 {td B a : Nat} (hb1 : b = 1) (ha : a ≤ 22) {g g' : Nat → Int32} (h : Rel E (sA S (b + a) g) b z t hc pk td B g') : Rel E (sA (sA S (b + a) g) 94 g') 1 z t hc pk td B (iA (sA (sA S (b + a) g) 94 g') 94) := by
  subst hb1
  rw [i94]
  exact Rel_cells (Or.inl rfl) (fun q hq => by rw [sA, va_up, if_neg (by omega)]) (Nat.le_refl _) h
theorem Inv_sA (h : Inv E S) (hb1 : b = 1) {a td : Nat} (ha : a ≤ 22) {g g' : Nat → Int32} (htd : td ≤ 2999) (hR : Rel E (sA S (b + a) g) b z t hc pk td (18 * td) g') : Inv E (sA (sA S (b + a) g) 94 g') :=
  Inv_B h (ch_sA hb1 ha) ⟨z, t, hc, pk, td, htd, Rel_94 hb1 ha hR⟩ (tx_sA h.2.2.2.2.2.2.2.1 hb1)
theorem q_table (h : Inv E S) : opE E S 227 228 4 5 [.int c, .int v, .int w] := by
  obtain ⟨hE, hpar, ⟨z, t, hc, pk, td, htd, hR⟩, hI, hTp, hWt, hSh, hKy⟩ := id h
  obtain ⟨b, hb1⟩ : ∃ b, b = 1 := ⟨1, rfl⟩
  have hb : bkb b := Or.inl hb1
  rw [← hb1] at hR
  have o9 := o_X hE hb1
  have o0 := o_B hE hb
  have o8 := o_I hE hb
  have o1 := o_L hE hb
  have o5 := o_P hE
  have o10 := o_M hE
  have m10 := m_M hE
  have m9 : ∀ S, misc (hp E S 0) 9 = true := fun S => misc_o o9
  have m0 : ∀ S, misc (hp E S b) 0 = true := fun S => misc_o o0
  have m8 : ∀ S, misc (hp E S (b + 13)) 8 = true := fun S => misc_o o8
  have m1 : ∀ S, misc (hp E S (b + 22)) 1 = true := fun S => misc_o o1
  have m5 : ∀ S, misc (hp E S 79) 5 = true := fun S => misc_o o5
  obtain ⟨n1, n14, n16, n18, n20, n22, n3, n5, n7⟩ := rl_okm hR
  obtain ⟨⟨g1, g3, g5, g7, g14, g16, g18, g20, g22, gt, gw⟩, hH, hP⟩ := rl_okh hR
  have ht := rl_tod hR
  rcases wic (m := 7) c (by omega) with h1 | ⟨i, hi, rfl, h1⟩
  · have h1 : wiS c 0 7 = 0 := h1
    refine op_v h (-1000000001) (fun d => ?_) (fun d => ?_)
    · simp only [ment, mfl, List.length, List.replicate, List.cons_append, List.nil_append, Nat.reduceAdd, Nat.reduceSub]; simp only [r_il1 c_X_table_0, r_ci c_X_table_1, r_ci c_X_table_2, r_ca3 c_X_table_4, r_ifeq c_X_table_7, r_il2 c_X_table_10, r_ci c_X_table_11, r_ci c_X_table_12, r_ca3 c_X_table_13, r_ifne c_X_table_16, r_ci c_X_table_19, r_iret c_X_table_21, r_il3 c_X_table_22, r_ci c_X_table_23, r_ci c_X_table_24, r_ca3 c_X_table_27, r_ifne c_X_table_30, r_ci c_X_table_33, r_iret c_X_table_35, r_al0 c_X_table_36, r_an0 c_X_table_36, r_gfSr c_X_table_37 o9 rfl, r_gfSr c_X_table_40 o0 rfl, r_il1 c_X_table_43, r_il2 c_X_table_44, r_il3 c_X_table_45, r_cv4 c_X_table_46, r_iret c_X_table_49, ↓reduceIte, hs_h, Option.bind_some, mfix_i, mfix_r, mfix_n, mfix_a, Option.toList_some, Option.toList_none, List.cons_append, List.nil_append, List.singleton_append, mwt, Value.category, Nat.reduceAdd, Nat.reduceLeDiff, true_and, and_true, and_self, X_within_ok, h1, if_true]
    · simp only [ment, mfl, List.length, List.replicate, List.cons_append, List.nil_append, Nat.reduceAdd, Nat.reduceSub]; simp only [r_il1 c_M_table_0, r_i2l c_M_table_1, r_cl c_M_table_2, r_cl c_M_table_3, r_ca3 c_M_table_6, r_ifeq c_M_table_9, r_il2 c_M_table_12, r_i2l c_M_table_13, r_cl c_M_table_14, r_cl c_M_table_15, r_ca3 c_M_table_18, r_ifeq c_M_table_21, r_il3 c_M_table_24, r_i2l c_M_table_25, r_cl c_M_table_26, r_cl c_M_table_27, r_ca3 c_M_table_30, r_ifne c_M_table_33, r_ci c_M_table_36, r_iret c_M_table_38, r_al0 c_M_table_39, r_gfSr c_M_table_40 o10 rfl, r_ci c_M_table_43, r_ci c_M_table_46, r_il1 c_M_table_47, r_imul c_M_table_48, r_iadd c_M_table_49, r_il2 c_M_table_50, r_iadd c_M_table_51, r_ial c_M_table_52, r_is4 c_M_table_53, r_al0 c_M_table_55, r_gfSr c_M_table_56 o10 rfl, r_ci c_M_table_59, r_ci c_M_table_62, r_il1 c_M_table_63, r_imul c_M_table_64, r_iadd c_M_table_65, r_il2 c_M_table_66, r_iadd c_M_table_67, r_il3 c_M_table_68, r_ias c_M_table_69, r_il4 c_M_table_70, r_iret c_M_table_72, ↓reduceIte, hs_h, Option.bind_some, mfix_i, mfix_r, mfix_n, mfix_a, Option.toList_some, Option.toList_none, List.cons_append, List.nil_append, List.singleton_append, mwt, Value.category, Nat.reduceAdd, Nat.reduceLeDiff, true_and, and_true, and_self, M_within_k (y := 0) (w := 7) (y' := 0) (w' := 7) (by decide) (by decide), h1, if_true]
  · have h1 : wiS (nI i) 0 7 = 1 := h1
    rcases wic (m := 2) v (by omega) with h2 | ⟨j, hj, rfl, h2⟩
    · have h2 : wiS v 0 2 = 0 := h2
      refine op_v h (-1000000001) (fun d => ?_) (fun d => ?_)
      · simp only [ment, mfl, List.length, List.replicate, List.cons_append, List.nil_append, Nat.reduceAdd, Nat.reduceSub]; simp only [r_il1 c_X_table_0, r_ci c_X_table_1, r_ci c_X_table_2, r_ca3 c_X_table_4, r_ifeq c_X_table_7, r_il2 c_X_table_10, r_ci c_X_table_11, r_ci c_X_table_12, r_ca3 c_X_table_13, r_ifne c_X_table_16, r_ci c_X_table_19, r_iret c_X_table_21, r_il3 c_X_table_22, r_ci c_X_table_23, r_ci c_X_table_24, r_ca3 c_X_table_27, r_ifne c_X_table_30, r_ci c_X_table_33, r_iret c_X_table_35, r_al0 c_X_table_36, r_an0 c_X_table_36, r_gfSr c_X_table_37 o9 rfl, r_gfSr c_X_table_40 o0 rfl, r_il1 c_X_table_43, r_il2 c_X_table_44, r_il3 c_X_table_45, r_cv4 c_X_table_46, r_iret c_X_table_49, ↓reduceIte, hs_h, Option.bind_some, mfix_i, mfix_r, mfix_n, mfix_a, Option.toList_some, Option.toList_none, List.cons_append, List.nil_append, List.singleton_append, mwt, Value.category, Nat.reduceAdd, Nat.reduceLeDiff, true_and, and_true, and_self, X_within_ok, h1, h2, one_nz, if_false, if_true]
      · simp only [ment, mfl, List.length, List.replicate, List.cons_append, List.nil_append, Nat.reduceAdd, Nat.reduceSub]; simp only [r_il1 c_M_table_0, r_i2l c_M_table_1, r_cl c_M_table_2, r_cl c_M_table_3, r_ca3 c_M_table_6, r_ifeq c_M_table_9, r_il2 c_M_table_12, r_i2l c_M_table_13, r_cl c_M_table_14, r_cl c_M_table_15, r_ca3 c_M_table_18, r_ifeq c_M_table_21, r_il3 c_M_table_24, r_i2l c_M_table_25, r_cl c_M_table_26, r_cl c_M_table_27, r_ca3 c_M_table_30, r_ifne c_M_table_33, r_ci c_M_table_36, r_iret c_M_table_38, r_al0 c_M_table_39, r_gfSr c_M_table_40 o10 rfl, r_ci c_M_table_43, r_ci c_M_table_46, r_il1 c_M_table_47, r_imul c_M_table_48, r_iadd c_M_table_49, r_il2 c_M_table_50, r_iadd c_M_table_51, r_ial c_M_table_52, r_is4 c_M_table_53, r_al0 c_M_table_55, r_gfSr c_M_table_56 o10 rfl, r_ci c_M_table_59, r_ci c_M_table_62, r_il1 c_M_table_63, r_imul c_M_table_64, r_iadd c_M_table_65, r_il2 c_M_table_66, r_iadd c_M_table_67, r_il3 c_M_table_68, r_ias c_M_table_69, r_il4 c_M_table_70, r_iret c_M_table_72, ↓reduceIte, hs_h, Option.bind_some, mfix_i, mfix_r, mfix_n, mfix_a, Option.toList_some, Option.toList_none, List.cons_append, List.nil_append, List.singleton_append, mwt, Value.category, Nat.reduceAdd, Nat.reduceLeDiff, true_and, and_true, and_self, M_within_k (y := 0) (w := 7) (y' := 0) (w' := 7) (by decide) (by decide), M_within_k (y := 0) (w := 2) (y' := 0) (w' := 2) (by decide) (by decide), h1, h2, one_nz, if_false, if_true]
    · have h2 : wiS (nI j) 0 2 = 1 := h2
      rcases wi01 (x := w) (y := 0) (w := 9999) with h3 | h3
      · refine op_v h (-1000000001) (fun d => ?_) (fun d => ?_)
        · simp only [ment, mfl, List.length, List.replicate, List.cons_append, List.nil_append, Nat.reduceAdd, Nat.reduceSub]; simp only [r_il1 c_X_table_0, r_ci c_X_table_1, r_ci c_X_table_2, r_ca3 c_X_table_4, r_ifeq c_X_table_7, r_il2 c_X_table_10, r_ci c_X_table_11, r_ci c_X_table_12, r_ca3 c_X_table_13, r_ifne c_X_table_16, r_ci c_X_table_19, r_iret c_X_table_21, r_il3 c_X_table_22, r_ci c_X_table_23, r_ci c_X_table_24, r_ca3 c_X_table_27, r_ifne c_X_table_30, r_ci c_X_table_33, r_iret c_X_table_35, r_al0 c_X_table_36, r_an0 c_X_table_36, r_gfSr c_X_table_37 o9 rfl, r_gfSr c_X_table_40 o0 rfl, r_il1 c_X_table_43, r_il2 c_X_table_44, r_il3 c_X_table_45, r_cv4 c_X_table_46, r_iret c_X_table_49, ↓reduceIte, hs_h, Option.bind_some, mfix_i, mfix_r, mfix_n, mfix_a, Option.toList_some, Option.toList_none, List.cons_append, List.nil_append, List.singleton_append, mwt, Value.category, Nat.reduceAdd, Nat.reduceLeDiff, true_and, and_true, and_self, X_within_ok, h1, h2, h3, one_nz, if_false, if_true]
        · simp only [ment, mfl, List.length, List.replicate, List.cons_append, List.nil_append, Nat.reduceAdd, Nat.reduceSub]; simp only [r_il1 c_M_table_0, r_i2l c_M_table_1, r_cl c_M_table_2, r_cl c_M_table_3, r_ca3 c_M_table_6, r_ifeq c_M_table_9, r_il2 c_M_table_12, r_i2l c_M_table_13, r_cl c_M_table_14, r_cl c_M_table_15, r_ca3 c_M_table_18, r_ifeq c_M_table_21, r_il3 c_M_table_24, r_i2l c_M_table_25, r_cl c_M_table_26, r_cl c_M_table_27, r_ca3 c_M_table_30, r_ifne c_M_table_33, r_ci c_M_table_36, r_iret c_M_table_38, r_al0 c_M_table_39, r_gfSr c_M_table_40 o10 rfl, r_ci c_M_table_43, r_ci c_M_table_46, r_il1 c_M_table_47, r_imul c_M_table_48, r_iadd c_M_table_49, r_il2 c_M_table_50, r_iadd c_M_table_51, r_ial c_M_table_52, r_is4 c_M_table_53, r_al0 c_M_table_55, r_gfSr c_M_table_56 o10 rfl, r_ci c_M_table_59, r_ci c_M_table_62, r_il1 c_M_table_63, r_imul c_M_table_64, r_iadd c_M_table_65, r_il2 c_M_table_66, r_iadd c_M_table_67, r_il3 c_M_table_68, r_ias c_M_table_69, r_il4 c_M_table_70, r_iret c_M_table_72, ↓reduceIte, hs_h, Option.bind_some, mfix_i, mfix_r, mfix_n, mfix_a, Option.toList_some, Option.toList_none, List.cons_append, List.nil_append, List.singleton_append, mwt, Value.category, Nat.reduceAdd, Nat.reduceLeDiff, true_and, and_true, and_self, M_within_k (y := 0) (w := 7) (y' := 0) (w' := 7) (by decide) (by decide), M_within_k (y := 0) (w := 2) (y' := 0) (w' := 2) (by decide) (by decide), M_within_k (y := 0) (w := 9999) (y' := 0) (w' := 9999) (by decide) (by decide), h1, h2, h3, one_nz, if_false, if_true]
      · have hR2 := Rel_table (v := w) hb hR (show i < 8 by omega) (show j < 3 by omega)
        have e := rl_tab hR i (by omega) j (by omega)
        refine ⟨iA S (b + 10) (i * 3 + j), sA S (b + 10) (upd (iA S (b + 10)) (i * 3 + j) w), _, fun d _ => ?_, fun d _ => ?_, Inv_sA h hb1 (a := 10) (by omega) htd hR2⟩
        · simp only [ment, mfl, List.length, List.replicate, List.cons_append, List.nil_append, Nat.reduceAdd, Nat.reduceSub]; simp only [r_il1 c_X_table_0, r_ci c_X_table_1, r_ci c_X_table_2, r_ca3 c_X_table_4, r_ifeq c_X_table_7, r_il2 c_X_table_10, r_ci c_X_table_11, r_ci c_X_table_12, r_ca3 c_X_table_13, r_ifne c_X_table_16, r_ci c_X_table_19, r_iret c_X_table_21, r_il3 c_X_table_22, r_ci c_X_table_23, r_ci c_X_table_24, r_ca3 c_X_table_27, r_ifne c_X_table_30, r_ci c_X_table_33, r_iret c_X_table_35, r_al0 c_X_table_36, r_an0 c_X_table_36, r_gfSr c_X_table_37 o9 rfl, r_gfSr c_X_table_40 o0 rfl, r_il1 c_X_table_43, r_il2 c_X_table_44, r_il3 c_X_table_45, r_cv4 c_X_table_46, r_iret c_X_table_49, ↓reduceIte, hs_h, Option.bind_some, mfix_i, mfix_r, mfix_n, mfix_a, Option.toList_some, Option.toList_none, List.cons_append, List.nil_append, List.singleton_append, mwt, Value.category, Nat.reduceAdd, Nat.reduceLeDiff, true_and, and_true, and_self, X_within_ok, h1, h2, h3, one_nz, if_false, misc_w (w_9 hE hb), exch_9 hE hb, rwAt_n (show i < 8 by omega) (show j < 3 by omega) (show 8 * 3 ≤ 1000 by decide), rwPut_n (show i < 8 by omega) (show j < 3 by omega) (show 8 * 3 ≤ 1000 by decide)]
        · have e94 : iA (sA S (b + 10) (upd (iA S (b + 10)) (i * 3 + j) w)) 94 = iA S 94 := iA_sA_ne (by omega)
          simp only [ment, mfl, List.length, List.replicate, List.cons_append, List.nil_append, Nat.reduceAdd, Nat.reduceSub]; simp only [r_il1 c_M_table_0, r_i2l c_M_table_1, r_cl c_M_table_2, r_cl c_M_table_3, r_ca3 c_M_table_6, r_ifeq c_M_table_9, r_il2 c_M_table_12, r_i2l c_M_table_13, r_cl c_M_table_14, r_cl c_M_table_15, r_ca3 c_M_table_18, r_ifeq c_M_table_21, r_il3 c_M_table_24, r_i2l c_M_table_25, r_cl c_M_table_26, r_cl c_M_table_27, r_ca3 c_M_table_30, r_ifne c_M_table_33, r_ci c_M_table_36, r_iret c_M_table_38, r_al0 c_M_table_39, r_gfSr c_M_table_40 o10 rfl, r_ci c_M_table_43, r_ci c_M_table_46, r_il1 c_M_table_47, r_imul c_M_table_48, r_iadd c_M_table_49, r_il2 c_M_table_50, r_iadd c_M_table_51, r_ial c_M_table_52, r_is4 c_M_table_53, r_al0 c_M_table_55, r_gfSr c_M_table_56 o10 rfl, r_ci c_M_table_59, r_ci c_M_table_62, r_il1 c_M_table_63, r_imul c_M_table_64, r_iadd c_M_table_65, r_il2 c_M_table_66, r_iadd c_M_table_67, r_il3 c_M_table_68, r_ias c_M_table_69, r_il4 c_M_table_70, r_iret c_M_table_72, ↓reduceIte, hs_h, Option.bind_some, mfix_i, mfix_r, mfix_n, mfix_a, Option.toList_some, Option.toList_none, List.cons_append, List.nil_append, List.singleton_append, mwt, Value.category, Nat.reduceAdd, Nat.reduceLeDiff, true_and, and_true, and_self, M_within_k (y := 0) (w := 7) (y' := 0) (w' := 7) (by decide) (by decide), M_within_k (y := 0) (w := 2) (y' := 0) (w' := 2) (by decide) (by decide), M_within_k (y := 0) (w := 9999) (y' := 0) (w' := 9999) (by decide) (by decide), h1, h2, h3, one_nz, if_false, km2, km3, km4, km6, km104, km24, ka20, ka92, ka164, ka254, ka314, ka474, ka634, ka670, ka850, ka890, ka914, ka12, kr2, kr3, kr4, kr5, nI_1, nI_add, mia_94 hE (show 890 + 3 * i + j < 2578 by omega), mis_94 hE (show 890 + 3 * i + j < 2578 by omega), e94, e, hs_94 hE]
theorem q_seed (h : Inv E S) : opE E S 237 238 3 3 [.int v] := by
  obtain ⟨hE, hpar, ⟨z, t, hc, pk, td, htd, hR⟩, hI, hTp, hWt, hSh, hKy⟩ := id h
  obtain ⟨b, hb1⟩ : ∃ b, b = 1 := ⟨1, rfl⟩
  have hb : bkb b := Or.inl hb1
  rw [← hb1] at hR
  have o9 := o_X hE hb1
  have o0 := o_B hE hb
  have o8 := o_I hE hb
  have o1 := o_L hE hb
  have o5 := o_P hE
  have o10 := o_M hE
  have m10 := m_M hE
  have m9 : ∀ S, misc (hp E S 0) 9 = true := fun S => misc_o o9
  have m0 : ∀ S, misc (hp E S b) 0 = true := fun S => misc_o o0
  have m8 : ∀ S, misc (hp E S (b + 13)) 8 = true := fun S => misc_o o8
  have m1 : ∀ S, misc (hp E S (b + 22)) 1 = true := fun S => misc_o o1
  have m5 : ∀ S, misc (hp E S 79) 5 = true := fun S => misc_o o5
  obtain ⟨n1, n14, n16, n18, n20, n22, n3, n5, n7⟩ := rl_okm hR
  obtain ⟨⟨g1, g3, g5, g7, g14, g16, g18, g20, g22, gt, gw⟩, hH, hP⟩ := rl_okh hR
  have ht := rl_tod hR
  rcases wi01 (x := v) (y := 0) (w := 65535) with h1 | h1
  · refine op_v h (-1000000001) (fun d => ?_) (fun d => ?_)
    · simp only [ment, mfl, List.length, List.replicate, List.cons_append, List.nil_append, Nat.reduceAdd, Nat.reduceSub]; simp only [r_il1 c_X_seed_0, r_ci c_X_seed_1, r_ci c_X_seed_2, r_ca3 c_X_seed_5, r_ifne c_X_seed_8, r_ci c_X_seed_11, r_iret c_X_seed_13, r_al0 c_X_seed_14, r_an0 c_X_seed_14, r_gfSr c_X_seed_15 o9 rfl, r_gfS0 c_X_seed_18 o0 rfl, r_is2 c_X_seed_21, r_al0 c_X_seed_22, r_an0 c_X_seed_22, r_gfSr c_X_seed_23 o9 rfl, r_il1 c_X_seed_26, r_pfS c_X_seed_27 o0 rfl, r_il2 c_X_seed_30, r_iret c_X_seed_31, ↓reduceIte, hs_h, Option.bind_some, mfix_i, mfix_r, mfix_n, mfix_a, Option.toList_some, Option.toList_none, List.cons_append, List.nil_append, List.singleton_append, mwt, Value.category, Nat.reduceAdd, Nat.reduceLeDiff, true_and, and_true, and_self, X_within_ok, h1, if_true]
    · simp only [ment, mfl, List.length, List.replicate, List.cons_append, List.nil_append, Nat.reduceAdd, Nat.reduceSub]; simp only [r_il1 c_M_seed_0, r_i2l c_M_seed_1, r_cl c_M_seed_2, r_cl c_M_seed_3, r_ca3 c_M_seed_6, r_ifne c_M_seed_9, r_ci c_M_seed_12, r_iret c_M_seed_14, r_al0 c_M_seed_15, r_gfSr c_M_seed_16 o10 rfl, r_ci c_M_seed_19, r_ial c_M_seed_20, r_is2 c_M_seed_21, r_al0 c_M_seed_22, r_gfSr c_M_seed_23 o10 rfl, r_ci c_M_seed_26, r_il1 c_M_seed_27, r_ias c_M_seed_28, r_il2 c_M_seed_29, r_iret c_M_seed_30, ↓reduceIte, hs_h, Option.bind_some, mfix_i, mfix_r, mfix_n, mfix_a, Option.toList_some, Option.toList_none, List.cons_append, List.nil_append, List.singleton_append, mwt, Value.category, Nat.reduceAdd, Nat.reduceLeDiff, true_and, and_true, and_self, M_within_k (y := 0) (w := 65535) (y' := 0) (w' := 65535) (by decide) (by decide), h1, if_true]
  · have hv : ∃ n : Nat, n < 65536 ∧ v = nI n := by
      rcases wic (m := 65535) v (by omega) with q | ⟨k, h3, h4, -⟩
      · have q : wiS v 0 65535 = 0 := q
        rw [h1] at q; exact absurd q (by decide)
      · exact ⟨k, by omega, h4⟩
    have hR2 := Rel_seed (v := v) hb hR hv
    have e := (rl_see hR).1
    refine ⟨iF S b 9, sF S b 9 v, sA (sF S b 9 v) 94 (upd (iA S 94) 1 v), fun d _ => ?_, fun d _ => ?_, Inv_B h ?_ ⟨z, t, hc, pk, td, htd, ?_⟩ ?_⟩
    · simp only [ment, mfl, List.length, List.replicate, List.cons_append, List.nil_append, Nat.reduceAdd, Nat.reduceSub]; simp only [r_il1 c_X_seed_0, r_ci c_X_seed_1, r_ci c_X_seed_2, r_ca3 c_X_seed_5, r_ifne c_X_seed_8, r_ci c_X_seed_11, r_iret c_X_seed_13, r_al0 c_X_seed_14, r_an0 c_X_seed_14, r_gfSr c_X_seed_15 o9 rfl, r_gfS0 c_X_seed_18 o0 rfl, r_is2 c_X_seed_21, r_al0 c_X_seed_22, r_an0 c_X_seed_22, r_gfSr c_X_seed_23 o9 rfl, r_il1 c_X_seed_26, r_pfS c_X_seed_27 o0 rfl, r_il2 c_X_seed_30, r_iret c_X_seed_31, ↓reduceIte, hs_h, Option.bind_some, mfix_i, mfix_r, mfix_n, mfix_a, Option.toList_some, Option.toList_none, List.cons_append, List.nil_append, List.singleton_append, mwt, Value.category, Nat.reduceAdd, Nat.reduceLeDiff, true_and, and_true, and_self, X_within_ok, h1, one_nz, if_false]
    · simp only [ment, mfl, List.length, List.replicate, List.cons_append, List.nil_append, Nat.reduceAdd, Nat.reduceSub]; simp only [r_il1 c_M_seed_0, r_i2l c_M_seed_1, r_cl c_M_seed_2, r_cl c_M_seed_3, r_ca3 c_M_seed_6, r_ifne c_M_seed_9, r_ci c_M_seed_12, r_iret c_M_seed_14, r_al0 c_M_seed_15, r_gfSr c_M_seed_16 o10 rfl, r_ci c_M_seed_19, r_ial c_M_seed_20, r_is2 c_M_seed_21, r_al0 c_M_seed_22, r_gfSr c_M_seed_23 o10 rfl, r_ci c_M_seed_26, r_il1 c_M_seed_27, r_ias c_M_seed_28, r_il2 c_M_seed_29, r_iret c_M_seed_30, ↓reduceIte, hs_h, Option.bind_some, mfix_i, mfix_r, mfix_n, mfix_a, Option.toList_some, Option.toList_none, List.cons_append, List.nil_append, List.singleton_append, mwt, Value.category, Nat.reduceAdd, Nat.reduceLeDiff, true_and, and_true, and_self, M_within_k (y := 0) (w := 65535) (y' := 0) (w' := 65535) (by decide) (by decide), h1, one_nz, if_false, mn1 hE, iA_sF, e, ms1 hE, hs_94 hE]
    · subst hb1
      refine ⟨fun q h0 h1 h2 _ _ _ => ?_, fun k _ => by rw [iF_sA, iF_sF_ne (Or.inl (by omega))]⟩
      rw [sA, va_up, if_neg h2, sF, va_up, if_neg (by omega)]
    · subst hb1
      rw [i94]
      exact Rel_cells (Or.inl rfl) (fun q hq => by rw [sA, va_up, if_neg (by omega)]) (Nat.le_refl _) hR2
    · intro j p hj hp
      rw [iQ, sA, va_up, if_neg (by omega), sF, va_up, if_neg (by omega)] at hp
      exact hKy.1 j p hj hp
end CHANGE
