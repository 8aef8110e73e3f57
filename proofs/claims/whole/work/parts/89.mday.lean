/-! a day: what stays untouched; turns -/
section MDAY
variable {E : EE} {R R0 S S1 : SS} {b d k n i j td q B B' s p : Nat} {z t hc pk : Nat → Nat} {c v l : Int32} {f f' A A' : Nat → Int32} {Q Q' : Nat → Prop}
theorem Rel_B (hB : B ≤ B') (hB2 : B' ≤ 100000) (h : Rel E R b z t hc pk td B f) : Rel E R b z t hc pk td B' f := by
  obtain ⟨a1, a2, a3, a4, a5, a6, a7, a8, a9, a10, a11, a12, a13, a14, a15, a16⟩ := h
  refine ⟨a1, a2, a3, a4, a5, a6, a7, a8, a9, a10, a11, a12, a13, a14, ⟨hB2, fun i hi => ?_⟩, a16⟩
  obtain ⟨h1, w, h2, h3⟩ := a15.2 i hi
  exact ⟨h1, w, by omega, h3⟩
def mtF (f : Nat → Int32) (p : Nat) : Nat → Int32 := upd f (634 + 4 * p + 3) (f (634 + 4 * p + 3) + 1)
theorem Rel_turn (hb : bkb b) (h : Rel E R b z t hc pk td B f) (hp : p < 9) (hB : B < 100000) : Rel E (adT R b p) b z t hc pk td (B + 1) (mtF f p) := by
  obtain ⟨n1, n14, n16, n18, n20, n22, n3, n5, n7⟩ := rl_okm h
  have bl := bkb_lt hb
  have ht := rl_tod h
  have htx := rl_tx h
  have eA : ∀ c, c ≠ 6 → iA (adT R b p) (b + c) = iA R (b + c) := fun c h1 => by rw [adT, iA_sA_ne (by omega)]
  have e6 : iA (adT R b p) (b + 6) = upd (iA R (b + 6)) (p * 4 + 3) (iA R (b + 6) (p * 4 + 3) + 1) := by rw [adT, iA_sA]
  have eF : ∀ c, iF (adT R b p) b c = iF R b c := fun c => by rw [adT, iF_sA]
  have ff : ∀ x, x ≠ 634 + 4 * p + 3 → mtF f p x = f x := fun x h1 => by rw [mtF, pk_un h1]
  have fr : ∀ lo hi, (hi ≤ 634 ∨ 670 ≤ lo) → ∀ x, lo ≤ x → x < hi → mtF f p x = f x := fun lo hi hh x h1 h2 => ff x (by omega)
  refine ⟨okH_adT hb (rl_okh h), cg_okm (fr 2 11 (by omega)) (rl_okm h), ?_, ?_, ?_, ?_, ?_, ?_, ?_, ?_, ?_, ?_, ?_, ?_, ?_, ?_, ?_, ?_, ?_, ?_⟩
  · rw [eF, ff 0 (by omega)]; exact ht
  · rw [eF, ff 1 (by omega)]; exact rl_see h
  · rw [eF, eF]; exact cg_dou (ff 11 (by omega)) (fr 850 890 (by omega)) (rl_dou h)
  · rw [eA 12 (by omega)]; exact cg_12 (fr 13 17 (by omega)) (rl_put h)
  · rw [eA 2 (by omega)]; exact cg_20 n1.2 (fr 20 92 (by omega)) (rl_cas h)
  · rw [eA 15 (by omega)]; exact cg_92 n14.2 (fr 92 164 (by omega)) (rl_sen h)
  · rw [eA 17 (by omega)]; exact cg_sps n16.2 (fr 164 254 (by omega)) (rl_sps h)
  · rw [eA 17 (by omega)]; exact rl_spg h
  · rw [eA 2 (by omega), eA 17 (by omega)]; exact cg_lat n1.2 (fr 20 92 (by omega)) (rl_lat h)
  · rw [eA 19 (by omega)]; exact ⟨cg_gap n18.2 (fr 254 314 (by omega)) (rl_gap h).1, (rl_gap h).2⟩
  · rw [eA 21 (by omega)]; exact cg_314 n20.2 (fr 314 474 (by omega)) (rl_cre h)
  · rw [eA 4 (by omega)]; exact cg_474 n3.2 (fr 474 634 (by omega)) (rl_pap h)
  · rw [e6]
    refine ⟨by omega, fun i hi => ?_⟩
    obtain ⟨h1, w, h2, h3⟩ := (rl_mem h).2 i hi
    by_cases a : i = p
    · subst a
      refine ⟨fun c hc => ?_, w + 1, by omega, by rw [pk_us, h3, nI_1]⟩
      by_cases c3 : c = 3
      · subst c3; rw [pk_us, mtF, pk_us, h1 3 (by omega)]
      · rw [ff _ (by omega), pk_un (by omega)]; exact h1 c hc
    · exact ⟨fun c hc => by rw [ff _ (by omega), pk_un (by omega)]; exact h1 c hc, w, by omega, by rw [pk_un (by omega)]; exact h3⟩
  · rw [eA 8 (by omega)]; exact cg_670 n7.2 (fr 670 850 (by omega)) (rl_hea h)
  · rw [eA 8 (by omega)]; exact rl_unq h
  · rw [eA 2 (by omega), eA 8 (by omega)]; exact cg_was n7.2 (fr 670 850 (by omega)) (rl_was h)
  · rw [eA 10 (by omega)]; exact cg_890 (fr 890 914 (by omega)) (rl_tab h)
  · refine cg_txt (fr 914 2578 (by omega)) htx.1 htx.2.1 htx.2.2 (fun j hj => ?_) (rl_txt h)
    have := htx.2.2 j hj
    refine ⟨?_, ?_⟩
    · rw [adT, sA, va_up, if_neg (by omega)]
    · rw [adT, sA, va_up, if_neg (by omega)]
/-- what holds all day long of the day's start R0, its hearings c, the untouched ones Q -/
def dayI (R0 : SS) (b : Nat) (z hc : Nat → Nat) (c : Int32) (Q : Nat → Prop) (R : SS) : Prop :=
  (∀ j, j < z 7 → (btI c j = false ∨ Q j) → iA R (b + 8) (j * 5 + 1) = iA R0 (b + 8) (j * 5 + 1) ∧ iA R (b + 8) (j * 5 + 2) = iA R0 (b + 8) (j * 5 + 2))
  ∧ (∀ k, k < z 1 → iA R (b + 2) (k * 6 + 1) = iA R0 (b + 2) (k * 6 + 1))
  ∧ ∀ j, j < z 7 → btI c j = true → iA R (b + 8) (j * 5 + 2) = 0 → iA R (b + 8) (j * 5 + 1) = iF R0 b 8 ∨ iA R (b + 2) (hc j * 6 + 3) = 0
theorem dayI_Q (h : dayI R0 b z hc c Q R) (hQ : ∀ j, j < z 7 → btI c j = true → Q' j → Q j) : dayI R0 b z hc c Q' R := by
  refine ⟨fun j hj h1 => h.1 j hj ?_, h.2⟩
  rcases h1 with h1 | h1
  · exact Or.inl h1
  · cases e : btI c j with
    | true => exact Or.inr (hQ j hj e h1)
    | false => exact Or.inl rfl
theorem dayI_po (h : dayI R0 b z hc c Q R) (hc1 : btI c i = true) (hQ : ¬ Q i) (hin : iA R (b + 2) (hc i * 6 + 3) = 0) : dayI R0 b z hc c Q (poS R b z t i (hc i) q) := by
  have e8 : iA (poS R b z t i (hc i) q) (b + 8) = poH (iA R (b + 8)) i (poV R b z t (hc i) (nI q)) (nI q) := by rw [poS, iA_sA_ne (by omega), iA_sA]
  have e2 : iA (poS R b z t i (hc i) q) (b + 2) = iA R (b + 2) := by rw [poS, iA_sA_ne (by omega), iA_sA_ne (by omega)]
  have hne : ∀ j, j ≠ i → poH (iA R (b + 8)) i (poV R b z t (hc i) (nI q)) (nI q) (j * 5 + 1) = iA R (b + 8) (j * 5 + 1) := fun j hj => by rw [poH, pk_un (by omega), pk_un (by omega), pk_un (by omega)]
  refine ⟨fun j hj h1 => ?_, fun k hk => by rw [e2]; exact h.2.1 k hk, fun j hj h1 h2 => ?_⟩
  · have : j ≠ i := fun e => by
      subst e
      rcases h1 with h1 | h1
      · rw [hc1] at h1; cases h1
      · exact hQ h1
    rw [e8, po_2, hne j this]
    exact h.1 j hj h1
  · rw [e8, e2] at *
    rw [po_2] at h2
    by_cases a : j = i
    · subst a; exact Or.inr hin
    · rw [hne j a]; exact h.2.2 j hj h1 h2
theorem ho_cells : ∃ v, v ≠ 0 ∧ iA (hoS R b z t i (hc i)) (b + 8) = upd (iA R (b + 8)) (i * 5 + 2) v ∧ (∀ k, iA (hoS R b z t i (hc i)) (b + 2) (k * 6 + 1) = iA R (b + 2) (k * 6 + 1)) ∧ ∀ k, k ≠ hc i → iA (hoS R b z t i (hc i)) (b + 2) (k * 6 + 3) = iA R (b + 2) (k * 6 + 3) := by
  have hA8 : ∀ v, iA (hoA R b i (hc i) v) (b + 8) = upd (iA R (b + 8)) (i * 5 + 2) v := fun v => by rw [hoA, iA_sA]
  have hA2 : ∀ v, iA (hoA R b i (hc i) v) (b + 2) = upd (iA R (b + 2)) (hc i * 6 + 5) (iA R (b + 2) (hc i * 6 + 5) + 1) := fun v => by rw [hoA, iA_sA_ne (by omega), iA_sA]
  rw [hoS]
  by_cases a : leV R b z t (hc i) = 0
  · rw [if_pos a]
    exact ⟨1, by decide, hA8 1, fun k => by rw [hA2, pk_un (by omega)], fun k _ => by rw [hA2, pk_un (by omega)]⟩
  · rw [if_neg a, lvS]
    have e : ∀ x, x ≠ b + 17 → iA (enS (sA (hoA R b i (hc i) 2) (b + 2) (upd (iA (hoA R b i (hc i) 2) (b + 2)) (hc i * 6 + 3) 1)) b (z 16) (nI (hc i)) (iF (hoA R b i (hc i) 2) b 8)) x = iA (sA (hoA R b i (hc i) 2) (b + 2) (upd (iA (hoA R b i (hc i) 2) (b + 2)) (hc i * 6 + 3) 1)) x := fun x hx => by
      rcases enS_c (S := sA (hoA R b i (hc i) 2) (b + 2) (upd (iA (hoA R b i (hc i) 2) (b + 2)) (hc i * 6 + 3) 1)) (b := b) (n := z 16) (c := nI (hc i)) (x := iF (hoA R b i (hc i) 2) b 8) with r | ⟨g, r⟩
      · rw [r]
      · rw [r, iA_sA_ne hx]
    refine ⟨2, by decide, ?_, fun k => ?_, fun k hk => ?_⟩
    · rw [e _ (by omega), iA_sA_ne (by omega), hA8]
    · rw [e _ (by omega), iA_sA, pk_un (by omega), hA2, pk_un (by omega)]
    · rw [e _ (by omega), iA_sA, pk_un (by omega), hA2, pk_un (by omega)]
theorem dayI_ho (h : dayI R0 b z hc c Q R) (hc1 : btI c i = true) (hQ : ¬ Q i) (hi : i < z 7) (hset : iA R (b + 8) (i * 5 + 2) = 0) (hu : ∀ i j, i < z 7 → j < z 7 → iA R (b + 8) (i * 5 + 2) = 0 → iA R (b + 8) (j * 5 + 2) = 0 → hc i = hc j → i = j) : dayI R0 b z hc c Q (hoS R b z t i (hc i)) := by
  obtain ⟨v, hv, e8, e1, e3⟩ := ho_cells (R := R) (b := b) (z := z) (t := t) (i := i) (hc := hc)
  refine ⟨fun j hj h1 => ?_, fun k hk => by rw [e1]; exact h.2.1 k hk, fun j hj h1 h2 => ?_⟩
  · have : j ≠ i := fun e => by
      subst e
      rcases h1 with h1 | h1
      · rw [hc1] at h1; cases h1
      · exact hQ h1
    rw [e8, pk_un (by omega), pk_un (by omega)]
    exact h.1 j hj h1
  · rw [e8] at h2 ⊢
    by_cases a : j = i
    · subst a; rw [pk_us] at h2; exact absurd h2 hv
    · rw [pk_un (by omega)] at h2 ⊢
      rw [e3 (hc j) (fun e => a (hu j i hj hi h2 hset e))]
      exact h.2.2 j hj h1 h2
/-- the day's hearings, as bits -/
theorem td_bits (hn : n ≤ 30) : ∀ m, m ≤ n → ∀ j, j < 32 → btI (rfor (htG A c) 0 m 0) j = decide (j < m ∧ A (j * 5 + 1) = c ∧ A (j * 5 + 2) = 0)
  | 0, _, j, _ => by rw [decide_eq_false (by omega)]; exact bt_0
  | m + 1, hm, j, hj => by
    have ih := td_bits hn m (by omega) j hj
    have keep : ¬ (A (m * 5 + 1) = c ∧ A (m * 5 + 2) = 0) → decide (j < m ∧ A (j * 5 + 1) = c ∧ A (j * 5 + 2) = 0) = decide (j < m + 1 ∧ A (j * 5 + 1) = c ∧ A (j * 5 + 2) = 0) := fun e => by
      rw [decide_eq_decide]
      constructor
      · intro h; exact ⟨by omega, h.2⟩
      · intro h
        refine ⟨?_, h.2⟩
        by_cases q : j = m
        · subst q; exact absurd h.2 e
        · omega
    rw [rfor_last, Nat.zero_add, htG]
    by_cases a1 : A (m * 5 + 1) = c
    · rw [if_pos a1]
      by_cases a2 : A (m * 5 + 2) = 0
      · rw [if_pos a2, bt_or, ih, bt_sh (by omega)]
        by_cases q : m = j
        · subst q; rw [decide_eq_true (p := m = m) rfl, Bool.or_true, decide_eq_true ⟨by omega, a1, a2⟩]
        · rw [decide_eq_false q, Bool.or_false, decide_eq_decide]
          constructor
          · intro h; exact ⟨by omega, h.2⟩
          · intro h; exact ⟨by omega, h.2⟩
      · rw [if_neg a2, ih, keep (fun h => a2 h.2)]
    · rw [if_neg a1, ih, keep (fun h => a1 h.1)]
/-- the cases of a list -/
def csN (hc : Nat → Nat) (l : Int32) (i : Nat) (s : Int32) : Int32 := if btI l i = true then s ||| 1 <<< (nI (hc i) &&& 31) else s
theorem co_cs (hH : hcs R b n hc) (hn : n ≤ 30) : rfor (coG (iA R (b + 8)) l) 0 n 0 = rfor (csN hc l) 0 n 0 := by
  refine rfor_congr n 0 0 fun i s _ hi => ?_
  rw [coG, csN, bt_has (by omega), (hH i (by omega)).1]
  cases btI l i <;> simp
theorem cs_cg {l' : Int32} (e : ∀ j, j < n → btI l' j = btI l j) : rfor (csN hc l') 0 n 0 = rfor (csN hc l) 0 n 0 :=
  rfor_congr n 0 0 fun i s _ hi => by rw [csN, csN, e i (by omega)]
theorem has_iff (hj : j < 31) : l >>> (nI j &&& 31) &&& 1 = 1 ↔ btI l j = true := by
  rw [bt_has hj]
  cases btI l j <;> simp
theorem has_no (hj : j < 31) : l >>> (nI j &&& 31) &&& 1 = 0 ↔ btI l j = false := by
  rw [bt_has hj]
  cases btI l j <;> simp
end MDAY
