/-! the model: a case leaves, a hearing is heard -/
section MHEAR
variable {E : EE} {R S S1 : SS} {b d k n i j td q B s : Nat} {z t hc pk : Nat → Nat} {c v : Int32} {f f' A A' : Nat → Int32}
theorem lsq_cg (e : ∀ i, i < n → A' (i * 3) = A (i * 3)) : ∀ m, m ≤ n → lsq A' c m = lsq A c m
  | 0, _ => rfl
  | m + 1, h => by rw [lsq, lsq, e m (by omega), lsq_cg e m (by omega)]
theorem lsq_last : ∀ {n : Nat}, lsq A c n = some s → ∀ j, s < j → j < n → A (j * 3) ≠ c
  | 0, h, _, _, h2 => by omega
  | n + 1, h, j, h1, h2 => by
    rw [lsq] at h
    by_cases e : A (n * 3) = c
    · rw [if_pos e] at h
      cases h
      omega
    · rw [if_neg e] at h
      by_cases q : j = n
      · subst q; exact e
      · exact lsq_last h j h1 (by omega)
/-- the model's numbers when a case leaves -/
def mlF (f : Nat → Int32) (j : Nat) (o : Option Nat) (td v : Int32) : Nat → Int32 := upd (meG f j o td) (20 + 6 * j + 3) v
def goO (A : Nat → Int32) (s : Nat) : Option Nat := if A (s * 3 + 2) = 2147483647 then some s else none
theorem lv_cells (hl : lsq (iA R (b + 17)) (nI j) n = some s) : iA (lvS R b j n v) (b + 17) = (if iA R (b + 17) (s * 3 + 2) = 2147483647 then upd (iA R (b + 17)) (s * 3 + 2) (iF R b 8) else iA R (b + 17)) ∧ iA (lvS R b j n v) (b + 2) = upd (iA R (b + 2)) (j * 6 + 3) v ∧ (∀ c, c ≠ 17 → c ≠ 2 → iA (lvS R b j n v) (b + c) = iA R (b + c)) ∧ (∀ c i, iF (lvS R b j n v) c i = iF R c i) ∧ (∀ p, b + 18 ≤ p → lvS R b j n v p = R p) ∧ (∀ p, p < b → lvS R b j n v p = R p) := by
  have e17 : iA (sA R (b + 2) (upd (iA R (b + 2)) (j * 6 + 3) v)) (b + 17) = iA R (b + 17) := iA_sA_ne (by omega)
  have hX : lvS R b j n v = (if iA R (b + 17) (s * 3 + 2) = 2147483647 then sA (sA R (b + 2) (upd (iA R (b + 2)) (j * 6 + 3) v)) (b + 17) (upd (iA R (b + 17)) (s * 3 + 2) (iF R b 8)) else sA R (b + 2) (upd (iA R (b + 2)) (j * 6 + 3) v)) := by rw [lvS, enS, e17, hl]
  rw [hX]
  by_cases a : iA R (b + 17) (s * 3 + 2) = 2147483647
  · rw [if_pos a, if_pos a]
    refine ⟨by rw [iA_sA], by rw [iA_sA_ne (by omega), iA_sA], fun c h1 h2 => by rw [iA_sA_ne (by omega), iA_sA_ne (by omega)], fun c i => by rw [iF_sA, iF_sA], fun p hp => ?_, fun p hp => ?_⟩
    · rw [sA, va_up, if_neg (by omega), sA, va_up, if_neg (by omega)]
    · rw [sA, va_up, if_neg (by omega), sA, va_up, if_neg (by omega)]
  · rw [if_neg a, if_neg a]
    refine ⟨e17, by rw [iA_sA], fun c h1 h2 => by rw [iA_sA_ne (by omega)], fun c i => by rw [iF_sA], fun p hp => ?_, fun p hp => ?_⟩
    · rw [sA, va_up, if_neg (by omega)]
    · rw [sA, va_up, if_neg (by omega)]
theorem okH_lvS (hb : bkb b) (h : okH E R b z t hc pk) : okH E (lvS R b j n v) b z t hc pk := by
  have bl := bkb_lt hb
  have hB : okH E (sA R (b + 2) (upd (iA R (b + 2)) (j * 6 + 3) v)) b z t hc pk := ⟨okB_sA (by omega) h.1, hcs_sA (by omega) h.2.1, pks_sA (by omega) h.2.2⟩
  rw [lvS]
  rcases enS_c (S := sA R (b + 2) (upd (iA R (b + 2)) (j * 6 + 3) v)) (b := b) (n := n) (c := nI j) (x := iF R b 8) with r | ⟨g, r⟩
  · rw [r]; exact hB
  · rw [r]; exact ⟨okB_sA (by omega) hB.1, hcs_sA (by omega) hB.2.1, pks_sA (by omega) hB.2.2⟩
theorem Rel_leave (hb : bkb b) (h : Rel E R b z t hc pk td B f) (hj : j < z 1) (hl : lsq (iA R (b + 17)) (nI j) (z 16) = some s) : Rel E (lvS R b j (z 16) v) b z t hc pk td B (mlF f j (goO (iA R (b + 17)) s) (nI td) v) := by
  obtain ⟨n1, n14, n16, n18, n20, n22, n3, n5, n7⟩ := rl_okm h
  have bl := bkb_lt hb
  obtain ⟨e17, e2, eA, eF, eH, eL⟩ := lv_cells (v := v) hl
  have ht := rl_tod h
  have htx := rl_tx h
  obtain ⟨hs, hcs⟩ := lsq_lt hl
  obtain ⟨s', l1, l2, l3⟩ := rl_lat h j hj
  rw [hl] at l1
  cases l1
  have ff : ∀ p, p ≠ 20 + 6 * j + 3 → p ≠ 20 + 6 * j + 5 → p ≠ 164 + 3 * s + 2 → mlF f j (goO (iA R (b + 17)) s) (nI td) v p = f p := fun p h1 h2 h3 => by
    rw [mlF, pk_un h1, goO]
    split
    · rw [meG, pk_un h2, pk_un h3]
    · rw [meG, pk_un h2]
  have fr : ∀ lo hi, (hi ≤ 20 ∨ (92 ≤ lo ∧ hi ≤ 164) ∨ 254 ≤ lo) → ∀ p, lo ≤ p → p < hi → mlF f j (goO (iA R (b + 17)) s) (nI td) v p = f p := fun lo hi hh p h1 h2 => ff p (by omega) (by omega) (by omega)
  have f3 : mlF f j (goO (iA R (b + 17)) s) (nI td) v (20 + 6 * j + 3) = v := pk_us
  have f5 : mlF f j (goO (iA R (b + 17)) s) (nI td) v (20 + 6 * j + 5) = -1 := by
    rw [mlF, pk_un (by omega), goO]
    split
    · rw [meG, pk_us]
    · rw [meG, pk_us]
  have nv : nI td ≠ 2147483647 := fun e => by have := (nI_eq (b := 2147483647) (by omega) (by decide)).mp e; omega
  have hA3 : ∀ i, iA (lvS R b j (z 16) v) (b + 17) (i * 3) = iA R (b + 17) (i * 3) := fun i => by
    rw [e17]; split
    · rw [pk_un (by omega)]
    · rfl
  have hA1 : ∀ i, iA (lvS R b j (z 16) v) (b + 17) (i * 3 + 1) = iA R (b + 17) (i * 3 + 1) := fun i => by
    rw [e17]; split
    · rw [pk_un (by omega)]
    · rfl
  have hA2 : ∀ i, i ≠ s → iA (lvS R b j (z 16) v) (b + 17) (i * 3 + 2) = iA R (b + 17) (i * 3 + 2) := fun i hi => by
    rw [e17]; split
    · rw [pk_un (by omega)]
    · rfl
  have hAs : iA (lvS R b j (z 16) v) (b + 17) (s * 3 + 2) ≠ 2147483647 := by
    rw [e17]; split
    · rw [pk_us, ht.1]; exact nv
    · assumption
  have kC : ∀ i, tC (iA (lvS R b j (z 16) v) (b + 17)) i = tC (iA R (b + 17)) i := fun i => by rw [tC, tC, hA3]
  have kF : ∀ i, tF (iA (lvS R b j (z 16) v) (b + 17)) i = tF (iA R (b + 17)) i := fun i => by rw [tF, tF, hA1]
  have kT : ∀ i, i ≠ s → tT (iA (lvS R b j (z 16) v) (b + 17)) i = tT (iA R (b + 17)) i := fun i hi => by rw [tT, tT, hA2 i hi]
  obtain ⟨g1, g2, g3⟩ := rl_spg h
  have kTs : tT (iA (lvS R b j (z 16) v) (b + 17)) s = (if iA R (b + 17) (s * 3 + 2) = 2147483647 then td else tT (iA R (b + 17)) s) := by
    rw [tT, e17]; split
    · rw [pk_us, ht.1, nI_clamp (by omega)]
    · rfl
  have hTs : iA R (b + 17) (s * 3 + 2) ≠ 2147483647 → tT (iA R (b + 17)) s ≤ td := fun hn => by
    rcases (g2 s hs).2.2 with q | q
    · exact q
    · exfalso; apply hn
      rw [(g1 s hs).2.2.1, q]; rfl
  have kTs2 : tT (iA (lvS R b j (z 16) v) (b + 17)) s ≤ td := by
    rw [kTs]; split
    · exact Nat.le_refl _
    · rename_i q; exact hTs q
  refine ⟨okH_lvS hb (rl_okh h), cg_okm (fr 2 11 (by omega)) (rl_okm h), ?_, ?_, ?_, ?_, ?_, ?_, ?_, ?_, ?_, ?_, ?_, ?_, ?_, ?_, ?_, ?_, ?_, ?_⟩
  · rw [eF, ff 0 (by omega) (by omega) (by omega)]; exact ht
  · rw [eF, ff 1 (by omega) (by omega) (by omega)]; exact rl_see h
  · rw [eF, eF]; exact cg_dou (ff 11 (by omega) (by omega) (by omega)) (fr 850 890 (by omega)) (rl_dou h)
  · rw [eA 12 (by omega) (by omega)]; exact cg_12 (fr 13 17 (by omega)) (rl_put h)
  · rw [e2]
    intro i hi
    obtain ⟨h1, m, h2, h3⟩ := rl_cas h i hi
    refine ⟨fun c hc => ?_, m, h2, by rw [pk_un (by omega)]; exact h3⟩
    by_cases a : i = j ∧ c = 3
    · obtain ⟨rfl, rfl⟩ := a
      rw [f3, pk_us]
    · rw [ff _ (by omega) (by omega) (by omega), pk_un (by omega)]
      exact h1 c hc
  · rw [eA 15 (by omega) (by omega)]; exact cg_92 n14.2 (fr 92 164 (by omega)) (rl_sen h)
  · intro i hi
    obtain ⟨h1, h2, h3, h4, h5, h6⟩ := rl_sps h i hi
    rw [kC, kF, ff _ (by omega) (by omega) (by omega), ff _ (by omega) (by omega) (by omega)]
    refine ⟨h1, h2, ?_, h4, h5, ?_⟩
    · by_cases a : i = s
      · subst a
        rw [kTs, mlF, pk_un (by omega), goO]
        by_cases q : iA R (b + 17) (i * 3 + 2) = 2147483647
        · rw [if_pos q, if_pos q, meG, pk_un (by omega), pk_us, if_neg (by omega)]
        · rw [if_neg q, if_neg q, meG, pk_un (by omega)]
          exact h3
      · rw [kT i a, ff _ (by omega) (by omega) (by omega)]
        exact h3
    · by_cases a : i = s
      · subst a; omega
      · rw [kT i a]; exact h6
  · refine ⟨fun i hi => ?_, fun i hi => ?_, fun i k h1 h2 h3 => ?_⟩
    · obtain ⟨t0, t1, t2, t3, t4, t5⟩ := g1 i hi
      rw [kC, kF, hA3, hA1]
      refine ⟨t0, t1, ?_, t3, t4, ?_⟩
      · by_cases a : i = s
        · subst a
          rw [kTs, e17]; split
          · rw [pk_us, ht.1]
          · exact t2
        · rw [hA2 i a, kT i a]; exact t2
      · by_cases a : i = s
        · subst a; omega
        · rw [kT i a]; exact t5
    · rw [kC, kF]
      refine ⟨(g2 i hi).1, (g2 i hi).2.1, ?_⟩
      by_cases a : i = s
      · subst a; exact Or.inl kTs2
      · rw [kT i a]; exact (g2 i hi).2.2
    · rw [kC, kC] at h3
      rw [kF]
      by_cases a : i = s
      · exfalso
        subst a
        have := lsq_last hl k h1 h2
        apply this
        rw [(g1 k h2).1, ← h3, ← (g1 i (by omega)).1]
        exact hcs
      · rw [kT i a]; exact g3 i k h1 h2 h3
  · intro i hi
    obtain ⟨u, u1, u2, u3⟩ := rl_lat h i hi
    rw [lsq_cg (n := z 16) (fun i _ => hA3 i) (z 16) (Nat.le_refl _), e2]
    refine ⟨u, u1, ?_, ?_⟩
    · by_cases a : i = j
      · subst a
        rw [hl] at u1; cases u1
        rw [f5, if_neg hAs]
      · have hne : u ≠ s := fun e => by
          subst e
          have := (lsq_lt u1).2.symm.trans hcs
          exact a ((nI_eq (by omega) (by omega)).mp this)
        rw [hA2 u hne, ff _ (by omega) (by omega) (by omega)]
        exact u2
    · by_cases a : i = j
      · subst a
        rw [hl] at u1; cases u1
        exact Or.inr hAs
      · have hne : u ≠ s := fun e => by
          subst e
          have := (lsq_lt u1).2.symm.trans hcs
          exact a ((nI_eq (by omega) (by omega)).mp this)
        rw [hA2 u hne, pk_un (by omega)]
        exact u3
  · rw [eA 19 (by omega) (by omega)]; exact ⟨cg_gap n18.2 (fr 254 314 (by omega)) (rl_gap h).1, (rl_gap h).2⟩
  · rw [eA 21 (by omega) (by omega)]; exact cg_314 n20.2 (fr 314 474 (by omega)) (rl_cre h)
  · rw [eA 4 (by omega) (by omega)]; exact cg_474 n3.2 (fr 474 634 (by omega)) (rl_pap h)
  · rw [eA 6 (by omega) (by omega)]; exact ⟨(rl_mem h).1, cg_634 n5.2 (fr 634 670 (by omega)) (rl_mem h).2⟩
  · rw [eA 8 (by omega) (by omega)]; exact cg_670 n7.2 (fr 670 850 (by omega)) (rl_hea h)
  · rw [eA 8 (by omega) (by omega)]; exact rl_unq h
  · rw [eA 8 (by omega) (by omega), e2]
    have hw := cg_was n7.2 (fr 670 850 (by omega)) (rl_was h)
    exact ⟨hw.1, fun p hp => by rw [pk_un (by omega)]; exact hw.2 p hp⟩
  · rw [eA 10 (by omega) (by omega)]; exact cg_890 (fr 890 914 (by omega)) (rl_tab h)
  · refine cg_txt (fr 914 2578 (by omega)) htx.1 htx.2.1 htx.2.2 (fun j hj => ?_) (rl_txt h)
    have := htx.2.2 j hj
    exact ⟨eH _ (by omega), eH _ (by omega)⟩
end MHEAR
