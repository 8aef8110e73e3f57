/-! the reader: what it makes is well formed -/
section WELL
variable {n p q j l kn f k a b e m : Nat} {T : Nat → Nat} {c : Int32} {σ τ ρ σ0 : PT} {R R' : PT → PT} {u v w : Nat → Int32}
theorem depc_cg : ∀ (k : Nat), (∀ j, j < k → v j = u j) → depc v k = depc u k
  | 0, _ => rfl
  | k + 1, h => by rw [depc, depc, depc_cg k (fun j hj => h j (by omega)), h k (by omega)]
theorem depc_le : ∀ (k : Nat), depc u k ≤ k
  | 0 => Nat.le_refl 0
  | k + 1 => by
    have := depc_le k
    rw [depc, nxD]
    split
    · split <;> omega
    · omega
/-- codes v up to b go on from codes u up to a, and leave one number more -/
def wfk (a : Nat) (u : Nat → Int32) (b : Nat) (v : Nat → Int32) : Prop := a ≤ b ∧ (∀ j, j < a → v j = u j) ∧ depc v b = depc u a + 1 ∧ ∀ i, a ≤ i → i < b → okD (v i) (depc v i) ∧ vcd (v i)
theorem wk_up (hi : j ≤ b) : depc (upd v b c) j = depc v j := depc_cg j (fun i h => pk_un (by omega))
theorem wk_last : depc (upd v b c) (b + 1) = nxD c (depc v b) := by rw [depc, pk_us, wk_up (Nat.le_refl b)]
theorem wfk_leaf (ha : a < 96) (hc : ¬ c < -4) (hv : vcd c) : wfk a u (a + 1) (upd u a c) := by
  have := depc_le (u := u) a
  refine ⟨by omega, fun j hj => pk_un (by omega), ?_, fun i h1 h2 => ?_⟩
  · rw [wk_last, nxD, if_neg hc]
  · have e : i = a := by omega
    subst e
    rw [pk_us, wk_up (Nat.le_refl i), okD, if_neg hc]
    exact ⟨by omega, hv⟩
theorem wfk_ext (h : wfk a u b v) (h1 : a ≤ j) (h2 : j < b) : okD (upd v b c j) (depc (upd v b c) j) ∧ vcd (upd v b c j) := by
  rw [pk_un (show j ≠ b by omega), wk_up (by omega)]
  exact h.2.2.2 j h1 h2
theorem wfk_not (h : wfk a u b v) (hb : b < 96) : wfk a u (b + 1) (upd v b (-33)) := by
  obtain ⟨h1, h2, h3, h4⟩ := id h
  have := depc_le (u := v) b
  refine ⟨by omega, fun j hj => by rw [pk_un (by omega)]; exact h2 j hj, ?_, fun i q1 q2 => ?_⟩
  · rw [wk_last, nxD, if_pos (by decide), if_pos rfl, h3]
  · by_cases e : i = b
    · subst e
      rw [pk_us, wk_up (Nat.le_refl i), okD, if_pos (by decide), if_pos rfl]
      exact ⟨by omega, Or.inr (Or.inr (Or.inl rfl))⟩
    · exact wfk_ext h q1 (by omega)
theorem wfk_bin (h : wfk a u b v) (g : wfk b v e w) (he : e < 96) (hc : c < -4) (hc3 : c ≠ -33) (hv : vcd c) : wfk a u (e + 1) (upd w e c) := by
  obtain ⟨h1, h2, h3, h4⟩ := id h
  obtain ⟨g1, g2, g3, g4⟩ := id g
  have := depc_le (u := w) e
  refine ⟨by omega, fun j hj => by rw [pk_un (by omega), g2 j (by omega)]; exact h2 j hj, ?_, fun i q1 q2 => ?_⟩
  · rw [wk_last, nxD, if_pos hc, if_neg hc3, g3, h3]; rfl
  · by_cases q : i = e
    · subst q
      rw [pk_us, wk_up (Nat.le_refl i), okD, if_pos hc, if_neg hc3]
      exact ⟨by omega, hv⟩
    · by_cases q3 : i < b
      · rw [pk_un q, wk_up (by omega), g2 i q3, depc_cg i (fun j hj => g2 j (by omega))]
        exact h4 i q1 q3
      · exact wfk_ext g (by omega) (by omega)
/-- a state that the reader comes to without fault -/
def rSt (n : Nat) (T : Nat → Nat) (σ : PT) : Prop := okP n σ ∧ σ.2.2.2.2.1 ≤ σ.1 ∧ (σ.2.2.1 ≠ 1 → σ.1 < σ.2.1) ∧ (σ.2.2.1 = 4 → ∀ j, σ.1 ≤ j → j < σ.2.1 → 48 ≤ T j ∧ T j ≤ 57) ∧ 1 ≤ σ.2.2.1 ∧ σ.2.2.1 ≤ 5
def wfx (σ τ : PT) : Prop := wfk σ.2.2.2.2.1 σ.2.2.2.2.2.2 τ.2.2.2.2.1 τ.2.2.2.2.2.2 ∧ τ.2.2.2.2.1 + σ.1 ≤ σ.2.2.2.2.1 + τ.1 ∧ σ.1 ≤ τ.1
theorem wnF_all : ∀ (f p j : Nat), p ≤ j → j < wnF n T k f p → srt n T j = k
  | 0, p, j, h1, h2 => by rw [wnF] at h2; omega
  | f + 1, p, j, h1, h2 => by
    rw [wnF] at h2
    split at h2
    · rename_i h
      by_cases e : j = p
      · rw [e]; exact h
      · exact wnF_all f (p + 1) j (by omega) h2
    · omega
theorem srt_4 (h : srt n T j = 4) : 48 ≤ T j ∧ T j ≤ 57 := by
  rw [srt] at h
  split at h
  · omega
  · split at h
    · omega
    · split at h
      · assumption
      · omega
theorem adv_c : (adv n T σ).2.2.2.2.1 = σ.2.2.2.2.1 ∧ (adv n T σ).2.2.2.2.2.2 = σ.2.2.2.2.2.2 ∧ (adv n T σ).2.2.2.1 = σ.2.2.2.1 ∧ (adv n T σ).2.2.2.2.2.1 = σ.2.2.2.2.2.1 := by
  rw [adv]
  split
  · exact ⟨rfl, rfl, rfl, rfl⟩
  · split <;> exact ⟨rfl, rfl, rfl, rfl⟩
theorem rSt_adv (h : okP n σ) (hc : σ.2.2.2.2.1 ≤ σ.2.1) : rSt n T (adv n T σ) := by
  obtain ⟨a1, a2, a3, a4, a5, a6⟩ := adv_b (T := T) h.2.1
  obtain ⟨c1, c2, c3, c4⟩ := adv_c (n := n) (T := T) (σ := σ)
  refine ⟨okP_adv h, by rw [c1]; omega, a5, ?_, ?_⟩
  · rw [adv]
    generalize skF n T 97 σ.2.1 = k
    split
    · intro h; exact absurd (show (1 : Nat) = 4 from h) (by decide)
    · split
      · intro h; exact absurd (show (2 : Nat) = 4 from h) (by decide)
      · rename_i q1 q2
        intro h4 j h1 h2
        have h4 : (if isW σ.2.2.1 = 1 ∧ k = σ.2.1 then 5 else srt n T k) = 4 := h4
        have h1 : k ≤ j := h1
        have h2 : j < wnF n T (srt n T k) 97 (k + 1) := h2
        split at h4
        · omega
        · by_cases e : j = k
          · rw [e]; exact srt_4 h4
          · rw [h4] at h2
            exact srt_4 (wnF_all 97 (k + 1) j (by omega) h2)
  · rw [adv]
    generalize skF n T 97 σ.2.1 = k
    split
    · exact ⟨by show 1 ≤ 1; omega, by show 1 ≤ 5; omega⟩
    · split
      · exact ⟨by show 1 ≤ 2; omega, by show 2 ≤ 5; omega⟩
      · show 1 ≤ (if isW σ.2.2.1 = 1 ∧ k = σ.2.1 then 5 else srt n T k) ∧ (if isW σ.2.2.1 = 1 ∧ k = σ.2.1 then 5 else srt n T k) ≤ 5
        rcases srt_c (n := n) (T := T) (q := k) with h | h | h | h <;> rw [h] <;> split <;> omega
theorem emi_f : (emi σ c).2.2.2.1 = σ.2.2.2.1 ∧ (emi σ c).1 = σ.1 ∧ (emi σ c).2.1 = σ.2.1 ∧ (emi σ c).2.2.1 = σ.2.2.1 := by
  rw [emi]; split <;> exact ⟨rfl, rfl, rfl, rfl⟩
theorem emi_t (h : σ.2.2.2.2.1 < 96) : emi σ c = (σ.1, σ.2.1, σ.2.2.1, σ.2.2.2.1, σ.2.2.2.2.1 + 1, σ.2.2.2.2.2.1, upd σ.2.2.2.2.2.2 σ.2.2.2.2.1 c) := by rw [emi, if_pos h]
theorem rfu_s : ∃ r, (rfu σ).2.2.2.1 = some r := by
  cases h : σ.2.2.2.1 with
  | none => exact ⟨σ.1, by rw [rfu, h]⟩
  | some r => exact ⟨r, by rw [rfu, h]⟩
theorem rfu_n : ¬ (rfu σ).2.2.2.1 = none := fun h => by
  obtain ⟨r, h2⟩ := rfu_s (σ := σ)
  rw [h2] at h; cases h
theorem lpL_f {r : Nat} (h : σ.2.2.2.1 = some r) : ∀ m, lpL n T l R m σ = σ
  | 0 => rfl
  | m + 1 => by rw [lpL, if_neg (fun h2 => by rw [h] at h2; cases h2.1)]
/-- where a sign is found -/
theorem ixF_c : ∀ (m j : Nat), ixF u c j m = -1 ∨ ∃ k : Nat, j ≤ k ∧ k < j + m ∧ u k = c ∧ ixF u c j m = nI k
  | 0, _ => Or.inl rfl
  | m + 1, j => by
    rw [ixF]
    split
    · rename_i h
      exact Or.inr ⟨j, by omega, by omega, h, rfl⟩
    · rcases ixF_c m (j + 1) with h | ⟨k, h1, h2, h3, h4⟩
      · exact Or.inl h
      · exact Or.inr ⟨k, by omega, by omega, h3, h4⟩
theorem chI_T (h : k < 256) : chI (nI k) = nI k := by
  have : ∀ k : Nat, k < 256 → chI (nI k) = nI k := by decide +kernel
  exact this k h
def sgl (l k : Nat) : Bool := (l == 0 && k == 124) || (l == 1 && k == 38) || (l == 2 && (k == 60 || k == 61 || k == 62)) || (l == 3 && (k == 43 || k == 45)) || (l == 4 && (k == 42 || k == 47))
theorem sgl_ix : ∀ l, l < 5 → ∀ k, k < 256 → (decide (ixS (10 + l) (nI k) < 0) = !sgl l k) := by decide +kernel
theorem sgo_k (hl : l < 5) (hT : ∀ j, j < n → T j < 256) (h : sgo n T l σ = 1) (hp : σ.2.2.1 ≠ 1 → σ.1 < n) : σ.2.2.1 = 2 ∧ σ.1 < n ∧ sgl l (T σ.1) = true := by
  rw [sgo] at h
  split at h
  · rename_i h2
    have h3 := hp (by omega)
    refine ⟨h2, h3, ?_⟩
    rw [btN, if_pos h3, chI_T (hT _ h3)] at h
    have := sgl_ix l hl (T σ.1) (hT _ h3)
    split at h
    · exact absurd h (by decide)
    · rename_i h4
      rw [decide_eq_false h4] at this
      cases hs : sgl l (T σ.1) with
      | true => rfl
      | false => rw [hs] at this; cases this
  · exact absurd h (by decide)
theorem sgl_v (h : sgl l k = true) : -(nI k) < -4 ∧ -(nI k) ≠ -33 ∧ vcd (-(nI k)) := by
  have e : k = 124 ∨ k = 38 ∨ k = 60 ∨ k = 61 ∨ k = 62 ∨ k = 43 ∨ k = 45 ∨ k = 42 ∨ k = 47 := by
    simp only [sgl, Bool.or_eq_true, Bool.and_eq_true, beq_iff_eq] at h
    omega
  rcases e with rfl | rfl | rfl | rfl | rfl | rfl | rfl | rfl | rfl <;> refine ⟨by decide, by decide, Or.inr (Or.inr ?_)⟩ <;> decide
theorem nu_lt (hn : ∀ j, p ≤ j → j < p + m → j < n ∧ 48 ≤ T j ∧ T j ≤ 57) : ∀ (a : Nat), a + m ≤ 4 → ∀ k : Nat, k < 10 ^ a → ∃ r : Nat, r < 10 ^ (a + m) ∧ nuF n T m p (nI k) = nI r := by
  induction m generalizing p with
  | zero => exact fun a _ k hk => ⟨k, hk, rfl⟩
  | succ m ih =>
    intro a ha k hk
    obtain ⟨h1, h2, h3⟩ := hn p (Nat.le_refl p) (by omega)
    have e : nI k * 10 + btN n T p - 48 = nI (k * 10 + (T p - 48)) := by
      rw [btN, if_pos h1, show nI k * 10 = nI (k * 10) from pk_mul k 10, nI_add, show (48 : Int32) = nI 48 from rfl, pk_sub (by omega), show k * 10 + T p - 48 = k * 10 + (T p - 48) by omega]
    have hk2 : k * 10 + (T p - 48) < 10 ^ (a + 1) := by rw [Nat.pow_succ]; omega
    obtain ⟨r, h4, h5⟩ := ih (p := p + 1) (fun j q1 q2 => hn j (by omega) (by omega)) (a + 1) (by omega) _ hk2
    refine ⟨r, by rw [show a + (m + 1) = a + 1 + m by omega]; exact h4, ?_⟩
    rw [nuF, e, h5]
theorem nu_v (h : rSt n T σ) (h4 : σ.2.2.1 = 4) (hl : σ.2.1 - σ.1 ≤ 4) : ∃ r : Nat, r < 10000 ∧ nuF n T (σ.2.1 - σ.1) σ.1 0 = nI r := by
  obtain ⟨⟨o1, o2, o3, o4, o5, o6⟩, h1, h2, h3, -⟩ := h
  have h3 := h3 h4
  obtain ⟨r, q1, q2⟩ := nu_lt (n := n) (T := T) (p := σ.1) (m := σ.2.1 - σ.1) (fun j a b => ⟨by omega, h3 j a (by omega)⟩) 0 (by omega) 0 (by decide)
  refine ⟨r, ?_, q2⟩
  have : 10 ^ (0 + (σ.2.1 - σ.1)) ≤ 10 ^ 4 := Nat.pow_le_pow_right (by omega) (by omega)
  omega
theorem nm_v (hk : kn < 5) (h : nmH n T kn σ ≠ -1000000005) : ∃ r : Nat, r < 4 ∧ nmH n T kn σ = nI r := by
  rw [nmH] at h ⊢
  split at h
  · rename_i h0
    rw [if_pos h0]
    rw [nmI] at h0 ⊢
    split at h0
    · rename_i h1
      rw [if_pos h1]
      rw [ixS] at h0 ⊢
      split at h0
      · exact absurd h0 (by decide)
      · rename_i h2
        rw [if_neg h2]
        rcases ixF_c (u := sbyt (5 + kn)) (c := (chI (btN n T σ.1)).toInt8.toInt32) (slen (5 + kn)) 0 with h3 | ⟨k, h3, h4, h5, h6⟩
        · rw [h3] at h0; exact absurd h0 (by decide)
        · have : ∀ kn, kn < 5 → slen (5 + kn) ≤ 4 := by decide
          have := this kn hk
          exact ⟨k, by omega, h6⟩
    · exact absurd h0 (by decide)
  · exact absurd rfl h
theorem vcd_n {r : Nat} (h : r < 10000) : ¬ nI r < -4 ∧ vcd (nI r) := ⟨fun q => nI_pos (show r < 2 ^ 31 by omega) (Int32.lt_trans q (by decide)), Or.inl ⟨r, h, rfl⟩⟩
theorem vcd_m {r : Nat} (h : r < 4) : ¬ -1 - nI r < -4 ∧ vcd (-1 - nI r) := by
  match r, h with
  | 0, _ => exact ⟨by decide, Or.inr (Or.inl (by decide))⟩
  | 1, _ => exact ⟨by decide, Or.inr (Or.inl (by decide))⟩
  | 2, _ => exact ⟨by decide, Or.inr (Or.inl (by decide))⟩
  | 3, _ => exact ⟨by decide, Or.inr (Or.inl (by decide))⟩
theorem lef_wf (h : rSt n T σ) (hn : n ≤ 96) (h1 : σ.2.2.1 ≠ 1) (hc : ¬ c < -4) (hv : vcd c) : rSt n T (lef n T σ c) ∧ wfx σ (lef n T σ c) := by
  obtain ⟨ho, hcc, hp, -⟩ := id h
  have hlt := hp h1
  have hb := ho.2.1
  have c96 : (lfv σ).2.2.2.2.1 < 96 := by show σ.2.2.2.2.1 < 96; omega
  have e1 : okP n (emi (lfv σ) c) := okP_emi (okP_lfv ho)
  have e2 : emi (lfv σ) c = (σ.1, σ.2.1, σ.2.2.1, σ.2.2.2.1, σ.2.2.2.2.1 + 1, σ.2.2.2.2.2.1 + 1, upd σ.2.2.2.2.2.2 σ.2.2.2.2.1 c) := emi_t c96
  have hs := rSt_adv (T := T) e1 (by rw [e2]; show σ.2.2.2.2.1 + 1 ≤ σ.2.1; omega)
  refine ⟨hs, ?_⟩
  obtain ⟨a1, a2, a3, a4, a5, a6⟩ := adv_b (T := T) e1.2.1
  obtain ⟨c1, c2, c3, c4⟩ := adv_c (n := n) (T := T) (σ := emi (lfv σ) c)
  have a1 : σ.2.1 ≤ (adv n T (emi (lfv σ) c)).1 := by rw [e2] at a1 ⊢; exact a1
  rw [lef, wfx, c1, c2]
  rw [e2] at a1 ⊢
  exact ⟨wfk_leaf (by omega) hc hv, by show σ.2.2.2.2.1 + 1 + σ.1 ≤ σ.2.2.2.2.1 + _; omega, by omega⟩
def okR (n : Nat) (T : Nat → Nat) (R : PT → PT) : Prop := ∀ σ, rSt n T σ → σ.2.2.2.1 = none → (R σ).2.2.2.1 = none → rSt n T (R σ) ∧ wfx σ (R σ)
theorem adv_wf (h : rSt n T σ) : rSt n T (adv n T σ) ∧ (σ.2.2.1 ≠ 1 → σ.1 + 1 ≤ (adv n T σ).1) := by
  obtain ⟨ho, hcc, hp, -⟩ := id h
  obtain ⟨a1, -⟩ := adv_b (T := T) ho.2.1
  exact ⟨rSt_adv ho (by have := ho.2.2.2.2.1; omega), fun h1 => by have := hp h1; omega⟩
theorem prt_wf (hn : n ≤ 96) (hk : kn < 5) (hR : q < 8 → okR n T R) (hR' : p < 8 → okR n T R') : okR n T (prt n T kn R R' p q) := by
  intro σ h hf hr
  obtain ⟨ho, hcc, hp, -⟩ := id h
  obtain ⟨s1, s2⟩ := adv_wf h
  obtain ⟨c1, c2, c3, c4⟩ := adv_c (n := n) (T := T) (σ := σ)
  rw [prt] at hr ⊢
  split at hr
  · rename_i a1
    rw [if_pos a1]
    obtain ⟨r, r1, r2⟩ := nu_v h a1.1 a1.2
    rw [r2]
    exact lef_wf h hn (by omega) (vcd_n r1).1 (vcd_n r1).2
  rename_i a1
  rw [if_neg a1]
  split at hr
  · rename_i a2
    rw [if_pos a2]
    obtain ⟨r, r1, r2⟩ := nm_v hk a2.2
    rw [r2]
    exact lef_wf h hn (by omega) (vcd_m r1).1 (vcd_m r1).2
  rename_i a2
  rw [if_neg a2]
  have i2 : ∀ c, isg n T σ c = 1 → σ.2.2.1 ≠ 1 := fun c h3 h4 => by
    rw [isg, if_neg (by omega)] at h3; exact absurd h3 (by decide)
  split at hr
  · rename_i a3
    rw [if_pos a3]
    rw [emi_f.1] at hr
    obtain ⟨t1, t2, t3, t4⟩ := hR a3.2 _ s1 (by rw [c3]; exact hf) hr
    have s2 := s2 (i2 _ a3.1)
    rw [c1] at t3
    have hb := t1.1.1
    have c96 : (R (adv n T σ)).2.2.2.2.1 < 96 := by omega
    rw [emi_t c96]
    refine ⟨⟨?_, ?_, t1.2.2⟩, ?_, ?_, ?_⟩
    · have := okP_emi (c := -33) t1.1
      rw [emi_t c96] at this
      exact this
    · show (R (adv n T σ)).2.2.2.2.1 + 1 ≤ (R (adv n T σ)).1
      omega
    · rw [c1, c2] at t2
      exact wfk_not t2 c96
    · show (R (adv n T σ)).2.2.2.2.1 + 1 + σ.1 ≤ σ.2.2.2.2.1 + (R (adv n T σ)).1
      omega
    · show σ.1 ≤ (R (adv n T σ)).1
      omega
  rename_i a3
  rw [if_neg a3]
  split at hr
  · rename_i a4
    rw [if_pos a4]
    have s2 := s2 (i2 _ a4.1)
    split at hr
    · rename_i a5
      rw [if_pos a5]
      rw [adv_c.2.2.1] at hr
      obtain ⟨t1, t2, t3, t4⟩ := hR' a4.2 _ s1 (by rw [c3]; exact hf) hr
      obtain ⟨v1, v2⟩ := adv_wf t1
      obtain ⟨d1, d2, d3, d4⟩ := adv_c (n := n) (T := T) (σ := R' (adv n T σ))
      obtain ⟨b1, b2, -⟩ := adv_b (T := T) t1.1.2.1
      have hb5 := t1.1.2.2.2.2.1
      rw [c1] at t3
      refine ⟨v1, ?_, ?_, ?_⟩
      · rw [d1, d2]
        rw [c1, c2] at t2
        exact t2
      · rw [d1]; omega
      · omega
    · exact absurd hr rfu_n
  · exact absurd hr rfu_n
theorem lpL_wf (hn : n ≤ 96) (hl : l < 5) (hT : ∀ j, j < n → T j < 256) (hR : okR n T R) (σ0 : PT) : ∀ m σ, rSt n T σ → σ.2.2.2.1 = none → wfx σ0 σ → (lpL n T l R m σ).2.2.2.1 = none → rSt n T (lpL n T l R m σ) ∧ wfx σ0 (lpL n T l R m σ)
  | 0, σ, h, _, hw, _ => ⟨h, hw⟩
  | m + 1, σ, h, hf, hw, hr => by
    obtain ⟨ho, hcc, hp, -⟩ := id h
    obtain ⟨s1, s2⟩ := adv_wf h
    obtain ⟨c1, c2, c3, c4⟩ := adv_c (n := n) (T := T) (σ := σ)
    rw [lpL] at hr ⊢
    split at hr
    · rename_i a1
      rw [if_pos a1]
      obtain ⟨k1, k2, k3⟩ := sgo_k hl hT a1.2 (fun h3 => by have := hp h3; have := ho.2.1; omega)
      obtain ⟨v1, v2, v3⟩ := sgl_v k3
      have s2 := s2 (by omega)
      cases hq : (R (adv n T σ)).2.2.2.1 with
      | some r =>
        rw [lpL_f (r := r) (by rw [emi_f.1]; exact hq), emi_f.1, hq] at hr
        cases hr
      | none =>
        obtain ⟨t1, t2, t3, t4⟩ := hR _ s1 (by rw [c3]; exact hf) hq
        rw [c1] at t3
        rw [c1, c2] at t2
        have hb := t1.1.1
        have c96 : (R (adv n T σ)).2.2.2.2.1 < 96 := by omega
        have ep : btN n T σ.1 = nI (T σ.1) := by rw [btN, if_pos k2]
        refine lpL_wf hn hl hT hR σ0 m _ ?_ (by rw [emi_f.1]; exact hq) ?_ hr
        · rw [emi_t c96]
          refine ⟨?_, ?_, t1.2.2⟩
          · have := okP_emi (c := -(btN n T σ.1)) t1.1
            rw [emi_t c96] at this
            exact this
          · show (R (adv n T σ)).2.2.2.2.1 + 1 ≤ (R (adv n T σ)).1
            omega
        · rw [emi_t c96, ep]
          obtain ⟨w1, w2, w3⟩ := hw
          refine ⟨wfk_bin w1 t2 c96 v1 v2 v3, ?_, ?_⟩
          · show (R (adv n T σ)).2.2.2.2.1 + 1 + σ0.1 ≤ σ0.2.2.2.2.1 + (R (adv n T σ)).1
            omega
          · show σ0.1 ≤ (R (adv n T σ)).1
            omega
    · rename_i a1
      rw [if_neg a1]
      exact ⟨h, hw⟩
theorem rdX_wf (hn : n ≤ 96) (hk : kn < 5) (hT : ∀ j, j < n → T j < 256) : ∀ (f l p q : Nat), 1 + (5 - l) + (8 - q) + 6 * (8 - p) ≤ f → l ≤ 5 → p ≤ 8 → q ≤ 8 → okR n T (rdX n T kn f l p q)
  | 0, l, p, q, h, _, _, _ => by omega
  | f + 1, l, p, q, h, hl, hp, hq => by
    intro σ hs hf hr
    rw [rdX] at hr ⊢
    split at hr
    · rename_i h5
      rw [if_pos h5]
      have h5 : l = 5 := by omega
      subst h5
      exact prt_wf hn hk (fun h8 => rdX_wf hn hk hT f 5 p (q + 1) (by omega) (by omega) hp (by omega)) (fun h8 => rdX_wf hn hk hT f 0 (p + 1) q (by omega) (by omega) (by omega) hq) σ hs hf hr
    · rename_i h5
      rw [if_neg h5]
      have ih := rdX_wf hn hk hT f (l + 1) p q (by omega) (by omega) hp hq
      cases hq2 : (rdX n T kn f (l + 1) p q σ).2.2.2.1 with
      | some r => rw [lpL_f hq2, hq2] at hr; cases hr
      | none =>
        obtain ⟨t1, t2⟩ := ih σ hs hf hq2
        exact lpL_wf hn (by omega) hT ih σ _ _ t1 hq2 t2 hr
end WELL
