/-! call: text -/
section TEXTQ
variable {E E' : EE} {R R' S S1 W : SS} {b d n p q i j l k kn m len td B : Nat} {T z t hc pk : Nat → Nat} {c v x y w : Int32} {σ ρ : PT} {f f' g g' cf : Nat → Int32}
/-- a call of both answers alike and leaves all in order; it may have made cells -/
def opG (E : EE) (S : SS) (X M nX nM : Nat) (as : List Value) : Prop := ∃ v E' S1 S2, (∀ d, 62 ≤ d → mres cT X d 0 (ment nX (.ref 0 :: as)) [] (hs E S) = some (some (.int v), hs E' S1)) ∧ (∀ d, 62 ≤ d → mres cT M d 0 (ment nM (.ref 93 :: as)) [] (hs E' S1) = some (some (.int v), hs E' S2)) ∧ Inv E' S2 ∧ E.1 ≤ E'.1 ∧ E'.1 ≤ E.1 + 2 ∧ E'.2.1 ≤ E.2.1 + 101 ∧ E'.2.2 = E.2.2
theorem opG_of {X M nX nM : Nat} {as : List Value} (h : opE E S X M nX nM as) : opG E S X M nX nM as := by
  obtain ⟨v, S1, S2, h1, h2, h3⟩ := h
  exact ⟨v, E, S1, S2, h1, h2, h3, by omega, by omega, by omega, rfl⟩
theorem Inv_g (h : Inv E S) (hE' : okE E') (hp' : E'.1 % 2 = 1) (hEE : E.1 ≤ E'.1) (e : ∀ q, q < E.1 → (q = 0 ∨ 27 ≤ q) → q ≠ 79 → q ≠ 81 → q ≠ 82 → q ≠ 93 → q ≠ 94 → q ≠ 103 → S1 q = S q) (e0 : ∀ k, k < 13 → k ≠ 5 → iF S1 93 k = iF S 93 k) (h79 : iF S1 79 1 = 0) (h5 : iF S1 93 5 = 0) (hB : InvB E' S1 1 94) (hA : txA E' S1 1) : Inv E' S1 := by
  obtain ⟨h1, h2, -, ⟨i1, i2⟩, -, h6, h7, ⟨-, k2, k3⟩⟩ := h
  have h109 := h1.1
  have eF0 : ∀ k, iF S1 0 k = iF S 0 k := fun k => by rw [iF, e 0 (by omega) (by omega) (by omega) (by omega) (by omega) (by omega) (by omega) (by omega)]
  refine ⟨hE', hp', hB, ⟨?_, ?_⟩, ⟨0, fun _ => 0, ⟨h79, by omega, fun j hj => absurd hj (Nat.not_lt_zero j)⟩, h5, fun j hj => absurd hj (Nat.not_lt_zero j)⟩, fr_W (fun q hq => e q (by omega) (by omega) (by omega) (by omega) (by omega) (by omega) (by omega) (by omega)) (eF0 8) (e0 7 (by omega) (by omega)) h6, fr_H (fun q hq => e q (by omega) (by omega) (by omega) (by omega) (by omega) (by omega) (by omega) (by omega)) h7, ⟨hA, fun j p hj hp => ?_, fun j hj => ?_⟩⟩
  · rw [eF0, e0 3 (by omega) (by omega)]; exact i1
  · rw [eF0]
    refine i2.imp id (fun ⟨q1, z, t, hc, pk, td, q2, q3⟩ => ⟨q1, z, t, hc, pk, td, q2, ?_⟩)
    rw [iA, e 95 (by omega) (by omega) (by omega) (by omega) (by omega) (by omega) (by omega) (by omega)]
    exact Rel_cells (Or.inr (Or.inl rfl)) (fun q hq => e q (by omega) (by omega) (by omega) (by omega) (by omega) (by omega) (by omega) (by omega)) hEE q3
  · rw [iQ, e (27 + 23) (by omega) (by omega) (by omega) (by omega) (by omega) (by omega) (by omega) (by omega)] at hp
    obtain ⟨w1, w2, w3⟩ := k2 j p hj hp
    exact ⟨w1, w2, by omega⟩
  · rw [iQ, iQ, e 104 (by omega) (by omega) (by omega) (by omega) (by omega) (by omega) (by omega) (by omega), e 105 (by omega) (by omega) (by omega) (by omega) (by omega) (by omega) (by omega) (by omega)]
    exact k3 j hj
theorem Inv_h (h : Inv E S) (hE' : okE E') (hp' : E'.1 % 2 = 1) (hEE : E.1 ≤ E'.1) (e : ∀ q, q < E.1 → q ≠ 79 → q ≠ 81 → q ≠ 82 → q ≠ 93 → q ≠ 103 → S1 q = S q) (e0 : ∀ k, k < 13 → k ≠ 5 → iF S1 93 k = iF S 93 k) (h79 : iF S1 79 1 = 0) (h5 : iF S1 93 5 = 0) : Inv E' S1 := by
  obtain ⟨h1, -, ⟨z, t, hc, pk, td, b1, b2⟩, -, -, -, -, ⟨k1, -⟩⟩ := id h
  have h109 := h1.1
  refine Inv_g h hE' hp' hEE (fun q a _ a1 a2 a3 a4 _ a6 => e q a a1 a2 a3 a4 a6) e0 h79 h5 ⟨z, t, hc, pk, td, b1, ?_⟩ (fun j p hj hp => ?_)
  · rw [iA, e 94 (by omega) (by omega) (by omega) (by omega) (by omega) (by omega)]
    exact Rel_cells (Or.inl rfl) (fun q hq => e q (by omega) (by omega) (by omega) (by omega) (by omega) (by omega)) hEE b2
  · rw [iQ, e (1 + 23) (by omega) (by omega) (by omega) (by omega) (by omega) (by omega)] at hp
    obtain ⟨w1, w2, w3⟩ := k1 j p hj hp
    exact ⟨w1, w2, by omega⟩
theorem mp_c (h : q ≠ 93) (h2 : q ≠ 103) {u : Nat} {x : Int32} {fr tt so ft br nt cc pa : Int32} : mpS (sF (sF S 93 u x) 93 5 0) fr tt so ft br nt cc pa g q = S q := by
  rw [mp_o h h2, sF, va_up, if_neg h, sF, va_up, if_neg h]
theorem mp_k {fr tt so ft br nt cc pa : Int32} (hk : k < 13) (h5 : k ≠ 5) : iF (mpS (sF (sF S 93 19 x) 93 5 0) fr tt so ft br nt cc pa g) 93 k = iF S 93 k := by
  rw [mpk hk, iF_sF_ne (Or.inr h5), iF_sF_ne (Or.inr (by omega))]
theorem mp_5 {fr tt so ft br nt cc pa : Int32} : iF (mpS (sF (sF S 93 19 x) 93 5 0) fr tt so ft br nt cc pa g) 93 5 = 0 := by rw [mp5, iF_sF]
/-- the model's text at a bad call, or at a fault -/
theorem M_text_no (hE : okE E) (hT : mtp S n T) (hK : ∀ j, j < 5 → iQ S 104 j = some (1000016 + j) ∧ iQ S 105 j = some (1000021 + j)) (h : wiS c 0 8 = 0 ∨ wiS v 0 2999 = 0) : ∃ W, (∀ q, q ≠ 93 → q ≠ 103 → W q = S q) ∧ (∀ k, k < 13 → k ≠ 5 → iF W 93 k = iF S 93 k) ∧ iF W 93 5 = 0 ∧ ∀ d, 17 ≤ d → mres cT 154 d 0 (ment 8 [.ref 93, .int c, .int v]) [] (hs E S) = some (some (.int (-1000000001)), hs E W) := by
  cases hq : kyQ n T (rt1 n T (iA S 82)) with
  | none =>
    refine ⟨mpS (sF (sF S 93 19 (nI 1000015)) 93 5 0) (nI (rt1 n T (iA S 82)).1) (nI (rt1 n T (iA S 82)).2.1) (mso (rt1 n T (iA S 82))) 1 0 0 (nI (rt1 n T (iA S 82)).2.2.2.2.1) (nI (rt1 n T (iA S 82)).2.2.2.2.2.1) (iA S 103), fun q h1 h2 => mp_c h1 h2, fun k h1 h2 => mp_k h1 h2, mp_5, fun d hd => ?_⟩
    rw [M_text_k (cf := iA S 82) hE hT hK, hq]
    exact (M_text_n hE).trans (M_text_bad hE h)
  | some kn =>
    obtain ⟨W, hW, r⟩ := M_text_s (c := c) (v := v) (w4 := .int 5) (w5 := .retAddr 0) (w6 := .retAddr 0) (w7 := .retAddr 0) (g := iA S 103) hE hT hK hq
    rcases hW with ⟨p, -, tt, so, br, nt, cc, pa, g1, rfl⟩ | ⟨-, -, g1, -, rfl⟩
    · refine ⟨mpS (sF (sF S 93 19 (nI (1000021 + kn))) 93 5 0) (nI p) tt so 1 br nt cc pa g1, fun q h1 h2 => mp_c h1 h2, fun k h1 h2 => mp_k h1 h2, mp_5, fun d hd => ?_⟩
      rw [M_text_k (cf := iA S 82) hE hT hK, hq]
      exact (r d hd).trans (M_text_bad hE h)
    · refine ⟨mpS (sF (sF S 93 19 (nI (1000021 + kn))) 93 5 0) (nI (rt2 n T (iA S 82) kn).1) (nI (rt2 n T (iA S 82) kn).2.1) (mso (rt2 n T (iA S 82) kn)) 0 0 0 (nI ((rt2 n T (iA S 82) kn).2.2.2.2.1 + 1)) (nI (rt2 n T (iA S 82) kn).2.2.2.2.2.1) (upd g1 (rt2 n T (iA S 82) kn).2.2.2.2.1 300000), fun q h1 h2 => mp_c h1 h2, fun k h1 h2 => mp_k h1 h2, mp_5, fun d hd => ?_⟩
      rw [M_text_k (cf := iA S 82) hE hT hK, hq]
      exact (r d hd).trans (M_text_bad hE h)
theorem M_text_x (hE : okE E) (hT : mtp S n T) (hK : ∀ j, j < 5 → iQ S 104 j = some (1000016 + j) ∧ iQ S 105 j = some (1000021 + j)) (h1 : wiS c 0 8 = 1) (h2 : wiS v 0 2999 = 1) (hp : (kyQ n T (rt1 n T cf) = none ∧ p = (rt1 n T cf).1) ∨ ∃ kn, kyQ n T (rt1 n T cf) = some kn ∧ (rt3 n T cf kn).2.2.2.1 = some p) : ∃ W, (∀ q, q ≠ 93 → q ≠ 103 → W q = S q) ∧ (∀ k, k < 13 → k ≠ 5 → iF W 93 k = iF S 93 k) ∧ iF W 93 5 = 0 ∧ ∀ d, 17 ≤ d → mres cT 154 d 0 (ment 8 [.ref 93, .int c, .int v]) [] (hs E S) = some (some (.int (-100 - nI p)), hs E W) := by
  rcases hp with ⟨hq, rfl⟩ | ⟨kn, hq, hp⟩
  · refine ⟨mpS (sF (sF S 93 19 (nI 1000015)) 93 5 0) (nI (rt1 n T cf).1) (nI (rt1 n T cf).2.1) (mso (rt1 n T cf)) 1 0 0 (nI (rt1 n T cf).2.2.2.2.1) (nI (rt1 n T cf).2.2.2.2.2.1) (iA S 103), fun q h1 h2 => mp_c h1 h2, fun k h1 h2 => mp_k h1 h2, mp_5, fun d hd => ?_⟩
    rw [M_text_k (cf := cf) hE hT hK, hq]
    exact (M_text_n hE).trans (M_text_flt hE h1 h2)
  · obtain ⟨W, hW, r⟩ := M_text_s (c := c) (v := v) (w4 := .int 5) (w5 := .retAddr 0) (w6 := .retAddr 0) (w7 := .retAddr 0) (g := iA S 103) hE hT hK hq
    rcases hW with ⟨p2, hp2, tt, so, br, nt, cc, pa, g1, rfl⟩ | ⟨hp2, -⟩
    · rw [hp] at hp2
      cases hp2
      refine ⟨mpS (sF (sF S 93 19 (nI (1000021 + kn))) 93 5 0) (nI p) tt so 1 br nt cc pa g1, fun q h1 h2 => mp_c h1 h2, fun k h1 h2 => mp_k h1 h2, mp_5, fun d hd => ?_⟩
      rw [M_text_k (cf := cf) hE hT hK, hq]
      exact (r d hd).trans (M_text_flt hE h1 h2)
    · rw [hp] at hp2; cases hp2
theorem rdZ_o {ky : Int32} (h1 : q ≠ 81) (h2 : q ≠ 82) : rdZ S ky σ q = S q := rd_o h1 h2
theorem rt2_st (hn : n ≤ 96) (hT : ∀ j, j < n → T j < 256) (hk : kyQ n T (rt1 n T cf) = some kn) (hf : (rt2 n T cf kn).2.2.2.1 = none) : (rt2 n T cf kn).2.2.2.2.1 < 96 ∧ wfk 0 cf (rt2 n T cf kn).2.2.2.2.1 (rt2 n T cf kn).2.2.2.2.2.2 := by
  have h3 : (rt1 n T cf).2.2.1 = 3 := by
    rw [kyQ] at hk
    split at hk
    · assumption
    · cases hk
  have s1 := rSt_1 (n := n) (T := T) (cf := cf)
  have sA := adv_wf s1
  have f2 : (adv n T (rt1 n T cf)).2.2.2.1 = none := by rw [adv_c.2.2.1, rt1, adv_c.2.2.1]
  have c2 : (adv n T (rt1 n T cf)).2.2.2.2.1 = 0 := by rw [adv_c.1, rt1, adv_c.1]
  have g2 : (adv n T (rt1 n T cf)).2.2.2.2.2.2 = cf := by rw [adv_c.2.1, rt1, adv_c.2.1]
  have p2 : 1 ≤ (adv n T (rt1 n T cf)).1 := by have := sA.2 (by omega); omega
  obtain ⟨t1, t2, t3, t4⟩ := rdX_wf hn (kyQ_lt hk) hT 62 0 0 0 (by omega) (by omega) (by omega) (by omega) _ sA.1 f2 hf
  rw [c2] at t3
  rw [c2, g2] at t2
  have t1 : rSt n T (rt2 n T cf kn) := t1
  have hb := t1.1.1
  exact ⟨by show (rdX n T kn 62 0 0 0 (adv n T (rt1 n T cf))).2.2.2.2.1 < 96; have : (rdX n T kn 62 0 0 0 (adv n T (rt1 n T cf))).1 ≤ n := hb; omega, t2⟩
theorem nI_n1 (h : p < 2 ^ 31) : ¬ nI p = -1 := fun e => by
  have h0 := nI_pos h
  rw [e] at h0
  exact h0 (by decide)
end TEXTQ
