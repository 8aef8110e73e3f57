/-! books that became others tell the same -/
section COPY
variable {E : EE} {R R' S S1 S2 V U : SS} {b b' d k n nc m i j p td B a s q : Nat} {c v w x y l : Int32} {z t hc pk : Nat → Nat} {f A A' A2 A2' A8 A8' : Nat → Int32}
theorem cA_12 (e : ∀ j, j < 5 → A' j = A j) (h : k12 A f) : k12 A' f := fun q h1 h2 => by rw [e _ (by omega)]; exact h q h1 h2
theorem cA_20 (e : ∀ j, j < 72 → A' j = A j) (hn : n ≤ 12) (h : k20 A n f) : k20 A' n f := fun i hi => by
  obtain ⟨h1, m, h2, h3⟩ := h i hi
  exact ⟨fun c hc => by rw [e _ (by omega)]; exact h1 c hc, m, h2, by rw [e _ (by omega)]; exact h3⟩
theorem cA_92 (e : ∀ j, j < 72 → A' j = A j) (hn : n ≤ 24) (h : k92 A n f) : k92 A' n f := fun i hi => by
  obtain ⟨h1, h2⟩ := h i hi
  exact ⟨fun c hc => by rw [e _ (by omega)]; exact h1 c hc, by rw [e _ (by omega)]; exact h2⟩
theorem cA_t (e : ∀ j, j < 3 * m → A' j = A j) (hi : i < m) : tC A' i = tC A i ∧ tF A' i = tF A i ∧ tT A' i = tT A i :=
  ⟨by rw [tC, tC, e _ (by omega)], by rw [tF, tF, e _ (by omega)], by rw [tT, tT, e _ (by omega)]⟩
theorem cA_tri (e : ∀ j, j < 3 * m → A' j = A j) (hn : n ≤ m) (h : tri A n (tC A) (tF A) (tT A)) : tri A' n (tC A') (tF A') (tT A') := fun i hi => by
  obtain ⟨t1, t2, t3⟩ := cA_t e (show i < m by omega)
  rw [t1, t2, t3, e _ (by omega), e _ (by omega), e _ (by omega)]
  exact h i hi
theorem cA_sps (e : ∀ j, j < 90 → A' j = A j) (hn : n ≤ 30) (h : trS f n (tC A) (tF A) (tT A)) : trS f n (tC A') (tF A') (tT A') := fun i hi => by
  obtain ⟨t1, t2, t3⟩ := cA_t (m := 30) e (show i < 30 by omega)
  rw [t1, t2, t3]
  exact h i hi
theorem cA_gps (e : ∀ j, j < 60 → A' j = A j) (hn : n ≤ 20) (h : trG f n (tC A) (tF A) (tT A)) : trG f n (tC A') (tF A') (tT A') := fun i hi => by
  obtain ⟨t1, t2, t3⟩ := cA_t (m := 20) e (show i < 20 by omega)
  rw [t1, t2, t3]
  exact h i hi
theorem cA_spg (e : ∀ j, j < 90 → A' j = A j) (hn : n ≤ 30) (h : gSpa A n nc td) : gSpa A' n nc td := by
  obtain ⟨h1, h2, h3⟩ := h
  refine ⟨cA_tri (m := 30) e hn h1, fun i hi => ?_, fun i j hij hj q => ?_⟩
  · obtain ⟨t1, t2, t3⟩ := cA_t (m := 30) e (show i < 30 by omega)
    rw [t1, t2, t3]; exact h2 i hi
  · obtain ⟨t1, t2, t3⟩ := cA_t (m := 30) e (show i < 30 by omega)
    obtain ⟨u1, u2, u3⟩ := cA_t (m := 30) e (show j < 30 by omega)
    rw [t1, u1] at q
    rw [t3, u2]; exact h3 i j hij hj q
theorem cA_lat (e : ∀ j, j < 90 → A' j = A j) (e2 : ∀ j, j < 72 → A2' j = A2 j) (hn : n ≤ 30) (hc : nc ≤ 12) (h : gLat A2 A nc n f) : gLat A2' A' nc n f := fun i hi => by
  obtain ⟨s, h1, h2, h3⟩ := h i hi
  have hs := (lsq_lt h1).1
  refine ⟨s, ?_, ?_, ?_⟩
  · rw [lsq_cg (n := n) (fun q hq => e _ (by omega)) n (Nat.le_refl _)]; exact h1
  · rw [e _ (by omega)]; exact h2
  · rw [e _ (by omega), e2 _ (by omega)]; exact h3
theorem cA_314 (e : ∀ j, j < 160 → A' j = A j) (hn : n ≤ 40) (h : k314 A n td f) : k314 A' n td f := fun i hi => by
  rw [e _ (by omega), e _ (by omega), e _ (by omega), e _ (by omega)]; exact h i hi
theorem cA_474 (e : ∀ j, j < 160 → A' j = A j) (hn : n ≤ 40) (h : k474 A n f) : k474 A' n f := fun i hi => by
  obtain ⟨h1, q2, q3, q4, q5, q6, q7⟩ := h i hi
  exact ⟨fun c hc => by rw [e _ (by omega)]; exact h1 c hc, q2, q3, q4, q5, by rw [e _ (by omega)]; exact q6, by rw [e _ (by omega)]; exact q7⟩
theorem cA_634 (e : ∀ j, j < 36 → A' j = A j) (hn : n ≤ 9) (h : k634 A n B f) : k634 A' n B f := fun i hi => by
  obtain ⟨h1, w, h2, h3⟩ := h i hi
  exact ⟨fun c hc => by rw [e _ (by omega)]; exact h1 c hc, w, h2, by rw [e _ (by omega)]; exact h3⟩
theorem cA_670 (e : ∀ j, j < 150 → A' j = A j) (hn : n ≤ 30) (h : k670 A n f) : k670 A' n f := fun i hi c hc => by rw [e _ (by omega)]; exact h i hi c hc
theorem cA_unq (e : ∀ j, j < 150 → A' j = A j) (hn : n ≤ 30) (h : gUnq A n nc hc) : gUnq A' n nc hc := by
  refine ⟨h.1, fun i j hi hj h1 h2 h3 => ?_⟩
  rw [e _ (by omega)] at h1 h2
  exact h.2 i j hi hj h1 h2 h3
theorem cA_was (e : ∀ j, j < 150 → A' j = A j) (e2 : ∀ j, j < 72 → A2' j = A2 j) (hn : n ≤ 30) (hc : nc ≤ 12) (h : gWas A2 A n nc f) : gWas A2' A' n nc f := by
  refine ⟨fun i hi hz => ?_, fun k hk => ?_⟩
  · rw [e _ (by omega)] at hz; exact h.1 i hi hz
  · rw [e2 _ (by omega)]; exact h.2 k hk
theorem cA_890 (e : ∀ j, j < 24 → A' j = A j) (h : k890 A f) : k890 A' f := fun i hi c hc => by rw [e _ (by omega)]; exact h i hi c hc
/-- books at b' hold what those at b held -/
def cpB (R R' : SS) (b b' : Nat) : Prop := (∀ c, (c = 1 ∨ c = 3 ∨ c = 5 ∨ c = 7 ∨ c = 14 ∨ c = 16 ∨ c = 18 ∨ c = 20) → iF R' (b' + c) 3 = iF R (b + c) 3) ∧ iF R' (b' + 22) 1 = iF R (b + 22) 1 ∧ (∀ k, 8 ≤ k → k < 12 → iF R' b' k = iF R b k)
  ∧ (∀ j, j < 16 → iQ R' (b' + 23) j = iQ R (b + 23) j) ∧ (∀ j, j < 72 → iA R' (b' + 2) j = iA R (b + 2) j) ∧ (∀ j, j < 160 → iA R' (b' + 4) j = iA R (b + 4) j) ∧ (∀ j, j < 36 → iA R' (b' + 6) j = iA R (b + 6) j) ∧ (∀ j, j < 150 → iA R' (b' + 8) j = iA R (b + 8) j) ∧ (∀ j, j < 24 → iA R' (b' + 10) j = iA R (b + 10) j) ∧ (∀ j, j < 5 → iA R' (b' + 12) j = iA R (b + 12) j)
  ∧ (∀ j, j < 72 → iA R' (b' + 15) j = iA R (b + 15) j) ∧ (∀ j, j < 90 → iA R' (b' + 17) j = iA R (b + 17) j) ∧ (∀ j, j < 60 → iA R' (b' + 19) j = iA R (b + 19) j) ∧ (∀ j, j < 160 → iA R' (b' + 21) j = iA R (b + 21) j) ∧ ∀ q, 109 ≤ q → R' q = R q
theorem Rel_copy (e : cpB R R' b b') (h : Rel E R b z t hc pk td B f) : Rel E R' b' z t hc pk td B f := by
  obtain ⟨eS, eL, eK, eQ, e2, e4, e6, e8, e10, e12, e15, e17, e19, e21, eT⟩ := e
  obtain ⟨n1, n14, n16, n18, n20, n22, n3, n5, n7⟩ := rl_okm h
  obtain ⟨⟨g1, g3, g5, g7, g14, g16, g18, g20, g22, gt, gw⟩, hH, hP⟩ := rl_okh h
  have htx := rl_tx h
  refine ⟨⟨⟨?_, ?_, ?_, ?_, ?_, ?_, ?_, ?_, ?_, fun j hj => ?_, fun j hj => ?_⟩, fun i hi => ?_, fun i hi => ?_⟩, rl_okm h, ?_, ?_, ?_, cA_12 e12 (rl_put h), cA_20 e2 n1.2 (rl_cas h), cA_92 e15 n14.2 (rl_sen h), cA_sps e17 n16.2 (rl_sps h), cA_spg e17 n16.2 (rl_spg h), cA_lat e17 e2 n16.2 n1.2 (rl_lat h), ⟨cA_gps e19 n18.2 (rl_gap h).1, cA_tri (m := 20) e19 n18.2 (rl_gap h).2⟩, cA_314 e21 n20.2 (rl_cre h), cA_474 e4 n3.2 (rl_pap h), ⟨(rl_mem h).1, cA_634 e6 n5.2 (rl_mem h).2⟩, cA_670 e8 n7.2 (rl_hea h), cA_unq e8 n7.2 (rl_unq h), cA_was e8 e2 n7.2 n1.2 (rl_was h), cA_890 e10 (rl_tab h), cg_txt (fun _ _ _ => rfl) htx.1 htx.2.1 htx.2.2 (fun j hj => ?_) (rl_txt h)⟩
  · rw [eS 1 (by omega)]; exact g1
  · rw [eS 3 (by omega)]; exact g3
  · rw [eS 5 (by omega)]; exact g5
  · rw [eS 7 (by omega)]; exact g7
  · rw [eS 14 (by omega)]; exact g14
  · rw [eS 16 (by omega)]; exact g16
  · rw [eS 18 (by omega)]; exact g18
  · rw [eS 20 (by omega)]; exact g20
  · rw [eL]; exact g22
  · rw [eQ j (by omega)]; exact gt j hj
  · have := (gt j hj).2.1
    rw [iF, iA, eT _ (by omega)]; exact gw j hj
  · rw [e8 _ (by omega)]; exact hH i hi
  · rw [e4 _ (by omega)]; exact hP i hi
  · rw [eK 8 (by omega) (by omega)]; exact rl_tod h
  · rw [eK 9 (by omega) (by omega)]; exact rl_see h
  · rw [eK 10 (by omega) (by omega), eK 11 (by omega) (by omega)]; exact rl_dou h
  · have := htx.2.2 j hj
    exact ⟨eT _ (by omega), eT _ (by omega)⟩
theorem rb_F {r p len : Nat} : iF (rbS S r p len) r 3 = iF S p 3 := by rw [rbS, iF_sA, iF_sF]
theorem rb_A {r p len : Nat} (hj : j < len) : iA (rbS S r p len) (r + 1) j = iA S (p + 1) j := by
  rw [rbS, iA_sA, va_cpy, if_pos ⟨by omega, by omega⟩]
  exact congrArg _ (by omega)
theorem sS_F {S U : SS} {x y : Nat} (e : S x = U y) : iF S x i = iF U y i := by simp only [iF, e]
theorem sS_A {S U : SS} {x y : Nat} (e : S x = U y) : iA S x i = iA U y i := by simp only [iA, e]
theorem sS_Q {S U : SS} {x y : Nat} (e : S x = U y) : iQ S x i = iQ U y i := by simp only [iQ, e]
theorem bb_top (hne : b + 26 ≤ q ∨ q + 26 ≤ b) : ∀ x, x ≠ b → bbS S b q x = bb2 S b q x := fun x hx => by
  have e : ∀ S : SS, ∀ k v, sF S b k v x = S x := fun S k v => by rw [sF, va_up, if_neg hx]
  rw [bbS, e, e, e, e]
theorem bb_low (hne : b + 26 ≤ q ∨ q + 26 ≤ b) : ∀ x, b + 1 ≤ x → x ≤ b + 12 → bbS S b q x = bb1 S b q x := fun x h1 h2 => by rw [bb_top hne x (by omega), bb2, lbS_o (by omega) (by omega), ibS_o (by omega)]
theorem bb_mid (hne : b + 26 ≤ q ∨ q + 26 ≤ b) : ∀ x, b + 14 ≤ x → x ≤ b + 21 → bbS S b q x = ibS (bb1 S b q) b q x := fun x h1 h2 => by rw [bb_top hne x (by omega), bb2, lbS_o (by omega) (by omega)]
theorem bb_q1 (hne : b + 26 ≤ q ∨ q + 26 ≤ b) : ∀ x, q ≤ x → x ≤ q + 25 → bb1 S b q x = S x := fun x h1 h2 => bb1_o (by omega)
theorem bb_q2 (hne : b + 26 ≤ q ∨ q + 26 ≤ b) : ∀ x, q ≤ x → x ≤ q + 25 → ibS (bb1 S b q) b q x = S x := fun x h1 h2 => by rw [ibS_o (by omega), bb1_o (by omega)]
theorem bb_F1 (hne : b + 26 ≤ q ∨ q + 26 ≤ b) : iF (bbS S b q) (b + 1) 3 = iF S (q + 1) 3 := by
  rw [sS_F (show bbS S b q (b + 1) = (rbS S (b + 1) (q + 1) 72) (b + 1) by rw [bb_low hne _ (by omega) (by omega), bb1, rbS_o (by omega) (by omega), rbS_o (by omega) (by omega), rbS_o (by omega) (by omega), rbS_o (by omega) (by omega), rbS_o (by omega) (by omega)]), rb_F, sS_F (show S (q + 1) = S (q + 1) by rfl)]
theorem bb_A1 (hne : b + 26 ≤ q ∨ q + 26 ≤ b) : ∀ j, j < 72 → iA (bbS S b q) (b + 1 + 1) j = iA S (q + 1 + 1) j := fun j hj => by
  rw [sS_A (show bbS S b q (b + 1 + 1) = (rbS S (b + 1) (q + 1) 72) (b + 1 + 1) by rw [bb_low hne _ (by omega) (by omega), bb1, rbS_o (by omega) (by omega), rbS_o (by omega) (by omega), rbS_o (by omega) (by omega), rbS_o (by omega) (by omega), rbS_o (by omega) (by omega)]), rb_A hj, sS_A (show S (q + 1 + 1) = S (q + 1 + 1) by rfl)]
theorem bb_F3 (hne : b + 26 ≤ q ∨ q + 26 ≤ b) : iF (bbS S b q) (b + 3) 3 = iF S (q + 3) 3 := by
  rw [sS_F (show bbS S b q (b + 3) = (rbS (rbS S (b + 1) (q + 1) 72) (b + 3) (q + 3) 160) (b + 3) by rw [bb_low hne _ (by omega) (by omega), bb1, rbS_o (by omega) (by omega), rbS_o (by omega) (by omega), rbS_o (by omega) (by omega), rbS_o (by omega) (by omega)]), rb_F, sS_F (show (rbS S (b + 1) (q + 1) 72) (q + 3) = S (q + 3) by rw [rbS_o (by omega) (by omega)])]
theorem bb_A3 (hne : b + 26 ≤ q ∨ q + 26 ≤ b) : ∀ j, j < 160 → iA (bbS S b q) (b + 3 + 1) j = iA S (q + 3 + 1) j := fun j hj => by
  rw [sS_A (show bbS S b q (b + 3 + 1) = (rbS (rbS S (b + 1) (q + 1) 72) (b + 3) (q + 3) 160) (b + 3 + 1) by rw [bb_low hne _ (by omega) (by omega), bb1, rbS_o (by omega) (by omega), rbS_o (by omega) (by omega), rbS_o (by omega) (by omega), rbS_o (by omega) (by omega)]), rb_A hj, sS_A (show (rbS S (b + 1) (q + 1) 72) (q + 3 + 1) = S (q + 3 + 1) by rw [rbS_o (by omega) (by omega)])]
theorem bb_F5 (hne : b + 26 ≤ q ∨ q + 26 ≤ b) : iF (bbS S b q) (b + 5) 3 = iF S (q + 5) 3 := by
  rw [sS_F (show bbS S b q (b + 5) = (rbS (rbS (rbS S (b + 1) (q + 1) 72) (b + 3) (q + 3) 160) (b + 5) (q + 5) 36) (b + 5) by rw [bb_low hne _ (by omega) (by omega), bb1, rbS_o (by omega) (by omega), rbS_o (by omega) (by omega), rbS_o (by omega) (by omega)]), rb_F, sS_F (show (rbS (rbS S (b + 1) (q + 1) 72) (b + 3) (q + 3) 160) (q + 5) = S (q + 5) by rw [rbS_o (by omega) (by omega), rbS_o (by omega) (by omega)])]
theorem bb_A5 (hne : b + 26 ≤ q ∨ q + 26 ≤ b) : ∀ j, j < 36 → iA (bbS S b q) (b + 5 + 1) j = iA S (q + 5 + 1) j := fun j hj => by
  rw [sS_A (show bbS S b q (b + 5 + 1) = (rbS (rbS (rbS S (b + 1) (q + 1) 72) (b + 3) (q + 3) 160) (b + 5) (q + 5) 36) (b + 5 + 1) by rw [bb_low hne _ (by omega) (by omega), bb1, rbS_o (by omega) (by omega), rbS_o (by omega) (by omega), rbS_o (by omega) (by omega)]), rb_A hj, sS_A (show (rbS (rbS S (b + 1) (q + 1) 72) (b + 3) (q + 3) 160) (q + 5 + 1) = S (q + 5 + 1) by rw [rbS_o (by omega) (by omega), rbS_o (by omega) (by omega)])]
theorem bb_F7 (hne : b + 26 ≤ q ∨ q + 26 ≤ b) : iF (bbS S b q) (b + 7) 3 = iF S (q + 7) 3 := by
  rw [sS_F (show bbS S b q (b + 7) = (rbS (rbS (rbS (rbS S (b + 1) (q + 1) 72) (b + 3) (q + 3) 160) (b + 5) (q + 5) 36) (b + 7) (q + 7) 150) (b + 7) by rw [bb_low hne _ (by omega) (by omega), bb1, rbS_o (by omega) (by omega), rbS_o (by omega) (by omega)]), rb_F, sS_F (show (rbS (rbS (rbS S (b + 1) (q + 1) 72) (b + 3) (q + 3) 160) (b + 5) (q + 5) 36) (q + 7) = S (q + 7) by rw [rbS_o (by omega) (by omega), rbS_o (by omega) (by omega), rbS_o (by omega) (by omega)])]
theorem bb_A7 (hne : b + 26 ≤ q ∨ q + 26 ≤ b) : ∀ j, j < 150 → iA (bbS S b q) (b + 7 + 1) j = iA S (q + 7 + 1) j := fun j hj => by
  rw [sS_A (show bbS S b q (b + 7 + 1) = (rbS (rbS (rbS (rbS S (b + 1) (q + 1) 72) (b + 3) (q + 3) 160) (b + 5) (q + 5) 36) (b + 7) (q + 7) 150) (b + 7 + 1) by rw [bb_low hne _ (by omega) (by omega), bb1, rbS_o (by omega) (by omega), rbS_o (by omega) (by omega)]), rb_A hj, sS_A (show (rbS (rbS (rbS S (b + 1) (q + 1) 72) (b + 3) (q + 3) 160) (b + 5) (q + 5) 36) (q + 7 + 1) = S (q + 7 + 1) by rw [rbS_o (by omega) (by omega), rbS_o (by omega) (by omega), rbS_o (by omega) (by omega)])]
theorem bb_F9 (hne : b + 26 ≤ q ∨ q + 26 ≤ b) : iF (bbS S b q) (b + 9) 3 = iF S (q + 9) 3 := by
  rw [sS_F (show bbS S b q (b + 9) = (rbS (rbS (rbS (rbS (rbS S (b + 1) (q + 1) 72) (b + 3) (q + 3) 160) (b + 5) (q + 5) 36) (b + 7) (q + 7) 150) (b + 9) (q + 9) 24) (b + 9) by rw [bb_low hne _ (by omega) (by omega), bb1, rbS_o (by omega) (by omega)]), rb_F, sS_F (show (rbS (rbS (rbS (rbS S (b + 1) (q + 1) 72) (b + 3) (q + 3) 160) (b + 5) (q + 5) 36) (b + 7) (q + 7) 150) (q + 9) = S (q + 9) by rw [rbS_o (by omega) (by omega), rbS_o (by omega) (by omega), rbS_o (by omega) (by omega), rbS_o (by omega) (by omega)])]
theorem bb_A9 (hne : b + 26 ≤ q ∨ q + 26 ≤ b) : ∀ j, j < 24 → iA (bbS S b q) (b + 9 + 1) j = iA S (q + 9 + 1) j := fun j hj => by
  rw [sS_A (show bbS S b q (b + 9 + 1) = (rbS (rbS (rbS (rbS (rbS S (b + 1) (q + 1) 72) (b + 3) (q + 3) 160) (b + 5) (q + 5) 36) (b + 7) (q + 7) 150) (b + 9) (q + 9) 24) (b + 9 + 1) by rw [bb_low hne _ (by omega) (by omega), bb1, rbS_o (by omega) (by omega)]), rb_A hj, sS_A (show (rbS (rbS (rbS (rbS S (b + 1) (q + 1) 72) (b + 3) (q + 3) 160) (b + 5) (q + 5) 36) (b + 7) (q + 7) 150) (q + 9 + 1) = S (q + 9 + 1) by rw [rbS_o (by omega) (by omega), rbS_o (by omega) (by omega), rbS_o (by omega) (by omega), rbS_o (by omega) (by omega)])]
theorem bb_F11 (hne : b + 26 ≤ q ∨ q + 26 ≤ b) : iF (bbS S b q) (b + 11) 3 = iF S (q + 11) 3 := by
  rw [sS_F (show bbS S b q (b + 11) = (rbS (rbS (rbS (rbS (rbS (rbS S (b + 1) (q + 1) 72) (b + 3) (q + 3) 160) (b + 5) (q + 5) 36) (b + 7) (q + 7) 150) (b + 9) (q + 9) 24) (b + 11) (q + 11) 5) (b + 11) by rw [bb_low hne _ (by omega) (by omega), bb1]), rb_F, sS_F (show (rbS (rbS (rbS (rbS (rbS S (b + 1) (q + 1) 72) (b + 3) (q + 3) 160) (b + 5) (q + 5) 36) (b + 7) (q + 7) 150) (b + 9) (q + 9) 24) (q + 11) = S (q + 11) by rw [rbS_o (by omega) (by omega), rbS_o (by omega) (by omega), rbS_o (by omega) (by omega), rbS_o (by omega) (by omega), rbS_o (by omega) (by omega)])]
theorem bb_A11 (hne : b + 26 ≤ q ∨ q + 26 ≤ b) : ∀ j, j < 5 → iA (bbS S b q) (b + 11 + 1) j = iA S (q + 11 + 1) j := fun j hj => by
  rw [sS_A (show bbS S b q (b + 11 + 1) = (rbS (rbS (rbS (rbS (rbS (rbS S (b + 1) (q + 1) 72) (b + 3) (q + 3) 160) (b + 5) (q + 5) 36) (b + 7) (q + 7) 150) (b + 9) (q + 9) 24) (b + 11) (q + 11) 5) (b + 11 + 1) by rw [bb_low hne _ (by omega) (by omega), bb1]), rb_A hj, sS_A (show (rbS (rbS (rbS (rbS (rbS S (b + 1) (q + 1) 72) (b + 3) (q + 3) 160) (b + 5) (q + 5) 36) (b + 7) (q + 7) 150) (b + 9) (q + 9) 24) (q + 11 + 1) = S (q + 11 + 1) by rw [rbS_o (by omega) (by omega), rbS_o (by omega) (by omega), rbS_o (by omega) (by omega), rbS_o (by omega) (by omega), rbS_o (by omega) (by omega)])]
theorem bb_F14 (hne : b + 26 ≤ q ∨ q + 26 ≤ b) : iF (bbS S b q) (b + 14) 3 = iF S (q + 14) 3 := by
  rw [sS_F (show bbS S b q (b + 14) = (rbS (bb1 S b q) (b + 14) (q + 14) 72) (b + 14) by rw [bb_mid hne _ (by omega) (by omega), ibS, rbS_o (by omega) (by omega), rbS_o (by omega) (by omega), rbS_o (by omega) (by omega)]), rb_F, sS_F (show (bb1 S b q) (q + 14) = S (q + 14) by rw [bb_q1 hne _ (by omega) (by omega)])]
theorem bb_A14 (hne : b + 26 ≤ q ∨ q + 26 ≤ b) : ∀ j, j < 72 → iA (bbS S b q) (b + 14 + 1) j = iA S (q + 14 + 1) j := fun j hj => by
  rw [sS_A (show bbS S b q (b + 14 + 1) = (rbS (bb1 S b q) (b + 14) (q + 14) 72) (b + 14 + 1) by rw [bb_mid hne _ (by omega) (by omega), ibS, rbS_o (by omega) (by omega), rbS_o (by omega) (by omega), rbS_o (by omega) (by omega)]), rb_A hj, sS_A (show (bb1 S b q) (q + 14 + 1) = S (q + 14 + 1) by rw [bb_q1 hne _ (by omega) (by omega)])]
theorem bb_F16 (hne : b + 26 ≤ q ∨ q + 26 ≤ b) : iF (bbS S b q) (b + 16) 3 = iF S (q + 16) 3 := by
  rw [sS_F (show bbS S b q (b + 16) = (rbS (rbS (bb1 S b q) (b + 14) (q + 14) 72) (b + 16) (q + 16) 90) (b + 16) by rw [bb_mid hne _ (by omega) (by omega), ibS, rbS_o (by omega) (by omega), rbS_o (by omega) (by omega)]), rb_F, sS_F (show (rbS (bb1 S b q) (b + 14) (q + 14) 72) (q + 16) = S (q + 16) by rw [rbS_o (by omega) (by omega), bb_q1 hne _ (by omega) (by omega)])]
theorem bb_A16 (hne : b + 26 ≤ q ∨ q + 26 ≤ b) : ∀ j, j < 90 → iA (bbS S b q) (b + 16 + 1) j = iA S (q + 16 + 1) j := fun j hj => by
  rw [sS_A (show bbS S b q (b + 16 + 1) = (rbS (rbS (bb1 S b q) (b + 14) (q + 14) 72) (b + 16) (q + 16) 90) (b + 16 + 1) by rw [bb_mid hne _ (by omega) (by omega), ibS, rbS_o (by omega) (by omega), rbS_o (by omega) (by omega)]), rb_A hj, sS_A (show (rbS (bb1 S b q) (b + 14) (q + 14) 72) (q + 16 + 1) = S (q + 16 + 1) by rw [rbS_o (by omega) (by omega), bb_q1 hne _ (by omega) (by omega)])]
theorem bb_F18 (hne : b + 26 ≤ q ∨ q + 26 ≤ b) : iF (bbS S b q) (b + 18) 3 = iF S (q + 18) 3 := by
  rw [sS_F (show bbS S b q (b + 18) = (rbS (rbS (rbS (bb1 S b q) (b + 14) (q + 14) 72) (b + 16) (q + 16) 90) (b + 18) (q + 18) 60) (b + 18) by rw [bb_mid hne _ (by omega) (by omega), ibS, rbS_o (by omega) (by omega)]), rb_F, sS_F (show (rbS (rbS (bb1 S b q) (b + 14) (q + 14) 72) (b + 16) (q + 16) 90) (q + 18) = S (q + 18) by rw [rbS_o (by omega) (by omega), rbS_o (by omega) (by omega), bb_q1 hne _ (by omega) (by omega)])]
theorem bb_A18 (hne : b + 26 ≤ q ∨ q + 26 ≤ b) : ∀ j, j < 60 → iA (bbS S b q) (b + 18 + 1) j = iA S (q + 18 + 1) j := fun j hj => by
  rw [sS_A (show bbS S b q (b + 18 + 1) = (rbS (rbS (rbS (bb1 S b q) (b + 14) (q + 14) 72) (b + 16) (q + 16) 90) (b + 18) (q + 18) 60) (b + 18 + 1) by rw [bb_mid hne _ (by omega) (by omega), ibS, rbS_o (by omega) (by omega)]), rb_A hj, sS_A (show (rbS (rbS (bb1 S b q) (b + 14) (q + 14) 72) (b + 16) (q + 16) 90) (q + 18 + 1) = S (q + 18 + 1) by rw [rbS_o (by omega) (by omega), rbS_o (by omega) (by omega), bb_q1 hne _ (by omega) (by omega)])]
theorem bb_F20 (hne : b + 26 ≤ q ∨ q + 26 ≤ b) : iF (bbS S b q) (b + 20) 3 = iF S (q + 20) 3 := by
  rw [sS_F (show bbS S b q (b + 20) = (rbS (rbS (rbS (rbS (bb1 S b q) (b + 14) (q + 14) 72) (b + 16) (q + 16) 90) (b + 18) (q + 18) 60) (b + 20) (q + 20) 160) (b + 20) by rw [bb_mid hne _ (by omega) (by omega), ibS]), rb_F, sS_F (show (rbS (rbS (rbS (bb1 S b q) (b + 14) (q + 14) 72) (b + 16) (q + 16) 90) (b + 18) (q + 18) 60) (q + 20) = S (q + 20) by rw [rbS_o (by omega) (by omega), rbS_o (by omega) (by omega), rbS_o (by omega) (by omega), bb_q1 hne _ (by omega) (by omega)])]
theorem bb_A20 (hne : b + 26 ≤ q ∨ q + 26 ≤ b) : ∀ j, j < 160 → iA (bbS S b q) (b + 20 + 1) j = iA S (q + 20 + 1) j := fun j hj => by
  rw [sS_A (show bbS S b q (b + 20 + 1) = (rbS (rbS (rbS (rbS (bb1 S b q) (b + 14) (q + 14) 72) (b + 16) (q + 16) 90) (b + 18) (q + 18) 60) (b + 20) (q + 20) 160) (b + 20 + 1) by rw [bb_mid hne _ (by omega) (by omega), ibS]), rb_A hj, sS_A (show (rbS (rbS (rbS (bb1 S b q) (b + 14) (q + 14) 72) (b + 16) (q + 16) 90) (b + 18) (q + 18) 60) (q + 20 + 1) = S (q + 20 + 1) by rw [rbS_o (by omega) (by omega), rbS_o (by omega) (by omega), rbS_o (by omega) (by omega), bb_q1 hne _ (by omega) (by omega)])]
theorem bb_L (hne : b + 26 ≤ q ∨ q + 26 ≤ b) : iF (bbS S b q) (b + 22) 1 = iF S (q + 22) 1 := by
  rw [sS_F (bb_top hne (b + 22) (by omega)), bb2, lbS, iF_sQ, iF_sF, sS_F (bb_q2 hne (q + 22) (by omega) (by omega))]
theorem bb_T (hne : b + 26 ≤ q ∨ q + 26 ≤ b) : ∀ j, j < 16 → iQ (bbS S b q) (b + 23) j = iQ S (q + 23) j := fun j hj => by
  rw [sS_Q (bb_top hne (b + 23) (by omega)), bb2, lbS, iQ_sQ, cpQ, if_pos hj, sS_Q (bb_q2 hne (q + 23) (by omega) (by omega))]
theorem bb_K (hne : b + 26 ≤ q ∨ q + 26 ≤ b) : ∀ k, 8 ≤ k → k < 12 → iF (bbS S b q) b k = iF S q k := fun k h1 h2 => by
  have : k = 8 ∨ k = 9 ∨ k = 10 ∨ k = 11 := by omega
  rcases this with h | h | h | h
  · rw [h, bbS, iF_sF_ne (Or.inr (by decide)), iF_sF_ne (Or.inr (by decide)), iF_sF_ne (Or.inr (by decide)), iF_sF]
  · rw [h, bbS, iF_sF_ne (Or.inr (by decide)), iF_sF_ne (Or.inr (by decide)), iF_sF]
  · rw [h, bbS, iF_sF_ne (Or.inr (by decide)), iF_sF]
  · rw [h, bbS, iF_sF]
theorem bb_copy (hne : b + 26 ≤ q ∨ q + 26 ≤ b) (hb : b ≤ 53) : cpB S (bbS S b q) q b := by
  refine ⟨fun c hc => ?_, bb_L hne, bb_K hne, bb_T hne, bb_A1 hne, bb_A3 hne, bb_A5 hne, bb_A7 hne, bb_A9 hne, bb_A11 hne, bb_A14 hne, bb_A16 hne, bb_A18 hne, bb_A20 hne, fun x hx => bbS_o (by omega)⟩
  rcases hc with h | h | h | h | h | h | h | h
  · rw [h]; exact bb_F1 hne
  · rw [h]; exact bb_F3 hne
  · rw [h]; exact bb_F5 hne
  · rw [h]; exact bb_F7 hne
  · rw [h]; exact bb_F14 hne
  · rw [h]; exact bb_F16 hne
  · rw [h]; exact bb_F18 hne
  · rw [h]; exact bb_F20 hne
end COPY
