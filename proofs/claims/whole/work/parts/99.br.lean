/-! the model reads: its state, words and signs -/
section MRD
variable {E : EE} {S W : SS} {d n p q j l k kn i lo hi : Nat} {T : Nat → Nat} {c v x fr tt so ft br nt cc pa : Int32} {σ : PT} {g g' : Nat → Int32}
def mpG (h : Nat → Int32) (fr tt so ft br nt cc pa : Int32) : Nat → Int32 := fun k => if k = 13 then fr else if k = 14 then tt else if k = 15 then so else if k = 16 then ft else if k = 17 then br else if k = 18 then nt else if k = 21 then cc else if k = 22 then pa else h k
def mpS (S : SS) (fr tt so ft br nt cc pa : Int32) (g : Nat → Int32) : SS := va_up (va_up S 103 ((S 103).1, g, (S 103).2.2)) 93 (mpG (S 93).1 fr tt so ft br nt cc pa, (S 93).2)
theorem mp13 : iF (mpS S fr tt so ft br nt cc pa g) 93 13 = fr := by simp [iF, mpS, va_up, mpG]
theorem mp14 : iF (mpS S fr tt so ft br nt cc pa g) 93 14 = tt := by simp [iF, mpS, va_up, mpG]
theorem mp15 : iF (mpS S fr tt so ft br nt cc pa g) 93 15 = so := by simp [iF, mpS, va_up, mpG]
theorem mp16 : iF (mpS S fr tt so ft br nt cc pa g) 93 16 = ft := by simp [iF, mpS, va_up, mpG]
theorem mp17 : iF (mpS S fr tt so ft br nt cc pa g) 93 17 = br := by simp [iF, mpS, va_up, mpG]
theorem mp18 : iF (mpS S fr tt so ft br nt cc pa g) 93 18 = nt := by simp [iF, mpS, va_up, mpG]
theorem mp21 : iF (mpS S fr tt so ft br nt cc pa g) 93 21 = cc := by simp [iF, mpS, va_up, mpG]
theorem mp22 : iF (mpS S fr tt so ft br nt cc pa g) 93 22 = pa := by simp [iF, mpS, va_up, mpG]
theorem mp5 : iF (mpS S fr tt so ft br nt cc pa g) 93 5 = iF S 93 5 := by simp [iF, mpS, va_up, mpG]
theorem mp19 : iF (mpS S fr tt so ft br nt cc pa g) 93 19 = iF S 93 19 := by simp [iF, mpS, va_up, mpG]
theorem mpk (h : k < 13) : iF (mpS S fr tt so ft br nt cc pa g) 93 k = iF S 93 k := by
  have h1 : ¬ k = 13 := by omega
  have h2 : ¬ k = 14 := by omega
  have h3 : ¬ k = 15 := by omega
  have h4 : ¬ k = 16 := by omega
  have h5 : ¬ k = 17 := by omega
  have h6 : ¬ k = 18 := by omega
  have h7 : ¬ k = 21 := by omega
  have h8 : ¬ k = 22 := by omega
  simp only [iF, mpS, va_up, if_true, mpG, h1, h2, h3, h4, h5, h6, h7, h8, if_false]
theorem mpA : iA (mpS S fr tt so ft br nt cc pa g) 103 = g := by simp [iA, mpS, va_up]
theorem mp_o (h1 : q ≠ 93) (h2 : q ≠ 103) : mpS S fr tt so ft br nt cc pa g q = S q := by simp [mpS, va_up, h1, h2]
theorem mp97 : iA (mpS S fr tt so ft br nt cc pa g) 97 = iA S 97 := by rw [iA, mp_o (by omega) (by omega)]
theorem mp_up {fr' tt' so' ft' br' nt' cc' pa' : Int32} (h : upd (mpG (S 93).1 fr tt so ft br nt cc pa) k v = mpG (S 93).1 fr' tt' so' ft' br' nt' cc' pa') : sF (mpS S fr tt so ft br nt cc pa g) 93 k v = mpS S fr' tt' so' ft' br' nt' cc' pa' g := by
  funext q
  by_cases e : q = 93
  · subst e
    simp only [sF, mpS, va_up, if_true, h]
  · simp only [sF, mpS, va_up, e, if_false]
theorem um13 : sF (mpS S fr tt so ft br nt cc pa g) 93 13 v = mpS S v tt so ft br nt cc pa g := mp_up (by funext k; simp only [upd, mpG]; split <;> simp_all)
theorem um14 : sF (mpS S fr tt so ft br nt cc pa g) 93 14 v = mpS S fr v so ft br nt cc pa g := mp_up (by funext k; simp only [upd, mpG]; split <;> simp_all)
theorem um15 : sF (mpS S fr tt so ft br nt cc pa g) 93 15 v = mpS S fr tt v ft br nt cc pa g := mp_up (by funext k; simp only [upd, mpG]; split <;> simp_all)
theorem um16 : sF (mpS S fr tt so ft br nt cc pa g) 93 16 v = mpS S fr tt so v br nt cc pa g := mp_up (by funext k; simp only [upd, mpG]; split <;> simp_all)
theorem um17 : sF (mpS S fr tt so ft br nt cc pa g) 93 17 v = mpS S fr tt so ft v nt cc pa g := mp_up (by funext k; simp only [upd, mpG]; split <;> simp_all)
theorem um18 : sF (mpS S fr tt so ft br nt cc pa g) 93 18 v = mpS S fr tt so ft br v cc pa g := mp_up (by funext k; simp only [upd, mpG]; split <;> simp_all)
theorem um21 : sF (mpS S fr tt so ft br nt cc pa g) 93 21 v = mpS S fr tt so ft br nt v pa g := mp_up (by funext k; simp only [upd, mpG]; split <;> simp_all)
theorem um22 : sF (mpS S fr tt so ft br nt cc pa g) 93 22 v = mpS S fr tt so ft br nt cc v g := mp_up (by funext k; simp only [upd, mpG]; split <;> simp_all)
theorem umA : sA (mpS S fr tt so ft br nt cc pa g) 103 g' = mpS S fr tt so ft br nt cc pa g' := by
  funext q
  by_cases e : q = 103
  · subst e
    simp only [sA, mpS, va_up, if_true, if_false, show ¬ (103 = 93) by omega]
  · simp only [sA, mpS, va_up, e, if_false]
theorem mp_self : mpS S (iF S 93 13) (iF S 93 14) (iF S 93 15) (iF S 93 16) (iF S 93 17) (iF S 93 18) (iF S 93 21) (iF S 93 22) (iA S 103) = S := by
  funext q
  by_cases e : q = 93
  · subst e
    simp only [mpS, va_up, if_true]
    refine Prod.ext ?_ rfl
    funext k
    simp only [mpG, iF]
    repeat' split
    all_goals first | rfl | (subst_vars; rfl)
  · by_cases e2 : q = 103
    · subst e2
      simp only [mpS, va_up, if_true, e, if_false]
    · simp only [mpS, va_up, e, e2, if_false]
/-- the model's tape holds the bytes T -/
def mtp (S : SS) (n : Nat) (T : Nat → Nat) : Prop := iF S 93 5 = nI n ∧ n ≤ 96 ∧ ∀ j, j < n → iA S 97 j = nI (T j) ∧ T j < 256
theorem mtp_S (h : mtp S n T) : mtp (mpS S fr tt so ft br nt cc pa g) n T := by
  rw [mtp, mp5, mp97]; exact h
theorem srt_n (h : n ≤ p) : srt n T p = 1 := by rw [srt, if_pos h]
theorem let_w : ∀ a : Nat, a < 256 → wiS (nI a) 97 122 = if 97 ≤ a ∧ a ≤ 122 then 1 else 0 := by decide +kernel
theorem dig_w : ∀ a : Nat, a < 256 → wiS (nI a) 48 57 = if 48 ≤ a ∧ a ≤ 57 then 1 else 0 := by decide +kernel
theorem M_isLetter_ok (hE : okE E) (hT : mtp W n T) (hp : p < 2 ^ 31) : mres cT 140 d 0 (ment 2 [.ref 93, .int (nI p)]) [] (hs E W) = some (some (.int (if srt n T p = 3 then 1 else 0)), hs E W) := by
  have o10 := o_M hE
  obtain ⟨t1, t2, t3⟩ := hT
  simp only [ment, mfl, List.length, List.replicate, List.cons_append, List.nil_append, Nat.reduceAdd, Nat.reduceSub]
  by_cases h : p < n
  · obtain ⟨t4, t5⟩ := t3 p h
    have h1 : ¬ nI n ≤ nI p := nI_ge h (by omega)
    have e := let_w (T p) t5
    by_cases s : 97 ≤ T p ∧ T p ≤ 122
    · have s3 : srt n T p = 3 := by rw [srt, if_neg (by omega), if_pos s]
      rw [if_pos s] at e
      simp only [r_il1 c_M_isLetter_0, r_al0 c_M_isLetter_1, r_gfS0 c_M_isLetter_2 o10 rfl, r_icge c_M_isLetter_5, r_al0 c_M_isLetter_8, r_gfSr c_M_isLetter_9 o10 rfl, r_il1 c_M_isLetter_12, r_ial c_M_isLetter_13, r_i2l c_M_isLetter_14, r_cl c_M_isLetter_15, r_cl c_M_isLetter_18, r_ca3 c_M_isLetter_21, r_ifeq c_M_isLetter_24, r_ci c_M_isLetter_27, r_goto c_M_isLetter_28, r_ci c_M_isLetter_31, r_zret c_M_isLetter_32, ↓reduceIte, hs_h, Option.bind_some, mfix_i, mfix_r, mfix_n, mfix_a, Option.toList_some, Option.toList_none, List.cons_append, List.nil_append, List.singleton_append, mwt, Value.category, Nat.reduceAdd, Nat.reduceLeDiff, true_and, and_true, and_self, t1, h1, if_false, mia_I (i_97 hE) (show p < 96 by omega) (by decide), t4, M_within_k (y := 97) (w := 122) (y' := 97) (w' := 122) (by decide) (by decide), e, one_nz, s3, if_true, mz1]
    · have s3 : ¬ srt n T p = 3 := by
        rw [srt, if_neg (by omega), if_neg s]
        split <;> omega
      rw [if_neg s] at e
      simp only [r_il1 c_M_isLetter_0, r_al0 c_M_isLetter_1, r_gfS0 c_M_isLetter_2 o10 rfl, r_icge c_M_isLetter_5, r_al0 c_M_isLetter_8, r_gfSr c_M_isLetter_9 o10 rfl, r_il1 c_M_isLetter_12, r_ial c_M_isLetter_13, r_i2l c_M_isLetter_14, r_cl c_M_isLetter_15, r_cl c_M_isLetter_18, r_ca3 c_M_isLetter_21, r_ifeq c_M_isLetter_24, r_ci c_M_isLetter_27, r_goto c_M_isLetter_28, r_ci c_M_isLetter_31, r_zret c_M_isLetter_32, ↓reduceIte, hs_h, Option.bind_some, mfix_i, mfix_r, mfix_n, mfix_a, Option.toList_some, Option.toList_none, List.cons_append, List.nil_append, List.singleton_append, mwt, Value.category, Nat.reduceAdd, Nat.reduceLeDiff, true_and, and_true, and_self, t1, h1, if_false, mia_I (i_97 hE) (show p < 96 by omega) (by decide), t4, M_within_k (y := 97) (w := 122) (y' := 97) (w' := 122) (by decide) (by decide), e, s3, if_true, mz0]
  · have h1 : nI n ≤ nI p := nI_le (by omega) hp
    have s3 : ¬ srt n T p = 3 := by rw [srt_n (by omega)]; omega
    simp only [r_il1 c_M_isLetter_0, r_al0 c_M_isLetter_1, r_gfS0 c_M_isLetter_2 o10 rfl, r_icge c_M_isLetter_5, r_al0 c_M_isLetter_8, r_gfSr c_M_isLetter_9 o10 rfl, r_il1 c_M_isLetter_12, r_ial c_M_isLetter_13, r_i2l c_M_isLetter_14, r_cl c_M_isLetter_15, r_cl c_M_isLetter_18, r_ca3 c_M_isLetter_21, r_ifeq c_M_isLetter_24, r_ci c_M_isLetter_27, r_goto c_M_isLetter_28, r_ci c_M_isLetter_31, r_zret c_M_isLetter_32, ↓reduceIte, hs_h, Option.bind_some, mfix_i, mfix_r, mfix_n, mfix_a, Option.toList_some, Option.toList_none, List.cons_append, List.nil_append, List.singleton_append, mwt, Value.category, Nat.reduceAdd, Nat.reduceLeDiff, true_and, and_true, and_self, t1, h1, if_true, s3, if_false, mz0]
theorem M_isDigit_ok (hE : okE E) (hT : mtp W n T) (hp : p < 2 ^ 31) : mres cT 141 d 0 (ment 2 [.ref 93, .int (nI p)]) [] (hs E W) = some (some (.int (if srt n T p = 4 then 1 else 0)), hs E W) := by
  have o10 := o_M hE
  obtain ⟨t1, t2, t3⟩ := hT
  simp only [ment, mfl, List.length, List.replicate, List.cons_append, List.nil_append, Nat.reduceAdd, Nat.reduceSub]
  by_cases h : p < n
  · obtain ⟨t4, t5⟩ := t3 p h
    have h1 : ¬ nI n ≤ nI p := nI_ge h (by omega)
    have e := dig_w (T p) t5
    by_cases s : 48 ≤ T p ∧ T p ≤ 57
    · have s3 : srt n T p = 4 := by rw [srt, if_neg (by omega), if_neg (by omega), if_pos s]
      rw [if_pos s] at e
      simp only [r_il1 c_M_isDigit_0, r_al0 c_M_isDigit_1, r_gfS0 c_M_isDigit_2 o10 rfl, r_icge c_M_isDigit_5, r_al0 c_M_isDigit_8, r_gfSr c_M_isDigit_9 o10 rfl, r_il1 c_M_isDigit_12, r_ial c_M_isDigit_13, r_i2l c_M_isDigit_14, r_cl c_M_isDigit_15, r_cl c_M_isDigit_18, r_ca3 c_M_isDigit_21, r_ifeq c_M_isDigit_24, r_ci c_M_isDigit_27, r_goto c_M_isDigit_28, r_ci c_M_isDigit_31, r_zret c_M_isDigit_32, ↓reduceIte, hs_h, Option.bind_some, mfix_i, mfix_r, mfix_n, mfix_a, Option.toList_some, Option.toList_none, List.cons_append, List.nil_append, List.singleton_append, mwt, Value.category, Nat.reduceAdd, Nat.reduceLeDiff, true_and, and_true, and_self, t1, h1, if_false, mia_I (i_97 hE) (show p < 96 by omega) (by decide), t4, M_within_k (y := 48) (w := 57) (y' := 48) (w' := 57) (by decide) (by decide), e, one_nz, s3, if_true, mz1]
    · have s3 : ¬ srt n T p = 4 := by
        rw [srt, if_neg (by omega)]
        split
        · omega
        · first | omega | (split <;> omega)
      rw [if_neg s] at e
      simp only [r_il1 c_M_isDigit_0, r_al0 c_M_isDigit_1, r_gfS0 c_M_isDigit_2 o10 rfl, r_icge c_M_isDigit_5, r_al0 c_M_isDigit_8, r_gfSr c_M_isDigit_9 o10 rfl, r_il1 c_M_isDigit_12, r_ial c_M_isDigit_13, r_i2l c_M_isDigit_14, r_cl c_M_isDigit_15, r_cl c_M_isDigit_18, r_ca3 c_M_isDigit_21, r_ifeq c_M_isDigit_24, r_ci c_M_isDigit_27, r_goto c_M_isDigit_28, r_ci c_M_isDigit_31, r_zret c_M_isDigit_32, ↓reduceIte, hs_h, Option.bind_some, mfix_i, mfix_r, mfix_n, mfix_a, Option.toList_some, Option.toList_none, List.cons_append, List.nil_append, List.singleton_append, mwt, Value.category, Nat.reduceAdd, Nat.reduceLeDiff, true_and, and_true, and_self, t1, h1, if_false, mia_I (i_97 hE) (show p < 96 by omega) (by decide), t4, M_within_k (y := 48) (w := 57) (y' := 48) (w' := 57) (by decide) (by decide), e, s3, if_true, mz0]
  · have h1 : nI n ≤ nI p := nI_le (by omega) hp
    have s3 : ¬ srt n T p = 4 := by rw [srt_n (by omega)]; omega
    simp only [r_il1 c_M_isDigit_0, r_al0 c_M_isDigit_1, r_gfS0 c_M_isDigit_2 o10 rfl, r_icge c_M_isDigit_5, r_al0 c_M_isDigit_8, r_gfSr c_M_isDigit_9 o10 rfl, r_il1 c_M_isDigit_12, r_ial c_M_isDigit_13, r_i2l c_M_isDigit_14, r_cl c_M_isDigit_15, r_cl c_M_isDigit_18, r_ca3 c_M_isDigit_21, r_ifeq c_M_isDigit_24, r_ci c_M_isDigit_27, r_goto c_M_isDigit_28, r_ci c_M_isDigit_31, r_zret c_M_isDigit_32, ↓reduceIte, hs_h, Option.bind_some, mfix_i, mfix_r, mfix_n, mfix_a, Option.toList_some, Option.toList_none, List.cons_append, List.nil_append, List.singleton_append, mwt, Value.category, Nat.reduceAdd, Nat.reduceLeDiff, true_and, and_true, and_self, t1, h1, if_true, s3, if_false, mz0]
/-- the model's word for what stands here -/
def mso (σ : PT) : Int32 := if σ.2.2.1 = 2 then 3 else if σ.2.2.1 = 3 then 1 else if σ.2.2.1 = 4 then (if σ.2.1 - σ.1 ≤ 4 then 2 else 4) else if σ.2.2.1 = 5 then 4 else 0
theorem mso_3 : (mso σ = 3) = (σ.2.2.1 = 2) := by
  refine propext ⟨fun h => ?_, fun h => by rw [mso, if_pos h]⟩
  rw [mso] at h
  split at h
  · assumption
  split at h
  · exact absurd h (by decide)
  split at h
  · split at h <;> exact absurd h (by decide)
  split at h <;> exact absurd h (by decide)
theorem mso_1 : (mso σ = 1) = (σ.2.2.1 = 3) := by
  refine propext ⟨fun h => ?_, fun h => by rw [mso, if_neg (by omega), if_pos h]⟩
  rw [mso] at h
  split at h
  · exact absurd h (by decide)
  split at h
  · assumption
  split at h
  · split at h <;> exact absurd h (by decide)
  split at h <;> exact absurd h (by decide)
theorem mso_2 : (mso σ = 2) = (σ.2.2.1 = 4 ∧ σ.2.1 - σ.1 ≤ 4) := by
  refine propext ⟨fun h => ?_, fun h => by rw [mso, if_neg (by omega), if_neg (by omega), if_pos h.1, if_pos h.2]⟩
  rw [mso] at h
  split at h
  · exact absurd h (by decide)
  split at h
  · exact absurd h (by decide)
  split at h
  · split at h
    · exact ⟨by assumption, by assumption⟩
    · exact absurd h (by decide)
  split at h <;> exact absurd h (by decide)
theorem mso_0 (h1 : 1 ≤ σ.2.2.1) (h5 : σ.2.2.1 ≤ 5) : (mso σ = 0) = (σ.2.2.1 = 1) := by
  refine propext ⟨fun h => ?_, fun h => by rw [mso, if_neg (by omega), if_neg (by omega), if_neg (by omega), if_neg (by omega)]⟩
  rw [mso] at h
  split at h
  · exact absurd h (by decide)
  split at h
  · exact absurd h (by decide)
  split at h
  · split at h <;> exact absurd h (by decide)
  split at h
  · exact absurd h (by decide)
  · omega
theorem M_next_ok (hE : okE E) (hT : mtp S n T) (hb : σ.2.1 ≤ n) (hw : (so = 1 ∨ so = 2) ↔ isW σ.2.2.1 = 1) : mres cT 142 d 0 (ment 3 [.ref 93]) [] (hs E (mpS S fr (nI σ.2.1) so ft br nt cc pa g)) = some (none, hs E (mpS S (nI (adv n T σ).1) (nI (adv n T σ).2.1) (mso (adv n T σ)) ft br nt cc pa g)) := by
  have o10 := o_M hE
  have m10 := m_M hE
  have hn := hT.2.1
  have t1 := hT.1
  have l1 : ∀ (w1 w2 : Value) (tt so : Int32) (f p : Nat), n ≤ p + f → p ≤ n → mres cT 142 d 35 [.ref 93, w1, w2] [] (hs E (mpS S (nI p) tt so ft br nt cc pa g)) = mres cT 142 d 73 [.ref 93, w1, w2] [] (hs E (mpS S (nI (skF n T f p)) tt so ft br nt cc pa g)) := by
    intro w1 w2 tt so f
    induction f with
    | zero =>
      intro p h1 h2
      have a' : nI n ≤ nI p := nI_le (by omega) (by omega)
      simp only [r_al0 c_M_next_35, r_gfS0 c_M_next_36 o10 rfl, r_al0 c_M_next_39, r_gfS0 c_M_next_40 o10 rfl, r_icge c_M_next_43, ↓reduceIte, hs_h, Option.bind_some, mfix_i, mfix_r, mfix_n, mfix_a, Option.toList_some, Option.toList_none, List.cons_append, List.nil_append, List.singleton_append, mp13, mp5, t1, a', if_true, skF]
    | succ f ih =>
      intro p h1 h2
      rw [skF]
      by_cases a : p < n
      · have a' : ¬ nI n ≤ nI p := nI_ge a (by omega)
        obtain ⟨t4, t5⟩ := hT.2.2 p a
        have q32 : (nI (T p) = 32) = (T p = 32) := propext (nI_eq (b := 32) (by omega) (by omega))
        by_cases q : T p = 32
        · have ih := ih (p + 1) (by omega) (by omega)
          have q' : nI (T p) = 32 := by rw [q]; rfl
          rw [if_pos ⟨a, q⟩]
          simp only [r_al0 c_M_next_35, r_gfS0 c_M_next_36 o10 rfl, r_al0 c_M_next_39, r_gfS0 c_M_next_40 o10 rfl, r_icge c_M_next_43, ↓reduceIte, hs_h, Option.bind_some, mfix_i, mfix_r, mfix_n, mfix_a, Option.toList_some, Option.toList_none, List.cons_append, List.nil_append, List.singleton_append, mp13, mp5, t1, a', if_false]
          simp only [r_al0 c_M_next_46, r_gfSr c_M_next_47 o10 rfl, r_al0 c_M_next_50, r_gfS0 c_M_next_51 o10 rfl, r_ial c_M_next_54, r_ci c_M_next_55, r_icne c_M_next_57, r_al0 c_M_next_60, r_dupi c_M_next_61, r_dupr c_M_next_61, r_gfS0 c_M_next_62 o10 rfl, r_ci c_M_next_65, r_iadd c_M_next_66, r_pfS c_M_next_67 o10 rfl, r_goto c_M_next_70, ↓reduceIte, hs_h, Option.bind_some, mfix_i, mfix_r, mfix_n, mfix_a, Option.toList_some, Option.toList_none, List.cons_append, List.nil_append, List.singleton_append, mp13, mp97, mia_I (i_97 hE) (show p < 96 by omega) (by decide), t4, q', if_true, um13, nI_1, ih]
        · rw [if_neg (fun h => q h.2)]
          simp only [r_al0 c_M_next_35, r_gfS0 c_M_next_36 o10 rfl, r_al0 c_M_next_39, r_gfS0 c_M_next_40 o10 rfl, r_icge c_M_next_43, ↓reduceIte, hs_h, Option.bind_some, mfix_i, mfix_r, mfix_n, mfix_a, Option.toList_some, Option.toList_none, List.cons_append, List.nil_append, List.singleton_append, mp13, mp5, t1, a', if_false]
          simp only [r_al0 c_M_next_46, r_gfSr c_M_next_47 o10 rfl, r_al0 c_M_next_50, r_gfS0 c_M_next_51 o10 rfl, r_ial c_M_next_54, r_ci c_M_next_55, r_icne c_M_next_57, ↓reduceIte, hs_h, Option.bind_some, mfix_i, mfix_r, mfix_n, mfix_a, Option.toList_some, Option.toList_none, List.cons_append, List.nil_append, List.singleton_append, mp13, mp97, mia_I (i_97 hE) (show p < 96 by omega) (by decide), t4, q32, q, if_false]
      · have a' : nI n ≤ nI p := nI_le (by omega) (by omega)
        rw [if_neg (fun h => a h.1)]
        simp only [r_al0 c_M_next_35, r_gfS0 c_M_next_36 o10 rfl, r_al0 c_M_next_39, r_gfS0 c_M_next_40 o10 rfl, r_icge c_M_next_43, ↓reduceIte, hs_h, Option.bind_some, mfix_i, mfix_r, mfix_n, mfix_a, Option.toList_some, Option.toList_none, List.cons_append, List.nil_append, List.singleton_append, mp13, mp5, t1, a', if_true]
  have l3 : ∀ (w1 w2 : Value) (fr : Int32) (f p : Nat), n ≤ p + f → p ≤ n → mres cT 142 d 143 [.ref 93, w1, w2] [] (hs E (mpS S fr (nI p) 1 ft br nt cc pa g)) = mres cT 142 d 194 [.ref 93, w1, w2] [] (hs E (mpS S fr (nI (wnF n T 3 f p)) 1 ft br nt cc pa g)) := by
    intro w1 w2 fr f
    have z2 : ¬ (1 : Int32) = 2 := by decide
    induction f with
    | zero =>
      intro p h1 h2
      have s3 : ¬ srt n T p = 3 := by rw [srt_n (by omega)]; omega
      simp only [r_al0 c_M_next_143, r_gfS0 c_M_next_144 o10 rfl, r_ci c_M_next_147, r_icne c_M_next_148, r_al0 c_M_next_151, r_al0 c_M_next_152, r_gfS0 c_M_next_153 o10 rfl, r_cv2 c_M_next_156, r_ifne c_M_next_159, r_al0 c_M_next_162, r_gfS0 c_M_next_163 o10 rfl, r_ci c_M_next_166, r_icne c_M_next_167, r_al0 c_M_next_170, ↓reduceIte, hs_h, Option.bind_some, mfix_i, mfix_r, mfix_n, mfix_a, Option.toList_some, Option.toList_none, List.cons_append, List.nil_append, List.singleton_append, mwt, Value.category, Nat.reduceAdd, Nat.reduceLeDiff, true_and, and_true, and_self, m10, mp15, mp14, M_isLetter_ok hE (mtp_S hT) (show p < 2 ^ 31 by omega), s3, z2, if_true, if_false, wnF]
    | succ f ih =>
      intro p h1 h2
      rw [wnF]
      by_cases s3 : srt n T p = 3
      · have hpn : p < n := by
          rw [srt] at s3
          split at s3 <;> omega
        have ih := ih (p + 1) (by omega) (by omega)
        rw [if_pos s3]
        simp only [r_al0 c_M_next_143, r_gfS0 c_M_next_144 o10 rfl, r_ci c_M_next_147, r_icne c_M_next_148, ↓reduceIte, hs_h, Option.bind_some, mfix_i, mfix_r, mfix_n, mfix_a, Option.toList_some, Option.toList_none, List.cons_append, List.nil_append, List.singleton_append, mp15, if_true]
        simp only [r_al0 c_M_next_151, r_al0 c_M_next_152, r_gfS0 c_M_next_153 o10 rfl, r_cv2 c_M_next_156, r_ifne c_M_next_159, r_al0 c_M_next_162, r_gfS0 c_M_next_163 o10 rfl, r_ci c_M_next_166, r_icne c_M_next_167, r_al0 c_M_next_170, r_al0 c_M_next_171, r_gfS0 c_M_next_172 o10 rfl, r_cv2 c_M_next_175, r_ifeq c_M_next_178, r_al0 c_M_next_181, r_dupi c_M_next_182, r_dupr c_M_next_182, r_gfS0 c_M_next_183 o10 rfl, r_ci c_M_next_186, r_iadd c_M_next_187, r_pfS c_M_next_188 o10 rfl, r_goto c_M_next_191, ↓reduceIte, hs_h, Option.bind_some, mfix_i, mfix_r, mfix_n, mfix_a, Option.toList_some, Option.toList_none, List.cons_append, List.nil_append, List.singleton_append, mwt, Value.category, Nat.reduceAdd, Nat.reduceLeDiff, true_and, and_true, and_self, m10, mp15, mp14, M_isLetter_ok hE (mtp_S hT) (show p < 2 ^ 31 by omega), s3, one_nz, if_true, if_false, um14, nI_1, ih]
      · rw [if_neg s3]
        simp only [r_al0 c_M_next_143, r_gfS0 c_M_next_144 o10 rfl, r_ci c_M_next_147, r_icne c_M_next_148, ↓reduceIte, hs_h, Option.bind_some, mfix_i, mfix_r, mfix_n, mfix_a, Option.toList_some, Option.toList_none, List.cons_append, List.nil_append, List.singleton_append, mp15, if_true]
        simp only [r_al0 c_M_next_151, r_al0 c_M_next_152, r_gfS0 c_M_next_153 o10 rfl, r_cv2 c_M_next_156, r_ifne c_M_next_159, r_al0 c_M_next_162, r_gfS0 c_M_next_163 o10 rfl, r_ci c_M_next_166, r_icne c_M_next_167, r_al0 c_M_next_170, ↓reduceIte, hs_h, Option.bind_some, mfix_i, mfix_r, mfix_n, mfix_a, Option.toList_some, Option.toList_none, List.cons_append, List.nil_append, List.singleton_append, mwt, Value.category, Nat.reduceAdd, Nat.reduceLeDiff, true_and, and_true, and_self, m10, mp15, mp14, M_isLetter_ok hE (mtp_S hT) (show p < 2 ^ 31 by omega), s3, z2, if_true, if_false]
  have l4 : ∀ (w1 w2 : Value) (fr : Int32) (f p : Nat), n ≤ p + f → p ≤ n → mres cT 142 d 143 [.ref 93, w1, w2] [] (hs E (mpS S fr (nI p) 2 ft br nt cc pa g)) = mres cT 142 d 194 [.ref 93, w1, w2] [] (hs E (mpS S fr (nI (wnF n T 4 f p)) 2 ft br nt cc pa g)) := by
    intro w1 w2 fr f
    have z2 : ¬ (2 : Int32) = 1 := by decide
    induction f with
    | zero =>
      intro p h1 h2
      have s3 : ¬ srt n T p = 4 := by rw [srt_n (by omega)]; omega
      simp only [r_al0 c_M_next_143, r_gfS0 c_M_next_144 o10 rfl, r_ci c_M_next_147, r_icne c_M_next_148, r_al0 c_M_next_151, r_al0 c_M_next_152, r_gfS0 c_M_next_153 o10 rfl, r_cv2 c_M_next_156, r_ifne c_M_next_159, r_al0 c_M_next_162, r_gfS0 c_M_next_163 o10 rfl, r_ci c_M_next_166, r_icne c_M_next_167, r_al0 c_M_next_170, r_al0 c_M_next_171, r_gfS0 c_M_next_172 o10 rfl, r_cv2 c_M_next_175, r_ifeq c_M_next_178, ↓reduceIte, hs_h, Option.bind_some, mfix_i, mfix_r, mfix_n, mfix_a, Option.toList_some, Option.toList_none, List.cons_append, List.nil_append, List.singleton_append, mwt, Value.category, Nat.reduceAdd, Nat.reduceLeDiff, true_and, and_true, and_self, m10, mp15, mp14, M_isDigit_ok hE (mtp_S hT) (show p < 2 ^ 31 by omega), s3, z2, if_true, if_false, wnF]
    | succ f ih =>
      intro p h1 h2
      rw [wnF]
      by_cases s3 : srt n T p = 4
      · have hpn : p < n := by
          rw [srt] at s3
          split at s3 <;> omega
        have ih := ih (p + 1) (by omega) (by omega)
        rw [if_pos s3]
        simp only [r_al0 c_M_next_143, r_gfS0 c_M_next_144 o10 rfl, r_ci c_M_next_147, r_icne c_M_next_148, ↓reduceIte, hs_h, Option.bind_some, mfix_i, mfix_r, mfix_n, mfix_a, Option.toList_some, Option.toList_none, List.cons_append, List.nil_append, List.singleton_append, mp15, z2, if_false]
        simp only [r_al0 c_M_next_162, r_gfS0 c_M_next_163 o10 rfl, r_ci c_M_next_166, r_icne c_M_next_167, r_al0 c_M_next_170, r_al0 c_M_next_171, r_gfS0 c_M_next_172 o10 rfl, r_cv2 c_M_next_175, r_ifeq c_M_next_178, r_al0 c_M_next_181, r_dupi c_M_next_182, r_dupr c_M_next_182, r_gfS0 c_M_next_183 o10 rfl, r_ci c_M_next_186, r_iadd c_M_next_187, r_pfS c_M_next_188 o10 rfl, r_goto c_M_next_191, ↓reduceIte, hs_h, Option.bind_some, mfix_i, mfix_r, mfix_n, mfix_a, Option.toList_some, Option.toList_none, List.cons_append, List.nil_append, List.singleton_append, mwt, Value.category, Nat.reduceAdd, Nat.reduceLeDiff, true_and, and_true, and_self, m10, mp15, mp14, M_isDigit_ok hE (mtp_S hT) (show p < 2 ^ 31 by omega), s3, one_nz, if_true, if_false, um14, nI_1, ih]
      · rw [if_neg s3]
        simp only [r_al0 c_M_next_143, r_gfS0 c_M_next_144 o10 rfl, r_ci c_M_next_147, r_icne c_M_next_148, ↓reduceIte, hs_h, Option.bind_some, mfix_i, mfix_r, mfix_n, mfix_a, Option.toList_some, Option.toList_none, List.cons_append, List.nil_append, List.singleton_append, mp15, z2, if_false]
        simp only [r_al0 c_M_next_162, r_gfS0 c_M_next_163 o10 rfl, r_ci c_M_next_166, r_icne c_M_next_167, r_al0 c_M_next_170, r_al0 c_M_next_171, r_gfS0 c_M_next_172 o10 rfl, r_cv2 c_M_next_175, r_ifeq c_M_next_178, ↓reduceIte, hs_h, Option.bind_some, mfix_i, mfix_r, mfix_n, mfix_a, Option.toList_some, Option.toList_none, List.cons_append, List.nil_append, List.singleton_append, mwt, Value.category, Nat.reduceAdd, Nat.reduceLeDiff, true_and, and_true, and_self, m10, mp15, mp14, M_isDigit_ok hE (mtp_S hT) (show p < 2 ^ 31 by omega), s3, if_true, if_false]
  obtain ⟨k1, k2⟩ := skF_le (n := n) (T := T) 97 σ.2.1 hb
  have hl := fun w1 w2 tt so => l1 w1 w2 tt so 97 σ.2.1 (by omega) hb
  obtain ⟨ww, hww⟩ : ∃ ww : Int32, ww = if isW σ.2.2.1 = 1 then 1 else 0 := ⟨_, rfl⟩
  have st : mres cT 142 d 0 (ment 3 [.ref 93]) [] (hs E (mpS S fr (nI σ.2.1) so ft br nt cc pa g)) = mres cT 142 d 73 [.ref 93, .int ww, .int (nI σ.2.1)] [] (hs E (mpS S (nI (skF n T 97 σ.2.1)) (nI σ.2.1) so ft br nt cc pa g)) := by
    simp only [ment, mfl, List.length, List.replicate, List.cons_append, List.nil_append, Nat.reduceAdd, Nat.reduceSub]
    by_cases a : so = 1
    · have w1 : ww = 1 := by rw [hww, if_pos (hw.mp (Or.inl a))]
      simp only [r_al0 c_M_next_0, r_gfS0 c_M_next_1 o10 rfl, r_ci c_M_next_4, r_iceq c_M_next_5, r_al0 c_M_next_8, r_gfS0 c_M_next_9 o10 rfl, r_ci c_M_next_12, r_icne c_M_next_13, r_ci c_M_next_16, r_goto c_M_next_17, r_ci c_M_next_20, r_is1 c_M_next_21, r_al0 c_M_next_22, r_gfS0 c_M_next_23 o10 rfl, r_is2 c_M_next_26, r_al0 c_M_next_27, r_al0 c_M_next_28, r_gfS0 c_M_next_29 o10 rfl, r_pfS c_M_next_32 o10 rfl, ↓reduceIte, hs_h, Option.bind_some, mfix_i, mfix_r, mfix_n, mfix_a, Option.toList_some, Option.toList_none, List.cons_append, List.nil_append, List.singleton_append, mp15, a, if_true, mp14, um13, hl, w1]
    · by_cases b : so = 2
      · have w1 : ww = 1 := by rw [hww, if_pos (hw.mp (Or.inr b))]
        simp only [r_al0 c_M_next_0, r_gfS0 c_M_next_1 o10 rfl, r_ci c_M_next_4, r_iceq c_M_next_5, r_al0 c_M_next_8, r_gfS0 c_M_next_9 o10 rfl, r_ci c_M_next_12, r_icne c_M_next_13, r_ci c_M_next_16, r_goto c_M_next_17, r_ci c_M_next_20, r_is1 c_M_next_21, r_al0 c_M_next_22, r_gfS0 c_M_next_23 o10 rfl, r_is2 c_M_next_26, r_al0 c_M_next_27, r_al0 c_M_next_28, r_gfS0 c_M_next_29 o10 rfl, r_pfS c_M_next_32 o10 rfl, ↓reduceIte, hs_h, Option.bind_some, mfix_i, mfix_r, mfix_n, mfix_a, Option.toList_some, Option.toList_none, List.cons_append, List.nil_append, List.singleton_append, mp15, b, show ¬ (2 : Int32) = 1 by decide, if_true, if_false, mp14, um13, hl, w1]
      · have w1 : ww = 0 := by rw [hww, if_neg (fun h => by rcases hw.mpr h with h | h <;> contradiction)]
        simp only [r_al0 c_M_next_0, r_gfS0 c_M_next_1 o10 rfl, r_ci c_M_next_4, r_iceq c_M_next_5, r_al0 c_M_next_8, r_gfS0 c_M_next_9 o10 rfl, r_ci c_M_next_12, r_icne c_M_next_13, r_ci c_M_next_16, r_goto c_M_next_17, r_ci c_M_next_20, r_is1 c_M_next_21, r_al0 c_M_next_22, r_gfS0 c_M_next_23 o10 rfl, r_is2 c_M_next_26, r_al0 c_M_next_27, r_al0 c_M_next_28, r_gfS0 c_M_next_29 o10 rfl, r_pfS c_M_next_32 o10 rfl, ↓reduceIte, hs_h, Option.bind_some, mfix_i, mfix_r, mfix_n, mfix_a, Option.toList_some, Option.toList_none, List.cons_append, List.nil_append, List.singleton_append, mp15, a, b, if_false, mp14, um13, hl, w1]
  rw [st, adv]
  generalize hk : skF n T 97 σ.2.1 = k at k1 k2 ⊢
  have hkn : srt n T k ≠ 1 → k < n := fun h => by
    rw [srt] at h
    split at h <;> omega
  have fin : ∀ (s : Int32) (e : Nat), k ≤ e → e ≤ n → (s = 1 ∨ s = 2) → mres cT 142 d 194 [.ref 93, .int ww, .int (nI σ.2.1)] [] (hs E (mpS S (nI k) (nI e) s ft br nt cc pa g)) = some (none, hs E (mpS S (nI k) (nI e) (if isW σ.2.2.1 = 1 ∧ k = σ.2.1 then 4 else if s = 2 ∧ 4 < e - k then 4 else s) ft br nt cc pa g)) := by
    intro s e h1 h2 hs12
    have z3 : ¬ s = 3 := by rcases hs12 with rfl | rfl <;> decide
    have es : nI e - nI k = nI (e - k) := pk_sub h1
    have e4 : (nI (e - k) ≤ 4) = (e - k ≤ 4) := propext (nI_leI (b := 4) (by omega) (by omega))
    have tl : ∀ w1, mres cT 142 d 214 [.ref 93, w1, .int (nI σ.2.1)] [] (hs E (mpS S (nI k) (nI e) s ft br nt cc pa g)) = some (none, hs E (mpS S (nI k) (nI e) (if s = 2 ∧ 4 < e - k then 4 else s) ft br nt cc pa g)) := by
      intro w1
      by_cases a : s = 2
      · by_cases b : 4 < e - k
        · have b' : ¬ e - k ≤ 4 := by omega
          rw [if_pos ⟨a, b⟩]
          simp only [r_al0 c_M_next_214, r_gfS0 c_M_next_215 o10 rfl, r_ci c_M_next_218, r_icne c_M_next_219, r_al0 c_M_next_222, r_gfS0 c_M_next_223 o10 rfl, r_al0 c_M_next_226, r_gfS0 c_M_next_227 o10 rfl, r_isub c_M_next_230, r_ci c_M_next_231, r_icle c_M_next_232, r_al0 c_M_next_235, r_ci c_M_next_236, r_pfS c_M_next_237 o10 rfl, r_vret c_M_next_240, ↓reduceIte, hs_h, Option.bind_some, mfix_i, mfix_r, mfix_n, mfix_a, Option.toList_some, Option.toList_none, List.cons_append, List.nil_append, List.singleton_append, mp15, a, if_true, mp14, mp13, es, e4, b', if_false, um15]
        · have b' : e - k ≤ 4 := by omega
          rw [if_neg (fun h => b h.2)]
          simp only [r_al0 c_M_next_214, r_gfS0 c_M_next_215 o10 rfl, r_ci c_M_next_218, r_icne c_M_next_219, r_al0 c_M_next_222, r_gfS0 c_M_next_223 o10 rfl, r_al0 c_M_next_226, r_gfS0 c_M_next_227 o10 rfl, r_isub c_M_next_230, r_ci c_M_next_231, r_icle c_M_next_232, r_al0 c_M_next_235, r_ci c_M_next_236, r_pfS c_M_next_237 o10 rfl, r_vret c_M_next_240, ↓reduceIte, hs_h, Option.bind_some, mfix_i, mfix_r, mfix_n, mfix_a, Option.toList_some, Option.toList_none, List.cons_append, List.nil_append, List.singleton_append, mp15, a, if_true, mp14, mp13, es, e4, b']
      · rw [if_neg (fun h => a h.1)]
        simp only [r_al0 c_M_next_214, r_gfS0 c_M_next_215 o10 rfl, r_ci c_M_next_218, r_icne c_M_next_219, r_al0 c_M_next_222, r_gfS0 c_M_next_223 o10 rfl, r_al0 c_M_next_226, r_gfS0 c_M_next_227 o10 rfl, r_isub c_M_next_230, r_ci c_M_next_231, r_icle c_M_next_232, r_al0 c_M_next_235, r_ci c_M_next_236, r_pfS c_M_next_237 o10 rfl, r_vret c_M_next_240, ↓reduceIte, hs_h, Option.bind_some, mfix_i, mfix_r, mfix_n, mfix_a, Option.toList_some, Option.toList_none, List.cons_append, List.nil_append, List.singleton_append, mp15, a, if_false]
    by_cases a : isW σ.2.2.1 = 1
    · have aw : ww = 1 := by rw [hww, if_pos a]
      by_cases b : k = σ.2.1
      · have b' : nI k = nI σ.2.1 := by rw [b]
        rw [if_pos ⟨a, b⟩]
        simp only [r_al0 c_M_next_194, r_gfS0 c_M_next_195 o10 rfl, r_ci c_M_next_198, r_iceq c_M_next_199, r_il1 c_M_next_202, r_ifeq c_M_next_203, r_al0 c_M_next_206, r_gfS0 c_M_next_207 o10 rfl, r_il2 c_M_next_210, r_iceq c_M_next_211, r_al0 c_M_next_235, r_ci c_M_next_236, r_pfS c_M_next_237 o10 rfl, r_vret c_M_next_240, ↓reduceIte, hs_h, Option.bind_some, mfix_i, mfix_r, mfix_n, mfix_a, Option.toList_some, Option.toList_none, List.cons_append, List.nil_append, List.singleton_append, mp15, z3, if_false, aw, if_true, one_nz, mp13, b', um15]
      · have b' : ¬ nI k = nI σ.2.1 := fun h => b ((nI_eq (by omega) (by omega)).mp h)
        rw [if_neg (fun h => b h.2)]
        simp only [r_al0 c_M_next_194, r_gfS0 c_M_next_195 o10 rfl, r_ci c_M_next_198, r_iceq c_M_next_199, r_il1 c_M_next_202, r_ifeq c_M_next_203, r_al0 c_M_next_206, r_gfS0 c_M_next_207 o10 rfl, r_il2 c_M_next_210, r_iceq c_M_next_211, ↓reduceIte, hs_h, Option.bind_some, mfix_i, mfix_r, mfix_n, mfix_a, Option.toList_some, Option.toList_none, List.cons_append, List.nil_append, List.singleton_append, mp15, z3, if_false, aw, if_true, one_nz, mp13, b', tl]
    · have aw : ww = 0 := by rw [hww, if_neg a]
      rw [if_neg (fun h => a h.1)]
      simp only [r_al0 c_M_next_194, r_gfS0 c_M_next_195 o10 rfl, r_ci c_M_next_198, r_iceq c_M_next_199, r_il1 c_M_next_202, r_ifeq c_M_next_203, ↓reduceIte, hs_h, Option.bind_some, mfix_i, mfix_r, mfix_n, mfix_a, Option.toList_some, Option.toList_none, List.cons_append, List.nil_append, List.singleton_append, mp15, z3, if_false, aw, if_true, tl]
  have nn : (nI k = nI n) = (k = n) := propext (nI_eq (by omega) (by omega))
  rcases srt_c (n := n) (T := T) (q := k) with e | e | e | e
  · have ekn : k = n := by
      rw [srt] at e
      split at e
      · omega
      · split at e
        · omega
        · split at e <;> omega
    rw [if_pos e]
    have em : mso (k, k, 1, σ.2.2.2) = 0 := rfl
    rw [em]
    simp only [r_al0 c_M_next_73, r_al0 c_M_next_74, r_gfS0 c_M_next_75 o10 rfl, r_pfS c_M_next_78 o10 rfl, r_al0 c_M_next_81, r_gfS0 c_M_next_82 o10 rfl, r_al0 c_M_next_85, r_gfS0 c_M_next_86 o10 rfl, r_icne c_M_next_89, r_al0 c_M_next_92, r_ci c_M_next_93, r_pfS c_M_next_94 o10 rfl, r_vret c_M_next_97, ↓reduceIte, hs_h, Option.bind_some, mfix_i, mfix_r, mfix_n, mfix_a, Option.toList_some, Option.toList_none, List.cons_append, List.nil_append, List.singleton_append, mp13, mp5, t1, um14, nn, ekn, if_true, um15]
  · have hlt := hkn (by omega)
    have ekn : ¬ k = n := by omega
    have s3 : ¬ srt n T k = 3 := by omega
    have s4 : ¬ srt n T k = 4 := by omega
    rw [if_neg (show ¬ srt n T k = 1 by omega), if_pos e]
    have em : mso (k, k + 1, 2, σ.2.2.2) = 3 := rfl
    rw [em]
    have z1 : ¬ (3 : Int32) = 1 := by decide
    have z2 : ¬ (3 : Int32) = 2 := by decide
    simp only [r_al0 c_M_next_73, r_al0 c_M_next_74, r_gfS0 c_M_next_75 o10 rfl, r_pfS c_M_next_78 o10 rfl, r_al0 c_M_next_81, r_gfS0 c_M_next_82 o10 rfl, r_al0 c_M_next_85, r_gfS0 c_M_next_86 o10 rfl, r_icne c_M_next_89, r_al0 c_M_next_92, r_ci c_M_next_93, r_pfS c_M_next_94 o10 rfl, r_vret c_M_next_97, r_al0 c_M_next_98, r_al0 c_M_next_99, r_al0 c_M_next_100, r_gfS0 c_M_next_101 o10 rfl, r_cv2 c_M_next_104, r_ifeq c_M_next_107, r_ci c_M_next_110, r_goto c_M_next_111, r_al0 c_M_next_114, r_al0 c_M_next_115, r_gfS0 c_M_next_116 o10 rfl, r_cv2 c_M_next_119, r_ifeq c_M_next_122, r_ci c_M_next_125, r_goto c_M_next_126, r_ci c_M_next_129, r_pfS c_M_next_130 o10 rfl, r_al0 c_M_next_133, r_dupi c_M_next_134, r_dupr c_M_next_134, r_gfS0 c_M_next_135 o10 rfl, r_ci c_M_next_138, r_iadd c_M_next_139, r_pfS c_M_next_140 o10 rfl, ↓reduceIte, hs_h, Option.bind_some, mfix_i, mfix_r, mfix_n, mfix_a, Option.toList_some, Option.toList_none, List.cons_append, List.nil_append, List.singleton_append, mwt, Value.category, Nat.reduceAdd, Nat.reduceLeDiff, true_and, and_true, and_self, m10, mp13, mp5, t1, um14, nn, ekn, if_false, M_isLetter_ok hE (mtp_S hT) (show k < 2 ^ 31 by omega), s3, if_true, M_isDigit_ok hE (mtp_S hT) (show k < 2 ^ 31 by omega), s4, um15, mp14, nI_1]
    simp only [r_al0 c_M_next_143, r_gfS0 c_M_next_144 o10 rfl, r_ci c_M_next_147, r_icne c_M_next_148, r_al0 c_M_next_151, r_al0 c_M_next_152, r_gfS0 c_M_next_153 o10 rfl, r_cv2 c_M_next_156, r_ifne c_M_next_159, r_al0 c_M_next_162, r_gfS0 c_M_next_163 o10 rfl, r_ci c_M_next_166, r_icne c_M_next_167, r_al0 c_M_next_170, r_al0 c_M_next_194, r_gfS0 c_M_next_195 o10 rfl, r_ci c_M_next_198, r_iceq c_M_next_199, r_al0 c_M_next_214, r_gfS0 c_M_next_215 o10 rfl, r_ci c_M_next_218, r_icne c_M_next_219, r_vret c_M_next_240, ↓reduceIte, hs_h, Option.bind_some, mfix_i, mfix_r, mfix_n, mfix_a, Option.toList_some, Option.toList_none, List.cons_append, List.nil_append, List.singleton_append, mp15, z1, z2, if_false, if_true]
  · have hlt := hkn (by omega)
    have ekn : ¬ k = n := by omega
    obtain ⟨w1, w2⟩ := wnF_le (n := n) (T := T) (so := 3) (Or.inl rfl) 97 (k + 1) (by omega)
    rw [if_neg (show ¬ srt n T k = 1 by omega), if_neg (show ¬ srt n T k = 2 by omega), e]
    have fn := fin 1 (wnF n T 3 97 (k + 1)) (by omega) w2 (Or.inl rfl)
    rw [show (if (1 : Int32) = 2 ∧ 4 < wnF n T 3 97 (k + 1) - k then (4 : Int32) else 1) = 1 from if_neg (fun h => absurd h.1 (by decide))] at fn
    have em : mso (k, wnF n T 3 97 (k + 1), if isW σ.2.2.1 = 1 ∧ k = σ.2.1 then 5 else 3, σ.2.2.2) = if isW σ.2.2.1 = 1 ∧ k = σ.2.1 then 4 else 1 := by
      by_cases a : isW σ.2.2.1 = 1 ∧ k = σ.2.1
      · rw [if_pos a, if_pos a]; rfl
      · rw [if_neg a, if_neg a]; rfl
    rw [em]
    simp only [r_al0 c_M_next_73, r_al0 c_M_next_74, r_gfS0 c_M_next_75 o10 rfl, r_pfS c_M_next_78 o10 rfl, r_al0 c_M_next_81, r_gfS0 c_M_next_82 o10 rfl, r_al0 c_M_next_85, r_gfS0 c_M_next_86 o10 rfl, r_icne c_M_next_89, r_al0 c_M_next_92, r_ci c_M_next_93, r_pfS c_M_next_94 o10 rfl, r_vret c_M_next_97, r_al0 c_M_next_98, r_al0 c_M_next_99, r_al0 c_M_next_100, r_gfS0 c_M_next_101 o10 rfl, r_cv2 c_M_next_104, r_ifeq c_M_next_107, r_ci c_M_next_110, r_goto c_M_next_111, r_al0 c_M_next_114, r_al0 c_M_next_115, r_gfS0 c_M_next_116 o10 rfl, r_cv2 c_M_next_119, r_ifeq c_M_next_122, r_ci c_M_next_125, r_goto c_M_next_126, r_ci c_M_next_129, r_pfS c_M_next_130 o10 rfl, r_al0 c_M_next_133, r_dupi c_M_next_134, r_dupr c_M_next_134, r_gfS0 c_M_next_135 o10 rfl, r_ci c_M_next_138, r_iadd c_M_next_139, r_pfS c_M_next_140 o10 rfl, ↓reduceIte, hs_h, Option.bind_some, mfix_i, mfix_r, mfix_n, mfix_a, Option.toList_some, Option.toList_none, List.cons_append, List.nil_append, List.singleton_append, mwt, Value.category, Nat.reduceAdd, Nat.reduceLeDiff, true_and, and_true, and_self, m10, mp13, mp5, t1, um14, nn, ekn, if_false, M_isLetter_ok hE (mtp_S hT) (show k < 2 ^ 31 by omega), e, if_true, one_nz, um15, mp14, nI_1, l3 _ _ _ 97 (k + 1) (show n ≤ k + 1 + 97 by omega) (show k + 1 ≤ n by omega), fn]
  · have hlt := hkn (by omega)
    have ekn : ¬ k = n := by omega
    obtain ⟨w1, w2⟩ := wnF_le (n := n) (T := T) (so := 4) (Or.inr rfl) 97 (k + 1) (by omega)
    rw [if_neg (show ¬ srt n T k = 1 by omega), if_neg (show ¬ srt n T k = 2 by omega), e]
    have fn := fin 2 (wnF n T 4 97 (k + 1)) (by omega) w2 (Or.inr rfl)
    have em : mso (k, wnF n T 4 97 (k + 1), if isW σ.2.2.1 = 1 ∧ k = σ.2.1 then 5 else 4, σ.2.2.2) = if isW σ.2.2.1 = 1 ∧ k = σ.2.1 then 4 else if (2 : Int32) = 2 ∧ 4 < wnF n T 4 97 (k + 1) - k then 4 else 2 := by
      by_cases a : isW σ.2.2.1 = 1 ∧ k = σ.2.1
      · rw [if_pos a, if_pos a]; rfl
      · rw [if_neg a, if_neg a]
        show (if wnF n T 4 97 (k + 1) - k ≤ 4 then (2 : Int32) else 4) = _
        by_cases b : wnF n T 4 97 (k + 1) - k ≤ 4
        · rw [if_pos b, if_neg (fun h => by omega)]
        · rw [if_neg b, if_pos ⟨rfl, by omega⟩]
    rw [em]
    have s3 : ¬ (4 : Nat) = 3 := by decide
    simp only [r_al0 c_M_next_73, r_al0 c_M_next_74, r_gfS0 c_M_next_75 o10 rfl, r_pfS c_M_next_78 o10 rfl, r_al0 c_M_next_81, r_gfS0 c_M_next_82 o10 rfl, r_al0 c_M_next_85, r_gfS0 c_M_next_86 o10 rfl, r_icne c_M_next_89, r_al0 c_M_next_92, r_ci c_M_next_93, r_pfS c_M_next_94 o10 rfl, r_vret c_M_next_97, r_al0 c_M_next_98, r_al0 c_M_next_99, r_al0 c_M_next_100, r_gfS0 c_M_next_101 o10 rfl, r_cv2 c_M_next_104, r_ifeq c_M_next_107, r_ci c_M_next_110, r_goto c_M_next_111, r_al0 c_M_next_114, r_al0 c_M_next_115, r_gfS0 c_M_next_116 o10 rfl, r_cv2 c_M_next_119, r_ifeq c_M_next_122, r_ci c_M_next_125, r_goto c_M_next_126, r_ci c_M_next_129, r_pfS c_M_next_130 o10 rfl, r_al0 c_M_next_133, r_dupi c_M_next_134, r_dupr c_M_next_134, r_gfS0 c_M_next_135 o10 rfl, r_ci c_M_next_138, r_iadd c_M_next_139, r_pfS c_M_next_140 o10 rfl, ↓reduceIte, hs_h, Option.bind_some, mfix_i, mfix_r, mfix_n, mfix_a, Option.toList_some, Option.toList_none, List.cons_append, List.nil_append, List.singleton_append, mwt, Value.category, Nat.reduceAdd, Nat.reduceLeDiff, true_and, and_true, and_self, m10, mp13, mp5, t1, um14, nn, ekn, if_false, M_isLetter_ok hE (mtp_S hT) (show k < 2 ^ 31 by omega), M_isDigit_ok hE (mtp_S hT) (show k < 2 ^ 31 by omega), e, s3, if_true, one_nz, um15, mp14, nI_1, l4 _ _ _ 97 (k + 1) (show n ≤ k + 1 + 97 by omega) (show k + 1 ≤ n by omega), fn]
end MRD
