/-! the reader: its state, words and signs -/
abbrev PT : Type := Nat × Nat × Nat × Option Nat × Nat × Nat × (Nat → Int32)
section RDR
variable {E : EE} {S : SS} {d n p j so lvl : Nat} {T : Nat → Nat} {c v x ky : Int32} {σ : PT}
def rdF (h : Nat → Int32) (cc lv ky ft so pl bh : Int32) : Nat → Int32 := fun k => if k = 2 then cc else if k = 3 then lv else if k = 4 then ky else if k = 5 then ft else if k = 6 then so else if k = 7 then pl else if k = 8 then bh else h k
def rdS (S : SS) (cc lv ky ft so pl bh : Int32) (cf : Nat → Int32) : SS := va_up (va_up S 82 ((S 82).1, cf, (S 82).2.2)) 81 (rdF (S 81).1 cc lv ky ft so pl bh, (S 81).2)
section RDS
variable {cc lv ft so pl bh : Int32} {cf : Nat → Int32}
theorem rd2 : iF (rdS S cc lv ky ft so pl bh cf) 81 2 = cc := by simp [iF, rdS, va_up, rdF]
theorem rd3 : iF (rdS S cc lv ky ft so pl bh cf) 81 3 = lv := by simp [iF, rdS, va_up, rdF]
theorem rd4 : iF (rdS S cc lv ky ft so pl bh cf) 81 4 = ky := by simp [iF, rdS, va_up, rdF]
theorem rd5 : iF (rdS S cc lv ky ft so pl bh cf) 81 5 = ft := by simp [iF, rdS, va_up, rdF]
theorem rd6 : iF (rdS S cc lv ky ft so pl bh cf) 81 6 = so := by simp [iF, rdS, va_up, rdF]
theorem rd7 : iF (rdS S cc lv ky ft so pl bh cf) 81 7 = pl := by simp [iF, rdS, va_up, rdF]
theorem rd8 : iF (rdS S cc lv ky ft so pl bh cf) 81 8 = bh := by simp [iF, rdS, va_up, rdF]
theorem rdA : iA (rdS S cc lv ky ft so pl bh cf) 82 = cf := by simp [iA, rdS, va_up]
theorem rd_o {q : Nat} (h1 : q ≠ 81) (h2 : q ≠ 82) : rdS S cc lv ky ft so pl bh cf q = S q := by simp [rdS, va_up, h1, h2]
theorem rd_up {k : Nat} {cc' lv' ky' ft' so' pl' bh' : Int32} (h : upd (rdF (S 81).1 cc lv ky ft so pl bh) k v = rdF (S 81).1 cc' lv' ky' ft' so' pl' bh') : sF (rdS S cc lv ky ft so pl bh cf) 81 k v = rdS S cc' lv' ky' ft' so' pl' bh' cf := by
  funext q
  by_cases e : q = 81
  · subst e
    simp only [sF, rdS, va_up, if_true, h]
  · simp only [sF, rdS, va_up, e, if_false]
theorem up2 : sF (rdS S cc lv ky ft so pl bh cf) 81 2 v = rdS S v lv ky ft so pl bh cf := rd_up (by funext k; simp only [upd, rdF]; split <;> simp_all)
theorem up3 : sF (rdS S cc lv ky ft so pl bh cf) 81 3 v = rdS S cc v ky ft so pl bh cf := rd_up (by funext k; simp only [upd, rdF]; split <;> simp_all)
theorem up4 : sF (rdS S cc lv ky ft so pl bh cf) 81 4 v = rdS S cc lv v ft so pl bh cf := rd_up (by funext k; simp only [upd, rdF]; split <;> simp_all)
theorem up5 : sF (rdS S cc lv ky ft so pl bh cf) 81 5 v = rdS S cc lv ky v so pl bh cf := rd_up (by funext k; simp only [upd, rdF]; split <;> simp_all)
theorem up6 : sF (rdS S cc lv ky ft so pl bh cf) 81 6 v = rdS S cc lv ky ft v pl bh cf := rd_up (by funext k; simp only [upd, rdF]; split <;> simp_all)
theorem up7 : sF (rdS S cc lv ky ft so pl bh cf) 81 7 v = rdS S cc lv ky ft so v bh cf := rd_up (by funext k; simp only [upd, rdF]; split <;> simp_all)
theorem up8 : sF (rdS S cc lv ky ft so pl bh cf) 81 8 v = rdS S cc lv ky ft so pl v cf := rd_up (by funext k; simp only [upd, rdF]; split <;> simp_all)
theorem upA {g : Nat → Int32} : sA (rdS S cc lv ky ft so pl bh cf) 82 g = rdS S cc lv ky ft so pl bh g := by
  funext q
  by_cases e : q = 82
  · subst e
    simp only [sA, rdS, va_up, if_true, if_false, show ¬ (82 = 81) by omega]
  · simp only [sA, rdS, va_up, e, if_false]
theorem rd_self : rdS S (iF S 81 2) (iF S 81 3) (iF S 81 4) (iF S 81 5) (iF S 81 6) (iF S 81 7) (iF S 81 8) (iA S 82) = S := by
  funext q
  by_cases e : q = 81
  · subst e
    simp only [rdS, va_up, if_true]
    refine Prod.ext ?_ rfl
    funext k
    simp only [rdF, iF]
    repeat' split
    all_goals first | rfl | (subst_vars; rfl)
  · by_cases e2 : q = 82
    · subst e2
      simp only [rdS, va_up, if_true, e, if_false]
    · simp only [rdS, va_up, e, e2, if_false]
theorem rd_rd {cc' lv' ky' ft' so' pl' bh' : Int32} {cf' : Nat → Int32} : rdS (rdS S cc lv ky ft so pl bh cf) cc' lv' ky' ft' so' pl' bh' cf' = rdS S cc' lv' ky' ft' so' pl' bh' cf' := by
  funext q
  by_cases e : q = 81
  · subst e
    simp only [rdS, va_up, if_true]
    refine Prod.ext ?_ (by simp)
    funext k
    simp only [rdF]
    repeat' split
    all_goals first | rfl | simp_all
  · by_cases e2 : q = 82
    · subst e2
      simp only [rdS, va_up, if_true, e, if_false]
    · simp only [rdS, va_up, e, e2, if_false]
theorem tpS_rd (h : tpS S n T) : tpS (rdS S cc lv ky ft so pl bh cf) n T := by
  unfold tpS at h ⊢
  rw [iF, iA, rd_o (by omega) (by omega), rd_o (by omega) (by omega)]
  exact h
end RDS
def cdF (o : Option Nat) : Int32 := match o with
  | none => -1
  | some p => nI p
/-- the reader's cells hold this state -/
def rdZ (S : SS) (ky : Int32) (σ : PT) : SS := rdS S (nI σ.2.2.2.2.1) (nI σ.2.2.2.2.2.1) ky (cdF σ.2.2.2.1) (nI σ.2.2.1) (nI σ.1) (nI σ.2.1) σ.2.2.2.2.2.2
def srt (n : Nat) (T : Nat → Nat) (p : Nat) : Nat := if n ≤ p then 1 else if 97 ≤ T p ∧ T p ≤ 122 then 3 else if 48 ≤ T p ∧ T p ≤ 57 then 4 else 2
theorem D_sortAt_ok (hE : okE E) (hT : tpS S n T) (hp2 : p < 2 ^ 31) : mres cT 106 d 0 (ment 3 [.ref 81, .int (nI p)]) [] (hs E S) = some (some (.int (nI (srt n T p))), hs E S) := by
  have o7 := o_D hE
  have m5 : ∀ S, misc (hp E S 79) 5 = true := fun S => misc_o (o_P hE)
  simp only [ment, mfl, List.length, List.replicate, List.cons_append, List.nil_append, Nat.reduceAdd, Nat.reduceSub]
  simp only [r_al0 c_D_sortAt_0, r_gfSr c_D_sortAt_1 o7 rfl, r_il1 c_D_sortAt_4, r_cv2 c_D_sortAt_5, r_is2 c_D_sortAt_8, r_il2 c_D_sortAt_9, r_ifge c_D_sortAt_10, r_ci c_D_sortAt_13, r_iret c_D_sortAt_14, r_il2 c_D_sortAt_15, r_ci c_D_sortAt_16, r_iclt c_D_sortAt_18, r_il2 c_D_sortAt_21, r_ci c_D_sortAt_22, r_icgt c_D_sortAt_24, r_ci c_D_sortAt_27, r_iret c_D_sortAt_28, r_il2 c_D_sortAt_29, r_ci c_D_sortAt_30, r_iclt c_D_sortAt_32, r_il2 c_D_sortAt_35, r_ci c_D_sortAt_36, r_icgt c_D_sortAt_38, r_ci c_D_sortAt_41, r_goto c_D_sortAt_42, r_ci c_D_sortAt_45, r_iret c_D_sortAt_46, ↓reduceIte, hs_h, Option.bind_some, mfix_i, mfix_r, mfix_n, mfix_a, Option.toList_some, Option.toList_none, List.cons_append, List.nil_append, List.singleton_append, mwt, Value.category, Nat.reduceAdd, Nat.reduceLeDiff, true_and, and_true, and_self, m5, P_byteAt_ok hE hT hp2]
  by_cases h : p < n
  · have ht := (hT.2.2 p h).2
    have b0 : btN n T p = nI (T p) := if_pos h
    have h0 : 0 ≤ nI (T p) := nI_pos' (by omega)
    have e1 : srt n T p = if 97 ≤ T p ∧ T p ≤ 122 then 3 else if 48 ≤ T p ∧ T p ≤ 57 then 4 else 2 := by rw [srt, if_neg (by omega)]
    rw [e1]
    simp only [b0, h0, if_true]
    by_cases a1 : 97 ≤ T p
    · have a1' : ¬ nI (T p) < 97 := nI_nlt (b := 97) a1 (by omega)
      by_cases a2 : T p ≤ 122
      · have a2' : ¬ (122 : Int32) < nI (T p) := nI_nlt (a := 122) a2 (by omega)
        simp only [a1', a2', if_false, a1, a2, and_self, if_true]; rfl
      · have a2' : (122 : Int32) < nI (T p) := nI_lt (a := 122) (by omega) (by omega)
        have a3 : ¬ nI (T p) < 48 := nI_nlt (b := 48) (by omega) (by omega)
        have a4 : (57 : Int32) < nI (T p) := nI_lt (a := 57) (by omega) (by omega)
        have a5 : ¬ T p ≤ 57 := by omega
        simp only [a1', a2', a3, a4, if_false, if_true, a1, a2, a5, and_false]; rfl
    · have a1' : nI (T p) < 97 := nI_lt (b := 97) (by omega) (by omega)
      by_cases a3 : 48 ≤ T p
      · have a3' : ¬ nI (T p) < 48 := nI_nlt (b := 48) a3 (by omega)
        by_cases a4 : T p ≤ 57
        · have a4' : ¬ (57 : Int32) < nI (T p) := nI_nlt (a := 57) a4 (by omega)
          simp only [a1', a3', a4', if_false, if_true, a1, a3, a4, false_and, and_self]; rfl
        · have a4' : (57 : Int32) < nI (T p) := nI_lt (a := 57) (by omega) (by omega)
          simp only [a1', a3', a4', if_false, if_true, a1, a3, a4, false_and, and_false]; rfl
      · have a3' : nI (T p) < 48 := nI_lt (b := 48) (by omega) (by omega)
        simp only [a1', a3', if_false, if_true, a1, a3, false_and]; rfl
  · have b0 : btN n T p = -1 := if_neg h
    have h0 : ¬ (0 : Int32) ≤ -1 := by decide
    have e1 : srt n T p = 1 := by rw [srt, if_pos (by omega)]
    rw [e1]
    simp only [b0, h0, if_false]; rfl
def isW (so : Nat) : Nat := if so = 3 then 1 else if so = 4 then 1 else 0
theorem D_isWord_ok {H : mH} (h : so < 2 ^ 31) : mres cT 104 d 0 (ment 1 [.int (nI so)]) [] H = some (some (.int (nI (isW so))), H) := by
  have e3 : (nI so = 3) = (so = 3) := propext (nI_eq (b := 3) h (by omega))
  have e4 : (nI so = 4) = (so = 4) := propext (nI_eq (b := 4) h (by omega))
  simp only [ment, mfl, List.length, List.replicate, List.cons_append, List.nil_append, Nat.reduceAdd, Nat.reduceSub]
  simp only [r_il0 c_D_isWord_0, r_ci c_D_isWord_1, r_iceq c_D_isWord_2, r_il0 c_D_isWord_5, r_ci c_D_isWord_6, r_icne c_D_isWord_7, r_ci c_D_isWord_10, r_goto c_D_isWord_11, r_ci c_D_isWord_14, r_zret c_D_isWord_15, ↓reduceIte, hs_h, Option.bind_some, mfix_i, mfix_r, mfix_n, mfix_a, Option.toList_some, Option.toList_none, List.cons_append, List.nil_append, List.singleton_append, e3, e4, mz0, mz1, ite_out, isW]
  repeat' split
  all_goals rfl
def skF (n : Nat) (T : Nat → Nat) : Nat → Nat → Nat
  | 0, p => p
  | f + 1, p => if p < n ∧ T p = 32 then skF n T f (p + 1) else p
def wnF (n : Nat) (T : Nat → Nat) (so : Nat) : Nat → Nat → Nat
  | 0, p => p
  | f + 1, p => if srt n T p = so then wnF n T so f (p + 1) else p
theorem skF_le : ∀ (f p : Nat), p ≤ n → p ≤ skF n T f p ∧ skF n T f p ≤ n
  | 0, p, h => ⟨Nat.le_refl p, h⟩
  | f + 1, p, h => by
    rw [skF]
    split
    · rename_i q
      have := skF_le f (p + 1) (by omega)
      omega
    · omega
theorem wnF_le (hso : so = 3 ∨ so = 4) : ∀ (f p : Nat), p ≤ n → p ≤ wnF n T so f p ∧ wnF n T so f p ≤ n
  | 0, p, h => ⟨Nat.le_refl p, h⟩
  | f + 1, p, h => by
    rw [wnF]
    split
    · rename_i q
      have : p < n := by
        rw [srt] at q
        split at q
        · omega
        · omega
      have := wnF_le hso f (p + 1) (by omega)
      omega
    · omega
def adv (n : Nat) (T : Nat → Nat) (σ : PT) : PT :=
  if srt n T (skF n T 97 σ.2.1) = 1 then (skF n T 97 σ.2.1, skF n T 97 σ.2.1, 1, σ.2.2.2)
  else if srt n T (skF n T 97 σ.2.1) = 2 then (skF n T 97 σ.2.1, skF n T 97 σ.2.1 + 1, 2, σ.2.2.2)
  else (skF n T 97 σ.2.1, wnF n T (srt n T (skF n T 97 σ.2.1)) 97 (skF n T 97 σ.2.1 + 1), if isW σ.2.2.1 = 1 ∧ skF n T 97 σ.2.1 = σ.2.1 then 5 else srt n T (skF n T 97 σ.2.1), σ.2.2.2)
theorem srt_c {q : Nat} : srt n T q = 1 ∨ srt n T q = 2 ∨ srt n T q = 3 ∨ srt n T q = 4 := by
  rw [srt]; repeat' split
  all_goals simp
end RDR
