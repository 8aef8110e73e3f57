/-! the law: a rule -/
section RULE
variable {E : EE} {S : SS} {d b q n : Nat} {k v x0 x1 x2 x3 fo fk dy : Int32}
def cdO (o : Option Nat) : Int32 := match o with
  | none => -1000000005
  | some j => nI j
def ctH (S : SS) (t : Nat → Nat) (fo fk dy : Int32) (j : Nat) (s : Option Nat × Int32) : Option Nat × Int32 :=
  if ctS S (t j) fo fk dy = 0 then s else if s.2 ≤ iF S (t j) 2 then (some j, iF S (t j) 2) else s
def ctQ (S : SS) (t : Nat → Nat) (n : Nat) (fo fk dy : Int32) : Option Nat := (rfor (ctH S t fo fk dy) 0 n (none, -1)).1
theorem ct_g {t : Nat → Nat} : ∀ (m i : Nat) (o : Option Nat) (y : Int32), rfor (ctG S t fo fk dy) i m (cdO o, y) = (cdO (rfor (ctH S t fo fk dy) i m (o, y)).1, (rfor (ctH S t fo fk dy) i m (o, y)).2)
  | 0, _, _, _ => rfl
  | m + 1, i, o, y => by
    rw [rfor, rfor, ctG, ctH]
    by_cases h : ctS S (t i) fo fk dy = 0
    · rw [if_pos h, if_pos h]
      exact ct_g m (i + 1) o y
    · rw [if_neg h, if_neg h]
      by_cases h2 : y ≤ iF S (t i) 2
      · rw [if_pos h2, if_pos h2]
        exact ct_g m (i + 1) (some i) _
      · rw [if_neg h2, if_neg h2]
        exact ct_g m (i + 1) o y
theorem ct_q {t : Nat → Nat} : ctL S t n fo fk dy = cdO (ctQ S t n fo fk dy) := congrArg Prod.fst (ct_g n 0 none (-1))
theorem ct_lt {t : Nat → Nat} {j : Nat} : ∀ (m i : Nat) (s : Option Nat × Int32), (rfor (ctH S t fo fk dy) i m s).1 = some j → s.1 = some j ∨ j < i + m
  | 0, _, _, h => Or.inl h
  | m + 1, i, s, h => by
    rw [rfor] at h
    have h2 := ct_lt m (i + 1) _ h
    rcases h2 with h2 | h2
    · rw [ctH] at h2
      split at h2
      · exact Or.inl h2
      · split at h2
        · cases h2
          exact Or.inr (by omega)
        · exact Or.inl h2
    · exact Or.inr (by omega)
theorem ctQ_lt {t : Nat → Nat} {j : Nat} (h : ctQ S t n fo fk dy = some j) : j < n := by
  rcases ct_lt n 0 _ h with h | h
  · cases h
  · omega
def txw (S : SS) (n : Nat) (t : Nat → Nat) : Prop := ∀ j, j < n → (iF S (t j + 1) 0).toNatClampNeg ≤ 96 ∧ wfc (iA S (t j + 1)) (iF S (t j + 1) 0).toNatClampNeg
def rlG (S : SS) (b : Nat) (t : Nat → Nat) (j : Nat) (x0 x1 x2 x3 : Int32) : Nat → Int32 := evL (iA S (t j + 1)) (iF S (t j + 1) 0).toNatClampNeg x0 x1 x2 x3 (iA S (b + 25))
def rlV (S : SS) (b n : Nat) (t : Nat → Nat) (fo fk dy x0 x1 x2 x3 : Int32) : Int32 := hdS fk (match ctQ S t n fo fk dy with
  | none => unS fk x0
  | some j => rlG S b t j x0 x1 x2 x3 0)
def rlS (S : SS) (b n : Nat) (t : Nat → Nat) (fo fk dy x0 x1 x2 x3 : Int32) : SS := match ctQ S t n fo fk dy with
  | none => S
  | some j => stk S b (rlG S b t j x0 x1 x2 x3) 0
theorem hp_T (hq : 109 ≤ q) (h2 : q % 2 = 1) (h3 : q + 1 < E.1) : hp E S (q + 1) = shI 0 (iF S (q + 1) 0).toNatClampNeg (S (q + 1)) := by
  rw [hp, if_pos h3, shp, if_neg (by omega), if_neg (by omega), if_neg (by omega), if_neg (by omega), if_neg (by omega), shT, if_neg (by omega)]
theorem L_ruleOf_ok (hE : okE E) (hb : bkb b) (hn : iF S (b + 22) 1 = nI n) (hn2 : n ≤ 16) {t : Nat → Nat} (ht : txs E S b n t) (hw : txw S n t) : mres cT 85 d 0 (ment 9 [.ref (b + 22), .int fo, .int fk, .int dy, .int x0, .int x1, .int x2, .int x3]) [] (hs E S) = some (some (.int (rlV S b n t fo fk dy x0 x1 x2 x3)), hs E (rlS S b n t fo fk dy x0 x1 x2 x3)) := by
  have o1 := o_L hE hb
  have m1 : misc (hp E S (b + 22)) 1 = true := misc_o o1
  simp only [ment, mfl, List.length, List.replicate, List.cons_append, List.nil_append, Nat.reduceAdd, Nat.reduceSub]
  rw [rlV, rlS]
  cases h : ctQ S t n fo fk dy with
  | none =>
    have hc : ctL S t n fo fk dy = -1000000005 := by rw [ct_q, h]; rfl
    simp only [r_al0 c_L_ruleOf_0, r_an0 c_L_ruleOf_0, r_al0 c_L_ruleOf_1, r_an0 c_L_ruleOf_1, r_il1 c_L_ruleOf_2, r_il2 c_L_ruleOf_3, r_il3 c_L_ruleOf_4, r_cv4 c_L_ruleOf_5, r_cv2 c_L_ruleOf_8, r_as8 c_L_ruleOf_11, r_asn8 c_L_ruleOf_11, r_il2 c_L_ruleOf_13, r_al8 c_L_ruleOf_14, r_an8 c_L_ruleOf_14, r_ifnonnull_r c_L_ruleOf_16, r_ifnonnull_n c_L_ruleOf_16, r_il2 c_L_ruleOf_19, r_il4 c_L_ruleOf_20, r_ca2 c_L_ruleOf_22, r_goto c_L_ruleOf_25, r_al8 c_L_ruleOf_28, r_an8 c_L_ruleOf_28, r_al0 c_L_ruleOf_30, r_an0 c_L_ruleOf_30, r_gfSr c_L_ruleOf_31 o1 rfl, r_il4 c_L_ruleOf_34, r_il5 c_L_ruleOf_36, r_il6 c_L_ruleOf_38, r_il7 c_L_ruleOf_40, r_cv6 c_L_ruleOf_42, r_ca2 c_L_ruleOf_45, r_iret c_L_ruleOf_48, ↓reduceIte, hs_h, Option.bind_some, mfix_i, mfix_r, mfix_n, mfix_a, Option.toList_some, Option.toList_none, List.cons_append, List.nil_append, List.singleton_append, mwt, Value.category, Nat.reduceAdd, Nat.reduceLeDiff, true_and, and_true, and_self, m1, L_countingText_ok hE hb hn hn2 ht, hc, textAt_n hE hb hn hn2 (Or.inl (show (-1000000005 : Int32) < 0 by decide)), L_unwritten_ok, L_held_ok]
  | some j =>
    have hc : ctL S t n fo fk dy = nI j := by rw [ct_q, h]; rfl
    have hj := ctQ_lt h
    obtain ⟨tq, t1, t2, t3⟩ := ht j hj
    have o6 : isO E (t j) 6 [0, 0, 0, 0, t j + 3] := o_T t1 t2 (by omega)
    have m6 : misc (hp E S (t j)) 6 = true := misc_o o6
    simp only [r_al0 c_L_ruleOf_0, r_an0 c_L_ruleOf_0, r_al0 c_L_ruleOf_1, r_an0 c_L_ruleOf_1, r_il1 c_L_ruleOf_2, r_il2 c_L_ruleOf_3, r_il3 c_L_ruleOf_4, r_cv4 c_L_ruleOf_5, r_cv2 c_L_ruleOf_8, r_as8 c_L_ruleOf_11, r_asn8 c_L_ruleOf_11, r_il2 c_L_ruleOf_13, r_al8 c_L_ruleOf_14, r_an8 c_L_ruleOf_14, r_ifnonnull_r c_L_ruleOf_16, r_ifnonnull_n c_L_ruleOf_16, r_il2 c_L_ruleOf_19, r_il4 c_L_ruleOf_20, r_ca2 c_L_ruleOf_22, r_goto c_L_ruleOf_25, r_al8 c_L_ruleOf_28, r_an8 c_L_ruleOf_28, r_al0 c_L_ruleOf_30, r_an0 c_L_ruleOf_30, r_gfSr c_L_ruleOf_31 o1 rfl, r_il4 c_L_ruleOf_34, r_il5 c_L_ruleOf_36, r_il6 c_L_ruleOf_38, r_il7 c_L_ruleOf_40, r_cv6 c_L_ruleOf_42, r_ca2 c_L_ruleOf_45, r_iret c_L_ruleOf_48, ↓reduceIte, hs_h, Option.bind_some, mfix_i, mfix_r, mfix_n, mfix_a, Option.toList_some, Option.toList_none, List.cons_append, List.nil_append, List.singleton_append, mwt, Value.category, Nat.reduceAdd, Nat.reduceLeDiff, true_and, and_true, and_self, m1, m6, L_countingText_ok hE hb hn hn2 ht, hc, textAt_s hE hb hn hn2 hj tq, T_value_ok hE hb o6 t1 (hp_T t1 t2 t3) (hw j hj).1 (hw j hj).2, L_held_ok, rlG]
end RULE
