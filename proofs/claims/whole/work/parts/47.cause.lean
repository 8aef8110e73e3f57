/-! the books: causes -/
section CAU
variable {E : EE} {S S' : SS} {d b k n : Nat} {c v x y day : Int32} {z t : Nat → Nat}
def wiS (x y w : Int32) : Int32 := if x < y then 0 else if w < x then 0 else 1
theorem X_within_ok {H : mH} {w : Int32} : mres cT 11 d 0 (ment 3 [.int x, .int y, .int w]) [] H = some (some (.int (wiS x y w)), H) := by
  simp only [ment, mfl, List.length, List.replicate, List.cons_append, List.nil_append, Nat.reduceAdd, Nat.reduceSub]
  simp only [r_il0 c_X_within_0, r_il1 c_X_within_1, r_iclt c_X_within_2, r_il0 c_X_within_5, r_il2 c_X_within_6, r_icgt c_X_within_7, r_ci c_X_within_10, r_goto c_X_within_11, r_ci c_X_within_14, r_zret c_X_within_15, ↓reduceIte, hs_h, Option.bind_some, mfix_i, mfix_r, mfix_n, mfix_a, Option.toList_some, Option.toList_none, List.cons_append, List.nil_append, List.singleton_append, mz0, mz1, ite_out, wiS]
theorem hp_ab (hE : okE E) : hp E S 3000001 = mx E.2.2.1 E.2.2.2 3000001 := by
  rw [hp, if_neg (by have := hE.2.1; omega)]
def abO : Nat → Option Nat
  | 0 => none
  | 1 => some 0
  | 2 => some 1
  | _ => some 0
def cdA (o : Option Nat) : Int32 := match o with
  | none => -1
  | some j => nI j
theorem ab_len (hE : okE E) : mlen (hp E S 3000001) = some 5 := by rw [hp_ab hE]; rfl
theorem ab_at (hE : okE E) {j : Nat} (hj : j < 5) : mia (hp E S 3000001) 0 10 (nI j) = some (cdA (abO j)) := by
  rw [hp_ab hE]
  match j, hj with
  | 0, _ => rfl
  | 1, _ => rfl
  | 2, _ => rfl
  | 3, _ => rfl
  | 4, _ => rfl
def udO : Nat → Option Nat → Int32 → Int32
  | 0, _, _ => 0
  | _ + 1, none, _ => 0
  | f + 1, some j, o => if nI j = o then 1 else udO f (abO j) o
theorem abO_lt {j : Nat} : ∀ i, abO j = some i → i < 5 := by
  intro i h
  match j, h with
  | 0, h => cases h
  | 1, h => cases h; decide
  | 2, h => cases h; decide
  | _ + 3, h => cases h; decide
theorem X_isUnder_ok (hE : okE E) (hk : k < 5) : mres cT 164 d 0 (ment 4 [.int (nI k), .int c]) [] (hs E S) = some (some (.int (udO 5 (some k) c)), hs E S) := by
  have h4 : nI 5 - 1 = nI 4 := nI_pm
  have w1 : wiS (-1) 0 (nI 4) = 0 := by decide
  have lp : ∀ f i (o : Option Nat), (∀ j, o = some j → j < 5) → i + f = 5 → mres cT 164 d 4 [.int (nI k), .int c, .int (cdA o), .int (nI i)] [] (hs E S) = some (some (.int (udO f o c)), hs E S) := by
    intro f
    induction f with
    | zero =>
      intro i o ho hi
      have h1 : (5 : Int32) ≤ nI i := nI_le (a := 5) (by omega) (by omega)
      simp only [r_il3 c_X_isUnder_4, r_ci c_X_isUnder_5, r_icge c_X_isUnder_6, r_ci c_X_isUnder_42, r_zret c_X_isUnder_43, ↓reduceIte, hs_h, Option.bind_some, mfix_i, mfix_r, mfix_n, mfix_a, Option.toList_some, Option.toList_none, List.cons_append, List.nil_append, List.singleton_append, h1, if_true, udO, mz0]
    | succ f ih =>
      intro i o ho hi
      have h1 : ¬ (5 : Int32) ≤ nI i := nI_ge (b := 5) (by omega) (by omega)
      simp only [r_il3 c_X_isUnder_4, r_ci c_X_isUnder_5, r_icge c_X_isUnder_6, ↓reduceIte, hs_h, Option.bind_some, mfix_i, mfix_r, mfix_n, mfix_a, Option.toList_some, Option.toList_none, List.cons_append, List.nil_append, List.singleton_append, h1]
      cases o with
      | none =>
        simp only [r_il2 c_X_isUnder_9, r_ci c_X_isUnder_10, r_cv c_X_isUnder_11, r_len c_X_isUnder_14, r_ci c_X_isUnder_15, r_isub c_X_isUnder_16, r_ca3 c_X_isUnder_17, r_ifeq c_X_isUnder_20, r_ci c_X_isUnder_42, r_zret c_X_isUnder_43, ↓reduceIte, hs_h, Option.bind_some, mfix_i, mfix_r, mfix_n, mfix_a, Option.toList_some, Option.toList_none, List.cons_append, List.nil_append, List.singleton_append, mwt, Value.category, Nat.reduceAdd, Nat.reduceLeDiff, true_and, and_true, and_self, ab_len hE, h4, X_within_ok, cdA, w1, if_true, udO, mz0]
      | some j =>
        have hj := ho j rfl
        have w2 : wiS (nI j) 0 (nI 4) = 1 := by
          rw [wiS, if_neg (nI_pos (by omega)), if_neg (nI_nlt (by omega) (by omega))]
        have ih := ih (i + 1) (abO j) (fun i h => abO_lt i h) (by omega)
        by_cases h : nI j = c
        · have w3 : wiS c 0 (nI 4) = 1 := h ▸ w2
          simp only [r_il2 c_X_isUnder_9, r_ci c_X_isUnder_10, r_cv c_X_isUnder_11, r_len c_X_isUnder_14, r_ci c_X_isUnder_15, r_isub c_X_isUnder_16, r_ca3 c_X_isUnder_17, r_ifeq c_X_isUnder_20, r_il2 c_X_isUnder_23, r_il1 c_X_isUnder_24, r_icne c_X_isUnder_25, r_ci c_X_isUnder_28, r_zret c_X_isUnder_29, r_cv c_X_isUnder_30, r_il2 c_X_isUnder_33, r_ial c_X_isUnder_34, r_is2 c_X_isUnder_35, r_inc3 c_X_isUnder_36, r_goto c_X_isUnder_39, ↓reduceIte, hs_h, Option.bind_some, mfix_i, mfix_r, mfix_n, mfix_a, Option.toList_some, Option.toList_none, List.cons_append, List.nil_append, List.singleton_append, mwt, Value.category, Nat.reduceAdd, Nat.reduceLeDiff, true_and, and_true, and_self, ab_len hE, h4, X_within_ok, cdA, w3, one_nz, if_false, udO, mz1, h, if_true]
        · have e : cdA (some j) = nI j := rfl
          simp only [r_il2 c_X_isUnder_9, r_ci c_X_isUnder_10, r_cv c_X_isUnder_11, r_len c_X_isUnder_14, r_ci c_X_isUnder_15, r_isub c_X_isUnder_16, r_ca3 c_X_isUnder_17, r_ifeq c_X_isUnder_20, r_il2 c_X_isUnder_23, r_il1 c_X_isUnder_24, r_icne c_X_isUnder_25, r_ci c_X_isUnder_28, r_zret c_X_isUnder_29, r_cv c_X_isUnder_30, r_il2 c_X_isUnder_33, r_ial c_X_isUnder_34, r_is2 c_X_isUnder_35, r_inc3 c_X_isUnder_36, r_goto c_X_isUnder_39, ↓reduceIte, hs_h, Option.bind_some, mfix_i, mfix_r, mfix_n, mfix_a, Option.toList_some, Option.toList_none, List.cons_append, List.nil_append, List.singleton_append, mwt, Value.category, Nat.reduceAdd, Nat.reduceLeDiff, true_and, and_true, and_self, ab_len hE, h4, X_within_ok, e, w2, one_nz, if_false, udO, h, ab_at hE hj, nI_1, ih]
  simp only [ment, mfl, List.length, List.replicate, List.cons_append, List.nil_append, Nat.reduceAdd, Nat.reduceSub]
  simp only [r_il0 c_X_isUnder_0, r_is2 c_X_isUnder_1, r_ci c_X_isUnder_2, r_is3 c_X_isUnder_3, ↓reduceIte, hs_h, Option.bind_some, mfix_i, mfix_r, mfix_n, mfix_a, Option.toList_some, Option.toList_none, List.cons_append, List.nil_append, List.singleton_append]
  exact lp 5 0 (some k) (fun j h => by cases h; exact hk) (by omega)
end CAU
