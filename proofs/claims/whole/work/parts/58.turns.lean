/-! the books: turns -/
section TURNS
variable {E : EE} {S S1 : SS} {d b p q r : Nat} {v : Int32}
def adT (S : SS) (b p : Nat) : SS := sA S (b + 6) (upd (iA S (b + 6)) (p * 4 + 3) (iA S (b + 6) (p * 4 + 3) + 1))
theorem B_takeTurns_ok (hE : okE E) (hb : bkb b) (h1 : v / 100 = nI p) (h2 : v / 10 - v / 10 / 10 * 10 = nI q) (h3 : v - v / 10 * 10 = nI r) (hp9 : p < 9) (hq9 : q < 9) (hr9 : r < 9) : mres cT 215 d 0 (ment 2 [.ref b, .int v]) [] (hs E S) = some (none, hs E (adT (adT (adT S b p) b q) b r)) := by
  have o0 := o_B hE hb
  have m0 : ∀ S, misc (hp E S b) 0 = true := fun S => misc_o o0
  have n1 : ¬ (100 : Int32) = 0 := by decide
  have n2 : ¬ (10 : Int32) = 0 := by decide
  have ad : ∀ (S : SS) (d k : Nat), k < 9 → mres cT 214 d 0 (ment 2 [.ref b, .int (nI k)]) [] (hs E S) = some (none, hs E (adT S b k)) := fun S d k hk => B_addTurn_ok hE hb hk
  simp only [ment, mfl, List.length, List.replicate, List.cons_append, List.nil_append, Nat.reduceAdd, Nat.reduceSub]
  simp only [r_al0 c_B_takeTurns_0, r_il1 c_B_takeTurns_1, r_ci c_B_takeTurns_2, r_idiv c_B_takeTurns_4 n1, r_cv2 c_B_takeTurns_5, r_al0 c_B_takeTurns_8, r_il1 c_B_takeTurns_9, r_ci c_B_takeTurns_10, r_idiv c_B_takeTurns_12 n2, r_ci c_B_takeTurns_13, r_irem c_B_takeTurns_15 n2, r_cv2 c_B_takeTurns_16, r_al0 c_B_takeTurns_19, r_il1 c_B_takeTurns_20, r_ci c_B_takeTurns_21, r_irem c_B_takeTurns_23 n2, r_cv2 c_B_takeTurns_24, r_vret c_B_takeTurns_27, ↓reduceIte, hs_h, Option.bind_some, mfix_i, mfix_r, mfix_n, mfix_a, Option.toList_some, Option.toList_none, List.cons_append, List.nil_append, List.singleton_append, mwt, Value.category, Nat.reduceAdd, Nat.reduceLeDiff, true_and, and_true, and_self, m0, h1, h2, h3, ad _ _ _ hp9, ad _ _ _ hq9, ad _ _ _ hr9]
end TURNS
