/-! the cells of books at b; what their rows answer -/
def isO (E : EE) (a ci : Nat) (ks : List Nat) : Prop := (∀ S : SS, hp E S a = shO ci ks (S a)) ∧ a < E.1
theorem sho_at {ci k : Nat} {ks : List Nat} {c : Cel} : mfld (shO ci ks c) ci k = (ks[k]?).map (fun z => kval c z k) := by
  rw [shO, mfld_at, List.getElem?_map, List.getElem?_zipIdx]
  cases ks[k]? <;> simp
theorem sho_set {ci k : Nat} {ks : List Nat} {c : Cel} {v : Int32} (hk : ks[k]? = some 0) : mfset (shO ci ks c) ci k (.int v) = some (shO ci ks (upd c.1 k v, c.2)) := by
  have hl : k < ks.length := (List.getElem?_eq_some_iff.mp hk).1
  rw [shO, mfset_at (by simpa using hl)]
  refine congrArg (fun z => some (Sum.inr (ci, z))) ?_
  apply List.ext_getElem?
  intro j
  rw [List.getElem?_set, List.getElem?_map, List.getElem?_zipIdx, List.getElem?_map, List.getElem?_zipIdx]
  by_cases h : k = j
  · subst h
    rw [if_pos rfl, if_pos (by simpa using hl), hk]
    simp [kval, upd]
  · rw [if_neg h]
    cases hz : ks[j]? with
    | none => simp
    | some z =>
      have h2 : ¬ j = k := fun e => h e.symm
      match z with
      | 0 => simp [kval, upd, h2]
      | 1 => simp [kval, upd, h2]
      | r + 2 => simp [kval]
section BOOKS
variable {T : Nat → Nat → mF} {M pc n : Nat} {ls : mL} {st : List Value} {E : EE} {S : SS} {d b a ci k : Nat} {ks : List Nat} {row col v x0 x1 x2 x3 : Int32}
theorem r_gfS0 (h : T M pc = o_gf n ci k) (o : isO E a ci ks) (hk : ks[k]? = some 0) : mres T M d pc ls (.ref a :: st) (hs E S) = mres T M d n ls (.int (iF S a k) :: st) (hs E S) := by
  rw [r_gf h, hs_h, o.1 S, sho_at, hk]; rfl
theorem r_gfSr {r : Nat} (h : T M pc = o_gf n ci k) (o : isO E a ci ks) (hk : ks[k]? = some (r + 2)) : mres T M d pc ls (.ref a :: st) (hs E S) = mres T M d n ls (.ref r :: st) (hs E S) := by
  rw [r_gf h, hs_h, o.1 S, sho_at, hk]; rfl
theorem r_gfS1 (h : T M pc = o_gf n ci k) (o : isO E a ci ks) (hk : ks[k]? = some 1) : mres T M d pc ls (.ref a :: st) (hs E S) = mres T M d n ls (.ref (iF S a k).toNatClampNeg :: st) (hs E S) := by
  rw [r_gf h, hs_h, o.1 S, sho_at, hk]; rfl
theorem hs_o (o : isO E a ci ks) (hk : ks[k]? = some 0) : mset (hs E S) a (shO ci ks (upd (S a).1 k v, (S a).2)) = hs E (sF S a k v) := by
  refine hs_set o.2 ?_
  rw [o.1, va_up, if_pos rfl]
theorem r_pfS (h : T M pc = o_pf n ci k 0) (o : isO E a ci ks) (hk : ks[k]? = some 0) : mres T M d pc ls (.int v :: .ref a :: st) (hs E S) = mres T M d n ls st (hs E (sF S a k v)) := by
  rw [r_pf h rfl, hs_h, o.1 S, sho_set hk, Option.bind_some, hs_o o hk]
theorem r_pfZ (h : T M pc = o_pf n ci k 1) (o : isO E a ci ks) (hk : ks[k]? = some 0) (hv : v = 0 ∨ v = 1) : mres T M d pc ls (.int v :: .ref a :: st) (hs E S) = mres T M d n ls st (hs E (sF S a k v)) := by
  rw [r_pf h (by rcases hv with rfl | rfl <;> rfl), hs_h, o.1 S, sho_set hk, Option.bind_some, hs_o o hk]
theorem misc_o (o : isO E a ci ks) : misc (hp E S a) ci = true := by rw [o.1 S, shO]; simp [misc]
theorem misc_w {lim wid r : Nat} (h : isR E lim wid r) : misc (hp E S r) 2 = true := by rw [(h.1 S).1, shW]; simp [misc]
theorem r_gfR3 {lim wid r : Nat} (h : T M pc = o_gf n 2 3) (o : isR E lim wid r) : mres T M d pc ls (.ref r :: st) (hs E S) = mres T M d n ls (.int (iF S r 3) :: st) (hs E S) := by
  rw [r_gf h, hs_h, (o.1 S).1, shW, mfld_at]; rfl
theorem r_gfR0 {lim wid r : Nat} (h : T M pc = o_gf n 2 0) (o : isR E lim wid r) : mres T M d pc ls (.ref r :: st) (hs E S) = mres T M d n ls (.int (nI lim) :: st) (hs E S) := by
  rw [r_gf h, hs_h, (o.1 S).1, shW, mfld_at]; rfl
theorem bkb_lt (hb : bkb b) : b ≤ 53 := by rcases hb with rfl | rfl | rfl <;> omega
theorem o_B (hE : okE E) (hb : bkb b) : isO E b 0 [b + 3, b + 5, b + 7, b + 9, b + 11, b + 13, b + 15, b + 24, 0, 0, 0, 0] := ⟨fun S => hp_b (o := 0) hE hb (by omega), by have := bkb_lt hb; have := hE.1; omega⟩
theorem o_I (hE : okE E) (hb : bkb b) : isO E (b + 13) 8 [b + 16, b + 18, b + 20, b + 22] := ⟨fun S => hp_b hE hb (by omega), by have := bkb_lt hb; have := hE.1; omega⟩
theorem o_L (hE : okE E) (hb : bkb b) : isO E (b + 22) 1 [b + 25, 0, b + 26] := ⟨fun S => hp_b hE hb (by omega), by have := bkb_lt hb; have := hE.1; omega⟩
theorem o_K (hE : okE E) (hb : bkb b) : isO E (b + 24) 4 [b + 27, 0] := ⟨fun S => hp_b hE hb (by omega), by have := bkb_lt hb; have := hE.1; omega⟩
theorem w_1 (hE : okE E) (hb : bkb b) : isR E 12 6 (b + 1) := ⟨fun S => ⟨hp_b hE hb (by omega), hp_b (o := 2) hE hb (by omega)⟩, by have := bkb_lt hb; have := hE.1; omega, by decide, by decide⟩
theorem at_1 (hE : okE E) (hb : bkb b) : mres cT 22 d 0 (ment 4 [.ref (b + 1), .int row, .int col]) [] (hs E S) = some (some (.int (rwAt 12 6 (iA S (b + 2)) row col)), hs E S) := R_at_ok (w_1 hE hb)
theorem put_1 (hE : okE E) (hb : bkb b) : mres cT 13 d 0 (ment 5 [.ref (b + 1), .int row, .int col, .int v]) [] (hs E S) = some (none, hs E (rwPut S (b + 1) 12 6 row col v)) := R_put_ok (w_1 hE hb)
theorem has_1 (hE : okE E) (hb : bkb b) : mres cT 21 d 0 (ment 2 [.ref (b + 1), .int row]) [] (hs E S) = some (some (.int (if row < 0 ∨ iF S (b + 1) 3 ≤ row then 0 else 1)), hs E S) := R_has_ok (w_1 hE hb)
theorem full_1 (hE : okE E) (hb : bkb b) : mres cT 12 d 0 (ment 1 [.ref (b + 1)]) [] (hs E S) = some (some (.int (if nI 12 ≤ iF S (b + 1) 3 then 1 else 0)), hs E S) := R_isFull_ok (w_1 hE hb)
theorem exch_1 (hE : okE E) (hb : bkb b) : mres cT 38 d 0 (ment 5 [.ref (b + 1), .int row, .int col, .int v]) [] (hs E S) = some (some (.int (rwAt 12 6 (iA S (b + 2)) row col)), hs E (rwPut S (b + 1) 12 6 row col v)) := R_exchange_ok (w_1 hE hb)
theorem more_1 {q : Nat} (hE : okE E) (hb : bkb b) (hk : iF S (b + 1) 3 = nI q) (hk2 : q < 12) : mres cT 14 d 0 (ment 7 [.ref (b + 1), .int x0, .int x1, .int x2, .int x3]) [] (hs E S) = some (some (.int (nI q)), hs E (sA (sF S (b + 1) 3 (nI (q + 1))) (b + 2) (rowSet (iA S (b + 2)) (q * 6) 6 [x0, x1, x2, x3]))) := R_more_ok (w_1 hE hb) hk hk2 (by decide)
theorem w_3 (hE : okE E) (hb : bkb b) : isR E 40 4 (b + 3) := ⟨fun S => ⟨hp_b hE hb (by omega), hp_b (o := 4) hE hb (by omega)⟩, by have := bkb_lt hb; have := hE.1; omega, by decide, by decide⟩
theorem at_3 (hE : okE E) (hb : bkb b) : mres cT 22 d 0 (ment 4 [.ref (b + 3), .int row, .int col]) [] (hs E S) = some (some (.int (rwAt 40 4 (iA S (b + 4)) row col)), hs E S) := R_at_ok (w_3 hE hb)
theorem put_3 (hE : okE E) (hb : bkb b) : mres cT 13 d 0 (ment 5 [.ref (b + 3), .int row, .int col, .int v]) [] (hs E S) = some (none, hs E (rwPut S (b + 3) 40 4 row col v)) := R_put_ok (w_3 hE hb)
theorem has_3 (hE : okE E) (hb : bkb b) : mres cT 21 d 0 (ment 2 [.ref (b + 3), .int row]) [] (hs E S) = some (some (.int (if row < 0 ∨ iF S (b + 3) 3 ≤ row then 0 else 1)), hs E S) := R_has_ok (w_3 hE hb)
theorem full_3 (hE : okE E) (hb : bkb b) : mres cT 12 d 0 (ment 1 [.ref (b + 3)]) [] (hs E S) = some (some (.int (if nI 40 ≤ iF S (b + 3) 3 then 1 else 0)), hs E S) := R_isFull_ok (w_3 hE hb)
theorem exch_3 (hE : okE E) (hb : bkb b) : mres cT 38 d 0 (ment 5 [.ref (b + 3), .int row, .int col, .int v]) [] (hs E S) = some (some (.int (rwAt 40 4 (iA S (b + 4)) row col)), hs E (rwPut S (b + 3) 40 4 row col v)) := R_exchange_ok (w_3 hE hb)
theorem more_3 {q : Nat} (hE : okE E) (hb : bkb b) (hk : iF S (b + 3) 3 = nI q) (hk2 : q < 40) : mres cT 14 d 0 (ment 7 [.ref (b + 3), .int x0, .int x1, .int x2, .int x3]) [] (hs E S) = some (some (.int (nI q)), hs E (sA (sF S (b + 3) 3 (nI (q + 1))) (b + 4) (rowSet (iA S (b + 4)) (q * 4) 4 [x0, x1, x2, x3]))) := R_more_ok (w_3 hE hb) hk hk2 (by decide)
theorem w_5 (hE : okE E) (hb : bkb b) : isR E 9 4 (b + 5) := ⟨fun S => ⟨hp_b hE hb (by omega), hp_b (o := 6) hE hb (by omega)⟩, by have := bkb_lt hb; have := hE.1; omega, by decide, by decide⟩
theorem at_5 (hE : okE E) (hb : bkb b) : mres cT 22 d 0 (ment 4 [.ref (b + 5), .int row, .int col]) [] (hs E S) = some (some (.int (rwAt 9 4 (iA S (b + 6)) row col)), hs E S) := R_at_ok (w_5 hE hb)
theorem put_5 (hE : okE E) (hb : bkb b) : mres cT 13 d 0 (ment 5 [.ref (b + 5), .int row, .int col, .int v]) [] (hs E S) = some (none, hs E (rwPut S (b + 5) 9 4 row col v)) := R_put_ok (w_5 hE hb)
theorem has_5 (hE : okE E) (hb : bkb b) : mres cT 21 d 0 (ment 2 [.ref (b + 5), .int row]) [] (hs E S) = some (some (.int (if row < 0 ∨ iF S (b + 5) 3 ≤ row then 0 else 1)), hs E S) := R_has_ok (w_5 hE hb)
theorem full_5 (hE : okE E) (hb : bkb b) : mres cT 12 d 0 (ment 1 [.ref (b + 5)]) [] (hs E S) = some (some (.int (if nI 9 ≤ iF S (b + 5) 3 then 1 else 0)), hs E S) := R_isFull_ok (w_5 hE hb)
theorem exch_5 (hE : okE E) (hb : bkb b) : mres cT 38 d 0 (ment 5 [.ref (b + 5), .int row, .int col, .int v]) [] (hs E S) = some (some (.int (rwAt 9 4 (iA S (b + 6)) row col)), hs E (rwPut S (b + 5) 9 4 row col v)) := R_exchange_ok (w_5 hE hb)
theorem more_5 {q : Nat} (hE : okE E) (hb : bkb b) (hk : iF S (b + 5) 3 = nI q) (hk2 : q < 9) : mres cT 14 d 0 (ment 7 [.ref (b + 5), .int x0, .int x1, .int x2, .int x3]) [] (hs E S) = some (some (.int (nI q)), hs E (sA (sF S (b + 5) 3 (nI (q + 1))) (b + 6) (rowSet (iA S (b + 6)) (q * 4) 4 [x0, x1, x2, x3]))) := R_more_ok (w_5 hE hb) hk hk2 (by decide)
theorem w_7 (hE : okE E) (hb : bkb b) : isR E 30 5 (b + 7) := ⟨fun S => ⟨hp_b hE hb (by omega), hp_b (o := 8) hE hb (by omega)⟩, by have := bkb_lt hb; have := hE.1; omega, by decide, by decide⟩
theorem at_7 (hE : okE E) (hb : bkb b) : mres cT 22 d 0 (ment 4 [.ref (b + 7), .int row, .int col]) [] (hs E S) = some (some (.int (rwAt 30 5 (iA S (b + 8)) row col)), hs E S) := R_at_ok (w_7 hE hb)
theorem put_7 (hE : okE E) (hb : bkb b) : mres cT 13 d 0 (ment 5 [.ref (b + 7), .int row, .int col, .int v]) [] (hs E S) = some (none, hs E (rwPut S (b + 7) 30 5 row col v)) := R_put_ok (w_7 hE hb)
theorem has_7 (hE : okE E) (hb : bkb b) : mres cT 21 d 0 (ment 2 [.ref (b + 7), .int row]) [] (hs E S) = some (some (.int (if row < 0 ∨ iF S (b + 7) 3 ≤ row then 0 else 1)), hs E S) := R_has_ok (w_7 hE hb)
theorem full_7 (hE : okE E) (hb : bkb b) : mres cT 12 d 0 (ment 1 [.ref (b + 7)]) [] (hs E S) = some (some (.int (if nI 30 ≤ iF S (b + 7) 3 then 1 else 0)), hs E S) := R_isFull_ok (w_7 hE hb)
theorem exch_7 (hE : okE E) (hb : bkb b) : mres cT 38 d 0 (ment 5 [.ref (b + 7), .int row, .int col, .int v]) [] (hs E S) = some (some (.int (rwAt 30 5 (iA S (b + 8)) row col)), hs E (rwPut S (b + 7) 30 5 row col v)) := R_exchange_ok (w_7 hE hb)
theorem more_7 {q : Nat} (hE : okE E) (hb : bkb b) (hk : iF S (b + 7) 3 = nI q) (hk2 : q < 30) : mres cT 14 d 0 (ment 7 [.ref (b + 7), .int x0, .int x1, .int x2, .int x3]) [] (hs E S) = some (some (.int (nI q)), hs E (sA (sF S (b + 7) 3 (nI (q + 1))) (b + 8) (rowSet (iA S (b + 8)) (q * 5) 5 [x0, x1, x2, x3]))) := R_more_ok (w_7 hE hb) hk hk2 (by decide)
theorem w_9 (hE : okE E) (hb : bkb b) : isR E 8 3 (b + 9) := ⟨fun S => ⟨hp_b hE hb (by omega), hp_b (o := 10) hE hb (by omega)⟩, by have := bkb_lt hb; have := hE.1; omega, by decide, by decide⟩
theorem at_9 (hE : okE E) (hb : bkb b) : mres cT 22 d 0 (ment 4 [.ref (b + 9), .int row, .int col]) [] (hs E S) = some (some (.int (rwAt 8 3 (iA S (b + 10)) row col)), hs E S) := R_at_ok (w_9 hE hb)
theorem put_9 (hE : okE E) (hb : bkb b) : mres cT 13 d 0 (ment 5 [.ref (b + 9), .int row, .int col, .int v]) [] (hs E S) = some (none, hs E (rwPut S (b + 9) 8 3 row col v)) := R_put_ok (w_9 hE hb)
theorem has_9 (hE : okE E) (hb : bkb b) : mres cT 21 d 0 (ment 2 [.ref (b + 9), .int row]) [] (hs E S) = some (some (.int (if row < 0 ∨ iF S (b + 9) 3 ≤ row then 0 else 1)), hs E S) := R_has_ok (w_9 hE hb)
theorem full_9 (hE : okE E) (hb : bkb b) : mres cT 12 d 0 (ment 1 [.ref (b + 9)]) [] (hs E S) = some (some (.int (if nI 8 ≤ iF S (b + 9) 3 then 1 else 0)), hs E S) := R_isFull_ok (w_9 hE hb)
theorem exch_9 (hE : okE E) (hb : bkb b) : mres cT 38 d 0 (ment 5 [.ref (b + 9), .int row, .int col, .int v]) [] (hs E S) = some (some (.int (rwAt 8 3 (iA S (b + 10)) row col)), hs E (rwPut S (b + 9) 8 3 row col v)) := R_exchange_ok (w_9 hE hb)
theorem more_9 {q : Nat} (hE : okE E) (hb : bkb b) (hk : iF S (b + 9) 3 = nI q) (hk2 : q < 8) : mres cT 14 d 0 (ment 7 [.ref (b + 9), .int x0, .int x1, .int x2, .int x3]) [] (hs E S) = some (some (.int (nI q)), hs E (sA (sF S (b + 9) 3 (nI (q + 1))) (b + 10) (rowSet (iA S (b + 10)) (q * 3) 3 [x0, x1, x2, x3]))) := R_more_ok (w_9 hE hb) hk hk2 (by decide)
theorem w_11 (hE : okE E) (hb : bkb b) : isR E 5 1 (b + 11) := ⟨fun S => ⟨hp_b hE hb (by omega), hp_b (o := 12) hE hb (by omega)⟩, by have := bkb_lt hb; have := hE.1; omega, by decide, by decide⟩
theorem at_11 (hE : okE E) (hb : bkb b) : mres cT 22 d 0 (ment 4 [.ref (b + 11), .int row, .int col]) [] (hs E S) = some (some (.int (rwAt 5 1 (iA S (b + 12)) row col)), hs E S) := R_at_ok (w_11 hE hb)
theorem put_11 (hE : okE E) (hb : bkb b) : mres cT 13 d 0 (ment 5 [.ref (b + 11), .int row, .int col, .int v]) [] (hs E S) = some (none, hs E (rwPut S (b + 11) 5 1 row col v)) := R_put_ok (w_11 hE hb)
theorem has_11 (hE : okE E) (hb : bkb b) : mres cT 21 d 0 (ment 2 [.ref (b + 11), .int row]) [] (hs E S) = some (some (.int (if row < 0 ∨ iF S (b + 11) 3 ≤ row then 0 else 1)), hs E S) := R_has_ok (w_11 hE hb)
theorem full_11 (hE : okE E) (hb : bkb b) : mres cT 12 d 0 (ment 1 [.ref (b + 11)]) [] (hs E S) = some (some (.int (if nI 5 ≤ iF S (b + 11) 3 then 1 else 0)), hs E S) := R_isFull_ok (w_11 hE hb)
theorem exch_11 (hE : okE E) (hb : bkb b) : mres cT 38 d 0 (ment 5 [.ref (b + 11), .int row, .int col, .int v]) [] (hs E S) = some (some (.int (rwAt 5 1 (iA S (b + 12)) row col)), hs E (rwPut S (b + 11) 5 1 row col v)) := R_exchange_ok (w_11 hE hb)
theorem w_14 (hE : okE E) (hb : bkb b) : isR E 24 3 (b + 14) := ⟨fun S => ⟨hp_b hE hb (by omega), hp_b (o := 15) hE hb (by omega)⟩, by have := bkb_lt hb; have := hE.1; omega, by decide, by decide⟩
theorem at_14 (hE : okE E) (hb : bkb b) : mres cT 22 d 0 (ment 4 [.ref (b + 14), .int row, .int col]) [] (hs E S) = some (some (.int (rwAt 24 3 (iA S (b + 15)) row col)), hs E S) := R_at_ok (w_14 hE hb)
theorem put_14 (hE : okE E) (hb : bkb b) : mres cT 13 d 0 (ment 5 [.ref (b + 14), .int row, .int col, .int v]) [] (hs E S) = some (none, hs E (rwPut S (b + 14) 24 3 row col v)) := R_put_ok (w_14 hE hb)
theorem has_14 (hE : okE E) (hb : bkb b) : mres cT 21 d 0 (ment 2 [.ref (b + 14), .int row]) [] (hs E S) = some (some (.int (if row < 0 ∨ iF S (b + 14) 3 ≤ row then 0 else 1)), hs E S) := R_has_ok (w_14 hE hb)
theorem full_14 (hE : okE E) (hb : bkb b) : mres cT 12 d 0 (ment 1 [.ref (b + 14)]) [] (hs E S) = some (some (.int (if nI 24 ≤ iF S (b + 14) 3 then 1 else 0)), hs E S) := R_isFull_ok (w_14 hE hb)
theorem exch_14 (hE : okE E) (hb : bkb b) : mres cT 38 d 0 (ment 5 [.ref (b + 14), .int row, .int col, .int v]) [] (hs E S) = some (some (.int (rwAt 24 3 (iA S (b + 15)) row col)), hs E (rwPut S (b + 14) 24 3 row col v)) := R_exchange_ok (w_14 hE hb)
theorem more_14 {q : Nat} (hE : okE E) (hb : bkb b) (hk : iF S (b + 14) 3 = nI q) (hk2 : q < 24) : mres cT 14 d 0 (ment 7 [.ref (b + 14), .int x0, .int x1, .int x2, .int x3]) [] (hs E S) = some (some (.int (nI q)), hs E (sA (sF S (b + 14) 3 (nI (q + 1))) (b + 15) (rowSet (iA S (b + 15)) (q * 3) 3 [x0, x1, x2, x3]))) := R_more_ok (w_14 hE hb) hk hk2 (by decide)
theorem w_16 (hE : okE E) (hb : bkb b) : isR E 30 3 (b + 16) := ⟨fun S => ⟨hp_b hE hb (by omega), hp_b (o := 17) hE hb (by omega)⟩, by have := bkb_lt hb; have := hE.1; omega, by decide, by decide⟩
theorem at_16 (hE : okE E) (hb : bkb b) : mres cT 22 d 0 (ment 4 [.ref (b + 16), .int row, .int col]) [] (hs E S) = some (some (.int (rwAt 30 3 (iA S (b + 17)) row col)), hs E S) := R_at_ok (w_16 hE hb)
theorem put_16 (hE : okE E) (hb : bkb b) : mres cT 13 d 0 (ment 5 [.ref (b + 16), .int row, .int col, .int v]) [] (hs E S) = some (none, hs E (rwPut S (b + 16) 30 3 row col v)) := R_put_ok (w_16 hE hb)
theorem has_16 (hE : okE E) (hb : bkb b) : mres cT 21 d 0 (ment 2 [.ref (b + 16), .int row]) [] (hs E S) = some (some (.int (if row < 0 ∨ iF S (b + 16) 3 ≤ row then 0 else 1)), hs E S) := R_has_ok (w_16 hE hb)
theorem full_16 (hE : okE E) (hb : bkb b) : mres cT 12 d 0 (ment 1 [.ref (b + 16)]) [] (hs E S) = some (some (.int (if nI 30 ≤ iF S (b + 16) 3 then 1 else 0)), hs E S) := R_isFull_ok (w_16 hE hb)
theorem exch_16 (hE : okE E) (hb : bkb b) : mres cT 38 d 0 (ment 5 [.ref (b + 16), .int row, .int col, .int v]) [] (hs E S) = some (some (.int (rwAt 30 3 (iA S (b + 17)) row col)), hs E (rwPut S (b + 16) 30 3 row col v)) := R_exchange_ok (w_16 hE hb)
theorem more_16 {q : Nat} (hE : okE E) (hb : bkb b) (hk : iF S (b + 16) 3 = nI q) (hk2 : q < 30) : mres cT 14 d 0 (ment 7 [.ref (b + 16), .int x0, .int x1, .int x2, .int x3]) [] (hs E S) = some (some (.int (nI q)), hs E (sA (sF S (b + 16) 3 (nI (q + 1))) (b + 17) (rowSet (iA S (b + 17)) (q * 3) 3 [x0, x1, x2, x3]))) := R_more_ok (w_16 hE hb) hk hk2 (by decide)
theorem w_18 (hE : okE E) (hb : bkb b) : isR E 20 3 (b + 18) := ⟨fun S => ⟨hp_b hE hb (by omega), hp_b (o := 19) hE hb (by omega)⟩, by have := bkb_lt hb; have := hE.1; omega, by decide, by decide⟩
theorem at_18 (hE : okE E) (hb : bkb b) : mres cT 22 d 0 (ment 4 [.ref (b + 18), .int row, .int col]) [] (hs E S) = some (some (.int (rwAt 20 3 (iA S (b + 19)) row col)), hs E S) := R_at_ok (w_18 hE hb)
theorem put_18 (hE : okE E) (hb : bkb b) : mres cT 13 d 0 (ment 5 [.ref (b + 18), .int row, .int col, .int v]) [] (hs E S) = some (none, hs E (rwPut S (b + 18) 20 3 row col v)) := R_put_ok (w_18 hE hb)
theorem has_18 (hE : okE E) (hb : bkb b) : mres cT 21 d 0 (ment 2 [.ref (b + 18), .int row]) [] (hs E S) = some (some (.int (if row < 0 ∨ iF S (b + 18) 3 ≤ row then 0 else 1)), hs E S) := R_has_ok (w_18 hE hb)
theorem full_18 (hE : okE E) (hb : bkb b) : mres cT 12 d 0 (ment 1 [.ref (b + 18)]) [] (hs E S) = some (some (.int (if nI 20 ≤ iF S (b + 18) 3 then 1 else 0)), hs E S) := R_isFull_ok (w_18 hE hb)
theorem exch_18 (hE : okE E) (hb : bkb b) : mres cT 38 d 0 (ment 5 [.ref (b + 18), .int row, .int col, .int v]) [] (hs E S) = some (some (.int (rwAt 20 3 (iA S (b + 19)) row col)), hs E (rwPut S (b + 18) 20 3 row col v)) := R_exchange_ok (w_18 hE hb)
theorem more_18 {q : Nat} (hE : okE E) (hb : bkb b) (hk : iF S (b + 18) 3 = nI q) (hk2 : q < 20) : mres cT 14 d 0 (ment 7 [.ref (b + 18), .int x0, .int x1, .int x2, .int x3]) [] (hs E S) = some (some (.int (nI q)), hs E (sA (sF S (b + 18) 3 (nI (q + 1))) (b + 19) (rowSet (iA S (b + 19)) (q * 3) 3 [x0, x1, x2, x3]))) := R_more_ok (w_18 hE hb) hk hk2 (by decide)
theorem w_20 (hE : okE E) (hb : bkb b) : isR E 40 4 (b + 20) := ⟨fun S => ⟨hp_b hE hb (by omega), hp_b (o := 21) hE hb (by omega)⟩, by have := bkb_lt hb; have := hE.1; omega, by decide, by decide⟩
theorem at_20 (hE : okE E) (hb : bkb b) : mres cT 22 d 0 (ment 4 [.ref (b + 20), .int row, .int col]) [] (hs E S) = some (some (.int (rwAt 40 4 (iA S (b + 21)) row col)), hs E S) := R_at_ok (w_20 hE hb)
theorem put_20 (hE : okE E) (hb : bkb b) : mres cT 13 d 0 (ment 5 [.ref (b + 20), .int row, .int col, .int v]) [] (hs E S) = some (none, hs E (rwPut S (b + 20) 40 4 row col v)) := R_put_ok (w_20 hE hb)
theorem has_20 (hE : okE E) (hb : bkb b) : mres cT 21 d 0 (ment 2 [.ref (b + 20), .int row]) [] (hs E S) = some (some (.int (if row < 0 ∨ iF S (b + 20) 3 ≤ row then 0 else 1)), hs E S) := R_has_ok (w_20 hE hb)
theorem full_20 (hE : okE E) (hb : bkb b) : mres cT 12 d 0 (ment 1 [.ref (b + 20)]) [] (hs E S) = some (some (.int (if nI 40 ≤ iF S (b + 20) 3 then 1 else 0)), hs E S) := R_isFull_ok (w_20 hE hb)
theorem exch_20 (hE : okE E) (hb : bkb b) : mres cT 38 d 0 (ment 5 [.ref (b + 20), .int row, .int col, .int v]) [] (hs E S) = some (some (.int (rwAt 40 4 (iA S (b + 21)) row col)), hs E (rwPut S (b + 20) 40 4 row col v)) := R_exchange_ok (w_20 hE hb)
theorem more_20 {q : Nat} (hE : okE E) (hb : bkb b) (hk : iF S (b + 20) 3 = nI q) (hk2 : q < 40) : mres cT 14 d 0 (ment 7 [.ref (b + 20), .int x0, .int x1, .int x2, .int x3]) [] (hs E S) = some (some (.int (nI q)), hs E (sA (sF S (b + 20) 3 (nI (q + 1))) (b + 21) (rowSet (iA S (b + 21)) (q * 4) 4 [x0, x1, x2, x3]))) := R_more_ok (w_20 hE hb) hk hk2 (by decide)
end BOOKS
