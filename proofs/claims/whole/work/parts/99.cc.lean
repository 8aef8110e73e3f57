/-! the start -/
section START0
variable {d L : Nat} {xs : Nat → Int32}
def z0 : Nat → Int32 := fun _ => 0
def S0 : SS := fun q => if q = 83 then (z0, z0, fun _ => 0, s83) else if q = 84 ∨ q = 86 ∨ q = 88 ∨ q = 90 then (upd z0 1 (-1), z0, fun _ => 0, fun _ => none) else if q = 93 then (upd z0 19 (nI 1000015), z0, fun _ => 0, fun _ => none) else if q = 99 then (z0, s99, fun _ => 0, fun _ => none) else if q = 104 then (z0, z0, fun _ => 0, s104) else if q = 105 then (z0, z0, fun _ => 0, s105) else zc
def E0 (L : Nat) (xs : Nat → Int32) : EE := (109, 11752, L, xs)
set_option maxRecDepth 100000 in
theorem cells0 : xxL ++ mmL = (List.range 109).map (fun q => shp q (S0 q)) := rfl
theorem start_heap : lh (mx L xs) 0 11752 (xxL ++ mmL) = hs (E0 L xs) S0 := by
  refine Prod.ext rfl (Prod.ext rfl ?_)
  funext q
  show ly (mx L xs) 0 (xxL ++ mmL) q = hp (E0 L xs) S0 q
  by_cases c : q < 109
  · have := ly_in (h := mx L xs) (n := 0) (es := xxL ++ mmL) (i := q) (e := shp q (S0 q)) (by rw [cells0, List.getElem?_map, List.getElem?_range c]; rfl)
    rw [Nat.zero_add] at this
    rw [this, hp, if_pos (show q < (E0 L xs).1 from c)]
  · rw [ly_hi (by show 0 + 109 ≤ q; omega), hp, if_neg (show ¬ q < (E0 L xs).1 from c)]
    rfl
theorem no0 {i : Nat} {p : Prop} (h : i < 0) : p := absurd h (Nat.not_lt_zero i)
theorem Rel0 : Rel (E0 L xs) S0 1 (fun _ => 0) (fun _ => 0) (fun _ => 0) (fun _ => 0) 0 (18 * 0) (iA S0 94) := by
  refine ⟨⟨⟨⟨rfl, by decide⟩, ⟨rfl, by decide⟩, ⟨rfl, by decide⟩, ⟨rfl, by decide⟩, ⟨rfl, by decide⟩, ⟨rfl, by decide⟩, ⟨rfl, by decide⟩, ⟨rfl, by decide⟩, ⟨rfl, by decide⟩, fun j hj => no0 hj, fun j hj => no0 hj⟩, fun i hi => no0 hi, fun i hi => no0 hi⟩, ⟨⟨rfl, by decide⟩, ⟨rfl, by decide⟩, ⟨rfl, by decide⟩, ⟨rfl, by decide⟩, ⟨rfl, by decide⟩, ⟨rfl, by decide⟩, ⟨rfl, by decide⟩, ⟨rfl, by decide⟩, ⟨rfl, by decide⟩⟩, ⟨rfl, by decide, rfl⟩, ⟨rfl, 0, by decide, rfl⟩, ⟨0, by decide, rfl, rfl, rfl⟩, fun q _ _ => rfl, fun i hi => no0 hi, fun i hi => no0 hi, fun i hi => no0 hi, ⟨fun i hi => no0 hi, fun i hi => no0 hi, fun i j _ hj => no0 hj⟩, fun i hi => no0 hi, ⟨fun i hi => no0 hi, fun i hi => no0 hi⟩, fun i hi => no0 hi, fun i hi => no0 hi, ⟨by decide, fun i hi => no0 hi⟩, fun i hi => no0 hi, ⟨fun i hi => no0 hi, fun i j hi => no0 hi⟩, ⟨fun i hi => no0 hi, fun k hk => no0 hk⟩, fun i _ c _ => rfl, fun j hj => no0 hj⟩
theorem Inv0 : Inv (E0 L xs) S0 := by
  refine ⟨⟨Nat.le_refl 109, by show 109 ≤ 1000; decide, by show 11752 ≤ 1000000; decide⟩, by show 109 % 2 = 1; decide, ⟨fun _ => 0, fun _ => 0, fun _ => 0, fun _ => 0, 0, Nat.zero_le _, Rel0⟩, ⟨rfl, Or.inl rfl⟩, ⟨0, fun _ => 0, ⟨rfl, Nat.zero_le _, fun j hj => no0 hj⟩, rfl, fun j hj => no0 hj⟩, ⟨0, Nat.zero_le _, rfl, rfl, fun j hj => no0 hj⟩, ?_, ?_⟩
  · intro s hs4
    match s, hs4 with
    | 0, _ => exact ⟨rfl, rfl, ⟨0, by decide, rfl, rfl, fun _ => rfl⟩, Or.inl rfl, fun j _ => rfl⟩
    | 1, _ => exact ⟨rfl, rfl, ⟨0, by decide, rfl, rfl, fun _ => rfl⟩, Or.inl rfl, fun j _ => rfl⟩
    | 2, _ => exact ⟨rfl, rfl, ⟨0, by decide, rfl, rfl, fun _ => rfl⟩, Or.inl rfl, fun j _ => rfl⟩
    | 3, _ => exact ⟨rfl, rfl, ⟨0, by decide, rfl, rfl, fun _ => rfl⟩, Or.inl rfl, fun j _ => rfl⟩
  · refine ⟨fun j p _ hp => ?_, fun j p _ hp => ?_, fun j hj => ?_⟩
    · exact absurd (show (none : Option Nat) = some p from hp) (by simp)
    · exact absurd (show (none : Option Nat) = some p from hp) (by simp)
    · match j, hj with
      | 0, _ => exact ⟨rfl, rfl⟩
      | 1, _ => exact ⟨rfl, rfl⟩
      | 2, _ => exact ⟨rfl, rfl⟩
      | 3, _ => exact ⟨rfl, rfl⟩
      | 4, _ => exact ⟨rfl, rfl⟩
theorem mx_s {v : Nat} (h1 : 1000000 ≤ v) (h2 : v < 1000027) : misc (mx L xs v) 100 = true := by
  rw [mx, if_neg (by omega), if_pos h2]; simp [misc]
/-- both made -/
theorem W_start : mres cT 281 d 0 (ment 4 [.ref 3000000]) [] (0, 0, mx L xs) = mres cT 281 d 18 [.ref 3000000, .ref 0, .ref 93, .int 0] [] (hs (E0 L xs) S0) := by
  have e0 : ((0, 0, mx L xs) : mH) = lh (mx L xs) 0 0 [] := by
    refine Prod.ext rfl (Prod.ext rfl ?_)
    funext q
    show mx L xs q = ly (mx L xs) 0 [] q
    rw [ly_hi (by show 0 + 0 ≤ q; omega)]
  have g1 : lh (mx L xs) 0 (0 + 9 + 3381 + 28) (xxL ++ [.inr (10, [.null, .null, .null, .int 0, .null, .int 0, .null, .int 0, .null, .null, .null, .null, .int 0, .int 0, .int 0, .int 0, .int 0, .int 0, .int 0, .null, .null, .int 0, .int 0, .null, .null, .null, .null, .null])]) = lh (ly (mx L xs) 0 xxL) 93 (0 + 9 + 3381 + 28) [.inr (10, [.null, .null, .null, .int 0, .null, .int 0, .null, .int 0, .null, .null, .null, .null, .int 0, .int 0, .int 0, .int 0, .int 0, .int 0, .int 0, .null, .null, .int 0, .int 0, .null, .null, .null, .null, .null])] := (lh_glue (fs := xxL)).symm
  have g2 : lh (ly (mx L xs) 0 xxL) 93 (0 + 9 + 3381 + 28 + 8334) mmL = lh (mx L xs) 0 11752 (xxL ++ mmL) := lh_glue (fs := xxL)
  have r1 : mres cT 9 d 0 (ment 1 [.ref 0]) [] (lh (mx L xs) 0 (0 + 9) [.inr (9, [.null, .null, .null, .int 0, .null, .null, .null, .null, .int 0])]) = some (none, lh (mx L xs) 0 (0 + 9 + 3381) xxL) := X_init_ok
  have r2 := M_init_ok (d := d) (h := ly (mx L xs) 0 xxL) (s := 0 + 9 + 3381 + 28) (fun v h1 h2 => by rw [ly_hi (by show 0 + 93 ≤ v; omega)]; exact mx_s h1 h2)
  rw [e0]
  simp only [ment, mfl, List.length, List.replicate, List.cons_append, List.nil_append, Nat.reduceAdd, Nat.reduceSub]
  rw [r_new c_W_law_0 (by show 0 + 0 < 1000000; decide), lh_new]
  show mres cT 281 d 3 _ [.ref 0] (lh (mx L xs) 0 (0 + 9) [.inr (9, [.null, .null, .null, .int 0, .null, .null, .null, .null, .int 0])]) = _
  rw [r_dupr c_W_law_3, r_cv1 c_W_law_4 ⟨by simp [mwt, Value.category], by simp [mwt, Value.category]⟩ (by rw [lh_0]; simp [misc]), r1, Option.bind_some]
  show mres cT 281 d 7 _ [.ref 0] (lh (mx L xs) 0 (0 + 9 + 3381) xxL) = _
  rw [r_as1 c_W_law_7, r_new c_W_law_8 (by show 0 + 93 < 1000000; decide), lh_new]
  show mres cT 281 d 11 _ [.ref 93] (lh (mx L xs) 0 (0 + 9 + 3381 + 28) (xxL ++ [.inr (10, [.null, .null, .null, .int 0, .null, .int 0, .null, .int 0, .null, .null, .null, .null, .int 0, .int 0, .int 0, .int 0, .int 0, .int 0, .int 0, .null, .null, .int 0, .int 0, .null, .null, .null, .null, .null])])) = _
  rw [g1, r_dupr c_W_law_11, r_cv1 c_W_law_12 ⟨by simp [mwt, Value.category], by simp [mwt, Value.category]⟩ (by rw [lh_0]; simp [misc]), r2, Option.bind_some]
  show mres cT 281 d 15 _ [.ref 93] (lh (ly (mx L xs) 0 xxL) 93 (0 + 9 + 3381 + 28 + 8334) mmL) = _
  rw [g2, start_heap, r_as2 c_W_law_15, r_ci c_W_law_16, r_is3 c_W_law_17]
  rfl
end START0
