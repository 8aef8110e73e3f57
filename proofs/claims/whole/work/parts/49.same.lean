/-! a rule doesn't depend on what lay on the stack -/
section SAME
variable {E : EE} {S S' : SS} {d b k n len : Nat} {fo fk dy x0 x1 x2 x3 : Int32} {z t : Nat → Nat} {f : Nat → Int32}
theorem evG_ag {i : Nat} {g g' : Nat → Int32} (ho : okD (f i) (depc f i)) (h : ∀ j, j < depc f i → g j = g' j) : ∀ j, j < depc f (i + 1) → evG f x0 x1 x2 x3 i g j = evG f x0 x1 x2 x3 i g' j := by
  intro j hj
  rw [depc, nxD] at hj
  rw [okD] at ho
  rw [evG, evG]
  by_cases c4 : f i < -4
  · have c0 : f i < 0 := Int32.lt_trans c4 (by decide)
    rw [if_pos c4] at hj ho
    rw [if_pos c0, if_pos c0, if_pos c4, if_pos c4]
    by_cases c3 : f i = -33
    · rw [if_pos c3] at hj ho
      rw [if_pos c3, if_pos c3, upd, upd, h (depc f i - 1) (by omega)]
      split
      · rfl
      · exact h j hj
    · rw [if_neg c3] at hj ho
      rw [if_neg c3, if_neg c3, upd, upd, h (depc f i - 1) (by omega), h (depc f i - 2) (by omega)]
      split
      · rfl
      · exact h j (by omega)
  · rw [if_neg c4] at hj ho
    rw [if_neg c4, if_neg c4]
    by_cases c0 : f i < 0
    · rw [if_pos c0, if_pos c0, upd, upd]
      split
      · rfl
      · exact h j (by omega)
    · rw [if_neg c0, if_neg c0, upd, upd]
      split
      · rfl
      · exact h j (by omega)
theorem ev_ag (hw : wfc f len) : ∀ (m i : Nat) (g g' : Nat → Int32), i + m = len → (∀ j, j < depc f i → g j = g' j) → ∀ j, j < depc f len → rfor (evG f x0 x1 x2 x3) i m g j = rfor (evG f x0 x1 x2 x3) i m g' j
  | 0, i, g, g', hi, h => by
    rw [show i = len by omega] at h
    exact h
  | m + 1, i, g, g', hi, h => by
    rw [rfor, rfor]
    exact ev_ag hw m (i + 1) _ _ (by omega) (evG_ag (hw.1 i (by omega)) h)
theorem evL_ag (hw : wfc f len) {g g' : Nat → Int32} : evL f len x0 x1 x2 x3 g 0 = evL f len x0 x1 x2 x3 g' 0 :=
  ev_ag hw len 0 g g' (by omega) (fun j hj => absurd hj (Nat.not_lt_zero j)) 0 (by rw [hw.2]; decide)
theorem ctQ_eq (hb : bkb b) (h : eqS b S S') (ht : txs E S b n t) : ctQ S' t n fo fk dy = ctQ S t n fo fk dy := by
  have bl := bkb_lt hb
  rw [ctQ, ctQ, rfor_congr n 0 _ (fun j s _ hj => ?_)]
  have hq := (ht j (by omega)).2.1
  rw [ctH, ctH, ctS, ctS, iF, iF, iF, h (t j) (by omega) (by omega)]
theorem rlV_eq (hb : bkb b) (h : eqS b S S') (ht : txs E S b n t) (hw : txw S n t) : rlV S' b n t fo fk dy x0 x1 x2 x3 = rlV S b n t fo fk dy x0 x1 x2 x3 := by
  have bl := bkb_lt hb
  rw [rlV, rlV, ctQ_eq hb h ht]
  cases q : ctQ S t n fo fk dy with
  | none => rfl
  | some j =>
    have hj := ctQ_lt q
    have hq := (ht j hj).2.1
    refine congrArg (hdS fk) ?_
    show rlG S' b t j x0 x1 x2 x3 0 = rlG S b t j x0 x1 x2 x3 0
    rw [rlG, rlG, iA, iF, h (t j + 1) (by omega) (by omega)]
    exact evL_ag (hw j hj).2
theorem eqS_tr {S'' : SS} (h : eqS b S S') (h2 : eqS b S' S'') : eqS b S S'' := fun q a c => (h2 q a c).trans (h q a c)
theorem frS_eq (hb : bkb b) (h : eqS b S S') (hz : okB E S b z t) : frS S' b z t k = frS S b z t k := by
  have ht := hz.2.2.2.2.2.2.2.2.2.1
  have hw := hz.2.2.2.2.2.2.2.2.2.2
  rw [frS, frS, rlV_eq hb h ht hw, iA, iF, iA, iA, h (b + 2) (by omega) (by omega), h b (by omega) (by omega), h (b + 15) (by omega) (by omega), h (b + 21) (by omega) (by omega)]
theorem dySum_eq {day : Int32} (h : eqS b S S') : dySum S' b z k day = dySum S b z k day := by
  rw [dySum, dySum, iA, iA, iA, h (b + 17) (by omega) (by omega), h (b + 19) (by omega) (by omega), h (b + 21) (by omega) (by omega)]
theorem duS_eq {day : Int32} (hb : bkb b) (h : eqS b S S') (hz : okB E S b z t) : duS S' b z t k day = duS S b z t k day := by
  rw [duS, duS, dySum_eq h, frS_eq hb h hz]
end SAME
