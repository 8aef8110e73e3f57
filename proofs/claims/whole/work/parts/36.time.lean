/-! time: loops over rows -/
def rfor {α : Type} (g : Nat → α → α) : Nat → Nat → α → α
  | _, 0, s => s
  | i, m + 1, s => rfor g (i + 1) m (g i s)
theorem rfor_congr {α : Type} {g g' : Nat → α → α} : ∀ (m i : Nat) (s : α), (∀ j s, i ≤ j → j < i + m → g j s = g' j s) → rfor g i m s = rfor g' i m s
  | 0, _, _, _ => rfl
  | m + 1, i, s, h => by
    rw [rfor, rfor, h i s (Nat.le_refl i) (by omega)]
    exact rfor_congr m (i + 1) _ fun j s h1 h2 => h j s (by omega) (by omega)
section RA
variable {lim wid i : Nat} {f : Nat → Int32}
theorem ra0 (hi : i < lim) (hc : 0 < wid) (hl : lim * wid ≤ 1000) : rwAt lim wid f (nI i) 0 = f (i * wid) := rwAt_n (c := 0) hi hc hl
theorem ra1 (hi : i < lim) (hc : 1 < wid) (hl : lim * wid ≤ 1000) : rwAt lim wid f (nI i) 1 = f (i * wid + 1) := rwAt_n (c := 1) hi hc hl
theorem ra2 (hi : i < lim) (hc : 2 < wid) (hl : lim * wid ≤ 1000) : rwAt lim wid f (nI i) 2 = f (i * wid + 2) := rwAt_n (c := 2) hi hc hl
theorem ra3 (hi : i < lim) (hc : 3 < wid) (hl : lim * wid ≤ 1000) : rwAt lim wid f (nI i) 3 = f (i * wid + 3) := rwAt_n (c := 3) hi hc hl
theorem ra4 (hi : i < lim) (hc : 4 < wid) (hl : lim * wid ≤ 1000) : rwAt lim wid f (nI i) 4 = f (i * wid + 4) := rwAt_n (c := 4) hi hc hl
theorem ra5 (hi : i < lim) (hc : 5 < wid) (hl : lim * wid ≤ 1000) : rwAt lim wid f (nI i) 5 = f (i * wid + 5) := rwAt_n (c := 5) hi hc hl
end RA
section TIME
variable {E : EE} {S : SS} {d b n : Nat} {c kn : Int32}
def crG (f : Nat → Int32) (c kn : Int32) (i : Nat) (s : Int32) : Int32 :=
  if f (i * 4) = c then if f (i * 4 + 2) ≤ kn then if f (i * 4 + 3) ≤ kn then s else s + f (i * 4 + 1) else s else s
def crSum (f : Nat → Int32) (c kn : Int32) (n : Nat) : Int32 := rfor (crG f c kn) 0 n 0
theorem I_creditOf_ok (hE : okE E) (hb : bkb b) (hn : iF S (b + 20) 3 = nI n) (hn2 : n ≤ 40) : mres cT 70 d 0 (ment 5 [.ref (b + 13), .int c, .int kn]) [] (hs E S) = some (some (.int (crSum (iA S (b + 21)) c kn n)), hs E S) := by
  have o8 := o_I hE hb
  have lp : ∀ m i s, i + m = n → mres cT 70 d 5 [.ref (b + 13), .int c, .int kn, .int s, .int (nI i)] [] (hs E S) = some (some (.int (rfor (crG (iA S (b + 21)) c kn) i m s)), hs E S) := by
    intro m
    induction m with
    | zero =>
      intro i s hi
      have h1 : nI n ≤ nI i := nI_le (by omega) (by omega)
      simp only [r_il4 c_I_creditOf_5, r_al0 c_I_creditOf_7, r_gfSr c_I_creditOf_8 o8 rfl, r_gfR3 c_I_creditOf_11 (w_1 hE hb), r_gfR3 c_I_creditOf_11 (w_3 hE hb), r_gfR3 c_I_creditOf_11 (w_5 hE hb), r_gfR3 c_I_creditOf_11 (w_7 hE hb), r_gfR3 c_I_creditOf_11 (w_9 hE hb), r_gfR3 c_I_creditOf_11 (w_11 hE hb), r_gfR3 c_I_creditOf_11 (w_14 hE hb), r_gfR3 c_I_creditOf_11 (w_16 hE hb), r_gfR3 c_I_creditOf_11 (w_18 hE hb), r_gfR3 c_I_creditOf_11 (w_20 hE hb), r_icge c_I_creditOf_14, r_il3 c_I_creditOf_81, r_iret c_I_creditOf_82, ↓reduceIte, hs_h, Option.bind_some, mfix_i, mfix_r, mfix_n, mfix_a, Option.toList_some, Option.toList_none, List.cons_append, List.nil_append, List.singleton_append, hn, h1, if_true, rfor]
    | succ m ih =>
      intro i s hi
      have h1 : ¬ nI n ≤ nI i := nI_ge (by omega) (by omega)
      have hi2 : i < 40 := by omega
      have ih := fun s => ih (i + 1) s (by omega)
      simp only [r_il4 c_I_creditOf_5, r_al0 c_I_creditOf_7, r_gfSr c_I_creditOf_8 o8 rfl, r_gfR3 c_I_creditOf_11 (w_1 hE hb), r_gfR3 c_I_creditOf_11 (w_3 hE hb), r_gfR3 c_I_creditOf_11 (w_5 hE hb), r_gfR3 c_I_creditOf_11 (w_7 hE hb), r_gfR3 c_I_creditOf_11 (w_9 hE hb), r_gfR3 c_I_creditOf_11 (w_11 hE hb), r_gfR3 c_I_creditOf_11 (w_14 hE hb), r_gfR3 c_I_creditOf_11 (w_16 hE hb), r_gfR3 c_I_creditOf_11 (w_18 hE hb), r_gfR3 c_I_creditOf_11 (w_20 hE hb), r_icge c_I_creditOf_14, ↓reduceIte, hs_h, Option.bind_some, mfix_i, mfix_r, mfix_n, mfix_a, Option.toList_some, Option.toList_none, List.cons_append, List.nil_append, List.singleton_append, hn, h1]
      simp only [r_al0 c_I_creditOf_17, r_gfSr c_I_creditOf_18 o8 rfl, r_il4 c_I_creditOf_21, r_ci c_I_creditOf_23, r_cv3 c_I_creditOf_24, r_il1 c_I_creditOf_27, r_icne c_I_creditOf_28, r_al0 c_I_creditOf_31, r_gfSr c_I_creditOf_32 o8 rfl, r_il4 c_I_creditOf_35, r_ci c_I_creditOf_37, r_cv3 c_I_creditOf_38, r_il2 c_I_creditOf_41, r_icle c_I_creditOf_42, r_goto c_I_creditOf_45, r_al0 c_I_creditOf_48, r_gfSr c_I_creditOf_49 o8 rfl, r_il4 c_I_creditOf_52, r_ci c_I_creditOf_54, r_cv3 c_I_creditOf_55, r_il2 c_I_creditOf_58, r_icle c_I_creditOf_59, r_il3 c_I_creditOf_62, r_al0 c_I_creditOf_63, r_gfSr c_I_creditOf_64 o8 rfl, r_il4 c_I_creditOf_67, r_ci c_I_creditOf_69, r_cv3 c_I_creditOf_70, r_iadd c_I_creditOf_73, r_is3 c_I_creditOf_74, r_inc4 c_I_creditOf_75, r_goto c_I_creditOf_78, ↓reduceIte, hs_h, Option.bind_some, mfix_i, mfix_r, mfix_n, mfix_a, Option.toList_some, Option.toList_none, List.cons_append, List.nil_append, List.singleton_append, mwt, Value.category, Nat.reduceAdd, Nat.reduceLeDiff, true_and, and_true, and_self, at_20 hE hb, misc_w (w_20 hE hb), nI_1, ih, ra0 hi2 (show 0 < 4 by decide) (by decide), ra1 hi2 (show 1 < 4 by decide) (by decide), ra2 hi2 (show 2 < 4 by decide) (by decide), ra3 hi2 (show 3 < 4 by decide) (by decide), rfor, crG]
      split <;> (try split) <;> (try split) <;> rfl
  simp only [ment, mfl, List.length, List.replicate, List.cons_append, List.nil_append, Nat.reduceAdd, Nat.reduceSub]
  simp only [r_ci c_I_creditOf_0, r_is3 c_I_creditOf_1, r_ci c_I_creditOf_2, r_is4 c_I_creditOf_3, ↓reduceIte, hs_h, Option.bind_some, mfix_i, mfix_r, mfix_n, mfix_a, Option.toList_some, Option.toList_none, List.cons_append, List.nil_append, List.singleton_append]
  exact lp n 0 0 (by omega)
end TIME
