/-! the books: putting off -/
section PUTOFF
variable {E : EE} {S S1 S' : SS} {d b n k q : Nat} {c v : Int32} {hc z t : Nat → Nat}
theorem eqS_sA {a : Nat} {g : Nat → Int32} (h : eqS b S S1) : eqS b (sA S a g) (sA S1 a g) := by
  intro p h1 h2
  by_cases e : p = a
  · subst e
    simp only [sA, va_up, if_true, h p h1 h2]
  · simp only [sA, va_up, e, if_false, h p h1 h2]
def poV (S : SS) (b : Nat) (z t : Nat → Nat) (j : Nat) (c : Int32) : Int32 := iF S b 8 + rlV S b (z 22) t (iA S (b + 2) (j * 6)) 3 (iF S b 8) c 0 0 0
def poH (f : Nat → Int32) (k : Nat) (day c : Int32) : Nat → Int32 := upd (upd (upd f (k * 5 + 1) day) (k * 5 + 3) (upd f (k * 5 + 1) day (k * 5 + 3) + 1)) (k * 5 + 4) c
def poS (S : SS) (b : Nat) (z t : Nat → Nat) (k j q : Nat) : SS := sA (sA S (b + 8) (poH (iA S (b + 8)) k (poV S b z t j (nI q)) (nI q))) (b + 12) (upd (iA S (b + 12)) (q * 1 + 0) (iA S (b + 12) (q * 1) + 1))
theorem B_putOff_ok (hE : okE E) (hb : bkb b) (hz : okB E S b z t) (hH : hcs S b (z 7) hc) (hk : k < z 7) (hq : q < 5) (h : eqS b S S1) : ∃ S2, eqS b (poS S b z t k (hc k) q) S2 ∧ ∀ d, mres cT 210 d 0 (ment 4 [.ref b, .int (nI k), .int (nI q)]) [] (hs E S1) = some (none, hs E S2) := by
  have o0 := o_B hE hb
  have m1 : ∀ S, misc (hp E S (b + 22)) 1 = true := fun S => misc_o (o_L hE hb)
  have z1 := okB_eq hb h hz
  have ht := hz.2.2.2.2.2.2.2.2.2.1
  have hw := hz.2.2.2.2.2.2.2.2.2.2
  have n7 := hz.2.2.2.1.2
  obtain ⟨-, -, -, -, -, -, -, -, g22, gt, gw⟩ := z1
  have hk2 : k < 30 := by omega
  obtain ⟨e0, e1⟩ := hH k hk
  have f8 : iA S1 (b + 8) = iA S (b + 8) := by rw [iA, h _ (by omega) (by omega)]
  have f2 : iA S1 (b + 2) = iA S (b + 2) := by rw [iA, h _ (by omega) (by omega)]
  have f0 : iF S1 b 8 = iF S b 8 := by rw [iF, h _ (by omega) (by omega)]
  have hr : ∀ d, ∃ S2, S2 = rlS S1 b (z 22) t (iA S (b + 2) (hc k * 6)) 3 (iF S b 8) (nI q) 0 0 0 ∧ mres cT 85 d 0 (ment 9 [.ref (b + 22), .int (iA S (b + 2) (hc k * 6)), .int 3, .int (iF S b 8), .int (nI q), .int 0, .int 0, .int 0]) [] (hs E S1) = some (some (.int (rlV S b (z 22) t (iA S (b + 2) (hc k * 6)) 3 (iF S b 8) (nI q) 0 0 0)), hs E S2) := fun d => ⟨_, rfl, by rw [L_ruleOf_ok hE hb g22.1 g22.2 gt gw, rlV_eq hb h ht hw]⟩
  have hS2 : ∃ S2, eqS b S S2 ∧ ∀ d, mres cT 85 d 0 (ment 9 [.ref (b + 22), .int (iA S (b + 2) (hc k * 6)), .int 3, .int (iF S b 8), .int (nI q), .int 0, .int 0, .int 0]) [] (hs E S1) = some (some (.int (rlV S b (z 22) t (iA S (b + 2) (hc k * 6)) 3 (iF S b 8) (nI q) 0 0 0)), hs E S2) :=
    ⟨rlS S1 b (z 22) t (iA S (b + 2) (hc k * 6)) 3 (iF S b 8) (nI q) 0 0 0, eqS_tr h rlS_e, fun d => by
      obtain ⟨S2, rfl, r⟩ := hr d
      exact r⟩
  obtain ⟨S2, s2, r2⟩ := hS2
  have k8 : iA S2 (b + 8) = iA S (b + 8) := by rw [iA, s2 _ (by omega) (by omega)]
  have k12 : iA S2 (b + 12) = iA S (b + 12) := by rw [iA, s2 _ (by omega) (by omega)]
  have n12 : b + 12 ≠ b + 8 := by omega
  refine ⟨sA (sA S2 (b + 8) (poH (iA S (b + 8)) k (poV S b z t (hc k) (nI q)) (nI q))) (b + 12) (upd (iA S (b + 12)) (q * 1 + 0) (iA S (b + 12) (q * 1) + 1)), eqS_sA (eqS_sA s2), fun d => ?_⟩
  simp only [ment, mfl, List.length, List.replicate, List.cons_append, List.nil_append, Nat.reduceAdd, Nat.reduceSub]
  simp only [r_al0 c_B_putOff_0, r_gfSr c_B_putOff_1 o0 rfl, r_al0 c_B_putOff_4, r_gfSr c_B_putOff_5 o0 rfl, r_il1 c_B_putOff_8, r_ci c_B_putOff_9, r_cv3 c_B_putOff_10, r_ci c_B_putOff_13, r_cv3 c_B_putOff_14, r_is3 c_B_putOff_17, r_al0 c_B_putOff_18, r_gfSr c_B_putOff_19 o0 rfl, r_il1 c_B_putOff_22, r_ci c_B_putOff_23, r_al0 c_B_putOff_24, r_gfS0 c_B_putOff_25 o0 rfl, r_al0 c_B_putOff_28, r_gfSr c_B_putOff_29 o0 rfl, r_il3 c_B_putOff_32, r_ci c_B_putOff_33, r_al0 c_B_putOff_34, r_gfS0 c_B_putOff_35 o0 rfl, r_il2 c_B_putOff_38, r_ci c_B_putOff_39, r_ci c_B_putOff_40, r_ci c_B_putOff_41, r_cv8 c_B_putOff_42, r_iadd c_B_putOff_45, r_cv4 c_B_putOff_46, r_al0 c_B_putOff_49, r_gfSr c_B_putOff_50 o0 rfl, r_il1 c_B_putOff_53, r_ci c_B_putOff_54, r_al0 c_B_putOff_55, r_gfSr c_B_putOff_56 o0 rfl, r_il1 c_B_putOff_59, r_ci c_B_putOff_60, r_cv3 c_B_putOff_61, r_ci c_B_putOff_64, r_iadd c_B_putOff_65, r_cv4 c_B_putOff_66, r_al0 c_B_putOff_69, r_gfSr c_B_putOff_70 o0 rfl, r_il1 c_B_putOff_73, r_ci c_B_putOff_74, r_il2 c_B_putOff_75, r_cv4 c_B_putOff_76, r_al0 c_B_putOff_79, r_gfSr c_B_putOff_80 o0 rfl, r_il2 c_B_putOff_83, r_ci c_B_putOff_84, r_al0 c_B_putOff_85, r_gfSr c_B_putOff_86 o0 rfl, r_il2 c_B_putOff_89, r_ci c_B_putOff_90, r_cv3 c_B_putOff_91, r_ci c_B_putOff_94, r_iadd c_B_putOff_95, r_cv4 c_B_putOff_96, r_vret c_B_putOff_99, ↓reduceIte, hs_h, Option.bind_some, mfix_i, mfix_r, mfix_n, mfix_a, Option.toList_some, Option.toList_none, List.cons_append, List.nil_append, List.singleton_append, mwt, Value.category, Nat.reduceAdd, Nat.reduceLeDiff, true_and, and_true, and_self, at_7 hE hb, misc_w (w_7 hE hb), at_1 hE hb, misc_w (w_1 hE hb), at_11 hE hb, misc_w (w_11 hE hb), m1, ra0 hk2 (show 0 < 5 by decide) (show 30 * 5 ≤ 1000 by decide), ra3 hk2 (show 3 < 5 by decide) (show 30 * 5 ≤ 1000 by decide), f8, f2, f0, e0, ra0 e1 (show 0 < 6 by decide) (show 12 * 6 ≤ 1000 by decide), r2, put_7 hE hb, put_11 hE hb, pc1 hk2 (show 1 < 5 by decide) (show 30 * 5 ≤ 1000 by decide), pc3 hk2 (show 3 < 5 by decide) (show 30 * 5 ≤ 1000 by decide), pc4 hk2 (show 4 < 5 by decide) (show 30 * 5 ≤ 1000 by decide), pc0 hq (show 0 < 1 by decide) (show 5 * 1 ≤ 1000 by decide), ra0 hq (show 0 < 1 by decide) (show 5 * 1 ≤ 1000 by decide), k8, iA_sA, sA_sA, iA_sA_ne n12, k12, poH, poV]
end PUTOFF
