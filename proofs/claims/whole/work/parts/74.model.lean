/-! the model: its cells -/
section MODEL
variable {E : EE} {S : SS} {d k j n q a c' : Nat} {c v x y : Int32} {g : Nat → Int32} {z : Nat → Nat}
theorem o_M (hE : okE E) : isO E 93 10 [96, 97, 98, 0, 99, 0, 100, 0, 101, 102, 103, 104, 0, 0, 0, 0, 0, 0, 0, 1, 105, 0, 0, 106, 107, 108, 109, 110] := ⟨fun S => hp_r (o := 14) hE (by omega), by have := hE.1; omega⟩
theorem m_M (hE : okE E) (S : SS) : misc (hp E S 93) 10 = true := misc_o (o_M hE)
theorem i_94 (hE : okE E) : isI E 94 2578 := ⟨fun S => hp_r (o := 15) hE (by omega), by have := hE.1; omega⟩
theorem i_95 (hE : okE E) : isI E 95 2578 := ⟨fun S => hp_r (o := 16) hE (by omega), by have := hE.1; omega⟩
theorem i_96 (hE : okE E) : isI E 96 2578 := ⟨fun S => hp_r (o := 17) hE (by omega), by have := hE.1; omega⟩
theorem i_97 (hE : okE E) : isI E 97 96 := ⟨fun S => hp_r (o := 18) hE (by omega), by have := hE.1; omega⟩
theorem i_98 (hE : okE E) : isI E 98 60 := ⟨fun S => hp_r (o := 19) hE (by omega), by have := hE.1; omega⟩
theorem i_99 (hE : okE E) : isI E 99 4 := ⟨fun S => hp_r (o := 20) hE (by omega), by have := hE.1; omega⟩
theorem i_100 (hE : okE E) : isI E 100 4 := ⟨fun S => hp_r (o := 21) hE (by omega), by have := hE.1; omega⟩
theorem g_101 (hE : okE E) : isG E 101 96 := ⟨fun S => hp_r (o := 22) hE (by omega), by have := hE.1; omega⟩
theorem i_102 (hE : okE E) : isI E 102 102 := ⟨fun S => hp_r (o := 23) hE (by omega), by have := hE.1; omega⟩
theorem i_103 (hE : okE E) : isI E 103 100 := ⟨fun S => hp_r (o := 24) hE (by omega), by have := hE.1; omega⟩
theorem i_106 (hE : okE E) : isI E 106 100 := ⟨fun S => hp_r (o := 27) hE (by omega), by have := hE.1; omega⟩
theorem i_107 (hE : okE E) : isI E 107 4 := ⟨fun S => hp_r (o := 28) hE (by omega), by have := hE.1; omega⟩
theorem g_108 (hE : okE E) : isG E 108 24 := ⟨fun S => hp_r (o := 29) hE (by omega), by have := hE.1; omega⟩
theorem mia_94 (hE : okE E) (h : j < 2578) : mia (hp E S 94) 0 10 (nI j) = some (iA S 94 j) := mia_I (i_94 hE) h (by decide)
theorem mis_94 (hE : okE E) (h : j < 2578) : mis (hp E S 94) 0 (nI j) x = some (.inl (0, 2578, .inl (upd (iA S 94) j x))) := mis_I (i_94 hE) h (by decide)
theorem hs_94 (hE : okE E) : mset (hs E S) 94 (.inl (0, 2578, .inl g)) = hs E (sA S 94 g) := hs_I (i_94 hE)
theorem mn0 (hE : okE E) : mia (hp E S 94) 0 10 0 = some (iA S 94 0) := mia_94 (j := 0) hE (by decide)
theorem mn1 (hE : okE E) : mia (hp E S 94) 0 10 1 = some (iA S 94 1) := mia_94 (j := 1) hE (by decide)
theorem mn2 (hE : okE E) : mia (hp E S 94) 0 10 2 = some (iA S 94 2) := mia_94 (j := 2) hE (by decide)
theorem mn3 (hE : okE E) : mia (hp E S 94) 0 10 3 = some (iA S 94 3) := mia_94 (j := 3) hE (by decide)
theorem mn4 (hE : okE E) : mia (hp E S 94) 0 10 4 = some (iA S 94 4) := mia_94 (j := 4) hE (by decide)
theorem mn5 (hE : okE E) : mia (hp E S 94) 0 10 5 = some (iA S 94 5) := mia_94 (j := 5) hE (by decide)
theorem mn6 (hE : okE E) : mia (hp E S 94) 0 10 6 = some (iA S 94 6) := mia_94 (j := 6) hE (by decide)
theorem mn7 (hE : okE E) : mia (hp E S 94) 0 10 7 = some (iA S 94 7) := mia_94 (j := 7) hE (by decide)
theorem mn8 (hE : okE E) : mia (hp E S 94) 0 10 8 = some (iA S 94 8) := mia_94 (j := 8) hE (by decide)
theorem mn9 (hE : okE E) : mia (hp E S 94) 0 10 9 = some (iA S 94 9) := mia_94 (j := 9) hE (by decide)
theorem mn10 (hE : okE E) : mia (hp E S 94) 0 10 10 = some (iA S 94 10) := mia_94 (j := 10) hE (by decide)
theorem mn11 (hE : okE E) : mia (hp E S 94) 0 10 11 = some (iA S 94 11) := mia_94 (j := 11) hE (by decide)
theorem ms0 (hE : okE E) : mis (hp E S 94) 0 0 x = some (.inl (0, 2578, .inl (upd (iA S 94) 0 x))) := mis_94 (j := 0) hE (by decide)
theorem ms1 (hE : okE E) : mis (hp E S 94) 0 1 x = some (.inl (0, 2578, .inl (upd (iA S 94) 1 x))) := mis_94 (j := 1) hE (by decide)
theorem ms2 (hE : okE E) : mis (hp E S 94) 0 2 x = some (.inl (0, 2578, .inl (upd (iA S 94) 2 x))) := mis_94 (j := 2) hE (by decide)
theorem ms3 (hE : okE E) : mis (hp E S 94) 0 3 x = some (.inl (0, 2578, .inl (upd (iA S 94) 3 x))) := mis_94 (j := 3) hE (by decide)
theorem ms4 (hE : okE E) : mis (hp E S 94) 0 4 x = some (.inl (0, 2578, .inl (upd (iA S 94) 4 x))) := mis_94 (j := 4) hE (by decide)
theorem ms5 (hE : okE E) : mis (hp E S 94) 0 5 x = some (.inl (0, 2578, .inl (upd (iA S 94) 5 x))) := mis_94 (j := 5) hE (by decide)
theorem ms6 (hE : okE E) : mis (hp E S 94) 0 6 x = some (.inl (0, 2578, .inl (upd (iA S 94) 6 x))) := mis_94 (j := 6) hE (by decide)
theorem ms7 (hE : okE E) : mis (hp E S 94) 0 7 x = some (.inl (0, 2578, .inl (upd (iA S 94) 7 x))) := mis_94 (j := 7) hE (by decide)
theorem ms8 (hE : okE E) : mis (hp E S 94) 0 8 x = some (.inl (0, 2578, .inl (upd (iA S 94) 8 x))) := mis_94 (j := 8) hE (by decide)
theorem ms9 (hE : okE E) : mis (hp E S 94) 0 9 x = some (.inl (0, 2578, .inl (upd (iA S 94) 9 x))) := mis_94 (j := 9) hE (by decide)
theorem ms10 (hE : okE E) : mis (hp E S 94) 0 10 x = some (.inl (0, 2578, .inl (upd (iA S 94) 10 x))) := mis_94 (j := 10) hE (by decide)
theorem ms11 (hE : okE E) : mis (hp E S 94) 0 11 x = some (.inl (0, 2578, .inl (upd (iA S 94) 11 x))) := mis_94 (j := 11) hE (by decide)
theorem km2 : (2 : Int32) * nI n = nI (2 * n) := pk_mul 2 n
theorem km3 : (3 : Int32) * nI n = nI (3 * n) := pk_mul 3 n
theorem km4 : (4 : Int32) * nI n = nI (4 * n) := pk_mul 4 n
theorem km6 : (6 : Int32) * nI n = nI (6 * n) := pk_mul 6 n
theorem km104 : (104 : Int32) * nI n = nI (104 * n) := pk_mul 104 n
theorem km24 : (24 : Int32) * nI n = nI (24 * n) := pk_mul 24 n
theorem ka12 : (12 : Int32) + nI n = nI (12 + n) := nI_add 12 n
theorem ka20 : (20 : Int32) + nI n = nI (20 + n) := nI_add 20 n
theorem ka92 : (92 : Int32) + nI n = nI (92 + n) := nI_add 92 n
theorem ka164 : (164 : Int32) + nI n = nI (164 + n) := nI_add 164 n
theorem ka254 : (254 : Int32) + nI n = nI (254 + n) := nI_add 254 n
theorem ka314 : (314 : Int32) + nI n = nI (314 + n) := nI_add 314 n
theorem ka474 : (474 : Int32) + nI n = nI (474 + n) := nI_add 474 n
theorem ka634 : (634 : Int32) + nI n = nI (634 + n) := nI_add 634 n
theorem ka670 : (670 : Int32) + nI n = nI (670 + n) := nI_add 670 n
theorem ka850 : (850 : Int32) + nI n = nI (850 + n) := nI_add 850 n
theorem ka890 : (890 : Int32) + nI n = nI (890 + n) := nI_add 890 n
theorem ka914 : (914 : Int32) + nI n = nI (914 + n) := nI_add 914 n
theorem kr2 : nI n + 2 = nI (n + 2) := nI_add n 2
theorem kr3 : nI n + 3 = nI (n + 3) := nI_add n 3
theorem kr4 : nI n + 4 = nI (n + 4) := nI_add n 4
theorem kr5 : nI n + 5 = nI (n + 5) := nI_add n 5
def lwS (u v w : Int64) : Int32 := if lg_cmp u v < 0 then 0 else if 0 < lg_cmp u w then 0 else 1
theorem M_within_l {H : mH} {u v w : Int64} : mres cT 17 d 0 (ment 6 [.long u, .long v, .long w]) [] H = some (some (.int (lwS u v w)), H) := by
  simp only [ment, mfl, List.length, List.replicate, List.cons_append, List.nil_append, Nat.reduceAdd, Nat.reduceSub]
  simp only [r_ll0 c_M_within_0, r_ll2 c_M_within_1, r_lcmp c_M_within_2, r_iflt c_M_within_3, r_ll0 c_M_within_6, r_ll4 c_M_within_7, r_lcmp c_M_within_9, r_ifgt c_M_within_10, r_ci c_M_within_13, r_goto c_M_within_14, r_ci c_M_within_17, r_zret c_M_within_18, ↓reduceIte, hs_h, Option.bind_some, mfix_i, mfix_r, mfix_n, mfix_a, Option.toList_some, Option.toList_none, List.cons_append, List.nil_append, List.singleton_append, mz0, mz1, ite_out, lwS]
theorem lc_gt {x y : Int32} : 0 < lg_cmp x.toInt64 y.toInt64 ↔ y < x := by
  have h1 : y.toInt64 < x.toInt64 ↔ y < x := by rw [Int64.lt_iff_toInt_lt, Int32.lt_iff_toInt_lt, Int32.toInt_toInt64, Int32.toInt_toInt64]
  unfold lg_cmp
  by_cases a : y < x
  · rw [if_pos (h1.mpr a)]
    exact ⟨fun _ => a, fun _ => by decide⟩
  · rw [if_neg (fun h => a (h1.mp h))]
    refine ⟨fun h => ?_, fun h => absurd h a⟩
    split at h <;> exact absurd h (by decide)
theorem lc_lt {x y : Int32} : lg_cmp x.toInt64 y.toInt64 < 0 ↔ x < y := by
  have h1 : y.toInt64 < x.toInt64 ↔ y < x := by rw [Int64.lt_iff_toInt_lt, Int32.lt_iff_toInt_lt, Int32.toInt_toInt64, Int32.toInt_toInt64]
  have h2 : x.toInt64 = y.toInt64 ↔ x = y := by rw [← Int64.toInt_inj, ← Int32.toInt_inj, Int32.toInt_toInt64, Int32.toInt_toInt64]
  unfold lg_cmp
  by_cases a : y < x
  · rw [if_pos (h1.mpr a)]
    exact ⟨fun h => absurd h (by decide), fun h => absurd (Int32.lt_trans h a) Int32.lt_irrefl⟩
  · rw [if_neg (fun h => a (h1.mp h))]
    by_cases b : x = y
    · rw [if_pos (h2.mpr b)]
      exact ⟨fun h => absurd h (by decide), fun h => absurd (b ▸ h : y < y) Int32.lt_irrefl⟩
    · rw [if_neg (fun h => b (h2.mp h))]
      refine ⟨fun _ => ?_, fun _ => by decide⟩
      rw [Int32.lt_iff_toInt_lt] at a ⊢
      have : x.toInt ≠ y.toInt := fun h => b (Int32.toInt_inj.mp h)
      omega
theorem lw_i {x y w : Int32} : lwS x.toInt64 y.toInt64 w.toInt64 = wiS x y w := by
  unfold lwS wiS
  simp only [lc_lt, lc_gt]
theorem M_within_ok {H : mH} {x y w : Int32} : mres cT 17 d 0 (ment 6 [.long x.toInt64, .long y.toInt64, .long w.toInt64]) [] H = some (some (.int (wiS x y w)), H) := by
  rw [M_within_l, lw_i]
theorem M_within_0 {H : mH} {x w : Int32} : mres cT 17 d 0 (ment 6 [.long x.toInt64, .long 0, .long w.toInt64]) [] H = some (some (.int (wiS x 0 w)), H) := M_within_ok (y := 0)
theorem wi01 {x y w : Int32} : wiS x y w = 0 ∨ wiS x y w = 1 := by
  unfold wiS; split
  · exact Or.inl rfl
  · split
    · exact Or.inl rfl
    · exact Or.inr rfl
theorem mzw {x y w : Int32} : narrow .boolean (.int (wiS x y w)) = .int (wiS x y w) := by
  rcases wi01 (x := x) (y := y) (w := w) with h | h <;> rw [h] <;> decide
/-- sizes -/
def okM (f : Nat → Int32) (z : Nat → Nat) : Prop := (f 2 = nI (z 1) ∧ z 1 ≤ 12) ∧ (f 3 = nI (z 14) ∧ z 14 ≤ 24) ∧ (f 4 = nI (z 16) ∧ z 16 ≤ 30) ∧ (f 5 = nI (z 18) ∧ z 18 ≤ 20) ∧ (f 6 = nI (z 20) ∧ z 20 ≤ 40) ∧ (f 7 = nI (z 22) ∧ z 22 ≤ 16) ∧ (f 8 = nI (z 3) ∧ z 3 ≤ 40) ∧ (f 9 = nI (z 5) ∧ z 5 ≤ 9) ∧ (f 10 = nI (z 7) ∧ z 7 ≤ 30)
theorem M_there_ok (hE : okE E) (hk : k < 2578) : mres cT 29 d 0 (ment 3 [.ref 93, .int c, .int (nI k)]) [] (hs E S) = some (some (.int (wiS c 0 (iA S 94 k - 1))), hs E S) := by
  have o10 := o_M hE
  simp only [ment, mfl, List.length, List.replicate, List.cons_append, List.nil_append, Nat.reduceAdd, Nat.reduceSub]
  simp only [r_il1 c_M_there_0, r_i2l c_M_there_1, r_cl c_M_there_2, r_al0 c_M_there_3, r_gfSr c_M_there_4 o10 rfl, r_il2 c_M_there_7, r_ial c_M_there_8, r_ci c_M_there_9, r_isub c_M_there_10, r_i2l c_M_there_11, r_ca3 c_M_there_12, r_zret c_M_there_15, ↓reduceIte, hs_h, Option.bind_some, mfix_i, mfix_r, mfix_n, mfix_a, Option.toList_some, Option.toList_none, List.cons_append, List.nil_append, List.singleton_append, mwt, Value.category, Nat.reduceAdd, Nat.reduceLeDiff, true_and, and_true, and_self, mia_94 hE hk, M_within_0, mzw]
theorem mt2 (hE : okE E) : mres cT 29 d 0 (ment 3 [.ref 93, .int c, .int 2]) [] (hs E S) = some (some (.int (wiS c 0 (iA S 94 2 - 1))), hs E S) := M_there_ok (k := 2) hE (by decide)
theorem mt6 (hE : okE E) : mres cT 29 d 0 (ment 3 [.ref 93, .int c, .int 6]) [] (hs E S) = some (some (.int (wiS c 0 (iA S 94 6 - 1))), hs E S) := M_there_ok (k := 6) hE (by decide)
theorem mt7 (hE : okE E) : mres cT 29 d 0 (ment 3 [.ref 93, .int c, .int 7]) [] (hs E S) = some (some (.int (wiS c 0 (iA S 94 7 - 1))), hs E S) := M_there_ok (k := 7) hE (by decide)
theorem mt8 (hE : okE E) : mres cT 29 d 0 (ment 3 [.ref 93, .int c, .int 8]) [] (hs E S) = some (some (.int (wiS c 0 (iA S 94 8 - 1))), hs E S) := M_there_ok (k := 8) hE (by decide)
theorem mt9 (hE : okE E) : mres cT 29 d 0 (ment 3 [.ref 93, .int c, .int 9]) [] (hs E S) = some (some (.int (wiS c 0 (iA S 94 9 - 1))), hs E S) := M_there_ok (k := 9) hE (by decide)
theorem mt10 (hE : okE E) : mres cT 29 d 0 (ment 3 [.ref 93, .int c, .int 10]) [] (hs E S) = some (some (.int (wiS c 0 (iA S 94 10 - 1))), hs E S) := M_there_ok (k := 10) hE (by decide)
theorem M_ofCase_ok (hE : okE E) (hk : k < 12) (hf : j < 6) : mres cT 32 d 0 (ment 3 [.ref 93, .int (nI k), .int (nI j)]) [] (hs E S) = some (some (.int (iA S 94 (20 + 6 * k + j))), hs E S) := by
  have o10 := o_M hE
  simp only [ment, mfl, List.length, List.replicate, List.cons_append, List.nil_append, Nat.reduceAdd, Nat.reduceSub]
  simp only [r_al0 c_M_ofCase_0, r_gfSr c_M_ofCase_1 o10 rfl, r_ci c_M_ofCase_4, r_ci c_M_ofCase_6, r_il1 c_M_ofCase_8, r_imul c_M_ofCase_9, r_iadd c_M_ofCase_10, r_il2 c_M_ofCase_11, r_iadd c_M_ofCase_12, r_ial c_M_ofCase_13, r_iret c_M_ofCase_14, ↓reduceIte, hs_h, Option.bind_some, mfix_i, mfix_r, mfix_n, mfix_a, Option.toList_some, Option.toList_none, List.cons_append, List.nil_append, List.singleton_append, km2, km3, km4, km6, km104, km24, ka20, ka92, ka164, ka254, ka314, ka474, ka634, ka670, ka850, ka890, ka914, ka12, kr2, kr3, kr4, kr5, nI_1, nI_add, mia_94 hE (show 20 + 6 * k + j < 2578 by omega)]
theorem M_becomes_ok (hE : okE E) (hk : k < 12) (hf : j < 6) : mres cT 18 d 0 (ment 4 [.ref 93, .int (nI k), .int (nI j), .int v]) [] (hs E S) = some (none, hs E (sA S 94 (upd (iA S 94) (20 + 6 * k + j) v))) := by
  have o10 := o_M hE
  simp only [ment, mfl, List.length, List.replicate, List.cons_append, List.nil_append, Nat.reduceAdd, Nat.reduceSub]
  simp only [r_al0 c_M_becomes_0, r_gfSr c_M_becomes_1 o10 rfl, r_ci c_M_becomes_4, r_ci c_M_becomes_6, r_il1 c_M_becomes_8, r_imul c_M_becomes_9, r_iadd c_M_becomes_10, r_il2 c_M_becomes_11, r_iadd c_M_becomes_12, r_il3 c_M_becomes_13, r_ias c_M_becomes_14, r_vret c_M_becomes_15, ↓reduceIte, hs_h, Option.bind_some, mfix_i, mfix_r, mfix_n, mfix_a, Option.toList_some, Option.toList_none, List.cons_append, List.nil_append, List.singleton_append, km2, km3, km4, km6, km104, km24, ka20, ka92, ka164, ka254, ka314, ka474, ka634, ka670, ka850, ka890, ka914, ka12, kr2, kr3, kr4, kr5, nI_1, nI_add, mis_94 hE (show 20 + 6 * k + j < 2578 by omega), hs_94 hE]
theorem oc0 (hE : okE E) (hk : k < 12) : mres cT 32 d 0 (ment 3 [.ref 93, .int (nI k), .int 0]) [] (hs E S) = some (some (.int (iA S 94 (20 + 6 * k + 0))), hs E S) := M_ofCase_ok (j := 0) hE hk (by decide)
theorem be0 (hE : okE E) (hk : k < 12) : mres cT 18 d 0 (ment 4 [.ref 93, .int (nI k), .int 0, .int v]) [] (hs E S) = some (none, hs E (sA S 94 (upd (iA S 94) (20 + 6 * k + 0) v))) := M_becomes_ok (j := 0) hE hk (by decide)
theorem oc1 (hE : okE E) (hk : k < 12) : mres cT 32 d 0 (ment 3 [.ref 93, .int (nI k), .int 1]) [] (hs E S) = some (some (.int (iA S 94 (20 + 6 * k + 1))), hs E S) := M_ofCase_ok (j := 1) hE hk (by decide)
theorem be1 (hE : okE E) (hk : k < 12) : mres cT 18 d 0 (ment 4 [.ref 93, .int (nI k), .int 1, .int v]) [] (hs E S) = some (none, hs E (sA S 94 (upd (iA S 94) (20 + 6 * k + 1) v))) := M_becomes_ok (j := 1) hE hk (by decide)
theorem oc2 (hE : okE E) (hk : k < 12) : mres cT 32 d 0 (ment 3 [.ref 93, .int (nI k), .int 2]) [] (hs E S) = some (some (.int (iA S 94 (20 + 6 * k + 2))), hs E S) := M_ofCase_ok (j := 2) hE hk (by decide)
theorem be2 (hE : okE E) (hk : k < 12) : mres cT 18 d 0 (ment 4 [.ref 93, .int (nI k), .int 2, .int v]) [] (hs E S) = some (none, hs E (sA S 94 (upd (iA S 94) (20 + 6 * k + 2) v))) := M_becomes_ok (j := 2) hE hk (by decide)
theorem oc3 (hE : okE E) (hk : k < 12) : mres cT 32 d 0 (ment 3 [.ref 93, .int (nI k), .int 3]) [] (hs E S) = some (some (.int (iA S 94 (20 + 6 * k + 3))), hs E S) := M_ofCase_ok (j := 3) hE hk (by decide)
theorem be3 (hE : okE E) (hk : k < 12) : mres cT 18 d 0 (ment 4 [.ref 93, .int (nI k), .int 3, .int v]) [] (hs E S) = some (none, hs E (sA S 94 (upd (iA S 94) (20 + 6 * k + 3) v))) := M_becomes_ok (j := 3) hE hk (by decide)
theorem oc4 (hE : okE E) (hk : k < 12) : mres cT 32 d 0 (ment 3 [.ref 93, .int (nI k), .int 4]) [] (hs E S) = some (some (.int (iA S 94 (20 + 6 * k + 4))), hs E S) := M_ofCase_ok (j := 4) hE hk (by decide)
theorem be4 (hE : okE E) (hk : k < 12) : mres cT 18 d 0 (ment 4 [.ref 93, .int (nI k), .int 4, .int v]) [] (hs E S) = some (none, hs E (sA S 94 (upd (iA S 94) (20 + 6 * k + 4) v))) := M_becomes_ok (j := 4) hE hk (by decide)
theorem oc5 (hE : okE E) (hk : k < 12) : mres cT 32 d 0 (ment 3 [.ref 93, .int (nI k), .int 5]) [] (hs E S) = some (some (.int (iA S 94 (20 + 6 * k + 5))), hs E S) := M_ofCase_ok (j := 5) hE hk (by decide)
theorem be5 (hE : okE E) (hk : k < 12) : mres cT 18 d 0 (ment 4 [.ref 93, .int (nI k), .int 5, .int v]) [] (hs E S) = some (none, hs E (sA S 94 (upd (iA S 94) (20 + 6 * k + 5) v))) := M_becomes_ok (j := 5) hE hk (by decide)
end MODEL
