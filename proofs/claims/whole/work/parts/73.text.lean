/-! a text is made -/
section TEXT
variable {E : EE} {S : SS} {d n p q i j len : Nat} {k o y l ky : Int32} {g : Nat → Int32}
def tc1 (k o y l : Int32) : Cel := (fun j => if j = 0 then k else if j = 1 then o else if j = 2 then y else l, fun _ => 0, fun _ => 0, fun _ => none)
def tc2 (len : Nat) (g : Nat → Int32) : Cel := (fun _ => nI len, g, fun _ => 0, fun _ => none)
def eeT (E : EE) (len : Nat) : EE := (E.1 + 2, E.2.1 + 5 + len, E.2.2)
def mkT (E : EE) (S : SS) (k o y l : Int32) (len : Nat) (g : Nat → Int32) : SS := va_up (va_up S E.1 (tc1 k o y l)) (E.1 + 1) (tc2 len g)
theorem hp_new (hE : okE E) (h2 : E.1 % 2 = 1) (hl : len < 2 ^ 31) : va_up (va_up (hp E S) E.1 (.inr (6, [.int k, .int o, .int y, .int l, .ref (E.1 + 1)]))) (E.1 + 1) (.inl (0, len, .inl g)) = hp (eeT E len) (mkT E S k o y l len g) := by
  have h1 := hE.1
  funext q
  by_cases a : q = E.1 + 1
  · subst a
    rw [va_up, if_pos rfl, hp, if_pos (by show E.1 + 1 < E.1 + 2; omega), mkT, va_up, if_pos rfl, shp, if_neg (by omega), if_neg (by omega), if_neg (by omega), if_neg (by omega), if_neg (by omega), shT, if_neg (by omega), shI]
    show _ = Sum.inl (0, (nI len).toNatClampNeg, _)
    rw [nI_clamp hl]
    rfl
  · rw [va_up, if_neg a]
    by_cases b : q = E.1
    · subst b
      rw [va_up, if_pos rfl, hp, if_pos (by show E.1 < E.1 + 2; omega), mkT, va_up, if_neg a, va_up, if_pos rfl, shp, if_neg (by omega), if_neg (by omega), if_neg (by omega), if_neg (by omega), if_neg (by omega), shT, if_pos h2]
      rfl
    · rw [va_up, if_neg b, hp, hp]
      by_cases c : q < E.1
      · rw [if_pos c, if_pos (by show q < E.1 + 2; omega), mkT, va_up, if_neg a, va_up, if_neg b]
      · rw [if_neg c, if_neg (by show ¬ q < E.1 + 2; omega)]
        rfl
def cpT (g : Nat → Int32) (len : Nat) : Nat → Int32 := va_cpy g (fun _ => 0) 0 0 len
theorem JA_copyOf_ok {H : mH} (h82 : H.2.2 82 = .inl (0, 96, .inl g)) (h8 : 82 < H.1) (hH : H.1 < 1000000) (hl : len < 96) : mres cT 135 d 0 (ment 3 [.ref 82, .int (nI len)]) [] H = some (some (.ref H.1), (H.1 + 1, H.2.1 + len, va_up H.2.2 H.1 (.inl (0, len, .inl (cpT g len))))) := by
  have a1 : ¬ nI len = nI 96 := fun e => by have := (nI_eq (by omega) (by omega)).mp e; omega
  have a2 : nI len < nI 96 := nI_lt hl (by omega)
  have a3 : (nI len).toNatClampNeg = len := nI_clamp (by omega)
  have e82 : (mnew H len (marr 0 len)).2.2 82 = .inl (0, 96, .inl g) := by
    show va_up H.2.2 H.1 _ 82 = _
    rw [va_up, if_neg (by omega), h82]
  have eH : (mnew H len (marr 0 len)).2.2 H.1 = .inl (0, len, .inl (fun _ => 0)) := by
    show va_up H.2.2 H.1 _ H.1 = _
    rw [va_up, if_pos rfl]
    rfl
  have z0 : (0 : Int32).toNatClampNeg = 0 := by decide
  have z1 : ¬ (0 : Int32) < 0 := by decide
  have em : mcpi (.inl (0, 96, .inl g)) (.inl (0, len, .inl (fun _ => 0))) 0 0 (nI len) = some (.inl (0, len, .inl (cpT g len))) := by
    rw [mcpi, if_pos ⟨rfl, rfl, z1, z1, nI_pos (by omega), by rw [z0, a3]; omega, by rw [z0, a3]; omega⟩, z0, a3]
    rfl
  simp only [ment, mfl, List.length, List.replicate, List.cons_append, List.nil_append, Nat.reduceAdd, Nat.reduceSub]
  simp only [r_il1 c_JA_copyOf_0, r_al0 c_JA_copyOf_1, r_len c_JA_copyOf_2, r_icne c_JA_copyOf_3, ↓reduceIte, hs_h, Option.bind_some, mfix_i, mfix_r, mfix_n, mfix_a, Option.toList_some, Option.toList_none, List.cons_append, List.nil_append, List.singleton_append, h82, mlen, a1, if_false]
  simp only [r_il1 c_JA_copyOf_14, r_na c_JA_copyOf_15 ⟨hH, nI_pos (show len < 2 ^ 31 by omega), show (nI len).toNatClampNeg ≤ 1000000 by rw [a3]; omega⟩, a3, r_as2 c_JA_copyOf_17, r_al0 c_JA_copyOf_18, r_ci c_JA_copyOf_19, r_al2 c_JA_copyOf_20, r_ci c_JA_copyOf_21, r_al0 c_JA_copyOf_22, r_len c_JA_copyOf_23, r_il1 c_JA_copyOf_24, r_ca2 c_JA_copyOf_25, ↓reduceIte, hs_h, Option.bind_some, mfix_i, mfix_r, mfix_n, mfix_a, Option.toList_some, Option.toList_none, List.cons_append, List.nil_append, List.singleton_append, mwt, Value.category, Nat.reduceAdd, Nat.reduceLeDiff, true_and, and_true, and_self, e82, mlen, JM_min_ok, a2, if_true, r_cpy c_JA_copyOf_28 (show mwt [] ≤ 8 by decide), eH, em, r_al2 c_JA_copyOf_31, r_aret c_JA_copyOf_32, r_aretn c_JA_copyOf_32]
  refine congrArg some (Prod.ext rfl (Prod.ext rfl (Prod.ext rfl ?_)))
  show va_up (va_up H.2.2 H.1 _) H.1 _ = _
  funext j
  simp only [va_up]
  split <;> rfl
def tH (H : mH) (u : Nat) (fs : List Value) : mH := (H.1, H.2.1, va_up H.2.2 u (.inr (6, fs)))
theorem r_pfT {T : Nat → Nat → mF} {M pc m u kk t : Nat} {ls : mL} {st : List Value} {H : mH} {v : Value} {fs : List Value} (h : T M pc = o_pf m 6 kk t) (hv : mfit t v = true) (hk : kk < fs.length) : mres T M d pc ls (v :: .ref u :: st) (tH H u fs) = mres T M d m ls st (tH H u (fs.set kk v)) := by
  have e1 : (tH H u fs).2.2 u = .inr (6, fs) := by show va_up H.2.2 u _ u = _; rw [va_up, if_pos rfl]
  rw [r_pf h hv, e1, mfset_at hk, Option.bind_some]
  congr 1
  refine Prod.ext rfl (Prod.ext rfl ?_)
  show va_up (va_up H.2.2 u _) u _ = va_up H.2.2 u _
  funext j
  simp only [va_up]
  split <;> rfl
theorem T_init_ok {H : mH} {u : Nat} {x0 x1 x2 x3 : Int32} {w4 : Value} (hu : H.2.2 u = .inr (6, [.int x0, .int x1, .int x2, .int x3, w4])) : mres cT 136 d 0 (ment 6 [.ref u, .int k, .int o, .int y, .int l, .ref q]) [] H = some (none, tH H u [.int k, .int o, .int y, .int l, .ref q]) := by
  have h0 : H = tH H u [.int x0, .int x1, .int x2, .int x3, w4] := by
    refine Prod.ext rfl (Prod.ext rfl ?_)
    show H.2.2 = va_up H.2.2 u _
    funext j
    simp only [va_up]
    split
    · subst_vars; exact hu
    · rfl
  have key : mres cT 136 d 0 (ment 6 [.ref u, .int k, .int o, .int y, .int l, .ref q]) [] (tH H u [.int x0, .int x1, .int x2, .int x3, w4]) = some (none, tH H u [.int k, .int o, .int y, .int l, .ref q]) := by
    simp only [ment, mfl, List.length, List.replicate, List.cons_append, List.nil_append, Nat.reduceAdd, Nat.reduceSub]
    generalize hG : tH H u [.int x0, .int x1, .int x2, .int x3, w4] = G
    simp only [r_al0 c_T_init_0, r_oin c_T_init_1, r_al0 c_T_init_4, r_il1 c_T_init_5, ↓reduceIte, hs_h, Option.bind_some, mfix_i, mfix_r, mfix_n, mfix_a, Option.toList_some, Option.toList_none, List.cons_append, List.nil_append, List.singleton_append, mwt, Value.category, Nat.reduceAdd, Nat.reduceLeDiff, true_and, and_true, and_self, r_oin c_T_init_1 (show mwt [] ≤ 8 by decide)]
    rw [← hG, r_pfT c_T_init_6 rfl (by simp)]
    simp only [r_al0 c_T_init_9, r_il2 c_T_init_10, ↓reduceIte, hs_h, Option.bind_some, mfix_i, mfix_r, mfix_n, mfix_a, Option.toList_some, Option.toList_none, List.cons_append, List.nil_append, List.singleton_append]
    rw [r_pfT c_T_init_11 rfl (by simp)]
    simp only [r_al0 c_T_init_14, r_il3 c_T_init_15, ↓reduceIte, hs_h, Option.bind_some, mfix_i, mfix_r, mfix_n, mfix_a, Option.toList_some, Option.toList_none, List.cons_append, List.nil_append, List.singleton_append]
    rw [r_pfT c_T_init_16 rfl (by simp)]
    simp only [r_al0 c_T_init_19, r_il4 c_T_init_20, ↓reduceIte, hs_h, Option.bind_some, mfix_i, mfix_r, mfix_n, mfix_a, Option.toList_some, Option.toList_none, List.cons_append, List.nil_append, List.singleton_append]
    rw [r_pfT c_T_init_22 rfl (by simp)]
    simp only [r_al0 c_T_init_25, r_al5 c_T_init_26, ↓reduceIte, hs_h, Option.bind_some, mfix_i, mfix_r, mfix_n, mfix_a, Option.toList_some, Option.toList_none, List.cons_append, List.nil_append, List.singleton_append]
    rw [r_pfT c_T_init_28 rfl (by simp)]
    simp only [r_vret c_T_init_31]
    rfl
  rw [← h0] at key
  exact key
theorem D_made_ok (hE : okE E) (h2 : E.1 % 2 = 1) (hlt : E.1 < 900) (hk : iF S 81 4 = ky) (hl : iF S 81 3 = l) (hc : iF S 81 2 = nI len) (hl2 : len < 96) : mres cT 137 d 0 (ment 3 [.ref 81, .int o, .int y]) [] (hs E S) = some (some (.ref E.1), hs (eeT E len) (mkT E S ky o y l len (cpT (iA S 82) len))) := by
  have h1 := hE.1
  have o7 := o_D hE
  have e81 : ∀ e, va_up (hp E S) E.1 e 81 = shO 7 [81, 84, 0, 0, 0, 0, 0, 0, 0] (S 81) := fun e => by rw [va_up, if_neg (by omega), o7.1 S]
  have e82 : ∀ e, va_up (hp E S) E.1 e 82 = .inl (0, 96, .inl (iA S 82)) := fun e => by rw [va_up, if_neg (by omega), (i_D hE).1 S]; rfl
  have f4 : mfld (shO 7 [81, 84, 0, 0, 0, 0, 0, 0, 0] (S 81)) 7 4 = some (.int ky) := by rw [sho_at, ← hk]; rfl
  have f3 : mfld (shO 7 [81, 84, 0, 0, 0, 0, 0, 0, 0] (S 81)) 7 3 = some (.int l) := by rw [sho_at, ← hl]; rfl
  have f2 : mfld (shO 7 [81, 84, 0, 0, 0, 0, 0, 0, 0] (S 81)) 7 2 = some (.int (nI len)) := by rw [sho_at, ← hc]; rfl
  have f1 : mfld (shO 7 [81, 84, 0, 0, 0, 0, 0, 0, 0] (S 81)) 7 1 = some (.ref 82) := by rw [sho_at]; rfl
  have em : (if (0 : Int32) < nI len then nI len else 0) = nI len := by
    by_cases a : len = 0
    · subst a; decide
    · exact if_pos (nI_lt (a := 0) (b := len) (by omega) (by omega))
  generalize hG : mnew (hs E S) 5 (.inr (6, [.int 0, .int 0, .int 0, .int 0, .null])) = G
  have g0 : G.2.2 = va_up (hp E S) E.1 (.inr (6, [.int 0, .int 0, .int 0, .int 0, .null])) := by rw [← hG]; rfl
  have g1 : G.1 = E.1 + 1 := by rw [← hG]; rfl
  have g2 : G.2.1 = E.2.1 + 5 := by rw [← hG]; rfl
  have gc := JA_copyOf_ok (d := d) (H := G) (g := iA S 82) (len := len) (by rw [g0, e82]) (by omega) (by omega) hl2
  have mE : misc (va_up G.2.2 G.1 (.inl (0, len, .inl (cpT (iA S 82) len))) E.1) 6 = true := by
    rw [va_up, if_neg (by omega), g0, va_up, if_pos rfl]; simp [misc]
  have gt := T_init_ok (d := d) (H := (G.1 + 1, G.2.1 + len, va_up G.2.2 G.1 (.inl (0, len, .inl (cpT (iA S 82) len))))) (u := E.1) (k := ky) (o := o) (y := y) (l := l) (q := G.1) (x0 := 0) (x1 := 0) (x2 := 0) (x3 := 0) (w4 := .null) (by show va_up G.2.2 G.1 _ E.1 = _; rw [va_up, if_neg (by omega), g0, va_up, if_pos rfl])
  simp only [ment, mfl, List.length, List.replicate, List.cons_append, List.nil_append, Nat.reduceAdd, Nat.reduceSub]
  rw [r_new c_D_made_0 (show (hs E S).1 < 1000000 by show E.1 < 1000000; omega), hG]
  have g9 : (hs E S).1 = E.1 := rfl
  have g81 : G.2.2 81 = shO 7 [81, 84, 0, 0, 0, 0, 0, 0, 0] (S 81) := by rw [g0, e81]
  simp only [r_dupi c_D_made_3, r_dupr c_D_made_3, r_al0 c_D_made_4, r_gf c_D_made_5, r_il1 c_D_made_8, r_il2 c_D_made_9, r_al0 c_D_made_10, r_gf c_D_made_11, r_al0 c_D_made_14, r_gf c_D_made_15, r_ci c_D_made_18, r_al0 c_D_made_19, r_gf c_D_made_20, r_ca2 c_D_made_23, r_ca2 c_D_made_26, r_cv6 c_D_made_29, r_aret c_D_made_32, r_aretn c_D_made_32, ↓reduceIte, hs_h, Option.bind_some, mfix_i, mfix_r, mfix_n, mfix_a, Option.toList_some, Option.toList_none, List.cons_append, List.nil_append, List.singleton_append, mwt, Value.category, Nat.reduceAdd, Nat.reduceLeDiff, true_and, and_true, and_self, g81, g9, f4, f3, f2, f1, JM_max_ok, em, gc, mE, gt]
  refine congrArg some (Prod.ext rfl (Prod.ext ?_ (Prod.ext ?_ ?_)))
  · show G.1 + 1 = E.1 + 2
    omega
  · show G.2.1 + len = E.2.1 + 5 + len
    omega
  · show va_up (va_up G.2.2 G.1 _) E.1 _ = hp (eeT E len) (mkT E S ky o y l len (cpT (iA S 82) len))
    rw [← hp_new hE h2 (by omega), g0, g1]
    funext j
    by_cases a : j = E.1 + 1
    · subst a
      simp only [va_up, if_true, show ¬ E.1 + 1 = E.1 by omega, if_false]
    · by_cases b : j = E.1
      · subst b
        simp only [va_up, if_true, a, if_false]
      · simp only [va_up, a, b, if_false]
end TEXT
