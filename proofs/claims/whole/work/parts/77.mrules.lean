/-! the model: texts worked, rules -/
section MRULES
variable {E : EE} {R S S1 : SS} {d k j n b q a m len i : Nat} {c v x y D x0 x1 x2 x3 fo fk dy : Int32} {f g : Nat → Int32} {z t : Nat → Nat}
/-- the same but for what the model writes in passing -/
def eqM (S S' : SS) : Prop := (∀ q, q ≠ 93 → q ≠ 102 → q ≠ 106 → q ≠ 107 → S' q = S q) ∧ ∀ k, k ≠ 12 → iF S' 93 k = iF S 93 k
theorem eqM_rf : eqM S S := ⟨fun _ _ _ _ _ => rfl, fun _ _ => rfl⟩
theorem eqM_tr {S2 : SS} (h : eqM S S1) (h2 : eqM S1 S2) : eqM S S2 := ⟨fun q a b c e => (h2.1 q a b c e).trans (h.1 q a b c e), fun k hk => (h2.2 k hk).trans (h.2 k hk)⟩
theorem eqM_pt {p : Nat → Int32} : eqM S (ptS S p m) := by
  refine ⟨fun q h1 h2 _ _ => ?_, fun k hk => ?_⟩
  · rw [ptS, sF, va_up, if_neg h1, sA, va_up, if_neg h2]
  · rw [ptS, iF_sF_ne (Or.inr hk), iF_sA]
theorem eqM_sA (h : a = 106 ∨ a = 107) : eqM S (sA S a g) := by
  refine ⟨fun q h1 h2 h3 h4 => ?_, fun k hk => iF_sA⟩
  rw [sA, va_up, if_neg (by rcases h with rfl | rfl <;> omega)]
theorem eqM_94 (h : eqM S S1) : iA S1 94 = iA S 94 := by rw [iA, h.1 94 (by omega) (by omega) (by omega) (by omega)]
def dnM (w a b : Int32) : Int32 := if w = 0 then (if a = 0 then (if b = 0 then 0 else 1) else 1) else if w = 1 then (if a = 0 then 0 else if b = 0 then 0 else 1) else if w = 2 then (if b ≤ a then 0 else 1) else if w = 3 then (if a = b then 1 else 0) else if w = 4 then (if a ≤ b then 0 else 1) else if w = 5 then a + b else if w = 6 then a - b else if w = 7 then a * b else if b = 0 then 0 else a / b
theorem M_done_ok {H : mH} {w l r : Int32} : mres cT 89 d 0 (ment 3 [.int w, .int l, .int r]) [] H = some (some (.int (dnM w l r)), H) := by
  have hd : ∀ st : mL, (if r = 0 then mres cT 89 d 125 [.int w, .int l, .int r] [] H else mres cT 89 d 129 [.int w, .int l, .int r] [] H) = some (some (.int (if r = 0 then 0 else l / r)), H) := by
    intro _
    by_cases h : r = 0
    · simp only [h, if_true, r_ci c_M_done_125, r_goto c_M_done_126, r_iret c_M_done_132]
    · simp only [h, if_false, r_il1 c_M_done_129, r_il2 c_M_done_130, r_idiv c_M_done_131 h, r_iret c_M_done_132]
  have hd := hd []
  simp only [ment, mfl, List.length, List.replicate, List.cons_append, List.nil_append, Nat.reduceAdd, Nat.reduceSub]
  simp only [r_il0 c_M_done_0, r_sw c_M_done_1, ↓reduceIte, hs_h, Option.bind_some, mfix_i, mfix_r, mfix_n, mfix_a, Option.toList_some, Option.toList_none, List.cons_append, List.nil_append, List.singleton_append, mpick, ite_mres]
  simp only [r_il1 c_M_done_48, r_ifne c_M_done_49, r_il2 c_M_done_52, r_ifeq c_M_done_53, r_ci c_M_done_56, r_goto c_M_done_57, r_ci c_M_done_60, r_iret c_M_done_61, r_il1 c_M_done_62, r_ifeq c_M_done_63, r_il2 c_M_done_66, r_ifeq c_M_done_67, r_ci c_M_done_70, r_goto c_M_done_71, r_ci c_M_done_74, r_iret c_M_done_75, r_il1 c_M_done_76, r_il2 c_M_done_77, r_icge c_M_done_78, r_ci c_M_done_81, r_goto c_M_done_82, r_ci c_M_done_85, r_iret c_M_done_86, r_il1 c_M_done_87, r_il2 c_M_done_88, r_icne c_M_done_89, r_ci c_M_done_92, r_goto c_M_done_93, r_ci c_M_done_96, r_iret c_M_done_97, r_il1 c_M_done_98, r_il2 c_M_done_99, r_icle c_M_done_100, r_ci c_M_done_103, r_goto c_M_done_104, r_ci c_M_done_107, r_iret c_M_done_108, r_il1 c_M_done_109, r_il2 c_M_done_110, r_iadd c_M_done_111, r_iret c_M_done_112, r_il1 c_M_done_113, r_il2 c_M_done_114, r_isub c_M_done_115, r_iret c_M_done_116, r_il1 c_M_done_117, r_il2 c_M_done_118, r_imul c_M_done_119, r_iret c_M_done_120, r_il2 c_M_done_121, r_ifne c_M_done_122, hd, ite_out, dnM]
/-- the model's code for a code -/
def mcd (c : Int32) : Int32 := if 0 ≤ c then c else if -4 ≤ c then 100000 + (-1 - c) else if c = -33 then 200009 else if c = -124 then 200000 else if c = -38 then 200001 else if c = -60 then 200002 else if c = -61 then 200003 else if c = -62 then 200004 else if c = -43 then 200005 else if c = -45 then 200006 else if c = -42 then 200007 else 200008
def vcd (c : Int32) : Prop := (∃ k : Nat, k < 10000 ∧ c = nI k) ∨ (c = -1 ∨ c = -2 ∨ c = -3 ∨ c = -4) ∨ (c = -33 ∨ c = -124 ∨ c = -38 ∨ c = -60 ∨ c = -61 ∨ c = -62 ∨ c = -43 ∨ c = -45 ∨ c = -42 ∨ c = -47)
theorem dn_jn {c l r : Int32} (h : c = -124 ∨ c = -38 ∨ c = -60 ∨ c = -61 ∨ c = -62 ∨ c = -43 ∨ c = -45 ∨ c = -42 ∨ c = -47) : dnM (mcd c - 200000) l r = jnS l (-c) r := by
  rcases h with rfl | rfl | rfl | rfl | rfl | rfl | rfl | rfl | rfl
  · rw [show mcd (-124) - 200000 = 0 by decide, show -(-124 : Int32) = 124 by decide]; rfl
  · rw [show mcd (-38) - 200000 = 1 by decide, show -(-38 : Int32) = 38 by decide]; rfl
  · rw [show mcd (-60) - 200000 = 2 by decide, show -(-60 : Int32) = 60 by decide]; rfl
  · rw [show mcd (-61) - 200000 = 3 by decide, show -(-61 : Int32) = 61 by decide]; rfl
  · rw [show mcd (-62) - 200000 = 4 by decide, show -(-62 : Int32) = 62 by decide]; rfl
  · rw [show mcd (-43) - 200000 = 5 by decide, show -(-43 : Int32) = 43 by decide]; rfl
  · rw [show mcd (-45) - 200000 = 6 by decide, show -(-45 : Int32) = 45 by decide]; rfl
  · rw [show mcd (-42) - 200000 = 7 by decide, show -(-42 : Int32) = 42 by decide]; rfl
  · rw [show mcd (-47) - 200000 = 8 by decide, show -(-47 : Int32) = 47 by decide]; rfl
theorem evG_eq {g g' : Nat → Int32} {i : Nat} (h : g = g') : evG f x0 x1 x2 x3 i g = evG f x0 x1 x2 x3 i g' := by rw [h]
theorem M_worked_ok (hE : okE E) (hj : j < 16) (hl : len ≤ 96) (hw : wfc f len) (hc : ∀ i, i < len → iA S 94 (914 + 104 * j + 4 + i) = mcd (f i) ∧ vcd (f i)) (he : iA S 94 (914 + 104 * j + 4 + len) = 300000) (h0 : iA S 107 0 = x0) (h1 : iA S 107 1 = x1) (h2 : iA S 107 2 = x2) (h3 : iA S 107 3 = x3) : mres cT 90 d 0 (ment 5 [.ref 93, .int (nI j)]) [] (hs E S) = some (some (.int (evL f len x0 x1 x2 x3 (iA S 106) 0)), hs E (sA S 106 (evL f len x0 x1 x2 x3 (iA S 106)))) := by
  have o10 := o_M hE
  have hi6 := i_106 hE
  have hi7 := i_107 hE
  have tvA : ∀ u : Nat, u < 4 → iA S 107 u = nmS (nI u) x0 x1 x2 x3 := by
    intro u hu
    match u, hu with
    | 0, _ => exact h0
    | 1, _ => exact h1
    | 2, _ => exact h2
    | 3, _ => exact h3
  have a94 : ∀ g, iA (sA S 106 g) 94 = iA S 94 := fun g => iA_sA_ne (by omega)
  have a107 : ∀ g, iA (sA S 106 g) 107 = iA S 107 := fun g => iA_sA_ne (by omega)
  have lp : ∀ m i g w, i + m = len → mres cT 90 d 13 [.ref 93, .int (nI j), .int (nI (depc f i)), .int (nI (914 + 104 * j + 4 + i)), w] [] (hs E (sA S 106 g)) = some (some (.int (rfor (evG f x0 x1 x2 x3) i m g 0)), hs E (sA S 106 (rfor (evG f x0 x1 x2 x3) i m g))) := by
    intro m
    induction m with
    | zero =>
      intro i g w hi
      have e : i = len := by omega
      subst e
      have m0 : mia (hp E (sA S 106 g) 106) 0 10 0 = some (g 0) := by
        have := mia_I (S := sA S 106 g) (j := 0) hi6 (by decide) (by decide)
        rw [iA_sA] at this
        exact this
      simp only [r_al0 c_M_worked_13, r_gfSr c_M_worked_14 o10 rfl, r_il3 c_M_worked_17, r_ial c_M_worked_18, r_ci c_M_worked_19, r_iceq c_M_worked_22, r_al0 c_M_worked_149, r_gfSr c_M_worked_150 o10 rfl, r_ci c_M_worked_153, r_ial c_M_worked_154, r_iret c_M_worked_155, ↓reduceIte, hs_h, Option.bind_some, mfix_i, mfix_r, mfix_n, mfix_a, Option.toList_some, Option.toList_none, List.cons_append, List.nil_append, List.singleton_append, mia_94 hE (show 914 + 104 * j + 4 + i < 2578 by omega), a94, he, if_true, m0, rfor]
    | succ m ih =>
      intro i g w hi
      obtain ⟨c1, c2⟩ := hc i (by omega)
      have hk := hw.1 i (by omega)
      have ih := fun g w => ih (i + 1) g w (by omega)
      rw [depc] at ih
      rw [rfor]
      have ix : nI (914 + 104 * j + 4 + i) + 1 = nI (914 + 104 * j + 4 + (i + 1)) := by rw [nI_1]; rfl
      rcases c2 with ⟨k, hk9, c2⟩ | c2 | c2
      · -- a number
        have n1 : ¬ nI k = 300000 := fun e => by have := (nI_eq (a := k) (b := 300000) (by omega) (by omega)).mp e; omega
        have n2 : ¬ (200000 : Int32) ≤ nI k := nI_ge (b := 200000) (by omega) (by omega)
        have n3 : ¬ (100000 : Int32) ≤ nI k := nI_ge (b := 100000) (by omega) (by omega)
        have n4 : (0 : Int32) ≤ nI k := nI_pos' (by omega)
        have n5 : ¬ nI k < -4 := fun h => nI_pos (n := k) (by omega) (Int32.lt_trans h (by decide))
        have em : mcd (nI k) = nI k := if_pos n4
        have ev : evG f x0 x1 x2 x3 i g = upd g (depc f i) (nI k) := by rw [evG, c2, if_neg (nI_pos (by omega))]
        rw [okD, c2, if_neg n5] at hk
        rw [nxD, c2, if_neg n5] at ih
        rw [c2, em] at c1
        rw [ev]
        simp only [r_al0 c_M_worked_13, r_gfSr c_M_worked_14 o10 rfl, r_il3 c_M_worked_17, r_ial c_M_worked_18, r_ci c_M_worked_19, r_iceq c_M_worked_22, ↓reduceIte, hs_h, Option.bind_some, mfix_i, mfix_r, mfix_n, mfix_a, Option.toList_some, Option.toList_none, List.cons_append, List.nil_append, List.singleton_append, mia_94 hE (show 914 + 104 * j + 4 + i < 2578 by omega), a94, c1, n1, if_false]
        simp only [r_al0 c_M_worked_25, r_gfSr c_M_worked_26 o10 rfl, r_il3 c_M_worked_29, r_ial c_M_worked_30, r_is4 c_M_worked_31, r_il4 c_M_worked_33, r_ci c_M_worked_35, r_icge c_M_worked_38, r_al0 c_M_worked_41, r_gfSr c_M_worked_42 o10 rfl, r_il2 c_M_worked_45, r_il4 c_M_worked_46, r_ci c_M_worked_48, r_icge c_M_worked_50, r_il4 c_M_worked_53, r_goto c_M_worked_55, r_al0 c_M_worked_58, r_gfSr c_M_worked_59 o10 rfl, r_il4 c_M_worked_62, r_ci c_M_worked_64, r_isub c_M_worked_66, r_ial c_M_worked_67, r_ias c_M_worked_68, r_inc2 c_M_worked_69, r_goto c_M_worked_72, r_il4 c_M_worked_75, r_ci c_M_worked_77, r_icne c_M_worked_79, r_al0 c_M_worked_82, r_gfSr c_M_worked_83 o10 rfl, r_il2 c_M_worked_86, r_ci c_M_worked_87, r_isub c_M_worked_88, r_al0 c_M_worked_89, r_gfSr c_M_worked_90 o10 rfl, r_il2 c_M_worked_93, r_ci c_M_worked_94, r_isub c_M_worked_95, r_ial c_M_worked_96, r_ifne c_M_worked_97, r_ci c_M_worked_100, r_goto c_M_worked_101, r_ci c_M_worked_104, r_ias c_M_worked_105, r_goto c_M_worked_106, r_inc2 c_M_worked_109, r_al0 c_M_worked_112, r_gfSr c_M_worked_113 o10 rfl, r_il2 c_M_worked_116, r_ci c_M_worked_117, r_isub c_M_worked_118, r_il4 c_M_worked_119, r_ci c_M_worked_121, r_isub c_M_worked_124, r_al0 c_M_worked_125, r_gfSr c_M_worked_126 o10 rfl, r_il2 c_M_worked_129, r_ci c_M_worked_130, r_isub c_M_worked_131, r_ial c_M_worked_132, r_al0 c_M_worked_133, r_gfSr c_M_worked_134 o10 rfl, r_il2 c_M_worked_137, r_ial c_M_worked_138, r_ca3 c_M_worked_139, r_ias c_M_worked_142, r_inc3 c_M_worked_143, r_goto c_M_worked_146, ↓reduceIte, hs_h, Option.bind_some, mfix_i, mfix_r, mfix_n, mfix_a, Option.toList_some, Option.toList_none, List.cons_append, List.nil_append, List.singleton_append, mia_94 hE (show 914 + 104 * j + 4 + i < 2578 by omega), a94, c1, n2, n3, if_false, mis_I hi6 (show depc f i < 100 by omega) (by decide), hs_I hi6, iA_sA, sA_sA, nI_1, ih, show 914 + 104 * j + 4 + i + 1 = 914 + 104 * j + 4 + (i + 1) by omega]
      · -- a name
        have key : ∀ (u : Nat) (cc : Int32), u < 4 → cc = -1 - nI u → (mcd cc = nI (100000 + u)) ∧ cc < 0 ∧ ¬ cc < -4 ∧ -1 - cc = nI u := by
          intro u cc hu e
          subst e
          match u, hu with
          | 0, _ => decide
          | 1, _ => decide
          | 2, _ => decide
          | 3, _ => decide
        obtain ⟨u, hu, c2⟩ : ∃ u : Nat, u < 4 ∧ f i = -1 - nI u := by
          rcases c2 with e | e | e | e
          · exact ⟨0, by omega, by rw [e]; decide⟩
          · exact ⟨1, by omega, by rw [e]; decide⟩
          · exact ⟨2, by omega, by rw [e]; decide⟩
          · exact ⟨3, by omega, by rw [e]; decide⟩
        obtain ⟨k1, k2, k3, k4⟩ := key u (f i) hu c2
        have n1 : ¬ nI (100000 + u) = 300000 := fun e => by have := (nI_eq (a := 100000 + u) (b := 300000) (by omega) (by omega)).mp e; omega
        have n2 : ¬ (200000 : Int32) ≤ nI (100000 + u) := nI_ge (b := 200000) (by omega) (by omega)
        have n3 : (100000 : Int32) ≤ nI (100000 + u) := nI_le (a := 100000) (by omega) (by omega)
        have n4 : nI (100000 + u) - 100000 = nI u := by
          rw [show (100000 : Int32) = nI 100000 from rfl, pk_sub (by omega)]
          exact congrArg nI (by omega)
        have tv := tvA u hu
        have ev : evG f x0 x1 x2 x3 i g = upd g (depc f i) (iA S 107 u) := by rw [evG, if_pos k2, if_neg k3, k4, tv]
        rw [okD, if_neg k3] at hk
        rw [nxD, if_neg k3] at ih
        rw [k1] at c1
        rw [ev]
        simp only [r_al0 c_M_worked_13, r_gfSr c_M_worked_14 o10 rfl, r_il3 c_M_worked_17, r_ial c_M_worked_18, r_ci c_M_worked_19, r_iceq c_M_worked_22, ↓reduceIte, hs_h, Option.bind_some, mfix_i, mfix_r, mfix_n, mfix_a, Option.toList_some, Option.toList_none, List.cons_append, List.nil_append, List.singleton_append, mia_94 hE (show 914 + 104 * j + 4 + i < 2578 by omega), a94, c1, n1, if_false]
        simp only [r_al0 c_M_worked_25, r_gfSr c_M_worked_26 o10 rfl, r_il3 c_M_worked_29, r_ial c_M_worked_30, r_is4 c_M_worked_31, r_il4 c_M_worked_33, r_ci c_M_worked_35, r_icge c_M_worked_38, r_al0 c_M_worked_41, r_gfSr c_M_worked_42 o10 rfl, r_il2 c_M_worked_45, r_il4 c_M_worked_46, r_ci c_M_worked_48, r_icge c_M_worked_50, r_il4 c_M_worked_53, r_goto c_M_worked_55, r_al0 c_M_worked_58, r_gfSr c_M_worked_59 o10 rfl, r_il4 c_M_worked_62, r_ci c_M_worked_64, r_isub c_M_worked_66, r_ial c_M_worked_67, r_ias c_M_worked_68, r_inc2 c_M_worked_69, r_goto c_M_worked_72, r_il4 c_M_worked_75, r_ci c_M_worked_77, r_icne c_M_worked_79, r_al0 c_M_worked_82, r_gfSr c_M_worked_83 o10 rfl, r_il2 c_M_worked_86, r_ci c_M_worked_87, r_isub c_M_worked_88, r_al0 c_M_worked_89, r_gfSr c_M_worked_90 o10 rfl, r_il2 c_M_worked_93, r_ci c_M_worked_94, r_isub c_M_worked_95, r_ial c_M_worked_96, r_ifne c_M_worked_97, r_ci c_M_worked_100, r_goto c_M_worked_101, r_ci c_M_worked_104, r_ias c_M_worked_105, r_goto c_M_worked_106, r_inc2 c_M_worked_109, r_al0 c_M_worked_112, r_gfSr c_M_worked_113 o10 rfl, r_il2 c_M_worked_116, r_ci c_M_worked_117, r_isub c_M_worked_118, r_il4 c_M_worked_119, r_ci c_M_worked_121, r_isub c_M_worked_124, r_al0 c_M_worked_125, r_gfSr c_M_worked_126 o10 rfl, r_il2 c_M_worked_129, r_ci c_M_worked_130, r_isub c_M_worked_131, r_ial c_M_worked_132, r_al0 c_M_worked_133, r_gfSr c_M_worked_134 o10 rfl, r_il2 c_M_worked_137, r_ial c_M_worked_138, r_ca3 c_M_worked_139, r_ias c_M_worked_142, r_inc3 c_M_worked_143, r_goto c_M_worked_146, ↓reduceIte, hs_h, Option.bind_some, mfix_i, mfix_r, mfix_n, mfix_a, Option.toList_some, Option.toList_none, List.cons_append, List.nil_append, List.singleton_append, mia_94 hE (show 914 + 104 * j + 4 + i < 2578 by omega), a94, a107, c1, n2, n3, n4, if_true, if_false, mia_I hi7 hu (by decide), mis_I hi6 (show depc f i < 100 by omega) (by decide), hs_I hi6, iA_sA, sA_sA, nI_1, ih, show 914 + 104 * j + 4 + i + 1 = 914 + 104 * j + 4 + (i + 1) by omega]
      · -- a sign
        rcases c2 with c2 | c2
        · have ev : evG f x0 x1 x2 x3 i g = upd g (depc f i - 1) (if g (depc f i - 1) = 0 then 1 else 0) := by rw [evG, c2]; rfl
          rw [okD, c2, if_pos (by decide), if_pos rfl] at hk
          rw [nxD, c2, if_pos (by decide), if_pos rfl] at ih
          obtain ⟨p, e⟩ : ∃ p, depc f i = p + 1 := ⟨depc f i - 1, by omega⟩
          rw [ev]
          rw [e] at hk ih ⊢
          rw [c2, show mcd (-33) = 200009 by decide] at c1
          simp only [r_al0 c_M_worked_13, r_gfSr c_M_worked_14 o10 rfl, r_il3 c_M_worked_17, r_ial c_M_worked_18, r_ci c_M_worked_19, r_iceq c_M_worked_22, ↓reduceIte, hs_h, Option.bind_some, mfix_i, mfix_r, mfix_n, mfix_a, Option.toList_some, Option.toList_none, List.cons_append, List.nil_append, List.singleton_append, mia_94 hE (show 914 + 104 * j + 4 + i < 2578 by omega), a94, c1, show ((200009 : Int32) = 300000) = False from eq_false (by decide), if_false]
          by_cases qz : g p = 0
          · simp only [r_al0 c_M_worked_25, r_gfSr c_M_worked_26 o10 rfl, r_il3 c_M_worked_29, r_ial c_M_worked_30, r_is4 c_M_worked_31, r_il4 c_M_worked_33, r_ci c_M_worked_35, r_icge c_M_worked_38, r_al0 c_M_worked_41, r_gfSr c_M_worked_42 o10 rfl, r_il2 c_M_worked_45, r_il4 c_M_worked_46, r_ci c_M_worked_48, r_icge c_M_worked_50, r_il4 c_M_worked_53, r_goto c_M_worked_55, r_al0 c_M_worked_58, r_gfSr c_M_worked_59 o10 rfl, r_il4 c_M_worked_62, r_ci c_M_worked_64, r_isub c_M_worked_66, r_ial c_M_worked_67, r_ias c_M_worked_68, r_inc2 c_M_worked_69, r_goto c_M_worked_72, r_il4 c_M_worked_75, r_ci c_M_worked_77, r_icne c_M_worked_79, r_al0 c_M_worked_82, r_gfSr c_M_worked_83 o10 rfl, r_il2 c_M_worked_86, r_ci c_M_worked_87, r_isub c_M_worked_88, r_al0 c_M_worked_89, r_gfSr c_M_worked_90 o10 rfl, r_il2 c_M_worked_93, r_ci c_M_worked_94, r_isub c_M_worked_95, r_ial c_M_worked_96, r_ifne c_M_worked_97, r_ci c_M_worked_100, r_goto c_M_worked_101, r_ci c_M_worked_104, r_ias c_M_worked_105, r_goto c_M_worked_106, r_inc2 c_M_worked_109, r_al0 c_M_worked_112, r_gfSr c_M_worked_113 o10 rfl, r_il2 c_M_worked_116, r_ci c_M_worked_117, r_isub c_M_worked_118, r_il4 c_M_worked_119, r_ci c_M_worked_121, r_isub c_M_worked_124, r_al0 c_M_worked_125, r_gfSr c_M_worked_126 o10 rfl, r_il2 c_M_worked_129, r_ci c_M_worked_130, r_isub c_M_worked_131, r_ial c_M_worked_132, r_al0 c_M_worked_133, r_gfSr c_M_worked_134 o10 rfl, r_il2 c_M_worked_137, r_ial c_M_worked_138, r_ca3 c_M_worked_139, r_ias c_M_worked_142, r_inc3 c_M_worked_143, r_goto c_M_worked_146, ↓reduceIte, hs_h, Option.bind_some, mfix_i, mfix_r, mfix_n, mfix_a, Option.toList_some, Option.toList_none, List.cons_append, List.nil_append, List.singleton_append, mia_94 hE (show 914 + 104 * j + 4 + i < 2578 by omega), a94, c1, show ((200000 : Int32) ≤ 200009) = True from eq_true (by decide), if_true, nI_pm, mia_I hi6 (show p < 100 by omega) (by decide), mis_I hi6 (show p < 100 by omega) (by decide), hs_I hi6, iA_sA, sA_sA, qz, nI_1, ih, Nat.add_sub_cancel, show 914 + 104 * j + 4 + i + 1 = 914 + 104 * j + 4 + (i + 1) by omega]
          · simp only [r_al0 c_M_worked_25, r_gfSr c_M_worked_26 o10 rfl, r_il3 c_M_worked_29, r_ial c_M_worked_30, r_is4 c_M_worked_31, r_il4 c_M_worked_33, r_ci c_M_worked_35, r_icge c_M_worked_38, r_al0 c_M_worked_41, r_gfSr c_M_worked_42 o10 rfl, r_il2 c_M_worked_45, r_il4 c_M_worked_46, r_ci c_M_worked_48, r_icge c_M_worked_50, r_il4 c_M_worked_53, r_goto c_M_worked_55, r_al0 c_M_worked_58, r_gfSr c_M_worked_59 o10 rfl, r_il4 c_M_worked_62, r_ci c_M_worked_64, r_isub c_M_worked_66, r_ial c_M_worked_67, r_ias c_M_worked_68, r_inc2 c_M_worked_69, r_goto c_M_worked_72, r_il4 c_M_worked_75, r_ci c_M_worked_77, r_icne c_M_worked_79, r_al0 c_M_worked_82, r_gfSr c_M_worked_83 o10 rfl, r_il2 c_M_worked_86, r_ci c_M_worked_87, r_isub c_M_worked_88, r_al0 c_M_worked_89, r_gfSr c_M_worked_90 o10 rfl, r_il2 c_M_worked_93, r_ci c_M_worked_94, r_isub c_M_worked_95, r_ial c_M_worked_96, r_ifne c_M_worked_97, r_ci c_M_worked_100, r_goto c_M_worked_101, r_ci c_M_worked_104, r_ias c_M_worked_105, r_goto c_M_worked_106, r_inc2 c_M_worked_109, r_al0 c_M_worked_112, r_gfSr c_M_worked_113 o10 rfl, r_il2 c_M_worked_116, r_ci c_M_worked_117, r_isub c_M_worked_118, r_il4 c_M_worked_119, r_ci c_M_worked_121, r_isub c_M_worked_124, r_al0 c_M_worked_125, r_gfSr c_M_worked_126 o10 rfl, r_il2 c_M_worked_129, r_ci c_M_worked_130, r_isub c_M_worked_131, r_ial c_M_worked_132, r_al0 c_M_worked_133, r_gfSr c_M_worked_134 o10 rfl, r_il2 c_M_worked_137, r_ial c_M_worked_138, r_ca3 c_M_worked_139, r_ias c_M_worked_142, r_inc3 c_M_worked_143, r_goto c_M_worked_146, ↓reduceIte, hs_h, Option.bind_some, mfix_i, mfix_r, mfix_n, mfix_a, Option.toList_some, Option.toList_none, List.cons_append, List.nil_append, List.singleton_append, mia_94 hE (show 914 + 104 * j + 4 + i < 2578 by omega), a94, c1, show ((200000 : Int32) ≤ 200009) = True from eq_true (by decide), if_true, if_false, nI_pm, mia_I hi6 (show p < 100 by omega) (by decide), mis_I hi6 (show p < 100 by omega) (by decide), hs_I hi6, iA_sA, sA_sA, qz, nI_1, ih, Nat.add_sub_cancel, show 914 + 104 * j + 4 + i + 1 = 914 + 104 * j + 4 + (i + 1) by omega]
        · have k0 : f i < 0 ∧ f i < -4 ∧ ¬ f i = -33 ∧ ¬ mcd (f i) = 300000 ∧ (200000 : Int32) ≤ mcd (f i) ∧ ¬ mcd (f i) = 200009 := by
            rcases c2 with e | e | e | e | e | e | e | e | e <;> rw [e] <;> decide
          obtain ⟨k1, k2, k3, k4, k5, k6⟩ := k0
          have ev : evG f x0 x1 x2 x3 i g = upd g (depc f i - 2) (jnS (g (depc f i - 2)) (-(f i)) (g (depc f i - 1))) := by rw [evG, if_pos k1, if_pos k2, if_neg k3]
          rw [okD, if_pos k2, if_neg k3] at hk
          rw [nxD, if_pos k2, if_neg k3] at ih
          obtain ⟨p, e⟩ : ∃ p, depc f i = p + 1 + 1 := ⟨depc f i - 2, by omega⟩
          rw [ev]
          rw [e] at hk ih ⊢
          rw [show p + 1 + 1 - 2 = p by omega, show p + 1 + 1 - 1 = p + 1 by omega] at *
          rw [← dn_jn c2]
          simp only [r_al0 c_M_worked_13, r_gfSr c_M_worked_14 o10 rfl, r_il3 c_M_worked_17, r_ial c_M_worked_18, r_ci c_M_worked_19, r_iceq c_M_worked_22, ↓reduceIte, hs_h, Option.bind_some, mfix_i, mfix_r, mfix_n, mfix_a, Option.toList_some, Option.toList_none, List.cons_append, List.nil_append, List.singleton_append, mia_94 hE (show 914 + 104 * j + 4 + i < 2578 by omega), a94, c1, k4, if_false]
          simp only [r_al0 c_M_worked_25, r_gfSr c_M_worked_26 o10 rfl, r_il3 c_M_worked_29, r_ial c_M_worked_30, r_is4 c_M_worked_31, r_il4 c_M_worked_33, r_ci c_M_worked_35, r_icge c_M_worked_38, r_al0 c_M_worked_41, r_gfSr c_M_worked_42 o10 rfl, r_il2 c_M_worked_45, r_il4 c_M_worked_46, r_ci c_M_worked_48, r_icge c_M_worked_50, r_il4 c_M_worked_53, r_goto c_M_worked_55, r_al0 c_M_worked_58, r_gfSr c_M_worked_59 o10 rfl, r_il4 c_M_worked_62, r_ci c_M_worked_64, r_isub c_M_worked_66, r_ial c_M_worked_67, r_ias c_M_worked_68, r_inc2 c_M_worked_69, r_goto c_M_worked_72, r_il4 c_M_worked_75, r_ci c_M_worked_77, r_icne c_M_worked_79, r_al0 c_M_worked_82, r_gfSr c_M_worked_83 o10 rfl, r_il2 c_M_worked_86, r_ci c_M_worked_87, r_isub c_M_worked_88, r_al0 c_M_worked_89, r_gfSr c_M_worked_90 o10 rfl, r_il2 c_M_worked_93, r_ci c_M_worked_94, r_isub c_M_worked_95, r_ial c_M_worked_96, r_ifne c_M_worked_97, r_ci c_M_worked_100, r_goto c_M_worked_101, r_ci c_M_worked_104, r_ias c_M_worked_105, r_goto c_M_worked_106, r_inc2 c_M_worked_109, r_al0 c_M_worked_112, r_gfSr c_M_worked_113 o10 rfl, r_il2 c_M_worked_116, r_ci c_M_worked_117, r_isub c_M_worked_118, r_il4 c_M_worked_119, r_ci c_M_worked_121, r_isub c_M_worked_124, r_al0 c_M_worked_125, r_gfSr c_M_worked_126 o10 rfl, r_il2 c_M_worked_129, r_ci c_M_worked_130, r_isub c_M_worked_131, r_ial c_M_worked_132, r_al0 c_M_worked_133, r_gfSr c_M_worked_134 o10 rfl, r_il2 c_M_worked_137, r_ial c_M_worked_138, r_ca3 c_M_worked_139, r_ias c_M_worked_142, r_inc3 c_M_worked_143, r_goto c_M_worked_146, ↓reduceIte, hs_h, Option.bind_some, mfix_i, mfix_r, mfix_n, mfix_a, Option.toList_some, Option.toList_none, List.cons_append, List.nil_append, List.singleton_append, mwt, Value.category, Nat.reduceAdd, Nat.reduceLeDiff, true_and, and_true, and_self, mia_94 hE (show 914 + 104 * j + 4 + i < 2578 by omega), a94, c1, k5, k6, if_true, if_false, pk_m1, nI_pm, mia_I hi6 (show p < 100 by omega) (by decide), mia_I hi6 (show p + 1 < 100 by omega) (by decide), mis_I hi6 (show p < 100 by omega) (by decide), hs_I hi6, iA_sA, sA_sA, M_done_ok, nI_1, ih, show 914 + 104 * j + 4 + i + 1 = 914 + 104 * j + 4 + (i + 1) by omega]
  have z0 : sA S 106 (iA S 106) = S := by
    funext q
    by_cases h2 : q = 106
    · subst h2; simp only [sA, va_up, if_true]
    · simp only [sA, va_up, h2, if_false]
  have lq := fun w => lp len 0 (iA S 106) w (by omega)
  rw [z0] at lq
  have lq : ∀ w, mres cT 90 d 13 [.ref 93, .int (nI j), .int 0, .int (nI (914 + 104 * j + 4)), w] [] (hs E S) = some (some (.int (evL f len x0 x1 x2 x3 (iA S 106) 0)), hs E (sA S 106 (evL f len x0 x1 x2 x3 (iA S 106)))) := lq
  simp only [ment, mfl, List.length, List.replicate, List.cons_append, List.nil_append, Nat.reduceAdd, Nat.reduceSub]
  simp only [r_ci c_M_worked_0, r_is2 c_M_worked_1, r_ci c_M_worked_2, r_ci c_M_worked_5, r_il1 c_M_worked_7, r_imul c_M_worked_8, r_iadd c_M_worked_9, r_ci c_M_worked_10, r_iadd c_M_worked_11, r_is3 c_M_worked_12, ↓reduceIte, hs_h, Option.bind_some, mfix_i, mfix_r, mfix_n, mfix_a, Option.toList_some, Option.toList_none, List.cons_append, List.nil_append, List.singleton_append, km2, km3, km4, km6, km104, km24, ka20, ka92, ka164, ka254, ka314, ka474, ka634, ka670, ka850, ka890, ka914, ka12, kr2, kr3, kr4, kr5, nI_1, nI_add, lq]
end MRULES
