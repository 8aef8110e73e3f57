/-! the reader: on to the next word or sign -/
section ADV
variable {E : EE} {S : SS} {d n p j so b : Nat} {T : Nat → Nat} {c v x ky cc lv ft pl bh so0 : Int32} {cf : Nat → Int32} {σ : PT}
theorem D_advance_r (hE : okE E) (hT : tpS S n T) (hb : b ≤ n) (hso : so < 10) : mres cT 107 d 0 (ment 3 [.ref 81]) [] (hs E (rdS S cc lv ky ft (nI so) pl (nI b) cf)) = some (none, hs E (rdS S cc lv ky ft
    (nI (if srt n T (skF n T 97 b) = 1 then 1 else if srt n T (skF n T 97 b) = 2 then 2 else if isW so = 1 ∧ skF n T 97 b = b then 5 else srt n T (skF n T 97 b)))
    (nI (skF n T 97 b))
    (nI (if srt n T (skF n T 97 b) = 1 then skF n T 97 b else if srt n T (skF n T 97 b) = 2 then skF n T 97 b + 1 else wnF n T (srt n T (skF n T 97 b)) 97 (skF n T 97 b + 1))) cf)) := by
  have o7 := o_D hE
  have hn := hT.2.1
  have m5 : ∀ S, misc (hp E S 79) 5 = true := fun S => misc_o (o_P hE)
  have m7 : ∀ S, misc (hp E S 81) 7 = true := fun S => misc_o o7
  have l1 : ∀ (w1 w2 : Value) (so0 bh : Int32) (f p : Nat), n ≤ p + f → p ≤ n → mres cT 107 d 18 [.ref 81, w1, w2] [] (hs E (rdS S cc lv ky ft so0 (nI p) bh cf)) = mres cT 107 d 56 [.ref 81, w1, w2] [] (hs E (rdS S cc lv ky ft so0 (nI (skF n T f p)) bh cf)) := by
    intro w1 w2 so0 bh f
    induction f with
    | zero =>
      intro p h1 h2
      by_cases a : 96 ≤ p
      · have a' : (96 : Int32) ≤ nI p := nI_le (a := 96) a (by omega)
        simp only [r_al0 c_D_advance_18, r_gfS0 c_D_advance_19 o7 rfl, r_ci c_D_advance_22, r_icge c_D_advance_24, ↓reduceIte, hs_h, Option.bind_some, mfix_i, mfix_r, mfix_n, mfix_a, Option.toList_some, Option.toList_none, List.cons_append, List.nil_append, List.singleton_append, rd7, a', if_true, skF]
      · have a' : ¬ (96 : Int32) ≤ nI p := nI_ge (b := 96) (by omega) (by omega)
        have q : ¬ btN n T p = 32 := by rw [btN, if_neg (by omega)]; decide
        simp only [r_al0 c_D_advance_18, r_gfS0 c_D_advance_19 o7 rfl, r_ci c_D_advance_22, r_icge c_D_advance_24, r_al0 c_D_advance_27, r_gfSr c_D_advance_28 o7 rfl, r_al0 c_D_advance_31, r_gfS0 c_D_advance_32 o7 rfl, r_cv2 c_D_advance_35, r_ci c_D_advance_38, r_icne c_D_advance_40, ↓reduceIte, hs_h, Option.bind_some, mfix_i, mfix_r, mfix_n, mfix_a, Option.toList_some, Option.toList_none, List.cons_append, List.nil_append, List.singleton_append, mwt, Value.category, Nat.reduceAdd, Nat.reduceLeDiff, true_and, and_true, and_self, m5, rd7, a', if_false, P_byteAt_ok hE (tpS_rd hT) (show p < 2 ^ 31 by omega), q, skF]
    | succ f ih =>
      intro p h1 h2
      have ih := ih (p + 1)
      rw [skF]
      by_cases a : 96 ≤ p
      · have a' : (96 : Int32) ≤ nI p := nI_le (a := 96) a (by omega)
        have q : ¬ (p < n ∧ T p = 32) := by omega
        simp only [r_al0 c_D_advance_18, r_gfS0 c_D_advance_19 o7 rfl, r_ci c_D_advance_22, r_icge c_D_advance_24, ↓reduceIte, hs_h, Option.bind_some, mfix_i, mfix_r, mfix_n, mfix_a, Option.toList_some, Option.toList_none, List.cons_append, List.nil_append, List.singleton_append, rd7, a', if_true, q, if_false]
      · have a' : ¬ (96 : Int32) ≤ nI p := nI_ge (b := 96) (by omega) (by omega)
        by_cases q : p < n ∧ T p = 32
        · have q' : btN n T p = 32 := by rw [btN, if_pos q.1, q.2]; rfl
          have ih := ih (by omega) (by omega)
          simp only [r_al0 c_D_advance_18, r_gfS0 c_D_advance_19 o7 rfl, r_ci c_D_advance_22, r_icge c_D_advance_24, ↓reduceIte, hs_h, Option.bind_some, mfix_i, mfix_r, mfix_n, mfix_a, Option.toList_some, Option.toList_none, List.cons_append, List.nil_append, List.singleton_append, rd7, a', if_false]
          simp only [r_al0 c_D_advance_27, r_gfSr c_D_advance_28 o7 rfl, r_al0 c_D_advance_31, r_gfS0 c_D_advance_32 o7 rfl, r_cv2 c_D_advance_35, r_ci c_D_advance_38, r_icne c_D_advance_40, r_al0 c_D_advance_43, r_dupi c_D_advance_44, r_dupr c_D_advance_44, r_gfS0 c_D_advance_45 o7 rfl, r_ci c_D_advance_48, r_iadd c_D_advance_49, r_pfS c_D_advance_50 o7 rfl, r_goto c_D_advance_53, ↓reduceIte, hs_h, Option.bind_some, mfix_i, mfix_r, mfix_n, mfix_a, Option.toList_some, Option.toList_none, List.cons_append, List.nil_append, List.singleton_append, mwt, Value.category, Nat.reduceAdd, Nat.reduceLeDiff, true_and, and_true, and_self, m5, rd7, P_byteAt_ok hE (tpS_rd hT) (show p < 2 ^ 31 by omega), q', if_true, up7, nI_1, ih, q, and_self]
        · have q' : ¬ btN n T p = 32 := by
            rw [btN]
            split
            · rename_i h3
              have ht := (hT.2.2 p h3).2
              intro e
              exact q ⟨h3, (nI_eq (b := 32) (by omega) (by omega)).mp e⟩
            · decide
          simp only [r_al0 c_D_advance_18, r_gfS0 c_D_advance_19 o7 rfl, r_ci c_D_advance_22, r_icge c_D_advance_24, ↓reduceIte, hs_h, Option.bind_some, mfix_i, mfix_r, mfix_n, mfix_a, Option.toList_some, Option.toList_none, List.cons_append, List.nil_append, List.singleton_append, rd7, a', if_false]
          simp only [r_al0 c_D_advance_27, r_gfSr c_D_advance_28 o7 rfl, r_al0 c_D_advance_31, r_gfS0 c_D_advance_32 o7 rfl, r_cv2 c_D_advance_35, r_ci c_D_advance_38, r_icne c_D_advance_40, r_al0 c_D_advance_43, r_dupi c_D_advance_44, r_dupr c_D_advance_44, r_gfS0 c_D_advance_45 o7 rfl, r_ci c_D_advance_48, r_iadd c_D_advance_49, r_pfS c_D_advance_50 o7 rfl, r_goto c_D_advance_53, ↓reduceIte, hs_h, Option.bind_some, mfix_i, mfix_r, mfix_n, mfix_a, Option.toList_some, Option.toList_none, List.cons_append, List.nil_append, List.singleton_append, mwt, Value.category, Nat.reduceAdd, Nat.reduceLeDiff, true_and, and_true, and_self, m5, rd7, P_byteAt_ok hE (tpS_rd hT) (show p < 2 ^ 31 by omega), q', q, if_false]
  have l2 : ∀ (w1 w2 : Value) (pl : Int32) (so : Nat), so = 3 ∨ so = 4 → ∀ (f p : Nat), n ≤ p + f → p ≤ n → mres cT 107 d 104 [.ref 81, w1, w2] [] (hs E (rdS S cc lv ky ft (nI so) pl (nI p) cf)) = mres cT 107 d 141 [.ref 81, w1, w2] [] (hs E (rdS S cc lv ky ft (nI so) pl (nI (wnF n T so f p)) cf)) := by
    intro w1 w2 pl so hso f
    induction f with
    | zero =>
      intro p h1 h2
      by_cases a : 96 ≤ p
      · have a' : (96 : Int32) ≤ nI p := nI_le (a := 96) a (by omega)
        simp only [r_al0 c_D_advance_104, r_gfS0 c_D_advance_105 o7 rfl, r_ci c_D_advance_108, r_icge c_D_advance_110, ↓reduceIte, hs_h, Option.bind_some, mfix_i, mfix_r, mfix_n, mfix_a, Option.toList_some, Option.toList_none, List.cons_append, List.nil_append, List.singleton_append, rd8, a', if_true, wnF]
      · have a' : ¬ (96 : Int32) ≤ nI p := nI_ge (b := 96) (by omega) (by omega)
        have e1 : srt n T p = 1 := by rw [srt, if_pos (by omega)]
        have q : ¬ nI (srt n T p) = nI so := by rw [e1]; rcases hso with rfl | rfl <;> decide
        simp only [r_al0 c_D_advance_104, r_gfS0 c_D_advance_105 o7 rfl, r_ci c_D_advance_108, r_icge c_D_advance_110, r_al0 c_D_advance_113, r_al0 c_D_advance_114, r_gfS0 c_D_advance_115 o7 rfl, r_cv2 c_D_advance_118, r_al0 c_D_advance_121, r_gfS0 c_D_advance_122 o7 rfl, r_icne c_D_advance_125, ↓reduceIte, hs_h, Option.bind_some, mfix_i, mfix_r, mfix_n, mfix_a, Option.toList_some, Option.toList_none, List.cons_append, List.nil_append, List.singleton_append, mwt, Value.category, Nat.reduceAdd, Nat.reduceLeDiff, true_and, and_true, and_self, m7, rd8, rd6, a', if_false, D_sortAt_ok hE (tpS_rd hT) (show p < 2 ^ 31 by omega), q, wnF]
    | succ f ih =>
      intro p h1 h2
      rw [wnF]
      have hp4 : srt n T p < 10 := by rcases srt_c (n := n) (T := T) (q := p) with h | h | h | h <;> omega
      by_cases q : srt n T p = so
      · have hpn : p < n := by
          rw [srt] at q
          split at q
          · omega
          · omega
        have a' : ¬ (96 : Int32) ≤ nI p := nI_ge (b := 96) (by omega) (by omega)
        have ih := ih (p + 1) (by omega) (by omega)
        simp only [r_al0 c_D_advance_104, r_gfS0 c_D_advance_105 o7 rfl, r_ci c_D_advance_108, r_icge c_D_advance_110, ↓reduceIte, hs_h, Option.bind_some, mfix_i, mfix_r, mfix_n, mfix_a, Option.toList_some, Option.toList_none, List.cons_append, List.nil_append, List.singleton_append, rd8, a', if_false]
        simp only [r_al0 c_D_advance_113, r_al0 c_D_advance_114, r_gfS0 c_D_advance_115 o7 rfl, r_cv2 c_D_advance_118, r_al0 c_D_advance_121, r_gfS0 c_D_advance_122 o7 rfl, r_icne c_D_advance_125, r_al0 c_D_advance_128, r_dupi c_D_advance_129, r_dupr c_D_advance_129, r_gfS0 c_D_advance_130 o7 rfl, r_ci c_D_advance_133, r_iadd c_D_advance_134, r_pfS c_D_advance_135 o7 rfl, r_goto c_D_advance_138, ↓reduceIte, hs_h, Option.bind_some, mfix_i, mfix_r, mfix_n, mfix_a, Option.toList_some, Option.toList_none, List.cons_append, List.nil_append, List.singleton_append, mwt, Value.category, Nat.reduceAdd, Nat.reduceLeDiff, true_and, and_true, and_self, m7, rd8, rd6, D_sortAt_ok hE (tpS_rd hT) (show p < 2 ^ 31 by omega), q, if_true, up8, nI_1, ih]
      · by_cases a : 96 ≤ p
        · have a' : (96 : Int32) ≤ nI p := nI_le (a := 96) a (by omega)
          simp only [r_al0 c_D_advance_104, r_gfS0 c_D_advance_105 o7 rfl, r_ci c_D_advance_108, r_icge c_D_advance_110, ↓reduceIte, hs_h, Option.bind_some, mfix_i, mfix_r, mfix_n, mfix_a, Option.toList_some, Option.toList_none, List.cons_append, List.nil_append, List.singleton_append, rd8, a', if_true, q, if_false]
        · have a' : ¬ (96 : Int32) ≤ nI p := nI_ge (b := 96) (by omega) (by omega)
          have q' : ¬ nI (srt n T p) = nI so := fun e => q ((nI_eq (by omega) (by omega)).mp e)
          simp only [r_al0 c_D_advance_104, r_gfS0 c_D_advance_105 o7 rfl, r_ci c_D_advance_108, r_icge c_D_advance_110, ↓reduceIte, hs_h, Option.bind_some, mfix_i, mfix_r, mfix_n, mfix_a, Option.toList_some, Option.toList_none, List.cons_append, List.nil_append, List.singleton_append, rd8, a', if_false]
          simp only [r_al0 c_D_advance_113, r_al0 c_D_advance_114, r_gfS0 c_D_advance_115 o7 rfl, r_cv2 c_D_advance_118, r_al0 c_D_advance_121, r_gfS0 c_D_advance_122 o7 rfl, r_icne c_D_advance_125, r_al0 c_D_advance_128, r_dupi c_D_advance_129, r_dupr c_D_advance_129, r_gfS0 c_D_advance_130 o7 rfl, r_ci c_D_advance_133, r_iadd c_D_advance_134, r_pfS c_D_advance_135 o7 rfl, r_goto c_D_advance_138, ↓reduceIte, hs_h, Option.bind_some, mfix_i, mfix_r, mfix_n, mfix_a, Option.toList_some, Option.toList_none, List.cons_append, List.nil_append, List.singleton_append, mwt, Value.category, Nat.reduceAdd, Nat.reduceLeDiff, true_and, and_true, and_self, m7, rd8, rd6, D_sortAt_ok hE (tpS_rd hT) (show p < 2 ^ 31 by omega), q', q, if_false]
  obtain ⟨k1, k2⟩ := skF_le (n := n) (T := T) 97 b hb
  have hl := fun w1 w2 so0 bh => l1 w1 w2 so0 bh 97 b (by omega) hb
  simp only [ment, mfl, List.length, List.replicate, List.cons_append, List.nil_append, Nat.reduceAdd, Nat.reduceSub]
  simp only [r_al0 c_D_advance_0, r_gfS0 c_D_advance_1 o7 rfl, r_is1 c_D_advance_4, r_al0 c_D_advance_5, r_gfS0 c_D_advance_6 o7 rfl, r_ca1 c_D_advance_9, r_is2 c_D_advance_12, r_al0 c_D_advance_13, r_il1 c_D_advance_14, r_pfS c_D_advance_15 o7 rfl, ↓reduceIte, hs_h, Option.bind_some, mfix_i, mfix_r, mfix_n, mfix_a, Option.toList_some, Option.toList_none, List.cons_append, List.nil_append, List.singleton_append, mwt, Value.category, Nat.reduceAdd, Nat.reduceLeDiff, true_and, and_true, and_self, rd8, rd6, up7, D_isWord_ok (show so < 2 ^ 31 by omega), hl]
  generalize hk : skF n T 97 b = k at k1 k2 ⊢
  have hsr : ∀ s, srt n T k = s → ∀ d, mres cT 106 d 0 (ment 3 [.ref 81, .int (nI k)]) [] (hs E (rdS S cc lv ky ft (nI so) (nI k) (nI b) cf)) = some (some (.int (nI s)), hs E (rdS S cc lv ky ft (nI so) (nI k) (nI b) cf)) := fun s e d => by
    rw [D_sortAt_ok hE (tpS_rd hT) (by omega), e]
  have z1 : (nI 1 = (1 : Int32)) = True := eq_true (by decide)
  have z2 : (nI 2 = (1 : Int32)) = False := eq_false (by decide)
  have z3 : (nI 3 = (1 : Int32)) = False := eq_false (by decide)
  have z4 : (nI 4 = (1 : Int32)) = False := eq_false (by decide)
  have y1 : (nI (isW 1) = 0) = True := eq_true (by decide)
  have y2 : (nI (isW 2) = 0) = True := eq_true (by decide)
  have y3 : (nI (isW 3) = 0) = False := eq_false (by decide)
  have y4 : (nI (isW 4) = 0) = False := eq_false (by decide)
  have hkn : ∀ s, srt n T k = s → s ≠ 1 → k < n := fun s e h => by
    rw [srt] at e
    split at e
    · omega
    · omega
  have fin : ∀ (s B : Nat), mres cT 107 d 141 [.ref 81, .int (nI b), .int (nI (isW so))] [] (hs E (rdS S cc lv ky ft (nI s) (nI k) (nI B) cf)) = some (none, hs E (rdS S cc lv ky ft (nI (if isW so = 1 ∧ k = b then 5 else s)) (nI k) (nI B) cf)) := by
    intro s B
    by_cases a : isW so = 1
    · have a' : ¬ nI (isW so) = 0 := by rw [a]; decide
      by_cases c : k = b
      · have c' : nI k = nI b := by rw [c]
        simp only [r_il2 c_D_advance_141, r_ifeq c_D_advance_142, r_al0 c_D_advance_145, r_gfS0 c_D_advance_146 o7 rfl, r_il1 c_D_advance_149, r_icne c_D_advance_150, r_al0 c_D_advance_153, r_ci c_D_advance_154, r_pfS c_D_advance_155 o7 rfl, r_vret c_D_advance_158, ↓reduceIte, hs_h, Option.bind_some, mfix_i, mfix_r, mfix_n, mfix_a, Option.toList_some, Option.toList_none, List.cons_append, List.nil_append, List.singleton_append, a', a, c', c, rd7, if_true, if_false, up6, and_self, show (nI 1 = (0 : Int32)) = False from eq_false (by decide)]
        rfl
      · have c' : ¬ nI k = nI b := fun e => c ((nI_eq (by omega) (by omega)).mp e)
        simp only [r_il2 c_D_advance_141, r_ifeq c_D_advance_142, r_al0 c_D_advance_145, r_gfS0 c_D_advance_146 o7 rfl, r_il1 c_D_advance_149, r_icne c_D_advance_150, r_al0 c_D_advance_153, r_ci c_D_advance_154, r_pfS c_D_advance_155 o7 rfl, r_vret c_D_advance_158, ↓reduceIte, hs_h, Option.bind_some, mfix_i, mfix_r, mfix_n, mfix_a, Option.toList_some, Option.toList_none, List.cons_append, List.nil_append, List.singleton_append, a', a, c', c, rd7, if_true, if_false, and_false, show (nI 1 = (0 : Int32)) = False from eq_false (by decide)]
    · have a' : nI (isW so) = 0 := by
        rw [isW] at a ⊢
        split at a
        · exact absurd rfl a
        · split at a
          · exact absurd rfl a
          · rename_i h1 h2
            rw [if_neg h1, if_neg h2]; rfl
      simp only [r_il2 c_D_advance_141, r_ifeq c_D_advance_142, r_al0 c_D_advance_145, r_gfS0 c_D_advance_146 o7 rfl, r_il1 c_D_advance_149, r_icne c_D_advance_150, r_al0 c_D_advance_153, r_ci c_D_advance_154, r_pfS c_D_advance_155 o7 rfl, r_vret c_D_advance_158, ↓reduceIte, hs_h, Option.bind_some, mfix_i, mfix_r, mfix_n, mfix_a, Option.toList_some, Option.toList_none, List.cons_append, List.nil_append, List.singleton_append, a', a, if_true, if_false, false_and]
  rcases srt_c (n := n) (T := T) (q := k) with e | e | e | e
  · have hs1 := hsr 1 e
    simp only [r_al0 c_D_advance_56, r_al0 c_D_advance_57, r_al0 c_D_advance_58, r_gfS0 c_D_advance_59 o7 rfl, r_cv2 c_D_advance_62, r_pfS c_D_advance_65 o7 rfl, r_al0 c_D_advance_68, r_al0 c_D_advance_69, r_gfS0 c_D_advance_70 o7 rfl, r_ci c_D_advance_73, r_icne c_D_advance_74, r_al0 c_D_advance_77, r_gfS0 c_D_advance_78 o7 rfl, r_goto c_D_advance_81, r_al0 c_D_advance_84, r_gfS0 c_D_advance_85 o7 rfl, r_ci c_D_advance_88, r_iadd c_D_advance_89, r_pfS c_D_advance_90 o7 rfl, r_al0 c_D_advance_93, r_gfS0 c_D_advance_94 o7 rfl, r_ca1 c_D_advance_97, r_ifne c_D_advance_100, r_vret c_D_advance_103, ↓reduceIte, hs_h, Option.bind_some, mfix_i, mfix_r, mfix_n, mfix_a, Option.toList_some, Option.toList_none, List.cons_append, List.nil_append, List.singleton_append, mwt, Value.category, Nat.reduceAdd, Nat.reduceLeDiff, true_and, and_true, and_self, m7, rd7, rd6, hs1, e, up6, z1, if_true, up8, D_isWord_ok (show 1 < 2 ^ 31 by omega), y1]
  · have hs1 := hsr 2 e
    simp only [r_al0 c_D_advance_56, r_al0 c_D_advance_57, r_al0 c_D_advance_58, r_gfS0 c_D_advance_59 o7 rfl, r_cv2 c_D_advance_62, r_pfS c_D_advance_65 o7 rfl, r_al0 c_D_advance_68, r_al0 c_D_advance_69, r_gfS0 c_D_advance_70 o7 rfl, r_ci c_D_advance_73, r_icne c_D_advance_74, r_al0 c_D_advance_77, r_gfS0 c_D_advance_78 o7 rfl, r_goto c_D_advance_81, r_al0 c_D_advance_84, r_gfS0 c_D_advance_85 o7 rfl, r_ci c_D_advance_88, r_iadd c_D_advance_89, r_pfS c_D_advance_90 o7 rfl, r_al0 c_D_advance_93, r_gfS0 c_D_advance_94 o7 rfl, r_ca1 c_D_advance_97, r_ifne c_D_advance_100, r_vret c_D_advance_103, ↓reduceIte, hs_h, Option.bind_some, mfix_i, mfix_r, mfix_n, mfix_a, Option.toList_some, Option.toList_none, List.cons_append, List.nil_append, List.singleton_append, mwt, Value.category, Nat.reduceAdd, Nat.reduceLeDiff, true_and, and_true, and_self, m7, rd7, rd6, hs1, e, up6, z2, if_true, if_false, up8, nI_1, D_isWord_ok (show 2 < 2 ^ 31 by omega), y2, show ((2 : Nat) = 1) = False from eq_false (by decide)]
  · have hs1 := hsr 3 e
    have hk3 := hkn 3 e (by omega)
    simp only [r_al0 c_D_advance_56, r_al0 c_D_advance_57, r_al0 c_D_advance_58, r_gfS0 c_D_advance_59 o7 rfl, r_cv2 c_D_advance_62, r_pfS c_D_advance_65 o7 rfl, r_al0 c_D_advance_68, r_al0 c_D_advance_69, r_gfS0 c_D_advance_70 o7 rfl, r_ci c_D_advance_73, r_icne c_D_advance_74, r_al0 c_D_advance_77, r_gfS0 c_D_advance_78 o7 rfl, r_goto c_D_advance_81, r_al0 c_D_advance_84, r_gfS0 c_D_advance_85 o7 rfl, r_ci c_D_advance_88, r_iadd c_D_advance_89, r_pfS c_D_advance_90 o7 rfl, r_al0 c_D_advance_93, r_gfS0 c_D_advance_94 o7 rfl, r_ca1 c_D_advance_97, r_ifne c_D_advance_100, ↓reduceIte, hs_h, Option.bind_some, mfix_i, mfix_r, mfix_n, mfix_a, Option.toList_some, Option.toList_none, List.cons_append, List.nil_append, List.singleton_append, mwt, Value.category, Nat.reduceAdd, Nat.reduceLeDiff, true_and, and_true, and_self, m7, rd7, rd6, hs1, e, up6, z3, if_true, if_false, up8, nI_1, D_isWord_ok (show 3 < 2 ^ 31 by omega), y3, l2 _ _ _ 3 (Or.inl rfl) 97 (k + 1) (by omega) (by omega), fin, show ((3 : Nat) = 1) = False from eq_false (by decide), show ((3 : Nat) = 2) = False from eq_false (by decide)]
  · have hs1 := hsr 4 e
    have hk4 := hkn 4 e (by omega)
    simp only [r_al0 c_D_advance_56, r_al0 c_D_advance_57, r_al0 c_D_advance_58, r_gfS0 c_D_advance_59 o7 rfl, r_cv2 c_D_advance_62, r_pfS c_D_advance_65 o7 rfl, r_al0 c_D_advance_68, r_al0 c_D_advance_69, r_gfS0 c_D_advance_70 o7 rfl, r_ci c_D_advance_73, r_icne c_D_advance_74, r_al0 c_D_advance_77, r_gfS0 c_D_advance_78 o7 rfl, r_goto c_D_advance_81, r_al0 c_D_advance_84, r_gfS0 c_D_advance_85 o7 rfl, r_ci c_D_advance_88, r_iadd c_D_advance_89, r_pfS c_D_advance_90 o7 rfl, r_al0 c_D_advance_93, r_gfS0 c_D_advance_94 o7 rfl, r_ca1 c_D_advance_97, r_ifne c_D_advance_100, ↓reduceIte, hs_h, Option.bind_some, mfix_i, mfix_r, mfix_n, mfix_a, Option.toList_some, Option.toList_none, List.cons_append, List.nil_append, List.singleton_append, mwt, Value.category, Nat.reduceAdd, Nat.reduceLeDiff, true_and, and_true, and_self, m7, rd7, rd6, hs1, e, up6, z4, if_true, if_false, up8, nI_1, D_isWord_ok (show 4 < 2 ^ 31 by omega), y4, l2 _ _ _ 4 (Or.inr rfl) 97 (k + 1) (by omega) (by omega), fin, show ((4 : Nat) = 1) = False from eq_false (by decide), show ((4 : Nat) = 2) = False from eq_false (by decide)]
theorem D_advance_ok (hE : okE E) (hT : tpS S n T) (hb : σ.2.1 ≤ n) (hso : σ.2.2.1 < 10) : mres cT 107 d 0 (ment 3 [.ref 81]) [] (hs E (rdZ S ky σ)) = some (none, hs E (rdZ S ky (adv n T σ))) := by
  rw [rdZ, D_advance_r hE hT hb hso, rdZ, adv]
  by_cases q1 : srt n T (skF n T 97 σ.2.1) = 1
  · simp only [q1, if_true]
  · by_cases q2 : srt n T (skF n T 97 σ.2.1) = 2
    · simp only [q2, if_true, if_false, show ((2 : Nat) = 1) = False from eq_false (by decide)]
    · simp only [q1, q2, if_false]
theorem adv_b (hb : σ.2.1 ≤ n) : σ.2.1 ≤ (adv n T σ).1 ∧ (adv n T σ).1 ≤ (adv n T σ).2.1 ∧ (adv n T σ).2.1 ≤ n ∧ (adv n T σ).2.2.1 < 10 ∧ ((adv n T σ).2.2.1 ≠ 1 → (adv n T σ).1 < (adv n T σ).2.1) ∧ (adv n T σ).2.2.2 = σ.2.2.2 := by
  obtain ⟨k1, k2⟩ := skF_le (n := n) (T := T) 97 σ.2.1 hb
  rw [adv]
  generalize skF n T 97 σ.2.1 = k at k1 k2 ⊢
  have hkn : srt n T k ≠ 1 → k < n := fun h => by
    rw [srt] at h
    split at h
    · omega
    · omega
  rcases srt_c (n := n) (T := T) (q := k) with e | e | e | e
  · rw [if_pos e]
    exact ⟨k1, Nat.le_refl k, k2, by show 1 < 10; decide, fun h => absurd rfl h, rfl⟩
  · rw [if_neg (by omega), if_pos e]
    have := hkn (by omega)
    exact ⟨k1, by show k ≤ k + 1; omega, by show k + 1 ≤ n; omega, by show 2 < 10; decide, fun _ => by show k < k + 1; omega, rfl⟩
  · have := hkn (by omega)
    obtain ⟨w1, w2⟩ := wnF_le (n := n) (T := T) (so := 3) (Or.inl rfl) 97 (k + 1) (by omega)
    rw [if_neg (by omega), if_neg (by omega), e]
    exact ⟨k1, by show k ≤ wnF n T 3 97 (k + 1); omega, w2, by show (if _ then 5 else 3) < 10; split <;> omega, fun _ => by show k < wnF n T 3 97 (k + 1); omega, rfl⟩
  · have := hkn (by omega)
    obtain ⟨w1, w2⟩ := wnF_le (n := n) (T := T) (so := 4) (Or.inr rfl) 97 (k + 1) (by omega)
    rw [if_neg (by omega), if_neg (by omega), e]
    exact ⟨k1, by show k ≤ wnF n T 4 97 (k + 1); omega, w2, by show (if _ then 5 else 4) < 10; split <;> omega, fun _ => by show k < wnF n T 4 97 (k + 1); omega, rfl⟩
end ADV
