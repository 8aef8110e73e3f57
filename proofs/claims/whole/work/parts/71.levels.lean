/-! the reader: levels and parts -/
section LEVELS
variable {E : EE} {S : SS} {d n p q j l kn f : Nat} {T : Nat → Nat} {c v x ky : Int32} {σ : PT} {R R' : PT → PT}
def prt (n : Nat) (T : Nat → Nat) (kn : Nat) (R R' : PT → PT) (p q : Nat) (σ : PT) : PT :=
  if σ.2.2.1 = 4 ∧ σ.2.1 - σ.1 ≤ 4 then lef n T σ (nuF n T (σ.2.1 - σ.1) σ.1 0)
  else if σ.2.2.1 = 3 ∧ nmH n T kn σ ≠ -1000000005 then lef n T σ (-1 - nmH n T kn σ)
  else if isg n T σ 33 = 1 ∧ q < 8 then emi (R (adv n T σ)) (-33)
  else if isg n T σ 40 = 1 ∧ p < 8 then if isg n T (R' (adv n T σ)) 41 = 1 then adv n T (R' (adv n T σ)) else rfu (R' (adv n T σ))
  else rfu σ
def lpL (n : Nat) (T : Nat → Nat) (l : Nat) (R : PT → PT) : Nat → PT → PT
  | 0, σ => σ
  | m + 1, σ => if σ.2.2.2.1 = none ∧ sgo n T l σ = 1 then lpL n T l R m (emi (R (adv n T σ)) (-(btN n T σ.1))) else σ
def rdX (n : Nat) (T : Nat → Nat) (kn : Nat) : Nat → Nat → Nat → Nat → PT → PT
  | 0, _, _, _, σ => σ
  | f + 1, l, p, q, σ => if 5 ≤ l then prt n T kn (rdX n T kn f 5 p (q + 1)) (rdX n T kn f 0 (p + 1) q) p q σ
    else lpL n T l (rdX n T kn f (l + 1) p q) (if l = 2 then 1 else 96) (rdX n T kn f (l + 1) p q σ)
theorem okP_lef (h : okP n σ) : okP n (lef n T σ c) := okP_adv (okP_emi (okP_lfv h))
theorem okP_prt (hR : ∀ σ, okP n σ → okP n (R σ)) (hR' : ∀ σ, okP n σ → okP n (R' σ)) (h : okP n σ) : okP n (prt n T kn R R' p q σ) := by
  rw [prt]
  split
  · exact okP_lef h
  split
  · exact okP_lef h
  split
  · exact okP_emi (hR _ (okP_adv h))
  split
  · split
    · exact okP_adv (hR' _ (okP_adv h))
    · exact okP_rfu (hR' _ (okP_adv h))
  · exact okP_rfu h
theorem okP_lpL (hR : ∀ σ, okP n σ → okP n (R σ)) : ∀ (m : Nat) (σ : PT), okP n σ → okP n (lpL n T l R m σ)
  | 0, _, h => h
  | m + 1, σ, h => by
    rw [lpL]
    split
    · exact okP_lpL hR m _ (okP_emi (hR _ (okP_adv h)))
    · exact h
theorem okP_rdX : ∀ (f l p q : Nat) (σ : PT), okP n σ → okP n (rdX n T kn f l p q σ)
  | 0, _, _, _, _, h => h
  | f + 1, l, p, q, σ, h => by
    rw [rdX]
    split
    · exact okP_prt (okP_rdX f 5 p (q + 1)) (okP_rdX f 0 (p + 1) q) h
    · exact okP_lpL (okP_rdX f (l + 1) p q) _ _ (okP_rdX f (l + 1) p q σ h)
theorem isg01 : isg n T σ c = 0 ∨ isg n T σ c = 1 := by
  rw [isg]; repeat' split
  all_goals simp
theorem sgo01 : sgo n T l σ = 0 ∨ sgo n T l σ = 1 := by
  rw [sgo]; repeat' split
  all_goals simp
theorem D_readPart_s (hE : okE E) (hT : tpS S n T) (hσ : okP n σ) (hk : kn < 5) (hq8 : q ≤ 8) (hp8 : p ≤ 8)
    (hR : q < 8 → ∀ σ, okP n σ → okP n (R σ) ∧ mres cT 130 d 0 (ment 3 [.ref 81, .int (nI p), .int (nI (q + 1))]) [] (hs E (rdZ S (nI kn) σ)) = some (none, hs E (rdZ S (nI kn) (R σ))))
    (hR' : p < 8 → ∀ σ, okP n σ → okP n (R' σ) ∧ mres cT 133 d 0 (ment 7 [.ref 81, .int 0, .int (nI (p + 1)), .int (nI q)]) [] (hs E (rdZ S (nI kn) σ)) = some (none, hs E (rdZ S (nI kn) (R' σ)))) :
    mres cT 130 (d + 1) 0 (ment 3 [.ref 81, .int (nI p), .int (nI q)]) [] (hs E (rdZ S (nI kn) σ)) = some (none, hs E (rdZ S (nI kn) (prt n T kn R R' p q σ))) := by
  have o7 := o_D hE
  have hn := hT.2.1
  have m7 : ∀ S, misc (hp E S 81) 7 = true := fun S => misc_o o7
  obtain ⟨h1, h2, h3, h4, h5, h6⟩ := id hσ
  have e4 : nI σ.2.2.1 = 4 ↔ σ.2.2.1 = 4 := nI_eq (b := 4) (by omega) (by omega)
  have e3 : nI σ.2.2.1 = 3 ↔ σ.2.2.1 = 3 := nI_eq (b := 3) (by omega) (by omega)
  have es : nI σ.2.1 - nI σ.1 = nI (σ.2.1 - σ.1) := pk_sub h5
  have el : (4 < nI (σ.2.1 - σ.1)) = (4 < σ.2.1 - σ.1) := propext (nI_ltI (a := 4) (by omega) (by omega))
  have rn := fun d => D_numberHere_ok (d := d) (S := S) (ky := nI kn) hE hT hσ
  have rm := fun d => D_nameHere_ok (d := d) (S := S) hE hT hσ hk
  have rl := fun d c => D_emitLeaf_ok (d := d) (S := S) (ky := nI kn) (c := c) hE hT hσ
  have rs := fun d c => D_isSign_ok (d := d) (S := S) (ky := nI kn) (c := c) hE hT hσ
  have ra := fun d => D_advance_ok (d := d) (S := S) (ky := nI kn) hE hT h2 h3
  have rf := fun d => D_refuse_ok (d := d) (S := S) (ky := nI kn) (σ := σ) hE (fun p hp => by have := h6 p hp; omega)
  have hA := okP_adv (T := T) hσ
  simp only [ment, mfl, List.length, List.replicate, List.cons_append, List.nil_append, Nat.reduceAdd, Nat.reduceSub]
  rw [prt]
  have G : ∀ (P : Prop), P → (¬ (σ.2.2.1 = 4 ∧ σ.2.1 - σ.1 ≤ 4) → mres cT 130 (d + 1) 32 [.ref 81, .int (nI p), .int (nI q)] [] (hs E (rdZ S (nI kn) σ)) = some (none, hs E (rdZ S (nI kn) (if σ.2.2.1 = 3 ∧ nmH n T kn σ ≠ -1000000005 then lef n T σ (-1 - nmH n T kn σ)
      else if isg n T σ 33 = 1 ∧ q < 8 then emi (R (adv n T σ)) (-33)
      else if isg n T σ 40 = 1 ∧ p < 8 then if isg n T (R' (adv n T σ)) 41 = 1 then adv n T (R' (adv n T σ)) else rfu (R' (adv n T σ))
      else rfu σ)))) := by
    intro _ _ _
    have G2 : ¬ (σ.2.2.1 = 3 ∧ nmH n T kn σ ≠ -1000000005) → mres cT 130 (d + 1) 62 [.ref 81, .int (nI p), .int (nI q)] [] (hs E (rdZ S (nI kn) σ)) = some (none, hs E (rdZ S (nI kn) (if isg n T σ 33 = 1 ∧ q < 8 then emi (R (adv n T σ)) (-33)
      else if isg n T σ 40 = 1 ∧ p < 8 then if isg n T (R' (adv n T σ)) 41 = 1 then adv n T (R' (adv n T σ)) else rfu (R' (adv n T σ))
      else rfu σ))) := by
      intro _
      have G3 : ¬ (isg n T σ 33 = 1 ∧ q < 8) → mres cT 130 (d + 1) 98 [.ref 81, .int (nI p), .int (nI q)] [] (hs E (rdZ S (nI kn) σ)) = some (none, hs E (rdZ S (nI kn) (if isg n T σ 40 = 1 ∧ p < 8 then if isg n T (R' (adv n T σ)) 41 = 1 then adv n T (R' (adv n T σ)) else rfu (R' (adv n T σ))
      else rfu σ))) := by
        intro _
        rcases isg01 (n := n) (T := T) (σ := σ) (c := 40) with a | a
        · have a0 : ¬ (isg n T σ 40 = 1 ∧ p < 8) := by rw [a]; exact fun h => absurd h.1 (by decide)
          rw [if_neg a0]
          simp only [r_al0 c_D_readPart_98, r_ci c_D_readPart_99, r_cv2 c_D_readPart_101, r_ifeq c_D_readPart_104, r_al0 c_D_readPart_149, r_cv1 c_D_readPart_150, r_vret c_D_readPart_153, ↓reduceIte, hs_h, Option.bind_some, mfix_i, mfix_r, mfix_n, mfix_a, Option.toList_some, Option.toList_none, List.cons_append, List.nil_append, List.singleton_append, mwt, Value.category, Nat.reduceAdd, Nat.reduceLeDiff, true_and, and_true, and_self, m7, rs, a, if_true, rf]
        · by_cases b : p < 8
          · have b' : ¬ (8 : Int32) ≤ nI p := nI_ge (b := 8) b (by omega)
            obtain ⟨t1, t2⟩ := hR' b _ hA
            have ts := fun d c => D_isSign_ok (d := d) (S := S) (ky := nI kn) (c := c) hE hT t1
            have ta := fun d => D_advance_ok (d := d) (S := S) (ky := nI kn) hE hT t1.2.1 t1.2.2.1
            have tf := fun d => D_refuse_ok (d := d) (S := S) (ky := nI kn) (σ := R' (adv n T σ)) hE (fun p hp => by have := t1.2.2.2.2.2 p hp; omega)
            rw [if_pos ⟨a, b⟩]
            rcases isg01 (n := n) (T := T) (σ := R' (adv n T σ)) (c := 41) with z | z
            · rw [if_neg (by rw [z]; decide)]
              simp only [r_al0 c_D_readPart_98, r_ci c_D_readPart_99, r_cv2 c_D_readPart_101, r_ifeq c_D_readPart_104, r_il1 c_D_readPart_107, r_ci c_D_readPart_108, r_icge c_D_readPart_110, r_al0 c_D_readPart_113, r_cv1 c_D_readPart_114, r_al0 c_D_readPart_117, r_ci c_D_readPart_118, r_il1 c_D_readPart_119, r_ci c_D_readPart_120, r_iadd c_D_readPart_121, r_il2 c_D_readPart_122, r_cw4 c_D_readPart_123, r_al0 c_D_readPart_126, r_ci c_D_readPart_127, r_cv2 c_D_readPart_129, r_ifeq c_D_readPart_132, r_al0 c_D_readPart_135, r_cv1 c_D_readPart_136, r_goto c_D_readPart_139, r_al0 c_D_readPart_142, r_cv1 c_D_readPart_143, r_goto c_D_readPart_146, r_vret c_D_readPart_153, ↓reduceIte, hs_h, Option.bind_some, mfix_i, mfix_r, mfix_n, mfix_a, Option.toList_some, Option.toList_none, List.cons_append, List.nil_append, List.singleton_append, mwt, Value.category, Nat.reduceAdd, Nat.reduceLeDiff, true_and, and_true, and_self, m7, rs, a, one_nz, b', if_false, ra, nI_1, t2, ts, z, if_true, tf]
            · rw [if_pos z]
              simp only [r_al0 c_D_readPart_98, r_ci c_D_readPart_99, r_cv2 c_D_readPart_101, r_ifeq c_D_readPart_104, r_il1 c_D_readPart_107, r_ci c_D_readPart_108, r_icge c_D_readPart_110, r_al0 c_D_readPart_113, r_cv1 c_D_readPart_114, r_al0 c_D_readPart_117, r_ci c_D_readPart_118, r_il1 c_D_readPart_119, r_ci c_D_readPart_120, r_iadd c_D_readPart_121, r_il2 c_D_readPart_122, r_cw4 c_D_readPart_123, r_al0 c_D_readPart_126, r_ci c_D_readPart_127, r_cv2 c_D_readPart_129, r_ifeq c_D_readPart_132, r_al0 c_D_readPart_135, r_cv1 c_D_readPart_136, r_goto c_D_readPart_139, r_al0 c_D_readPart_142, r_cv1 c_D_readPart_143, r_goto c_D_readPart_146, r_vret c_D_readPart_153, ↓reduceIte, hs_h, Option.bind_some, mfix_i, mfix_r, mfix_n, mfix_a, Option.toList_some, Option.toList_none, List.cons_append, List.nil_append, List.singleton_append, mwt, Value.category, Nat.reduceAdd, Nat.reduceLeDiff, true_and, and_true, and_self, m7, rs, a, one_nz, b', if_false, ra, nI_1, t2, ts, z, ta]
          · have b' : (8 : Int32) ≤ nI p := nI_le (a := 8) (by omega) (by omega)
            rw [if_neg (fun h => b h.2)]
            simp only [r_al0 c_D_readPart_98, r_ci c_D_readPart_99, r_cv2 c_D_readPart_101, r_ifeq c_D_readPart_104, r_il1 c_D_readPart_107, r_ci c_D_readPart_108, r_icge c_D_readPart_110, r_al0 c_D_readPart_149, r_cv1 c_D_readPart_150, r_vret c_D_readPart_153, ↓reduceIte, hs_h, Option.bind_some, mfix_i, mfix_r, mfix_n, mfix_a, Option.toList_some, Option.toList_none, List.cons_append, List.nil_append, List.singleton_append, mwt, Value.category, Nat.reduceAdd, Nat.reduceLeDiff, true_and, and_true, and_self, m7, rs, a, one_nz, b', if_false, if_true, rf]
      rcases isg01 (n := n) (T := T) (σ := σ) (c := 33) with a | a
      · have a0 : ¬ (isg n T σ 33 = 1 ∧ q < 8) := by rw [a]; exact fun h => absurd h.1 (by decide)
        rw [if_neg a0]
        simp only [r_al0 c_D_readPart_62, r_ci c_D_readPart_63, r_cv2 c_D_readPart_65, r_ifeq c_D_readPart_68, ↓reduceIte, hs_h, Option.bind_some, mfix_i, mfix_r, mfix_n, mfix_a, Option.toList_some, Option.toList_none, List.cons_append, List.nil_append, List.singleton_append, mwt, Value.category, Nat.reduceAdd, Nat.reduceLeDiff, true_and, and_true, and_self, m7, rs, a, if_true]
        exact G3 a0
      · by_cases b : q < 8
        · have b' : ¬ (8 : Int32) ≤ nI q := nI_ge (b := 8) b (by omega)
          obtain ⟨t1, t2⟩ := hR b _ hA
          have te := fun d => D_emit_ok (d := d) (S := S) (ky := nI kn) (c := -33) hE t1
          rw [if_pos ⟨a, b⟩]
          simp only [r_al0 c_D_readPart_62, r_ci c_D_readPart_63, r_cv2 c_D_readPart_65, r_ifeq c_D_readPart_68, r_il2 c_D_readPart_71, r_ci c_D_readPart_72, r_icge c_D_readPart_74, r_al0 c_D_readPart_77, r_cv1 c_D_readPart_78, r_al0 c_D_readPart_81, r_il1 c_D_readPart_82, r_il2 c_D_readPart_83, r_ci c_D_readPart_84, r_iadd c_D_readPart_85, r_cw3 c_D_readPart_86, r_al0 c_D_readPart_89, r_ci c_D_readPart_90, r_cv2 c_D_readPart_92, r_goto c_D_readPart_95, r_vret c_D_readPart_153, ↓reduceIte, hs_h, Option.bind_some, mfix_i, mfix_r, mfix_n, mfix_a, Option.toList_some, Option.toList_none, List.cons_append, List.nil_append, List.singleton_append, mwt, Value.category, Nat.reduceAdd, Nat.reduceLeDiff, true_and, and_true, and_self, m7, rs, a, one_nz, b', if_false, ra, nI_1, t2, te]
        · have b' : (8 : Int32) ≤ nI q := nI_le (a := 8) (by omega) (by omega)
          have a0 : ¬ (isg n T σ 33 = 1 ∧ q < 8) := fun h => b h.2
          rw [if_neg a0]
          simp only [r_al0 c_D_readPart_62, r_ci c_D_readPart_63, r_cv2 c_D_readPart_65, r_ifeq c_D_readPart_68, r_il2 c_D_readPart_71, r_ci c_D_readPart_72, r_icge c_D_readPart_74, ↓reduceIte, hs_h, Option.bind_some, mfix_i, mfix_r, mfix_n, mfix_a, Option.toList_some, Option.toList_none, List.cons_append, List.nil_append, List.singleton_append, mwt, Value.category, Nat.reduceAdd, Nat.reduceLeDiff, true_and, and_true, and_self, m7, rs, a, one_nz, b', if_false, if_true]
          exact G3 a0
    by_cases a : σ.2.2.1 = 3
    · by_cases b : nmH n T kn σ = -1000000005
      · have a0 : ¬ (σ.2.2.1 = 3 ∧ nmH n T kn σ ≠ -1000000005) := fun h => h.2 b
        rw [if_neg a0]
        simp only [r_al0 c_D_readPart_32, r_gfS0 c_D_readPart_33 o7 rfl, r_ci c_D_readPart_36, r_icne c_D_readPart_37, r_al0 c_D_readPart_40, r_cv1 c_D_readPart_41, r_ci c_D_readPart_44, r_iceq c_D_readPart_46, ↓reduceIte, hs_h, Option.bind_some, mfix_i, mfix_r, mfix_n, mfix_a, Option.toList_some, Option.toList_none, List.cons_append, List.nil_append, List.singleton_append, mwt, Value.category, Nat.reduceAdd, Nat.reduceLeDiff, true_and, and_true, and_self, m7, rz6, e3.mpr a, rm, b, if_true]
        exact G2 a0
      · rw [if_pos ⟨a, b⟩]
        simp only [r_al0 c_D_readPart_32, r_gfS0 c_D_readPart_33 o7 rfl, r_ci c_D_readPart_36, r_icne c_D_readPart_37, r_al0 c_D_readPart_40, r_cv1 c_D_readPart_41, r_ci c_D_readPart_44, r_iceq c_D_readPart_46, r_al0 c_D_readPart_49, r_ci c_D_readPart_50, r_al0 c_D_readPart_51, r_cv1 c_D_readPart_52, r_isub c_D_readPart_55, r_cv2 c_D_readPart_56, r_goto c_D_readPart_59, r_vret c_D_readPart_153, ↓reduceIte, hs_h, Option.bind_some, mfix_i, mfix_r, mfix_n, mfix_a, Option.toList_some, Option.toList_none, List.cons_append, List.nil_append, List.singleton_append, mwt, Value.category, Nat.reduceAdd, Nat.reduceLeDiff, true_and, and_true, and_self, m7, rz6, e3.mpr a, rm, b, if_true, if_false, rl]
    · have a0 : ¬ (σ.2.2.1 = 3 ∧ nmH n T kn σ ≠ -1000000005) := fun h => a h.1
      have a3 : ¬ nI σ.2.2.1 = 3 := fun h => a (e3.mp h)
      rw [if_neg a0]
      simp only [r_al0 c_D_readPart_32, r_gfS0 c_D_readPart_33 o7 rfl, r_ci c_D_readPart_36, r_icne c_D_readPart_37, ↓reduceIte, hs_h, Option.bind_some, mfix_i, mfix_r, mfix_n, mfix_a, Option.toList_some, Option.toList_none, List.cons_append, List.nil_append, List.singleton_append, rz6, a3, if_false]
      exact G2 a0
  have G := G True trivial
  by_cases a : σ.2.2.1 = 4
  · by_cases b : σ.2.1 - σ.1 ≤ 4
    · have b' : ¬ 4 < σ.2.1 - σ.1 := by omega
      rw [if_pos ⟨a, b⟩]
      simp only [r_al0 c_D_readPart_0, r_gfS0 c_D_readPart_1 o7 rfl, r_ci c_D_readPart_4, r_icne c_D_readPart_5, r_al0 c_D_readPart_8, r_gfS0 c_D_readPart_9 o7 rfl, r_al0 c_D_readPart_12, r_gfS0 c_D_readPart_13 o7 rfl, r_isub c_D_readPart_16, r_ci c_D_readPart_17, r_icgt c_D_readPart_18, r_al0 c_D_readPart_21, r_al0 c_D_readPart_22, r_cv1 c_D_readPart_23, r_cv2 c_D_readPart_26, r_goto c_D_readPart_29, r_vret c_D_readPart_153, ↓reduceIte, hs_h, Option.bind_some, mfix_i, mfix_r, mfix_n, mfix_a, Option.toList_some, Option.toList_none, List.cons_append, List.nil_append, List.singleton_append, mwt, Value.category, Nat.reduceAdd, Nat.reduceLeDiff, true_and, and_true, and_self, m7, rz6, rz7, rz8, e4.mpr a, es, el, b', if_true, if_false, rn, rl]
    · have b' : 4 < σ.2.1 - σ.1 := by omega
      have a0 : ¬ (σ.2.2.1 = 4 ∧ σ.2.1 - σ.1 ≤ 4) := fun h => b h.2
      rw [if_neg a0]
      simp only [r_al0 c_D_readPart_0, r_gfS0 c_D_readPart_1 o7 rfl, r_ci c_D_readPart_4, r_icne c_D_readPart_5, r_al0 c_D_readPart_8, r_gfS0 c_D_readPart_9 o7 rfl, r_al0 c_D_readPart_12, r_gfS0 c_D_readPart_13 o7 rfl, r_isub c_D_readPart_16, r_ci c_D_readPart_17, r_icgt c_D_readPart_18, ↓reduceIte, hs_h, Option.bind_some, mfix_i, mfix_r, mfix_n, mfix_a, Option.toList_some, Option.toList_none, List.cons_append, List.nil_append, List.singleton_append, rz6, rz7, rz8, e4.mpr a, es, el, b', if_true]
      exact G a0
  · have a0 : ¬ (σ.2.2.1 = 4 ∧ σ.2.1 - σ.1 ≤ 4) := fun h => a h.1
    have a4 : ¬ nI σ.2.2.1 = 4 := fun h => a (e4.mp h)
    rw [if_neg a0]
    simp only [r_al0 c_D_readPart_0, r_gfS0 c_D_readPart_1 o7 rfl, r_ci c_D_readPart_4, r_icne c_D_readPart_5, ↓reduceIte, hs_h, Option.bind_some, mfix_i, mfix_r, mfix_n, mfix_a, Option.toList_some, Option.toList_none, List.cons_append, List.nil_append, List.singleton_append, rz6, a4, if_false]
    exact G a0
theorem D_readLevel_s (hE : okE E) (hT : tpS S n T) (hσ : okP n σ) (hl : l < 5)
    (hR : ∀ σ, okP n σ → okP n (R σ) ∧ mres cT 133 d 0 (ment 7 [.ref 81, .int (nI (l + 1)), .int (nI p), .int (nI q)]) [] (hs E (rdZ S ky σ)) = some (none, hs E (rdZ S ky (R σ)))) :
    mres cT 133 (d + 1) 0 (ment 7 [.ref 81, .int (nI l), .int (nI p), .int (nI q)]) [] (hs E (rdZ S ky σ)) = some (none, hs E (rdZ S ky (lpL n T l R (if l = 2 then 1 else 96) (R σ)))) := by
  have o7 := o_D hE
  have hn := hT.2.1
  have m7 : ∀ S, misc (hp E S 81) 7 = true := fun S => misc_o o7
  have m5 : ∀ S, misc (hp E S 79) 5 = true := fun S => misc_o (o_P hE)
  have a1 : nI l < 5 := nI_lt (b := 5) hl (by omega)
  have lp : ∀ (M : Nat), M ≤ 96 → ∀ m i w σ, okP n σ → i + m = M → mres cT 133 (d + 1) 37 [.ref 81, .int (nI l), .int (nI p), .int (nI q), .int (nI M), .int (nI i), w] [] (hs E (rdZ S ky σ)) = some (none, hs E (rdZ S ky (lpL n T l R m σ))) := by
    intro M hM m
    induction m with
    | zero =>
      intro i w σ hσ hi
      have h1 : nI M ≤ nI i := nI_le (by omega) (by omega)
      simp only [r_il5 c_D_readLevel_37, r_il4 c_D_readLevel_39, r_icge c_D_readLevel_41, r_vret c_D_readLevel_99, ↓reduceIte, hs_h, Option.bind_some, mfix_i, mfix_r, mfix_n, mfix_a, Option.toList_some, Option.toList_none, List.cons_append, List.nil_append, List.singleton_append, h1, if_true, lpL]
    | succ m ih =>
      intro i w σ hσ hi
      have h1 : ¬ nI M ≤ nI i := nI_ge (by omega) (by omega)
      have rs := fun d => D_signIsOf_ok (d := d) (S := S) (ky := ky) hE hT hσ hl
      have hA := okP_adv (T := T) hσ
      obtain ⟨t1, t2⟩ := hR _ hA
      have te := fun d c => D_emit_ok (d := d) (S := S) (ky := ky) (c := c) hE t1
      have ra := fun d => D_advance_ok (d := d) (S := S) (ky := ky) hE hT hσ.2.1 hσ.2.2.1
      have ih := fun w σ hσ => ih (i + 1) w σ hσ (by omega)
      rw [lpL]
      cases fq : σ.2.2.2.1 with
      | some r =>
        have hr := hσ.2.2.2.2.2 r fq
        have f1 : ¬ cdF (some r) = -1 := fun e => by
          have h : nI r = -1 := e
          have h0 := nI_pos (n := r) (by omega)
          rw [h] at h0
          exact h0 (by decide)
        simp only [r_il5 c_D_readLevel_37, r_il4 c_D_readLevel_39, r_icge c_D_readLevel_41, r_al0 c_D_readLevel_44, r_gfS0 c_D_readLevel_45 o7 rfl, r_ci c_D_readLevel_48, r_icne c_D_readLevel_49, r_vret c_D_readLevel_99, ↓reduceIte, hs_h, Option.bind_some, mfix_i, mfix_r, mfix_n, mfix_a, Option.toList_some, Option.toList_none, List.cons_append, List.nil_append, List.singleton_append, h1, if_false, rz5, fq, f1, reduceCtorEq, false_and]
      | none =>
        have f1 : cdF none = -1 := rfl
        rcases sgo01 (n := n) (T := T) (l := l) (σ := σ) with b | b
        · simp only [r_il5 c_D_readLevel_37, r_il4 c_D_readLevel_39, r_icge c_D_readLevel_41, r_al0 c_D_readLevel_44, r_gfS0 c_D_readLevel_45 o7 rfl, r_ci c_D_readLevel_48, r_icne c_D_readLevel_49, r_al0 c_D_readLevel_52, r_il1 c_D_readLevel_53, r_cv2 c_D_readLevel_54, r_ifeq c_D_readLevel_57, r_vret c_D_readLevel_99, ↓reduceIte, hs_h, Option.bind_some, mfix_i, mfix_r, mfix_n, mfix_a, Option.toList_some, Option.toList_none, List.cons_append, List.nil_append, List.singleton_append, mwt, Value.category, Nat.reduceAdd, Nat.reduceLeDiff, true_and, and_true, and_self, h1, if_false, rz5, fq, f1, if_true, m7, rs, b, show ((0 : Int32) = 1) = False from eq_false (by decide), and_false]
        · simp only [r_il5 c_D_readLevel_37, r_il4 c_D_readLevel_39, r_icge c_D_readLevel_41, r_al0 c_D_readLevel_44, r_gfS0 c_D_readLevel_45 o7 rfl, r_ci c_D_readLevel_48, r_icne c_D_readLevel_49, r_al0 c_D_readLevel_52, r_il1 c_D_readLevel_53, r_cv2 c_D_readLevel_54, r_ifeq c_D_readLevel_57, ↓reduceIte, hs_h, Option.bind_some, mfix_i, mfix_r, mfix_n, mfix_a, Option.toList_some, Option.toList_none, List.cons_append, List.nil_append, List.singleton_append, mwt, Value.category, Nat.reduceAdd, Nat.reduceLeDiff, true_and, and_true, and_self, h1, if_false, rz5, fq, f1, if_true, m7, rs, b, one_nz]
          simp only [r_al0 c_D_readLevel_60, r_gfSr c_D_readLevel_61 o7 rfl, r_al0 c_D_readLevel_64, r_gfS0 c_D_readLevel_65 o7 rfl, r_cv2 c_D_readLevel_68, r_is6 c_D_readLevel_71, r_al0 c_D_readLevel_73, r_cv1 c_D_readLevel_74, r_al0 c_D_readLevel_77, r_il1 c_D_readLevel_78, r_ci c_D_readLevel_79, r_iadd c_D_readLevel_80, r_il2 c_D_readLevel_81, r_il3 c_D_readLevel_82, r_cw4 c_D_readLevel_83, r_al0 c_D_readLevel_86, r_il6 c_D_readLevel_87, r_ineg c_D_readLevel_89, r_cv2 c_D_readLevel_90, r_inc5 c_D_readLevel_93, r_goto c_D_readLevel_96, ↓reduceIte, hs_h, Option.bind_some, mfix_i, mfix_r, mfix_n, mfix_a, Option.toList_some, Option.toList_none, List.cons_append, List.nil_append, List.singleton_append, mwt, Value.category, Nat.reduceAdd, Nat.reduceLeDiff, true_and, and_true, and_self, m5, m7, rz7, P_byteAt_ok hE (tpS_rz hT) (show σ.1 < 2 ^ 31 by have := hσ.1; omega), ra, nI_1, t2, te, ih _ _ (okP_emi t1), and_self, if_true]
  obtain ⟨t1, t2⟩ := hR _ hσ
  simp only [ment, mfl, List.length, List.replicate, List.cons_append, List.nil_append, Nat.reduceAdd, Nat.reduceSub]
  by_cases b : l = 2
  · have b' : (nI l = 2) = True := eq_true (by rw [b]; rfl)
    rw [if_pos b]
    have lq := fun w => lp 1 (by omega) 1 0 w _ t1 (by omega)
    rw [nI_0, show nI 1 = 1 from rfl] at lq
    simp only [r_il1 c_D_readLevel_0, r_ci c_D_readLevel_1, r_iclt c_D_readLevel_2, r_al0 c_D_readLevel_5, r_il2 c_D_readLevel_6, r_il3 c_D_readLevel_7, r_cv3 c_D_readLevel_8, r_vret c_D_readLevel_11, r_al0 c_D_readLevel_12, r_il1 c_D_readLevel_13, r_ci c_D_readLevel_14, r_iadd c_D_readLevel_15, r_il2 c_D_readLevel_16, r_il3 c_D_readLevel_17, r_cw4 c_D_readLevel_18, r_il1 c_D_readLevel_21, r_ci c_D_readLevel_22, r_icne c_D_readLevel_23, r_ci c_D_readLevel_26, r_goto c_D_readLevel_27, r_ci c_D_readLevel_30, r_is4 c_D_readLevel_32, r_ci c_D_readLevel_34, r_is5 c_D_readLevel_35, ↓reduceIte, hs_h, Option.bind_some, mfix_i, mfix_r, mfix_n, mfix_a, Option.toList_some, Option.toList_none, List.cons_append, List.nil_append, List.singleton_append, mwt, Value.category, Nat.reduceAdd, Nat.reduceLeDiff, true_and, and_true, and_self, m7, a1, if_true, nI_1, t2, b', lq]
  · have b' : ¬ nI l = 2 := fun e => b ((nI_eq (b := 2) (by omega) (by omega)).mp e)
    have lq := fun w => lp 96 (by omega) 96 0 w _ t1 (by omega)
    rw [nI_0, show nI 96 = 96 from rfl] at lq
    simp only [r_il1 c_D_readLevel_0, r_ci c_D_readLevel_1, r_iclt c_D_readLevel_2, r_al0 c_D_readLevel_5, r_il2 c_D_readLevel_6, r_il3 c_D_readLevel_7, r_cv3 c_D_readLevel_8, r_vret c_D_readLevel_11, r_al0 c_D_readLevel_12, r_il1 c_D_readLevel_13, r_ci c_D_readLevel_14, r_iadd c_D_readLevel_15, r_il2 c_D_readLevel_16, r_il3 c_D_readLevel_17, r_cw4 c_D_readLevel_18, r_il1 c_D_readLevel_21, r_ci c_D_readLevel_22, r_icne c_D_readLevel_23, r_ci c_D_readLevel_26, r_goto c_D_readLevel_27, r_ci c_D_readLevel_30, r_is4 c_D_readLevel_32, r_ci c_D_readLevel_34, r_is5 c_D_readLevel_35, ↓reduceIte, hs_h, Option.bind_some, mfix_i, mfix_r, mfix_n, mfix_a, Option.toList_some, Option.toList_none, List.cons_append, List.nil_append, List.singleton_append, mwt, Value.category, Nat.reduceAdd, Nat.reduceLeDiff, true_and, and_true, and_self, m7, a1, if_true, if_false, nI_1, t2, b', lq, b]
theorem D_read_ok (hE : okE E) (hT : tpS S n T) (hk : kn < 5) : ∀ (f : Nat),
    (∀ p q σ d, okP n σ → f ≤ d → 1 + (8 - q) + 6 * (8 - p) ≤ f → p ≤ 8 → q ≤ 8 → mres cT 130 d 0 (ment 3 [.ref 81, .int (nI p), .int (nI q)]) [] (hs E (rdZ S (nI kn) σ)) = some (none, hs E (rdZ S (nI kn) (rdX n T kn f 5 p q σ))))
    ∧ ∀ l p q σ d, l ≤ 5 → okP n σ → f ≤ d → 1 + (5 - l) + (8 - q) + 6 * (8 - p) ≤ f → p ≤ 8 → q ≤ 8 → mres cT 133 d 0 (ment 7 [.ref 81, .int (nI l), .int (nI p), .int (nI q)]) [] (hs E (rdZ S (nI kn) σ)) = some (none, hs E (rdZ S (nI kn) (rdX n T kn f l p q σ)))
  | 0 => ⟨fun p q σ d _ _ h => by omega, fun l p q σ d _ _ _ h => by omega⟩
  | f + 1 => by
    obtain ⟨ihp, ihl⟩ := D_read_ok hE hT hk f
    have hP : ∀ p q σ d, okP n σ → f + 1 ≤ d → 1 + (8 - q) + 6 * (8 - p) ≤ f + 1 → p ≤ 8 → q ≤ 8 → mres cT 130 d 0 (ment 3 [.ref 81, .int (nI p), .int (nI q)]) [] (hs E (rdZ S (nI kn) σ)) = some (none, hs E (rdZ S (nI kn) (rdX n T kn (f + 1) 5 p q σ))) := by
      intro p q σ d hσ hd hm hp8 hq8
      obtain ⟨d, rfl⟩ : ∃ e, d = e + 1 := ⟨d - 1, by omega⟩
      rw [rdX, if_pos (Nat.le_refl 5)]
      refine D_readPart_s hE hT hσ hk hq8 hp8 (fun hq σ hσ => ⟨okP_rdX _ _ _ _ _ hσ, ihp p (q + 1) σ d hσ (by omega) (by omega) hp8 (by omega)⟩) (fun hp σ hσ => ⟨okP_rdX _ _ _ _ _ hσ, ?_⟩)
      exact ihl 0 (p + 1) q σ d (by omega) hσ (by omega) (by omega) (by omega) hq8
    refine ⟨hP, fun l p q σ d hl hσ hd hm hp8 hq8 => ?_⟩
    by_cases h5 : 5 ≤ l
    · have e : l = 5 := by omega
      subst e
      have m7 : ∀ S, misc (hp E S 81) 7 = true := fun S => misc_o (o_D hE)
      have a1 : ¬ nI 5 < (5 : Int32) := by decide
      simp only [ment, mfl, List.length, List.replicate, List.cons_append, List.nil_append, Nat.reduceAdd, Nat.reduceSub]
      simp only [r_il1 c_D_readLevel_0, r_ci c_D_readLevel_1, r_iclt c_D_readLevel_2, r_al0 c_D_readLevel_5, r_il2 c_D_readLevel_6, r_il3 c_D_readLevel_7, r_cv3 c_D_readLevel_8, r_vret c_D_readLevel_11, ↓reduceIte, hs_h, Option.bind_some, mfix_i, mfix_r, mfix_n, mfix_a, Option.toList_some, Option.toList_none, List.cons_append, List.nil_append, List.singleton_append, mwt, Value.category, Nat.reduceAdd, Nat.reduceLeDiff, true_and, and_true, and_self, m7, a1, if_false, hP p q σ d hσ hd (by omega) hp8 hq8]
    · obtain ⟨d, rfl⟩ : ∃ e, d = e + 1 := ⟨d - 1, by omega⟩
      rw [rdX, if_neg h5]
      exact D_readLevel_s hE hT hσ (by omega) (fun σ hσ => ⟨okP_rdX _ _ _ _ _ hσ, ihl (l + 1) p q σ d (by omega) hσ (by omega) (by omega) hp8 hq8⟩)
end LEVELS
