/-! the model reads: a part -/
section MPART
variable {E : EE} {S W : SS} {d n p q j l k kn i m f : Nat} {T : Nat → Nat} {c v x fr tt so ft br nt cc pa : Int32} {σ ρ : PT} {g g' : Nat → Int32} {R R' : PT → PT}
theorem mk13 : iF (mkS S br nt σ g) 93 13 = nI σ.1 := mp13
theorem mk14 : iF (mkS S br nt σ g) 93 14 = nI σ.2.1 := mp14
theorem mk15 : iF (mkS S br nt σ g) 93 15 = mso σ := mp15
theorem mk16 : iF (mkS S br nt σ g) 93 16 = 0 := mp16
theorem mk17 : iF (mkS S br nt σ g) 93 17 = br := mp17
theorem mk18 : iF (mkS S br nt σ g) 93 18 = nt := mp18
theorem mk19 : iF (mkS S br nt σ g) 93 19 = iF S 93 19 := mp19
theorem mk21 : iF (mkS S br nt σ g) 93 21 = nI σ.2.2.2.2.1 := mp21
theorem mk22 : iF (mkS S br nt σ g) 93 22 = nI σ.2.2.2.2.2.1 := mp22
theorem mk97 : iA (mkS S br nt σ g) 97 = iA S 97 := mp97
theorem mu16 : sF (mkS S br nt σ g) 93 16 v = mpS S (nI σ.1) (nI σ.2.1) (mso σ) v br nt (nI σ.2.2.2.2.1) (nI σ.2.2.2.2.2.1) g := um16
theorem mu17 : sF (mkS S br nt σ g) 93 17 v = mkS S v nt σ g := um17
theorem mu18 : sF (mkS S br nt σ g) 93 18 v = mkS S br v σ g := um18
theorem mu22 : sF (mkS S br nt σ g) 93 22 (nI (σ.2.2.2.2.2.1 + 1)) = mkS S br nt (lfv σ) g := um22
theorem lfv_emi : lfv (emi σ c) = emi (lfv σ) c := by
  rw [emi, emi]
  by_cases h : σ.2.2.2.2.1 < 96
  · rw [if_pos h, if_pos (show (lfv σ).2.2.2.2.1 < 96 from h)]; rfl
  · rw [if_neg h, if_neg (show ¬ (lfv σ).2.2.2.2.1 < 96 from h)]
theorem M_put_k (hE : okE E) (hc : σ.2.2.2.2.1 < 96) : mres cT 145 d 0 (ment 2 [.ref 93, .int x]) [] (hs E (mkS S br nt σ g)) = some (none, hs E (mkS S br nt (emi σ c) (upd g σ.2.2.2.2.1 x))) := by
  rw [mkS, M_put_ok hE (show σ.2.2.2.2.1 < 100 by omega), emi_t hc]
  rfl
theorem M_need_k (hE : okE E) : mres cT 144 d 0 (ment 2 [.ref 93, .int 0]) [] (hs E (mkS S br nt σ g)) = some (none, hs E (mpS S (nI σ.1) (nI σ.2.1) (mso σ) 1 br nt (nI σ.2.2.2.2.1) (nI σ.2.2.2.2.2.1) g)) := M_need_0 hE
theorem lef_g (hc : σ.2.2.2.2.1 < 96) (hg : ∀ j, j < σ.2.2.2.2.1 → g j = mcd (σ.2.2.2.2.2.2 j)) : ∀ j, j < (lef n T σ c).2.2.2.2.1 → upd g σ.2.2.2.2.1 (mcd c) j = mcd ((lef n T σ c).2.2.2.2.2.2 j) := by
  intro j hj
  rw [lef, adv_c.1, emi_t (σ := lfv σ) hc] at hj
  rw [lef, adv_c.2.1, emi_t (σ := lfv σ) hc]
  have hj : j < σ.2.2.2.2.1 + 1 := hj
  show upd g σ.2.2.2.2.1 (mcd c) j = mcd (upd σ.2.2.2.2.2.2 σ.2.2.2.2.1 c j)
  by_cases e : j = σ.2.2.2.2.1
  · rw [e, pk_us, pk_us]
  · rw [pk_un e, pk_un e]; exact hg j (by omega)
theorem lef_f : (lef n T σ c).2.2.2.1 = σ.2.2.2.1 := by
  rw [lef, adv_c.2.2.1, emi_f.1]; rfl
theorem rfu_o (h : σ.2.2.2.1 = none) : (rfu σ).2.2.2.1 = some σ.1 := by rw [rfu, h]
theorem rfu_k {r : Nat} (h : σ.2.2.2.1 = some r) : (rfu σ).2.2.2.1 = some r := by rw [rfu, h]
theorem ix_eq : ∀ kn, kn < 5 → ixS (21 + kn) c = ixS (5 + kn) c
  | 0, _ => rfl
  | 1, _ => rfl
  | 2, _ => rfl
  | 3, _ => rfl
  | 4, _ => rfl
  | n + 5, h => by omega
theorem mcd_n {r : Nat} (h : r < 10000) : mcd (nI r) = nI r := by rw [mcd, if_pos (nI_pos' (by omega))]
theorem mcd_m : ∀ r, r < 4 → mcd (-1 - nI r) = 100000 + nI r := by decide
/-- the model's method does to its state what R does to the class's -/
def smR (E : EE) (S : SS) (n : Nat) (T : Nat → Nat) (M nL d p q : Nat) (R : PT → PT) : Prop := ∀ σ W, rSt n T σ → 1 ≤ σ.1 → σ.2.2.2.1 = none → mrl S (nI p) (nI q) σ W → ∃ W', mrl S (nI p) (nI q) (R σ) W' ∧ mres cT M d 0 (ment nL [.ref 93]) [] (hs E W) = some (none, hs E W')
theorem M_part_s (hE : okE E) (hT : mtp S n T) (hk : kn < 5) (hN : iF S 93 19 = nI (1000021 + kn)) (hp8 : p ≤ 8) (hq8 : q ≤ 8)
    (hR : q < 8 → okR n T R ∧ smR E S n T 147 3 d p (q + 1) R) (hR' : p < 8 → okR n T R' ∧ smR E S n T 153 1 d (p + 1) q R') : smR E S n T 147 3 (d + 1) p q (prt n T kn R R' p q) := by
  intro σ W hσ h1 hf hm
  obtain ⟨g, hg, rfl⟩ := mrl_n hm hf
  have o10 := o_M hE
  have m10 := m_M hE
  have hn := hT.2.1
  obtain ⟨⟨p1, p2, p3, p4, p5, p6⟩, hcc, hpl, hdg, s1, s5⟩ := id hσ
  have hA := adv_wf hσ
  have rs := fun d c => M_isSign_ok (d := d) (c := c) (br := nI p) (nt := nI q) (g := g) hE hT hσ
  have es : nI σ.2.1 - nI σ.1 = nI (σ.2.1 - σ.1) := pk_sub p5
  have lf : ∀ (c x : Int32), σ.2.2.1 ≠ 1 → mwo σ → x = mcd c → mrl S (nI p) (nI q) (lef n T σ c) (mkS S (nI p) (nI q) (lef n T σ c) (upd g σ.2.2.2.2.1 x)) ∧ (∀ d, mres cT 145 d 0 (ment 2 [.ref 93, .int x]) [] (hs E (mkS S (nI p) (nI q) σ g)) = some (none, hs E (mkS S (nI p) (nI q) (emi σ c) (upd g σ.2.2.2.2.1 x)))) ∧ (emi σ c).2.2.2.2.2.1 = σ.2.2.2.2.2.1 ∧ ∀ d, mres cT 142 d 0 (ment 3 [.ref 93]) [] (hs E (mkS S (nI p) (nI q) (lfv (emi σ c)) (upd g σ.2.2.2.2.1 x))) = some (none, hs E (mkS S (nI p) (nI q) (lef n T σ c) (upd g σ.2.2.2.2.1 x))) := by
    intro c x hne hw hx
    have hc : σ.2.2.2.2.1 < 96 := by have := hpl hne; omega
    subst hx
    refine ⟨Or.inl ⟨by rw [lef_f]; exact hf, upd g σ.2.2.2.2.1 (mcd c), lef_g hc hg, rfl⟩, fun d => M_put_k hE hc, by rw [emi_t hc], fun d => ?_⟩
    have e : lfv (emi σ c) = (σ.1, σ.2.1, σ.2.2.1, σ.2.2.2.1, σ.2.2.2.2.1 + 1, σ.2.2.2.2.2.1 + 1, upd σ.2.2.2.2.2.2 σ.2.2.2.2.1 c) := by rw [emi_t hc]; rfl
    rw [M_next_mk hE hT (by rw [e]; exact p2) (by rw [e]; exact hw), lfv_emi]
    rfl
  have G5 : ∃ W', mrl S (nI p) (nI q) (rfu σ) W' ∧ ∀ w1 w2, mres cT 147 (d + 1) 268 [.ref 93, w1, w2] [] (hs E (mkS S (nI p) (nI q) σ g)) = some (none, hs E W') := by
    refine ⟨mpS S (nI σ.1) (nI σ.2.1) (mso σ) 1 (nI p) (nI q) (nI σ.2.2.2.2.1) (nI σ.2.2.2.2.2.1) g, Or.inr ⟨σ.1, rfu_o hf, _, _, _, _, _, _, _, rfl⟩, fun w1 w2 => ?_⟩
    simp only [r_al0 c_M_part_268, r_ci c_M_part_269, r_pfZ c_M_part_270 o10 rfl, r_vret c_M_part_273, ↓reduceIte, hs_h, Option.bind_some, mfix_i, mfix_r, mfix_n, mfix_a, Option.toList_some, Option.toList_none, List.cons_append, List.nil_append, List.singleton_append, mwt, Value.category, Nat.reduceAdd, Nat.reduceLeDiff, true_and, and_true, and_self, or_true, true_or, mu16]
  have G4 : ∃ W', mrl S (nI p) (nI q) (if isg n T σ 40 = 1 ∧ p < 8 then if isg n T (R' (adv n T σ)) 41 = 1 then adv n T (R' (adv n T σ)) else rfu (R' (adv n T σ)) else rfu σ) W' ∧ ∀ w1 w2, mres cT 147 (d + 1) 209 [.ref 93, w1, w2] [] (hs E (mkS S (nI p) (nI q) σ g)) = some (none, hs E W') := by
    rcases isg01 (n := n) (T := T) (σ := σ) (c := 40) with a | a
    · obtain ⟨W', q1, q2⟩ := G5
      refine ⟨W', ?_, fun w1 w2 => ?_⟩
      · rw [if_neg (fun h => by rw [a] at h; exact absurd h.1 (by decide))]; exact q1
      · simp only [r_al0 c_M_part_209, r_ci c_M_part_210, r_cv2 c_M_part_212, r_ifeq c_M_part_215, ↓reduceIte, hs_h, Option.bind_some, mfix_i, mfix_r, mfix_n, mfix_a, Option.toList_some, Option.toList_none, List.cons_append, List.nil_append, List.singleton_append, mwt, Value.category, Nat.reduceAdd, Nat.reduceLeDiff, true_and, and_true, and_self, m10, rs, a, if_true, q2]
    · by_cases b : p < 8
      · have b' : ¬ (8 : Int32) ≤ nI p := nI_ge (b := 8) b (by omega)
        have a2 : σ.2.2.1 = 2 := by
          rw [isg] at a
          split at a
          · assumption
          · exact absurd a (by decide)
        have rn := fun d => M_next_mk (d := d) (br := nI (p + 1)) (nt := nI q) (g := g) hE hT p2 (mwo_2 a2)
        have f2 : (adv n T σ).2.2.2.1 = none := by rw [adv_c.2.2.1]; exact hf
        obtain ⟨W1, hm1, r1⟩ := (hR' b).2 (adv n T σ) (mkS S (nI (p + 1)) (nI q) (adv n T σ) g) hA.1 (by have := hA.2 (by omega); omega) f2 (Or.inl ⟨f2, g, by rw [adv_c.1, adv_c.2.1]; exact hg, rfl⟩)
        rw [if_pos ⟨a, b⟩]
        rcases hm1 with ⟨hf1, g1, hg1, rfl⟩ | ⟨r, hf1, tt, so, br', nt', cc, pa, g1, rfl⟩
        · obtain ⟨t1, t2⟩ := (hR' b).1 _ hA.1 f2 hf1
          have ts := fun d c => M_isSign_ok (d := d) (c := c) (br := nI (p + 1)) (nt := nI q) (g := g1) hE hT t1
          rcases isg01 (n := n) (T := T) (σ := R' (adv n T σ)) (c := 41) with z | z
          · rw [if_neg (fun h => by rw [z] at h; exact absurd h (by decide))]
            refine ⟨mpS S (nI (R' (adv n T σ)).1) (nI (R' (adv n T σ)).2.1) (mso (R' (adv n T σ))) 1 (nI p) (nI q) (nI (R' (adv n T σ)).2.2.2.2.1) (nI (R' (adv n T σ)).2.2.2.2.2.1) g1, Or.inr ⟨_, rfu_o hf1, _, _, _, _, _, _, _, rfl⟩, fun w1 w2 => ?_⟩
            simp only [r_al0 c_M_part_209, r_ci c_M_part_210, r_cv2 c_M_part_212, r_ifeq c_M_part_215, r_al0 c_M_part_218, r_gfS0 c_M_part_219 o10 rfl, r_ci c_M_part_222, r_icge c_M_part_224, r_al0 c_M_part_227, r_dupi c_M_part_228, r_dupr c_M_part_228, r_gfS0 c_M_part_229 o10 rfl, r_ci c_M_part_232, r_iadd c_M_part_233, r_pfS c_M_part_234 o10 rfl, r_al0 c_M_part_237, r_cv1 c_M_part_238, r_al0 c_M_part_241, r_cw1 c_M_part_242, r_al0 c_M_part_245, r_al0 c_M_part_246, r_ci c_M_part_247, r_cv2 c_M_part_249, r_cv2 c_M_part_252, r_al0 c_M_part_255, r_dupi c_M_part_256, r_dupr c_M_part_256, r_gfS0 c_M_part_257 o10 rfl, r_ci c_M_part_260, r_isub c_M_part_261, r_pfS c_M_part_262 o10 rfl, r_goto c_M_part_265, r_vret c_M_part_273, ↓reduceIte, hs_h, Option.bind_some, mfix_i, mfix_r, mfix_n, mfix_a, Option.toList_some, Option.toList_none, List.cons_append, List.nil_append, List.singleton_append, mwt, Value.category, Nat.reduceAdd, Nat.reduceLeDiff, true_and, and_true, and_self, m10, rs, a, one_nz, if_false, mk17, b', nI_1, mu17, rn, r1, ts, z, M_need_k hE, mp17, nI_pm, um17]
          · have z2 : (R' (adv n T σ)).2.2.1 = 2 := by
              rw [isg] at z
              split at z
              · assumption
              · exact absurd z (by decide)
            have r3 := fun d => M_need_1 (d := d) (br := nI (p + 1)) (nt := nI q) (g := g1) hE hT t1.1.2.1 (mwo_2 z2)
            rw [if_pos z]
            refine ⟨_, Or.inl ⟨by rw [adv_c.2.2.1]; exact hf1, g1, by rw [adv_c.1, adv_c.2.1]; exact hg1, rfl⟩, fun w1 w2 => ?_⟩
            simp only [r_al0 c_M_part_209, r_ci c_M_part_210, r_cv2 c_M_part_212, r_ifeq c_M_part_215, r_al0 c_M_part_218, r_gfS0 c_M_part_219 o10 rfl, r_ci c_M_part_222, r_icge c_M_part_224, r_al0 c_M_part_227, r_dupi c_M_part_228, r_dupr c_M_part_228, r_gfS0 c_M_part_229 o10 rfl, r_ci c_M_part_232, r_iadd c_M_part_233, r_pfS c_M_part_234 o10 rfl, r_al0 c_M_part_237, r_cv1 c_M_part_238, r_al0 c_M_part_241, r_cw1 c_M_part_242, r_al0 c_M_part_245, r_al0 c_M_part_246, r_ci c_M_part_247, r_cv2 c_M_part_249, r_cv2 c_M_part_252, r_al0 c_M_part_255, r_dupi c_M_part_256, r_dupr c_M_part_256, r_gfS0 c_M_part_257 o10 rfl, r_ci c_M_part_260, r_isub c_M_part_261, r_pfS c_M_part_262 o10 rfl, r_goto c_M_part_265, r_vret c_M_part_273, ↓reduceIte, hs_h, Option.bind_some, mfix_i, mfix_r, mfix_n, mfix_a, Option.toList_some, Option.toList_none, List.cons_append, List.nil_append, List.singleton_append, mwt, Value.category, Nat.reduceAdd, Nat.reduceLeDiff, true_and, and_true, and_self, m10, rs, a, one_nz, if_false, mk17, b', nI_1, mu17, rn, r1, ts, z, r3, nI_pm]
        · refine ⟨mpS S (nI r) tt so 1 (br' - 1) nt' cc pa g1, Or.inr ⟨r, ?_, _, _, _, _, _, _, _, rfl⟩, fun w1 w2 => ?_⟩
          · split
            · rw [adv_c.2.2.1]; exact hf1
            · exact rfu_k hf1
          · simp only [r_al0 c_M_part_209, r_ci c_M_part_210, r_cv2 c_M_part_212, r_ifeq c_M_part_215, r_al0 c_M_part_218, r_gfS0 c_M_part_219 o10 rfl, r_ci c_M_part_222, r_icge c_M_part_224, r_al0 c_M_part_227, r_dupi c_M_part_228, r_dupr c_M_part_228, r_gfS0 c_M_part_229 o10 rfl, r_ci c_M_part_232, r_iadd c_M_part_233, r_pfS c_M_part_234 o10 rfl, r_al0 c_M_part_237, r_cv1 c_M_part_238, r_al0 c_M_part_241, r_cw1 c_M_part_242, r_al0 c_M_part_245, r_al0 c_M_part_246, r_ci c_M_part_247, r_cv2 c_M_part_249, r_cv2 c_M_part_252, r_al0 c_M_part_255, r_dupi c_M_part_256, r_dupr c_M_part_256, r_gfS0 c_M_part_257 o10 rfl, r_ci c_M_part_260, r_isub c_M_part_261, r_pfS c_M_part_262 o10 rfl, r_goto c_M_part_265, r_vret c_M_part_273, ↓reduceIte, hs_h, Option.bind_some, mfix_i, mfix_r, mfix_n, mfix_a, Option.toList_some, Option.toList_none, List.cons_append, List.nil_append, List.singleton_append, mwt, Value.category, Nat.reduceAdd, Nat.reduceLeDiff, true_and, and_true, and_self, m10, rs, a, one_nz, if_false, mk17, b', nI_1, mu17, rn, r1, M_isSign_f hE, M_need_f hE, mp17, um17]
      · have b' : (8 : Int32) ≤ nI p := nI_le (a := 8) (by omega) (by omega)
        obtain ⟨W', q1, q2⟩ := G5
        refine ⟨W', ?_, fun w1 w2 => ?_⟩
        · rw [if_neg (fun h => b h.2)]; exact q1
        · simp only [r_al0 c_M_part_209, r_ci c_M_part_210, r_cv2 c_M_part_212, r_ifeq c_M_part_215, r_al0 c_M_part_218, r_gfS0 c_M_part_219 o10 rfl, r_ci c_M_part_222, r_icge c_M_part_224, ↓reduceIte, hs_h, Option.bind_some, mfix_i, mfix_r, mfix_n, mfix_a, Option.toList_some, Option.toList_none, List.cons_append, List.nil_append, List.singleton_append, mwt, Value.category, Nat.reduceAdd, Nat.reduceLeDiff, true_and, and_true, and_self, m10, rs, a, one_nz, if_false, mk17, b', if_true, q2]
  have G3 : ∃ W', mrl S (nI p) (nI q) (if isg n T σ 33 = 1 ∧ q < 8 then emi (R (adv n T σ)) (-33) else if isg n T σ 40 = 1 ∧ p < 8 then if isg n T (R' (adv n T σ)) 41 = 1 then adv n T (R' (adv n T σ)) else rfu (R' (adv n T σ)) else rfu σ) W' ∧ ∀ w1 w2, mres cT 147 (d + 1) 154 [.ref 93, w1, w2] [] (hs E (mkS S (nI p) (nI q) σ g)) = some (none, hs E W') := by
    rcases isg01 (n := n) (T := T) (σ := σ) (c := 33) with a | a
    · obtain ⟨W', q1, q2⟩ := G4
      refine ⟨W', ?_, fun w1 w2 => ?_⟩
      · rw [if_neg (fun h => by rw [a] at h; exact absurd h.1 (by decide))]; exact q1
      · simp only [r_al0 c_M_part_154, r_ci c_M_part_155, r_cv2 c_M_part_157, r_ifeq c_M_part_160, ↓reduceIte, hs_h, Option.bind_some, mfix_i, mfix_r, mfix_n, mfix_a, Option.toList_some, Option.toList_none, List.cons_append, List.nil_append, List.singleton_append, mwt, Value.category, Nat.reduceAdd, Nat.reduceLeDiff, true_and, and_true, and_self, m10, rs, a, if_true, q2]
    · by_cases b : q < 8
      · have b' : ¬ (8 : Int32) ≤ nI q := nI_ge (b := 8) b (by omega)
        have a2 : σ.2.2.1 = 2 := by
          rw [isg] at a
          split at a
          · assumption
          · exact absurd a (by decide)
        have rn := fun d => M_next_mk (d := d) (br := nI p) (nt := nI (q + 1)) (g := g) hE hT p2 (mwo_2 a2)
        have f2 : (adv n T σ).2.2.2.1 = none := by rw [adv_c.2.2.1]; exact hf
        obtain ⟨W1, hm1, r1⟩ := (hR b).2 (adv n T σ) (mkS S (nI p) (nI (q + 1)) (adv n T σ) g) hA.1 (by have := hA.2 (by omega); omega) f2 (Or.inl ⟨f2, g, by rw [adv_c.1, adv_c.2.1]; exact hg, rfl⟩)
        rw [if_pos ⟨a, b⟩]
        rcases hm1 with ⟨hf1, g1, hg1, rfl⟩ | ⟨r, hf1, tt, so, br', nt', cc, pa, g1, rfl⟩
        · obtain ⟨t1, t2, t3, t4⟩ := (hR b).1 _ hA.1 f2 hf1
          have c96 : (R (adv n T σ)).2.2.2.2.1 < 96 := by
            have := hA.2 (by omega)
            have := t1.1.1
            rw [adv_c.1] at t3
            omega
          obtain ⟨W2, hm2, r2⟩ := M_put_mrl (W := mkS S (nI p) (nI q) (R (adv n T σ)) g1) (c := -33) hE (Or.inl ⟨hf1, g1, hg1, rfl⟩) (fun _ => c96)
          have r2 : ∀ d, mres cT 145 d 0 (ment 2 [.ref 93, .int 200009]) [] (hs E (mkS S (nI p) (nI q) (R (adv n T σ)) g1)) = some (none, hs E W2) := r2
          refine ⟨W2, hm2, fun w1 w2 => ?_⟩
          simp only [r_al0 c_M_part_154, r_ci c_M_part_155, r_cv2 c_M_part_157, r_ifeq c_M_part_160, r_al0 c_M_part_163, r_gfS0 c_M_part_164 o10 rfl, r_ci c_M_part_167, r_icge c_M_part_169, r_al0 c_M_part_172, r_dupi c_M_part_173, r_dupr c_M_part_173, r_gfS0 c_M_part_174 o10 rfl, r_ci c_M_part_177, r_iadd c_M_part_178, r_pfS c_M_part_179 o10 rfl, r_al0 c_M_part_182, r_cv1 c_M_part_183, r_al0 c_M_part_186, r_cw1 c_M_part_187, r_al0 c_M_part_190, r_dupi c_M_part_191, r_dupr c_M_part_191, r_gfS0 c_M_part_192 o10 rfl, r_ci c_M_part_195, r_isub c_M_part_196, r_pfS c_M_part_197 o10 rfl, r_al0 c_M_part_200, r_ci c_M_part_201, r_cv2 c_M_part_203, r_goto c_M_part_206, r_vret c_M_part_273, ↓reduceIte, hs_h, Option.bind_some, mfix_i, mfix_r, mfix_n, mfix_a, Option.toList_some, Option.toList_none, List.cons_append, List.nil_append, List.singleton_append, mwt, Value.category, Nat.reduceAdd, Nat.reduceLeDiff, true_and, and_true, and_self, m10, rs, a, one_nz, if_false, mk18, b', nI_1, mu18, rn, r1, nI_pm, r2]
        · refine ⟨mpS S (nI r) tt so 1 br' (nt' - 1) cc pa g1, Or.inr ⟨r, by rw [emi_f.1]; exact hf1, _, _, _, _, _, _, _, rfl⟩, fun w1 w2 => ?_⟩
          simp only [r_al0 c_M_part_154, r_ci c_M_part_155, r_cv2 c_M_part_157, r_ifeq c_M_part_160, r_al0 c_M_part_163, r_gfS0 c_M_part_164 o10 rfl, r_ci c_M_part_167, r_icge c_M_part_169, r_al0 c_M_part_172, r_dupi c_M_part_173, r_dupr c_M_part_173, r_gfS0 c_M_part_174 o10 rfl, r_ci c_M_part_177, r_iadd c_M_part_178, r_pfS c_M_part_179 o10 rfl, r_al0 c_M_part_182, r_cv1 c_M_part_183, r_al0 c_M_part_186, r_cw1 c_M_part_187, r_al0 c_M_part_190, r_dupi c_M_part_191, r_dupr c_M_part_191, r_gfS0 c_M_part_192 o10 rfl, r_ci c_M_part_195, r_isub c_M_part_196, r_pfS c_M_part_197 o10 rfl, r_al0 c_M_part_200, r_ci c_M_part_201, r_cv2 c_M_part_203, r_goto c_M_part_206, r_vret c_M_part_273, ↓reduceIte, hs_h, Option.bind_some, mfix_i, mfix_r, mfix_n, mfix_a, Option.toList_some, Option.toList_none, List.cons_append, List.nil_append, List.singleton_append, mwt, Value.category, Nat.reduceAdd, Nat.reduceLeDiff, true_and, and_true, and_self, m10, rs, a, one_nz, if_false, mk18, b', nI_1, mu18, rn, r1, M_put_f hE, mp18, um18]
      · have b' : (8 : Int32) ≤ nI q := nI_le (a := 8) (by omega) (by omega)
        obtain ⟨W', q1, q2⟩ := G4
        refine ⟨W', ?_, fun w1 w2 => ?_⟩
        · rw [if_neg (fun h => b h.2)]; exact q1
        · simp only [r_al0 c_M_part_154, r_ci c_M_part_155, r_cv2 c_M_part_157, r_ifeq c_M_part_160, r_al0 c_M_part_163, r_gfS0 c_M_part_164 o10 rfl, r_ci c_M_part_167, r_icge c_M_part_169, ↓reduceIte, hs_h, Option.bind_some, mfix_i, mfix_r, mfix_n, mfix_a, Option.toList_some, Option.toList_none, List.cons_append, List.nil_append, List.singleton_append, mwt, Value.category, Nat.reduceAdd, Nat.reduceLeDiff, true_and, and_true, and_self, m10, rs, a, one_nz, if_false, mk18, b', if_true, q2]
  have G2 : ∃ W', mrl S (nI p) (nI q) (if σ.2.2.1 = 3 ∧ nmH n T kn σ ≠ -1000000005 then lef n T σ (-1 - nmH n T kn σ) else if isg n T σ 33 = 1 ∧ q < 8 then emi (R (adv n T σ)) (-33) else if isg n T σ 40 = 1 ∧ p < 8 then if isg n T (R' (adv n T σ)) 41 = 1 then adv n T (R' (adv n T σ)) else rfu (R' (adv n T σ)) else rfu σ) W' ∧ ∀ w1 w2, mres cT 147 (d + 1) 74 [.ref 93, w1, w2] [] (hs E (mkS S (nI p) (nI q) σ g)) = some (none, hs E W') := by
    obtain ⟨W', q1, q2⟩ := G3
    by_cases a : σ.2.2.1 = 3
    · have m1 : mso σ = 1 := by rw [mso_1]; exact a
      by_cases b : σ.2.1 = σ.1 + 1
      · have b' : nI (σ.2.1 - σ.1) = 1 := by rw [show σ.2.1 - σ.1 = 1 by omega]; rfl
        obtain ⟨t4, t5⟩ := hT.2.2 σ.1 (by omega)
        have ix : nmI n T kn σ = ixS (5 + kn) (nI (T σ.1)) := by rw [nmI, if_pos b, btN, if_pos (by omega), chI_T t5]
        have cl : (nI (1000021 + kn)).toNatClampNeg = 1000021 + kn := nI_clamp (by omega)
        have ms : ∀ S, misc (hp E S (1000021 + kn)) 100 = true := fun S => by
          rw [show 1000021 + kn = 1000000 + (21 + kn) by omega]; exact s_misc hE (by omega)
        have rx : ∀ S d c, mres cT 126 d 0 (ment 2 [.ref (1000021 + kn), .int c]) [] (hs E S) = some (some (.int (ixS (5 + kn) c)), hs E S) := fun S d c => by
          rw [show 1000021 + kn = 1000000 + (21 + kn) by omega, ← ix_eq kn hk]; exact JS_indexOf1_ok hE (by omega)
        by_cases z : ixS (5 + kn) (nI (T σ.1)) < 0
        · have nh : nmH n T kn σ = -1000000005 := by rw [nmH, ix, if_neg (Int32.not_le.mpr z)]
          refine ⟨W', ?_, fun w1 w2 => ?_⟩
          · rw [if_neg (fun h => h.2 nh)]; exact q1
          · simp only [r_al0 c_M_part_74, r_gfS0 c_M_part_75 o10 rfl, r_ci c_M_part_78, r_icne c_M_part_79, r_al0 c_M_part_82, r_gfS0 c_M_part_83 o10 rfl, r_al0 c_M_part_86, r_gfS0 c_M_part_87 o10 rfl, r_isub c_M_part_90, r_ci c_M_part_91, r_icne c_M_part_92, r_al0 c_M_part_95, r_gfS1 c_M_part_96 o10 rfl, r_al0 c_M_part_99, r_gfSr c_M_part_100 o10 rfl, r_al0 c_M_part_103, r_gfS0 c_M_part_104 o10 rfl, r_ial c_M_part_107, r_cv2 c_M_part_108, r_iflt c_M_part_111, ↓reduceIte, hs_h, Option.bind_some, mfix_i, mfix_r, mfix_n, mfix_a, Option.toList_some, Option.toList_none, List.cons_append, List.nil_append, List.singleton_append, mwt, Value.category, Nat.reduceAdd, Nat.reduceLeDiff, true_and, and_true, and_self, mk15, m1, if_true, mk14, mk13, es, b', mk19, hN, cl, mk97, mia_I (i_97 hE) (show σ.1 < 96 by omega) (by decide), t4, ms, rx, z, q2]
        · have nh : nmH n T kn σ = ixS (5 + kn) (nI (T σ.1)) := by rw [nmH, ix, if_pos (Int32.not_lt.mp z)]
          have nn : nmH n T kn σ ≠ -1000000005 := fun h => by rw [← nh, h] at z; exact z (by decide)
          obtain ⟨r, hr, er⟩ := nm_v hk nn
          obtain ⟨k1, k2, k3, k4⟩ := lf (-1 - nI r) (100000 + nI r) (by omega) (mwo_3 a) (mcd_m r hr).symm
          have ei : ixS (5 + kn) (nI (T σ.1)) = nI r := by rw [← nh]; exact er
          rw [if_pos ⟨a, nn⟩, er]
          refine ⟨_, k1, fun w1 w2 => ?_⟩
          rw [ei] at z
          have u22 := mu22 (S := S) (br := nI p) (nt := nI q) (σ := emi σ (-1 - nI r)) (g := upd g σ.2.2.2.2.1 (100000 + nI r))
          rw [k3] at u22
          simp only [r_al0 c_M_part_74, r_gfS0 c_M_part_75 o10 rfl, r_ci c_M_part_78, r_icne c_M_part_79, r_al0 c_M_part_82, r_gfS0 c_M_part_83 o10 rfl, r_al0 c_M_part_86, r_gfS0 c_M_part_87 o10 rfl, r_isub c_M_part_90, r_ci c_M_part_91, r_icne c_M_part_92, r_al0 c_M_part_95, r_gfS1 c_M_part_96 o10 rfl, r_al0 c_M_part_99, r_gfSr c_M_part_100 o10 rfl, r_al0 c_M_part_103, r_gfS0 c_M_part_104 o10 rfl, r_ial c_M_part_107, r_cv2 c_M_part_108, r_iflt c_M_part_111, r_al0 c_M_part_114, r_ci c_M_part_115, r_al0 c_M_part_117, r_gfS1 c_M_part_118 o10 rfl, r_al0 c_M_part_121, r_gfSr c_M_part_122 o10 rfl, r_al0 c_M_part_125, r_gfS0 c_M_part_126 o10 rfl, r_ial c_M_part_129, r_cv2 c_M_part_130, r_iadd c_M_part_133, r_cv2 c_M_part_134, r_al0 c_M_part_137, r_dupi c_M_part_138, r_dupr c_M_part_138, r_gfS0 c_M_part_139 o10 rfl, r_ci c_M_part_142, r_iadd c_M_part_143, r_pfS c_M_part_144 o10 rfl, r_al0 c_M_part_147, r_cv1 c_M_part_148, r_goto c_M_part_151, r_vret c_M_part_273, ↓reduceIte, hs_h, Option.bind_some, mfix_i, mfix_r, mfix_n, mfix_a, Option.toList_some, Option.toList_none, List.cons_append, List.nil_append, List.singleton_append, mwt, Value.category, Nat.reduceAdd, Nat.reduceLeDiff, true_and, and_true, and_self, mk15, m1, if_true, mk14, mk13, es, b', mk19, hN, cl, mk97, mia_I (i_97 hE) (show σ.1 < 96 by omega) (by decide), t4, ms, rx, ei, z, if_false, m10, k2, mk22, k3, nI_1, u22, k4]
      · have b' : ¬ nI (σ.2.1 - σ.1) = 1 := fun e => b (by have := (nI_eq (b := 1) (by omega) (by omega)).mp e; omega)
        have nh : nmH n T kn σ = -1000000005 := by rw [nmH, nmI, if_neg b, if_neg (by decide)]
        refine ⟨W', ?_, fun w1 w2 => ?_⟩
        · rw [if_neg (fun h => h.2 nh)]; exact q1
        · simp only [r_al0 c_M_part_74, r_gfS0 c_M_part_75 o10 rfl, r_ci c_M_part_78, r_icne c_M_part_79, r_al0 c_M_part_82, r_gfS0 c_M_part_83 o10 rfl, r_al0 c_M_part_86, r_gfS0 c_M_part_87 o10 rfl, r_isub c_M_part_90, r_ci c_M_part_91, r_icne c_M_part_92, ↓reduceIte, hs_h, Option.bind_some, mfix_i, mfix_r, mfix_n, mfix_a, Option.toList_some, Option.toList_none, List.cons_append, List.nil_append, List.singleton_append, mwt, Value.category, Nat.reduceAdd, Nat.reduceLeDiff, true_and, and_true, and_self, mk15, m1, if_true, mk14, mk13, es, b', if_false, q2]
    · have m1 : ¬ mso σ = 1 := by rw [mso_1]; exact a
      refine ⟨W', ?_, fun w1 w2 => ?_⟩
      · rw [if_neg (fun h => a h.1)]; exact q1
      · simp only [r_al0 c_M_part_74, r_gfS0 c_M_part_75 o10 rfl, r_ci c_M_part_78, r_icne c_M_part_79, ↓reduceIte, hs_h, Option.bind_some, mfix_i, mfix_r, mfix_n, mfix_a, Option.toList_some, Option.toList_none, List.cons_append, List.nil_append, List.singleton_append, mk15, m1, if_false, q2]
  simp only [ment, mfl, List.length, List.replicate, List.cons_append, List.nil_append, Nat.reduceAdd, Nat.reduceSub]
  rw [prt]
  by_cases a : σ.2.2.1 = 4 ∧ σ.2.1 - σ.1 ≤ 4
  · have m2 : mso σ = 2 := by rw [mso_2]; exact a
    have lp : ∀ m k v, k + m = σ.2.1 → mres cT 147 (d + 1) 23 [.ref 93, .int v, .int (nI k)] [] (hs E (mkS S (nI p) (nI q) σ g)) = mres cT 147 (d + 1) 52 [.ref 93, .int (nuF n T m k v), .int (nI σ.2.1)] [] (hs E (mkS S (nI p) (nI q) σ g)) := by
      intro m
      induction m with
      | zero =>
        intro k v hk2
        have e : k = σ.2.1 := by omega
        subst e
        have z : nI σ.2.1 ≤ nI σ.2.1 := nI_le (Nat.le_refl _) (by omega)
        simp only [r_il2 c_M_part_23, r_al0 c_M_part_24, r_gfS0 c_M_part_25 o10 rfl, r_icge c_M_part_28, ↓reduceIte, hs_h, Option.bind_some, mfix_i, mfix_r, mfix_n, mfix_a, Option.toList_some, Option.toList_none, List.cons_append, List.nil_append, List.singleton_append, mk14, z, if_true, nuF]
      | succ m ih =>
        intro k v hk2
        have z : ¬ nI σ.2.1 ≤ nI k := nI_ge (by omega) (by omega)
        obtain ⟨t4, t5⟩ := hT.2.2 k (by omega)
        have ih := fun v => ih (k + 1) v (by omega)
        have e : 10 * v + nI (T k) - 48 = v * 10 + btN n T k - 48 := by rw [btN, if_pos (by omega), Int32.mul_comm]
        simp only [r_il2 c_M_part_23, r_al0 c_M_part_24, r_gfS0 c_M_part_25 o10 rfl, r_icge c_M_part_28, ↓reduceIte, hs_h, Option.bind_some, mfix_i, mfix_r, mfix_n, mfix_a, Option.toList_some, Option.toList_none, List.cons_append, List.nil_append, List.singleton_append, mk14, z, if_false]
        simp only [r_ci c_M_part_31, r_il1 c_M_part_33, r_imul c_M_part_34, r_al0 c_M_part_35, r_gfSr c_M_part_36 o10 rfl, r_il2 c_M_part_39, r_ial c_M_part_40, r_iadd c_M_part_41, r_ci c_M_part_42, r_isub c_M_part_44, r_is1 c_M_part_45, r_inc2 c_M_part_46, r_goto c_M_part_49, ↓reduceIte, hs_h, Option.bind_some, mfix_i, mfix_r, mfix_n, mfix_a, Option.toList_some, Option.toList_none, List.cons_append, List.nil_append, List.singleton_append, mk97, mia_I (i_97 hE) (show k < 96 by omega) (by decide), t4, e, nI_1, ih, nuF]
    have lq := lp (σ.2.1 - σ.1) σ.1 0 (by omega)
    obtain ⟨r, hr, er⟩ := nu_v hσ a.1 a.2
    rw [er] at lq
    obtain ⟨k1, k2, k3, k4⟩ := lf (nI r) (nI r) (by omega) (mwo_4 a.1 a.2) (mcd_n hr).symm
    rw [if_pos a, er]
    refine ⟨_, k1, ?_⟩
    have u22 := mu22 (S := S) (br := nI p) (nt := nI q) (σ := emi σ (nI r)) (g := upd g σ.2.2.2.2.1 (nI r))
    rw [k3] at u22
    simp only [r_al0 c_M_part_0, r_gfS0 c_M_part_1 o10 rfl, r_ifeq c_M_part_4, r_vret c_M_part_7, r_al0 c_M_part_8, r_gfS0 c_M_part_9 o10 rfl, r_ci c_M_part_12, r_icne c_M_part_13, r_ci c_M_part_16, r_is1 c_M_part_17, r_al0 c_M_part_18, r_gfS0 c_M_part_19 o10 rfl, r_is2 c_M_part_22, ↓reduceIte, hs_h, Option.bind_some, mfix_i, mfix_r, mfix_n, mfix_a, Option.toList_some, Option.toList_none, List.cons_append, List.nil_append, List.singleton_append, mk16, if_true, mk15, m2, mk13, lq]
    simp only [r_al0 c_M_part_52, r_il1 c_M_part_53, r_cv2 c_M_part_54, r_al0 c_M_part_57, r_dupi c_M_part_58, r_dupr c_M_part_58, r_gfS0 c_M_part_59 o10 rfl, r_ci c_M_part_62, r_iadd c_M_part_63, r_pfS c_M_part_64 o10 rfl, r_al0 c_M_part_67, r_cv1 c_M_part_68, r_goto c_M_part_71, r_vret c_M_part_273, ↓reduceIte, hs_h, Option.bind_some, mfix_i, mfix_r, mfix_n, mfix_a, Option.toList_some, Option.toList_none, List.cons_append, List.nil_append, List.singleton_append, mwt, Value.category, Nat.reduceAdd, Nat.reduceLeDiff, true_and, and_true, and_self, m10, k2, mk22, k3, nI_1, u22, k4]
  · have m2 : ¬ mso σ = 2 := by rw [mso_2]; exact a
    obtain ⟨W', q1, q2⟩ := G2
    rw [if_neg a]
    refine ⟨W', q1, ?_⟩
    simp only [r_al0 c_M_part_0, r_gfS0 c_M_part_1 o10 rfl, r_ifeq c_M_part_4, r_vret c_M_part_7, r_al0 c_M_part_8, r_gfS0 c_M_part_9 o10 rfl, r_ci c_M_part_12, r_icne c_M_part_13, ↓reduceIte, hs_h, Option.bind_some, mfix_i, mfix_r, mfix_n, mfix_a, Option.toList_some, Option.toList_none, List.cons_append, List.nil_append, List.singleton_append, mk16, if_true, mk15, m2, if_false, q2]
end MPART
