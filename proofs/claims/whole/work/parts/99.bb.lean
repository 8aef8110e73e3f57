/-! call: like -/
section LIKEQ
variable {E : EE} {R S S1 : SS} {b d k n m i j p a s r q o B td : Nat} {c v w x y l : Int32} {z t hc pk : Nat → Nat} {A A8 f : Nat → Int32}
theorem bt_xor {x y : Int32} : btI (x ^^^ y) i = (btI x i ^^ btI y i) := by simp [btI]
theorem nI_xor (hk : k < 256) (hj : j < 256) : nI k ^^^ nI j = nI (k ^^^ j) := by
  have h : k ^^^ j < 256 := Nat.xor_lt_two_pow (n := 8) hk hj
  refine bt_ext fun i _ => ?_
  rw [bt_xor, bt_nI (by omega), bt_nI (by omega), bt_nI (by omega), Nat.testBit_xor]
theorem lk_b (h : k20 A n f) (hk : k < n) (hj : j < n) : (2 ≤ rfor (biM (f (20 + 6 * j + 2) ^^^ f (20 + 6 * k + 2))) 0 16 0) ↔ 1 < bcS (A (k * 6 + 2) ^^^ A (j * 6 + 2)) := by
  obtain ⟨a1, m1, a2, a3⟩ := h k hk
  obtain ⟨b1, m2, b2, b3⟩ := h j hj
  rw [a1 2 (by omega), b1 2 (by omega), a3, b3, Int32.xor_comm, nI_xor a2 b2]
  obtain ⟨e1, r, e2, e3⟩ := bits8 (m1 ^^^ m2) (Nat.xor_lt_two_pow (n := 8) a2 b2)
  rw [e1, e3]
  have h1 : (2 ≤ nI r) ↔ 2 ≤ r := nI_leI (a := 2) (by omega) (by omega)
  have h2 : (1 < nI r) ↔ 1 < r := nI_ltI (a := 1) (by omega) (by omega)
  rw [h1, h2]; omega
def lkG (A A8 : Nat → Int32) (hc : Nat → Nat) (k : Nat) (i : Nat) (s : Int32 × Int32) : Int32 × Int32 := if alS A k (hc i) = 0 then s else if A8 (i * 5 + 2) = 1 then (s.1 + 1, s.2) else if A8 (i * 5 + 2) = 2 then (s.1 + 1, s.2 + 1) else s
theorem lk_s : ∀ m i x y, rfor (lkG A A8 hc k) i m (x + y, x) = (rfor (hlG A A8 hc k 2) i m x + rfor (hlG A A8 hc k 1) i m y, rfor (hlG A A8 hc k 2) i m x)
  | 0, _, _, _ => rfl
  | m + 1, i, x, y => by
    rw [rfor, rfor, rfor, lkG, hlG, hlG]
    by_cases e0 : alS A k (hc i) = 0
    · rw [if_pos e0, if_pos e0, if_pos e0, ite_self, ite_self]
      exact lk_s m (i + 1) x y
    · rw [if_neg e0, if_neg e0, if_neg e0]
      by_cases e1 : A8 (i * 5 + 2) = 1
      · have e2 : ¬ A8 (i * 5 + 2) = 2 := by rw [e1]; decide
        rw [if_pos e1, if_neg e2, if_pos e1]
        rw [← lk_s m (i + 1) x (y + 1), Int32.add_assoc]
      · by_cases e2 : A8 (i * 5 + 2) = 2
        · rw [if_neg e1, if_pos e2, if_pos e2, if_neg e1]
          rw [← lk_s m (i + 1) (x + 1) y, show x + 1 + y = x + y + 1 by rw [Int32.add_assoc, Int32.add_assoc, Int32.add_comm 1 y]]
        · rw [if_neg e1, if_neg e2, if_neg e2, if_neg e1]
          exact lk_s m (i + 1) x y
theorem M_like_lp (hE : okE E) (hR : Rel E R b z t hc pk td B (iA S 94)) (hk : k < z 1) : ∀ m i x y l1 l2 l3, i + m = z 7 → ∃ l1' l2' l3', mres cT 232 d 32 [.ref 93, .int (nI k), .int v, .int x, .int y, .int (nI i), l1, l2, l3] [] (hs E S) = mres cT 232 d 172 [.ref 93, .int (nI k), .int v, .int (rfor (lkG (iA R (b + 2)) (iA R (b + 8)) hc k) i m (x, y)).1, .int (rfor (lkG (iA R (b + 2)) (iA R (b + 8)) hc k) i m (x, y)).2, .int (nI (z 7)), l1', l2', l3'] [] (hs E S) := by
  have o10 := o_M hE
  have m10 := m_M hE
  obtain ⟨n1, n14, n16, n18, n20, n22, n3, n5, n7⟩ := rl_okm hR
  have hH := (rl_okh hR).2.1
  have k12 : k < 12 := by have := n1.2; omega
  intro m
  induction m with
  | zero =>
    intro i x y l1 l2 l3 hi
    have h1 : nI (z 7) ≤ nI i := nI_le (by omega) (by omega)
    refine ⟨l1, l2, l3, ?_⟩
    simp only [r_il5 c_M_like_32, r_al0 c_M_like_34, r_gfSr c_M_like_35 o10 rfl, r_ci c_M_like_38, r_ial c_M_like_40, r_icge c_M_like_41, ↓reduceIte, hs_h, Option.bind_some, mfix_i, mfix_r, mfix_n, mfix_a, Option.toList_some, Option.toList_none, List.cons_append, List.nil_append, List.singleton_append, mn10 hE, n7.1, h1, if_true, rfor]
    rw [show i = z 7 by omega]
  | succ m ih =>
    intro i x y l1 l2 l3 hi
    have hi7 : i < z 7 := by omega
    have h1 : ¬ nI (z 7) ≤ nI i := nI_ge hi7 (by omega)
    have hz7 := n7.2
    have a0 : iA S 94 (670 + 6 * i) = nI (hc i) := (rl_hea hR i hi7 0 (by omega)).trans (hH i hi7).1
    have a2 : iA S 94 (670 + 6 * i + 2) = iA R (b + 8) (i * 5 + 2) := rl_hea hR i hi7 2 (by omega)
    have hcz : hc i < z 1 := (rl_unq hR).1 i hi7
    have hc12 : hc i < 12 := (hH i hi7).2
    have lik : ∀ st l3, mres cT 232 d 70 [.ref 93, .int (nI k), .int v, .int x, .int y, .int (nI i), .int (nI (hc i)), .int st, l3] [] (hs E S) = mres cT 232 d 118 [.ref 93, .int (nI k), .int v, .int x, .int y, .int (nI i), .int (nI (hc i)), .int st, l3] [.int (alS (iA R (b + 2)) k (hc i))] (hs E S) := fun st l3 => by
      have c0 : iA S 94 (20 + 6 * k + 0) = iA R (b + 2) (k * 6) := (rl_cas hR k hk).1 0 (by omega)
      have c1 : iA S 94 (20 + 6 * hc i + 0) = iA R (b + 2) (hc i * 6) := (rl_cas hR _ hcz).1 0 (by omega)
      have lb := lk_b (rl_cas hR) hk hcz
      rw [alS]
      by_cases e1 : nI (hc i) = nI k
      · rw [if_pos e1.symm]
        simp only [r_il6 c_M_like_70, r_il1 c_M_like_72, r_iceq c_M_like_73, r_al0 c_M_like_76, r_il6 c_M_like_77, r_ci c_M_like_79, r_cv3 c_M_like_80, r_al0 c_M_like_83, r_il1 c_M_like_84, r_ci c_M_like_85, r_cv3 c_M_like_86, r_icne c_M_like_89, r_al0 c_M_like_92, r_il6 c_M_like_93, r_ci c_M_like_95, r_cv3 c_M_like_96, r_al0 c_M_like_99, r_il1 c_M_like_100, r_ci c_M_like_101, r_cv3 c_M_like_102, r_ixor c_M_like_105, r_ca1 c_M_like_106, r_ci c_M_like_109, r_icge c_M_like_110, r_ci c_M_like_113, r_goto c_M_like_114, r_ci c_M_like_117, ↓reduceIte, hs_h, Option.bind_some, mfix_i, mfix_r, mfix_n, mfix_a, Option.toList_some, Option.toList_none, List.cons_append, List.nil_append, List.singleton_append, e1, if_true]
      · rw [if_neg (fun h => e1 h.symm)]
        by_cases e2 : iA R (b + 2) (k * 6) = iA R (b + 2) (hc i * 6)
        · rw [if_pos e2]
          by_cases e3 : 1 < bcS (iA R (b + 2) (k * 6 + 2) ^^^ iA R (b + 2) (hc i * 6 + 2))
          · rw [if_pos e3]
            simp only [r_il6 c_M_like_70, r_il1 c_M_like_72, r_iceq c_M_like_73, r_al0 c_M_like_76, r_il6 c_M_like_77, r_ci c_M_like_79, r_cv3 c_M_like_80, r_al0 c_M_like_83, r_il1 c_M_like_84, r_ci c_M_like_85, r_cv3 c_M_like_86, r_icne c_M_like_89, r_al0 c_M_like_92, r_il6 c_M_like_93, r_ci c_M_like_95, r_cv3 c_M_like_96, r_al0 c_M_like_99, r_il1 c_M_like_100, r_ci c_M_like_101, r_cv3 c_M_like_102, r_ixor c_M_like_105, r_ca1 c_M_like_106, r_ci c_M_like_109, r_icge c_M_like_110, r_ci c_M_like_113, r_goto c_M_like_114, r_ci c_M_like_117, ↓reduceIte, hs_h, Option.bind_some, mfix_i, mfix_r, mfix_n, mfix_a, Option.toList_some, Option.toList_none, List.cons_append, List.nil_append, List.singleton_append, mwt, Value.category, Nat.reduceAdd, Nat.reduceLeDiff, true_and, and_true, and_self, m10, e1, if_false, oc0 hE k12, oc0 hE hc12, oc2 hE k12, oc2 hE hc12, c0, c1, e2, if_true, M_bits_ok, lb.mpr e3]
          · rw [if_neg e3]
            have e3 : ¬ 2 ≤ rfor (biM (iA S 94 (20 + 6 * hc i + 2) ^^^ iA S 94 (20 + 6 * k + 2))) 0 16 0 := fun h => e3 (lb.mp h)
            simp only [r_il6 c_M_like_70, r_il1 c_M_like_72, r_iceq c_M_like_73, r_al0 c_M_like_76, r_il6 c_M_like_77, r_ci c_M_like_79, r_cv3 c_M_like_80, r_al0 c_M_like_83, r_il1 c_M_like_84, r_ci c_M_like_85, r_cv3 c_M_like_86, r_icne c_M_like_89, r_al0 c_M_like_92, r_il6 c_M_like_93, r_ci c_M_like_95, r_cv3 c_M_like_96, r_al0 c_M_like_99, r_il1 c_M_like_100, r_ci c_M_like_101, r_cv3 c_M_like_102, r_ixor c_M_like_105, r_ca1 c_M_like_106, r_ci c_M_like_109, r_icge c_M_like_110, r_ci c_M_like_113, r_goto c_M_like_114, r_ci c_M_like_117, ↓reduceIte, hs_h, Option.bind_some, mfix_i, mfix_r, mfix_n, mfix_a, Option.toList_some, Option.toList_none, List.cons_append, List.nil_append, List.singleton_append, mwt, Value.category, Nat.reduceAdd, Nat.reduceLeDiff, true_and, and_true, and_self, m10, e1, if_false, oc0 hE k12, oc0 hE hc12, oc2 hE k12, oc2 hE hc12, c0, c1, e2, if_true, M_bits_ok, e3]
        · rw [if_neg e2, ite_self]
          have e2 : ¬ iA R (b + 2) (hc i * 6) = iA R (b + 2) (k * 6) := fun h => e2 h.symm
          simp only [r_il6 c_M_like_70, r_il1 c_M_like_72, r_iceq c_M_like_73, r_al0 c_M_like_76, r_il6 c_M_like_77, r_ci c_M_like_79, r_cv3 c_M_like_80, r_al0 c_M_like_83, r_il1 c_M_like_84, r_ci c_M_like_85, r_cv3 c_M_like_86, r_icne c_M_like_89, r_al0 c_M_like_92, r_il6 c_M_like_93, r_ci c_M_like_95, r_cv3 c_M_like_96, r_al0 c_M_like_99, r_il1 c_M_like_100, r_ci c_M_like_101, r_cv3 c_M_like_102, r_ixor c_M_like_105, r_ca1 c_M_like_106, r_ci c_M_like_109, r_icge c_M_like_110, r_ci c_M_like_113, r_goto c_M_like_114, r_ci c_M_like_117, ↓reduceIte, hs_h, Option.bind_some, mfix_i, mfix_r, mfix_n, mfix_a, Option.toList_some, Option.toList_none, List.cons_append, List.nil_append, List.singleton_append, mwt, Value.category, Nat.reduceAdd, Nat.reduceLeDiff, true_and, and_true, and_self, m10, e1, if_false, oc0 hE k12, oc0 hE hc12, c0, c1, e2]
    simp only [r_il5 c_M_like_32, r_al0 c_M_like_34, r_gfSr c_M_like_35 o10 rfl, r_ci c_M_like_38, r_ial c_M_like_40, r_icge c_M_like_41, ↓reduceIte, hs_h, Option.bind_some, mfix_i, mfix_r, mfix_n, mfix_a, Option.toList_some, Option.toList_none, List.cons_append, List.nil_append, List.singleton_append, mn10 hE, n7.1, h1, if_false]
    simp only [r_al0 c_M_like_44, r_gfSr c_M_like_45 o10 rfl, r_il5 c_M_like_48, r_ci c_M_like_50, r_ca2 c_M_like_51, r_ial c_M_like_54, r_is6 c_M_like_55, r_al0 c_M_like_57, r_gfSr c_M_like_58 o10 rfl, r_il5 c_M_like_61, r_ci c_M_like_63, r_ca2 c_M_like_64, r_ial c_M_like_67, r_is7 c_M_like_68, ↓reduceIte, hs_h, Option.bind_some, mfix_i, mfix_r, mfix_n, mfix_a, Option.toList_some, Option.toList_none, List.cons_append, List.nil_append, List.singleton_append, mwt, Value.category, Nat.reduceAdd, Nat.reduceLeDiff, true_and, and_true, and_self, m10, oh0, oh2, mia_94 hE (show 670 + 6 * i < 2578 by omega), mia_94 hE (show 670 + 6 * i + 2 < 2578 by omega), a0, a2, lik]
    rw [rfor, lkG]
    by_cases e0 : alS (iA R (b + 2)) k (hc i) = 0
    · rw [if_pos e0]
      obtain ⟨l1', l2', l3', ih⟩ := ih (i + 1) x y (.int (nI (hc i))) (.int (iA R (b + 8) (i * 5 + 2))) (.int 0) (by omega)
      refine ⟨l1', l2', l3', ?_⟩
      simp only [r_is8 c_M_like_118, r_il3 c_M_like_120, r_il8 c_M_like_121, r_ifeq c_M_like_123, r_il7 c_M_like_126, r_ci c_M_like_128, r_iceq c_M_like_129, r_il7 c_M_like_132, r_ci c_M_like_134, r_icne c_M_like_135, r_ci c_M_like_138, r_goto c_M_like_139, r_ci c_M_like_142, r_iadd c_M_like_143, r_is3 c_M_like_144, r_il4 c_M_like_145, r_il8 c_M_like_147, r_ifeq c_M_like_149, r_il7 c_M_like_152, r_ci c_M_like_154, r_icne c_M_like_155, r_ci c_M_like_158, r_goto c_M_like_159, r_ci c_M_like_162, r_iadd c_M_like_163, r_is4 c_M_like_164, r_inc5 c_M_like_166, r_goto c_M_like_169, ↓reduceIte, hs_h, Option.bind_some, mfix_i, mfix_r, mfix_n, mfix_a, Option.toList_some, Option.toList_none, List.cons_append, List.nil_append, List.singleton_append, e0, if_true, Int32.add_zero, nI_1, ih]
    · rw [if_neg e0]
      by_cases e1 : iA R (b + 8) (i * 5 + 2) = 1
      · rw [if_pos e1]
        obtain ⟨l1', l2', l3', ih⟩ := ih (i + 1) (x + 1) y (.int (nI (hc i))) (.int 1) (.int (alS (iA R (b + 2)) k (hc i))) (by omega)
        refine ⟨l1', l2', l3', ?_⟩
        simp only [r_is8 c_M_like_118, r_il3 c_M_like_120, r_il8 c_M_like_121, r_ifeq c_M_like_123, r_il7 c_M_like_126, r_ci c_M_like_128, r_iceq c_M_like_129, r_il7 c_M_like_132, r_ci c_M_like_134, r_icne c_M_like_135, r_ci c_M_like_138, r_goto c_M_like_139, r_ci c_M_like_142, r_iadd c_M_like_143, r_is3 c_M_like_144, r_il4 c_M_like_145, r_il8 c_M_like_147, r_ifeq c_M_like_149, r_il7 c_M_like_152, r_ci c_M_like_154, r_icne c_M_like_155, r_ci c_M_like_158, r_goto c_M_like_159, r_ci c_M_like_162, r_iadd c_M_like_163, r_is4 c_M_like_164, r_inc5 c_M_like_166, r_goto c_M_like_169, ↓reduceIte, hs_h, Option.bind_some, mfix_i, mfix_r, mfix_n, mfix_a, Option.toList_some, Option.toList_none, List.cons_append, List.nil_append, List.singleton_append, e0, e1, if_true, if_false, show ((1 : Int32) = 2) = False from eq_false (by decide), Int32.add_zero, nI_1, ih]
      · rw [if_neg e1]
        by_cases e2 : iA R (b + 8) (i * 5 + 2) = 2
        · rw [if_pos e2]
          obtain ⟨l1', l2', l3', ih⟩ := ih (i + 1) (x + 1) (y + 1) (.int (nI (hc i))) (.int 2) (.int (alS (iA R (b + 2)) k (hc i))) (by omega)
          refine ⟨l1', l2', l3', ?_⟩
          simp only [r_is8 c_M_like_118, r_il3 c_M_like_120, r_il8 c_M_like_121, r_ifeq c_M_like_123, r_il7 c_M_like_126, r_ci c_M_like_128, r_iceq c_M_like_129, r_il7 c_M_like_132, r_ci c_M_like_134, r_icne c_M_like_135, r_ci c_M_like_138, r_goto c_M_like_139, r_ci c_M_like_142, r_iadd c_M_like_143, r_is3 c_M_like_144, r_il4 c_M_like_145, r_il8 c_M_like_147, r_ifeq c_M_like_149, r_il7 c_M_like_152, r_ci c_M_like_154, r_icne c_M_like_155, r_ci c_M_like_158, r_goto c_M_like_159, r_ci c_M_like_162, r_iadd c_M_like_163, r_is4 c_M_like_164, r_inc5 c_M_like_166, r_goto c_M_like_169, ↓reduceIte, hs_h, Option.bind_some, mfix_i, mfix_r, mfix_n, mfix_a, Option.toList_some, Option.toList_none, List.cons_append, List.nil_append, List.singleton_append, e0, e2, if_true, if_false, show ((2 : Int32) = 1) = False from eq_false (by decide), Int32.add_zero, nI_1, ih]
        · rw [if_neg e2]
          obtain ⟨l1', l2', l3', ih⟩ := ih (i + 1) x y (.int (nI (hc i))) (.int (iA R (b + 8) (i * 5 + 2))) (.int (alS (iA R (b + 2)) k (hc i))) (by omega)
          refine ⟨l1', l2', l3', ?_⟩
          simp only [r_is8 c_M_like_118, r_il3 c_M_like_120, r_il8 c_M_like_121, r_ifeq c_M_like_123, r_il7 c_M_like_126, r_ci c_M_like_128, r_iceq c_M_like_129, r_il7 c_M_like_132, r_ci c_M_like_134, r_icne c_M_like_135, r_ci c_M_like_138, r_goto c_M_like_139, r_ci c_M_like_142, r_iadd c_M_like_143, r_is3 c_M_like_144, r_il4 c_M_like_145, r_il8 c_M_like_147, r_ifeq c_M_like_149, r_il7 c_M_like_152, r_ci c_M_like_154, r_icne c_M_like_155, r_ci c_M_like_158, r_goto c_M_like_159, r_ci c_M_like_162, r_iadd c_M_like_163, r_is4 c_M_like_164, r_inc5 c_M_like_166, r_goto c_M_like_169, ↓reduceIte, hs_h, Option.bind_some, mfix_i, mfix_r, mfix_n, mfix_a, Option.toList_some, Option.toList_none, List.cons_append, List.nil_append, List.singleton_append, e0, e1, e2, if_true, if_false, Int32.add_zero, nI_1, ih]
theorem q_like (h : Inv E S) : opE E S 231 232 5 9 [.int c, .int v] := by
  obtain ⟨hE, hpar, ⟨z, t, hc, pk, td, htd, hR⟩, hI, hTp, hWt, hSh, hKy⟩ := id h
  obtain ⟨b, hb1⟩ : ∃ b, b = 1 := ⟨1, rfl⟩
  have hb : bkb b := Or.inl hb1
  rw [← hb1] at hR
  have o9 := o_X hE hb1
  have o0 := o_B hE hb
  have o8 := o_I hE hb
  have o1 := o_L hE hb
  have o5 := o_P hE
  have o10 := o_M hE
  have m10 := m_M hE
  have m9 : ∀ S, misc (hp E S 0) 9 = true := fun S => misc_o o9
  have m0 : ∀ S, misc (hp E S b) 0 = true := fun S => misc_o o0
  have m8 : ∀ S, misc (hp E S (b + 13)) 8 = true := fun S => misc_o o8
  have m1 : ∀ S, misc (hp E S (b + 22)) 1 = true := fun S => misc_o o1
  have m5 : ∀ S, misc (hp E S 79) 5 = true := fun S => misc_o o5
  obtain ⟨n1, n14, n16, n18, n20, n22, n3, n5, n7⟩ := rl_okm hR
  obtain ⟨⟨g1, g3, g5, g7, g14, g16, g18, g20, g22, gt, gw⟩, hH, hP⟩ := rl_okh hR
  have ht := rl_tod hR
  rcases ixc (n := z 1) c (by omega) with hx | ⟨k, hk, rfl, hx⟩
  · refine op_v h (-1000000001) (fun d => ?_) (fun d => ?_)
    · simp only [ment, mfl, List.length, List.replicate, List.cons_append, List.nil_append, Nat.reduceAdd, Nat.reduceSub]; simp only [r_al0 c_X_like_0, r_an0 c_X_like_0, r_gfSr c_X_like_1 o9 rfl, r_gfSr c_X_like_4 o0 rfl, r_il1 c_X_like_7, r_cv2 c_X_like_8, r_ifeq c_X_like_11, r_il2 c_X_like_14, r_ci c_X_like_15, r_ci c_X_like_16, r_ca3 c_X_like_17, r_ifne c_X_like_20, r_ci c_X_like_23, r_iret c_X_like_25, r_al0 c_X_like_26, r_an0 c_X_like_26, r_gfSr c_X_like_27 o9 rfl, r_il1 c_X_like_30, r_ci c_X_like_31, r_cv3 c_X_like_32, r_is3 c_X_like_35, r_il3 c_X_like_36, r_al0 c_X_like_37, r_an0 c_X_like_37, r_gfSr c_X_like_38 o9 rfl, r_il1 c_X_like_41, r_ci c_X_like_42, r_cv3 c_X_like_43, r_iadd c_X_like_46, r_is4 c_X_like_47, r_il2 c_X_like_49, r_ifne c_X_like_50, r_il4 c_X_like_53, r_iret c_X_like_55, r_il2 c_X_like_56, r_ci c_X_like_57, r_icne c_X_like_58, r_il3 c_X_like_61, r_iret c_X_like_62, r_il4 c_X_like_63, r_ifne c_X_like_65, r_ci c_X_like_68, r_goto c_X_like_70, r_il3 c_X_like_73, r_il4 c_X_like_74, r_ca2 c_X_like_76, r_iret c_X_like_79, ↓reduceIte, hs_h, Option.bind_some, mfix_i, mfix_r, mfix_n, mfix_a, Option.toList_some, Option.toList_none, List.cons_append, List.nil_append, List.singleton_append, mwt, Value.category, Nat.reduceAdd, Nat.reduceLeDiff, true_and, and_true, and_self, misc_w (w_1 hE hb), has_1 hE hb, g1.1, hx, if_true]
    · simp only [ment, mfl, List.length, List.replicate, List.cons_append, List.nil_append, Nat.reduceAdd, Nat.reduceSub]; simp only [r_al0 c_M_like_0, r_il1 c_M_like_1, r_ci c_M_like_2, r_cv3 c_M_like_3, r_ifeq c_M_like_6, r_il2 c_M_like_9, r_i2l c_M_like_10, r_cl c_M_like_11, r_cl c_M_like_12, r_ca3 c_M_like_15, r_ifne c_M_like_18, r_ci c_M_like_21, r_iret c_M_like_23, ↓reduceIte, hs_h, Option.bind_some, mfix_i, mfix_r, mfix_n, mfix_a, Option.toList_some, Option.toList_none, List.cons_append, List.nil_append, List.singleton_append, mwt, Value.category, Nat.reduceAdd, Nat.reduceLeDiff, true_and, and_true, and_self, m10, mt2 hE, n1.1, th_eq (show z 1 < 2 ^ 31 by omega), hx, if_true]
  have k12 : k < 12 := by omega
  rcases wic (m := 2) v (by omega) with hv | ⟨D, hD, rfl, hv⟩
  · have hv : wiS v 0 2 = 0 := hv
    refine op_v h (-1000000001) (fun d => ?_) (fun d => ?_)
    · simp only [ment, mfl, List.length, List.replicate, List.cons_append, List.nil_append, Nat.reduceAdd, Nat.reduceSub]; simp only [r_al0 c_X_like_0, r_an0 c_X_like_0, r_gfSr c_X_like_1 o9 rfl, r_gfSr c_X_like_4 o0 rfl, r_il1 c_X_like_7, r_cv2 c_X_like_8, r_ifeq c_X_like_11, r_il2 c_X_like_14, r_ci c_X_like_15, r_ci c_X_like_16, r_ca3 c_X_like_17, r_ifne c_X_like_20, r_ci c_X_like_23, r_iret c_X_like_25, r_al0 c_X_like_26, r_an0 c_X_like_26, r_gfSr c_X_like_27 o9 rfl, r_il1 c_X_like_30, r_ci c_X_like_31, r_cv3 c_X_like_32, r_is3 c_X_like_35, r_il3 c_X_like_36, r_al0 c_X_like_37, r_an0 c_X_like_37, r_gfSr c_X_like_38 o9 rfl, r_il1 c_X_like_41, r_ci c_X_like_42, r_cv3 c_X_like_43, r_iadd c_X_like_46, r_is4 c_X_like_47, r_il2 c_X_like_49, r_ifne c_X_like_50, r_il4 c_X_like_53, r_iret c_X_like_55, r_il2 c_X_like_56, r_ci c_X_like_57, r_icne c_X_like_58, r_il3 c_X_like_61, r_iret c_X_like_62, r_il4 c_X_like_63, r_ifne c_X_like_65, r_ci c_X_like_68, r_goto c_X_like_70, r_il3 c_X_like_73, r_il4 c_X_like_74, r_ca2 c_X_like_76, r_iret c_X_like_79, ↓reduceIte, hs_h, Option.bind_some, mfix_i, mfix_r, mfix_n, mfix_a, Option.toList_some, Option.toList_none, List.cons_append, List.nil_append, List.singleton_append, mwt, Value.category, Nat.reduceAdd, Nat.reduceLeDiff, true_and, and_true, and_self, misc_w (w_1 hE hb), has_1 hE hb, g1.1, hx, if_false, one_nz, X_within_ok, hv, if_true]
    · simp only [ment, mfl, List.length, List.replicate, List.cons_append, List.nil_append, Nat.reduceAdd, Nat.reduceSub]; simp only [r_al0 c_M_like_0, r_il1 c_M_like_1, r_ci c_M_like_2, r_cv3 c_M_like_3, r_ifeq c_M_like_6, r_il2 c_M_like_9, r_i2l c_M_like_10, r_cl c_M_like_11, r_cl c_M_like_12, r_ca3 c_M_like_15, r_ifne c_M_like_18, r_ci c_M_like_21, r_iret c_M_like_23, ↓reduceIte, hs_h, Option.bind_some, mfix_i, mfix_r, mfix_n, mfix_a, Option.toList_some, Option.toList_none, List.cons_append, List.nil_append, List.singleton_append, mwt, Value.category, Nat.reduceAdd, Nat.reduceLeDiff, true_and, and_true, and_self, m10, mt2 hE, n1.1, th_eq (show z 1 < 2 ^ 31 by omega), hx, if_false, one_nz, M_within_k (y := 0) (w := 2) (y' := 0) (w' := 2) (by decide) (by decide), hv, if_true]
  have hv : wiS (nI D) 0 2 = 1 := hv
  have ls := lk_s (A := iA S (b + 2)) (A8 := iA S (b + 8)) (hc := hc) (k := k) (z 7) 0 0 0
  rw [Int32.add_zero] at ls
  generalize el : rfor (hlG (iA S (b + 2)) (iA S (b + 8)) hc k 2) 0 (z 7) 0 = le at ls
  generalize eh : rfor (hlG (iA S (b + 2)) (iA S (b + 8)) hc k 1) 0 (z 7) 0 = he at ls
  have rx : ∀ c d, mres cT 230 d 0 (ment 6 [.ref b, .int (nI k), .int c]) [] (hs E S) = some (some (.int (rfor (hlG (iA S (b + 2)) (iA S (b + 8)) hc k c) 0 (z 7) 0)), hs E S) := fun c d => B_hearingsOfLike_ok hE hb g7.1 g7.2 hH k12
  have rm : ∀ d, ∃ l1 l2 l3 l4, mres cT 232 d 0 (ment 9 [.ref 93, .int (nI k), .int (nI D)]) [] (hs E S) = mres cT 232 d 172 [.ref 93, .int (nI k), .int (nI D), .int (le + he), .int le, l1, l2, l3, l4] [] (hs E S) := fun d => by
    obtain ⟨l1', l2', l3', lp⟩ := M_like_lp (d := d) (v := nI D) hE hR hk (z 7) 0 0 0 (.retAddr 0) (.retAddr 0) (.retAddr 0) (by omega)
    rw [ls, nI_0] at lp
    refine ⟨.int (nI (z 7)), l1', l2', l3', ?_⟩
    simp only [ment, mfl, List.length, List.replicate, List.cons_append, List.nil_append, Nat.reduceAdd, Nat.reduceSub]; simp only [r_al0 c_M_like_0, r_il1 c_M_like_1, r_ci c_M_like_2, r_cv3 c_M_like_3, r_ifeq c_M_like_6, r_il2 c_M_like_9, r_i2l c_M_like_10, r_cl c_M_like_11, r_cl c_M_like_12, r_ca3 c_M_like_15, r_ifne c_M_like_18, r_ci c_M_like_21, r_iret c_M_like_23, r_ci c_M_like_24, r_is3 c_M_like_25, r_ci c_M_like_26, r_is4 c_M_like_27, r_ci c_M_like_29, r_is5 c_M_like_30, ↓reduceIte, hs_h, Option.bind_some, mfix_i, mfix_r, mfix_n, mfix_a, Option.toList_some, Option.toList_none, List.cons_append, List.nil_append, List.singleton_append, mwt, Value.category, Nat.reduceAdd, Nat.reduceLeDiff, true_and, and_true, and_self, m10, mt2 hE, n1.1, th_eq (show z 1 < 2 ^ 31 by omega), hx, if_false, one_nz, M_within_k (y := 0) (w := 2) (y' := 0) (w' := 2) (by decide) (by decide), hv, lp]
  refine op_v h (if nI D = 0 then le + he else if nI D = 1 then le else if le + he = 0 then -1000000005 else 100 * le / (le + he)) (fun d => ?_) (fun d => ?_)
  · simp only [ment, mfl, List.length, List.replicate, List.cons_append, List.nil_append, Nat.reduceAdd, Nat.reduceSub]; simp only [r_al0 c_X_like_0, r_an0 c_X_like_0, r_gfSr c_X_like_1 o9 rfl, r_gfSr c_X_like_4 o0 rfl, r_il1 c_X_like_7, r_cv2 c_X_like_8, r_ifeq c_X_like_11, r_il2 c_X_like_14, r_ci c_X_like_15, r_ci c_X_like_16, r_ca3 c_X_like_17, r_ifne c_X_like_20, r_ci c_X_like_23, r_iret c_X_like_25, r_al0 c_X_like_26, r_an0 c_X_like_26, r_gfSr c_X_like_27 o9 rfl, r_il1 c_X_like_30, r_ci c_X_like_31, r_cv3 c_X_like_32, r_is3 c_X_like_35, r_il3 c_X_like_36, r_al0 c_X_like_37, r_an0 c_X_like_37, r_gfSr c_X_like_38 o9 rfl, r_il1 c_X_like_41, r_ci c_X_like_42, r_cv3 c_X_like_43, r_iadd c_X_like_46, r_is4 c_X_like_47, ↓reduceIte, hs_h, Option.bind_some, mfix_i, mfix_r, mfix_n, mfix_a, Option.toList_some, Option.toList_none, List.cons_append, List.nil_append, List.singleton_append, mwt, Value.category, Nat.reduceAdd, Nat.reduceLeDiff, true_and, and_true, and_self, misc_w (w_1 hE hb), has_1 hE hb, g1.1, hx, if_false, one_nz, X_within_ok, hv, m0, rx, el, eh]
    by_cases e0 : nI D = 0
    · simp only [r_il2 c_X_like_49, r_ifne c_X_like_50, r_il4 c_X_like_53, r_iret c_X_like_55, r_il2 c_X_like_56, r_ci c_X_like_57, r_icne c_X_like_58, r_il3 c_X_like_61, r_iret c_X_like_62, r_il4 c_X_like_63, r_ifne c_X_like_65, r_ci c_X_like_68, r_goto c_X_like_70, r_il3 c_X_like_73, r_il4 c_X_like_74, r_ca2 c_X_like_76, r_iret c_X_like_79, ↓reduceIte, hs_h, Option.bind_some, mfix_i, mfix_r, mfix_n, mfix_a, Option.toList_some, Option.toList_none, List.cons_append, List.nil_append, List.singleton_append, mwt, Value.category, Nat.reduceAdd, Nat.reduceLeDiff, true_and, and_true, and_self, e0, if_true]
    · by_cases e1 : nI D = 1
      · simp only [r_il2 c_X_like_49, r_ifne c_X_like_50, r_il4 c_X_like_53, r_iret c_X_like_55, r_il2 c_X_like_56, r_ci c_X_like_57, r_icne c_X_like_58, r_il3 c_X_like_61, r_iret c_X_like_62, r_il4 c_X_like_63, r_ifne c_X_like_65, r_ci c_X_like_68, r_goto c_X_like_70, r_il3 c_X_like_73, r_il4 c_X_like_74, r_ca2 c_X_like_76, r_iret c_X_like_79, ↓reduceIte, hs_h, Option.bind_some, mfix_i, mfix_r, mfix_n, mfix_a, Option.toList_some, Option.toList_none, List.cons_append, List.nil_append, List.singleton_append, mwt, Value.category, Nat.reduceAdd, Nat.reduceLeDiff, true_and, and_true, and_self, e1, one_nz, if_true, if_false]
      · by_cases e2 : le + he = 0
        · simp only [r_il2 c_X_like_49, r_ifne c_X_like_50, r_il4 c_X_like_53, r_iret c_X_like_55, r_il2 c_X_like_56, r_ci c_X_like_57, r_icne c_X_like_58, r_il3 c_X_like_61, r_iret c_X_like_62, r_il4 c_X_like_63, r_ifne c_X_like_65, r_ci c_X_like_68, r_goto c_X_like_70, r_il3 c_X_like_73, r_il4 c_X_like_74, r_ca2 c_X_like_76, r_iret c_X_like_79, ↓reduceIte, hs_h, Option.bind_some, mfix_i, mfix_r, mfix_n, mfix_a, Option.toList_some, Option.toList_none, List.cons_append, List.nil_append, List.singleton_append, mwt, Value.category, Nat.reduceAdd, Nat.reduceLeDiff, true_and, and_true, and_self, e0, e1, e2, if_true, if_false]
        · simp only [r_il2 c_X_like_49, r_ifne c_X_like_50, r_il4 c_X_like_53, r_iret c_X_like_55, r_il2 c_X_like_56, r_ci c_X_like_57, r_icne c_X_like_58, r_il3 c_X_like_61, r_iret c_X_like_62, r_il4 c_X_like_63, r_ifne c_X_like_65, r_ci c_X_like_68, r_goto c_X_like_70, r_il3 c_X_like_73, r_il4 c_X_like_74, r_ca2 c_X_like_76, r_iret c_X_like_79, ↓reduceIte, hs_h, Option.bind_some, mfix_i, mfix_r, mfix_n, mfix_a, Option.toList_some, Option.toList_none, List.cons_append, List.nil_append, List.singleton_append, mwt, Value.category, Nat.reduceAdd, Nat.reduceLeDiff, true_and, and_true, and_self, e0, e1, e2, if_false, X_hundredths_ok, huS, Int32.mul_comm]
  · obtain ⟨l1, l2, l3, l4, rm⟩ := rm d
    rw [rm]
    by_cases e0 : nI D = 0
    · simp only [r_il2 c_M_like_172, r_ifne c_M_like_173, r_il3 c_M_like_176, r_goto c_M_like_177, r_il2 c_M_like_180, r_ci c_M_like_181, r_icne c_M_like_182, r_il4 c_M_like_185, r_goto c_M_like_187, r_il3 c_M_like_190, r_ifne c_M_like_191, r_ci c_M_like_194, r_goto c_M_like_196, r_ci c_M_like_199, r_il4 c_M_like_201, r_imul c_M_like_203, r_il3 c_M_like_204, r_idiv c_M_like_205, r_iret c_M_like_206, ↓reduceIte, hs_h, Option.bind_some, mfix_i, mfix_r, mfix_n, mfix_a, Option.toList_some, Option.toList_none, List.cons_append, List.nil_append, List.singleton_append, mwt, Value.category, Nat.reduceAdd, Nat.reduceLeDiff, true_and, and_true, and_self, e0, if_true]
    · by_cases e1 : nI D = 1
      · simp only [r_il2 c_M_like_172, r_ifne c_M_like_173, r_il3 c_M_like_176, r_goto c_M_like_177, r_il2 c_M_like_180, r_ci c_M_like_181, r_icne c_M_like_182, r_il4 c_M_like_185, r_goto c_M_like_187, r_il3 c_M_like_190, r_ifne c_M_like_191, r_ci c_M_like_194, r_goto c_M_like_196, r_ci c_M_like_199, r_il4 c_M_like_201, r_imul c_M_like_203, r_il3 c_M_like_204, r_idiv c_M_like_205, r_iret c_M_like_206, ↓reduceIte, hs_h, Option.bind_some, mfix_i, mfix_r, mfix_n, mfix_a, Option.toList_some, Option.toList_none, List.cons_append, List.nil_append, List.singleton_append, mwt, Value.category, Nat.reduceAdd, Nat.reduceLeDiff, true_and, and_true, and_self, e1, one_nz, if_true, if_false]
      · by_cases e2 : le + he = 0
        · simp only [r_il2 c_M_like_172, r_ifne c_M_like_173, r_il3 c_M_like_176, r_goto c_M_like_177, r_il2 c_M_like_180, r_ci c_M_like_181, r_icne c_M_like_182, r_il4 c_M_like_185, r_goto c_M_like_187, r_il3 c_M_like_190, r_ifne c_M_like_191, r_ci c_M_like_194, r_goto c_M_like_196, r_ci c_M_like_199, r_il4 c_M_like_201, r_imul c_M_like_203, r_il3 c_M_like_204, r_idiv c_M_like_205, r_iret c_M_like_206, ↓reduceIte, hs_h, Option.bind_some, mfix_i, mfix_r, mfix_n, mfix_a, Option.toList_some, Option.toList_none, List.cons_append, List.nil_append, List.singleton_append, mwt, Value.category, Nat.reduceAdd, Nat.reduceLeDiff, true_and, and_true, and_self, e0, e1, e2, if_true, if_false]
        · simp only [r_il2 c_M_like_172, r_ifne c_M_like_173, r_il3 c_M_like_176, r_goto c_M_like_177, r_il2 c_M_like_180, r_ci c_M_like_181, r_icne c_M_like_182, r_il4 c_M_like_185, r_goto c_M_like_187, r_il3 c_M_like_190, r_ifne c_M_like_191, r_ci c_M_like_194, r_goto c_M_like_196, r_ci c_M_like_199, r_il4 c_M_like_201, r_imul c_M_like_203, r_il3 c_M_like_204, r_idiv c_M_like_205 e2, r_iret c_M_like_206, ↓reduceIte, hs_h, Option.bind_some, mfix_i, mfix_r, mfix_n, mfix_a, Option.toList_some, Option.toList_none, List.cons_append, List.nil_append, List.singleton_append, mwt, Value.category, Nat.reduceAdd, Nat.reduceLeDiff, true_and, and_true, and_self, e0, e1, e2, if_false]
end LIKEQ
