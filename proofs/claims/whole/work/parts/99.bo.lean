/-! call: check -/
section CHECKQ
variable {E : EE} {R S S1 S2 U U2 V W : SS} {b d k n m i j p td B a s q N w : Nat} {c v x y l : Int32} {f g : Nat → Int32} {z t hc pk : Nat → Nat} {wt : Nat → Int32}
def saV (z : Nat → Nat) (V : SS) : Int32 := rfor (saG V 53 (z 16) (z 18)) 0 (z 1) 0
def otV (z : Nat → Nat) (V : SS) : Int32 := rfor (cnG (iA V (53 + 2)) 1) 0 (z 1) 0
def chV (wt : Nat → Int32) (w N : Nat) (z t pk hc : Nat → Nat) : Nat → Nat → SS → Int32
  | _, 0, _ => if 2 * N < w then nI (1 + 2 * N) else 0
  | i, m + 1, V => if ckO wt w (2 * i) (saV z (pdS 53 z t pk hc V)) then if ckO wt w (2 * i + 1) (otV z (pdS 53 z t pk hc V)) then chV wt w N z t pk hc (i + 1) m (pdS 53 z t pk hc V) else nI (2 + 2 * i) else nI (1 + 2 * i)
theorem b53 : bkb 53 := Or.inr (Or.inr rfl)
theorem k2m : (2 : Int32) * nI i = nI (2 * i) := pk_mul 2 i
theorem k1a : (1 : Int32) + nI i = nI (1 + i) := nI_add 1 i
theorem k2a : (2 : Int32) + nI i = nI (2 + i) := nI_add 2 i
/-- the trial's books, but for their stack, and what they leave alone -/
def trB (S V U : SS) : Prop := eqS 53 V U ∧ ∀ q, (q < 53 ∨ 79 ≤ q) → U q = S q
theorem X_check_lp (hE : okE E) (hw : w ≤ 60) (hN : N ≤ 30) (hwt : iA S 92 = wt) : ∀ m i V U, okH E V 53 z t hc pk → (∀ q, (q < 53 ∨ 79 ≤ q) → V q = S q) → eqS 53 V U → i + m = N → ∃ U2, (∀ q, (q < 53 ∨ 79 ≤ q) → U2 q = S q) ∧ ∀ d, mres cT 270 d 46 [.ref 0, .int (nI N), .int (nI w), .int (nI i)] [] (hs E U) = some (some (.int (chV wt w N z t pk hc i m V)), hs E U2) := by
  have o9 := o_X hE rfl
  have m9 : ∀ S, misc (hp E S 0) 9 = true := fun S => misc_o o9
  have m53 : ∀ S, misc (hp E S 53) 0 = true := fun S => misc_o (o_B hE b53)
  intro m
  induction m with
  | zero =>
    intro i V U hV oV e hi
    have h1 : nI N ≤ nI i := nI_le (by omega) (by omega)
    refine ⟨U, fun q hq => (e q (by omega) (by omega)).trans (oV q hq), fun d => ?_⟩
    rw [chV]
    by_cases q : 2 * N < w
    · have q1 : ¬ nI w ≤ nI (2 * N) := nI_ge q (by omega)
      simp only [r_il3 c_X_check_46, r_il1 c_X_check_47, r_icge c_X_check_48, r_il2 c_X_check_115, r_ci c_X_check_116, r_il1 c_X_check_117, r_imul c_X_check_118, r_icle c_X_check_119, r_ci c_X_check_122, r_ci c_X_check_123, r_il1 c_X_check_124, r_imul c_X_check_125, r_iadd c_X_check_126, r_goto c_X_check_127, r_ci c_X_check_130, r_iret c_X_check_131, ↓reduceIte, hs_h, Option.bind_some, mfix_i, mfix_r, mfix_n, mfix_a, Option.toList_some, Option.toList_none, List.cons_append, List.nil_append, List.singleton_append, h1, if_true, k2m, k1a, q1, q, if_false]
    · have q1 : nI w ≤ nI (2 * N) := nI_le (by omega) (by omega)
      simp only [r_il3 c_X_check_46, r_il1 c_X_check_47, r_icge c_X_check_48, r_il2 c_X_check_115, r_ci c_X_check_116, r_il1 c_X_check_117, r_imul c_X_check_118, r_icle c_X_check_119, r_ci c_X_check_122, r_ci c_X_check_123, r_il1 c_X_check_124, r_imul c_X_check_125, r_iadd c_X_check_126, r_goto c_X_check_127, r_ci c_X_check_130, r_iret c_X_check_131, ↓reduceIte, hs_h, Option.bind_some, mfix_i, mfix_r, mfix_n, mfix_a, Option.toList_some, Option.toList_none, List.cons_append, List.nil_append, List.singleton_append, h1, if_true, k2m, q1, q, if_false]
  | succ m ih =>
    intro i V U hV oV e hi
    have h1 : ¬ nI N ≤ nI i := nI_ge (by omega) (by omega)
    obtain ⟨U1, e1, r1⟩ := B_passDay_ok hE b53 hV e
    have hV1 := okH_pdS b53 hV
    have oV1 : ∀ q, (q < 53 ∨ 79 ≤ q) → pdS 53 z t pk hc V q = S q := fun q hq => (oB_pd (b := 53) (S := V) (fun _ _ => rfl) q (by omega)).trans (oV q hq)
    have oU1 : ∀ q, (q < 53 ∨ 79 ≤ q) → U1 q = S q := fun q hq => (e1 q (by omega) (by omega)).trans (oV1 q hq)
    obtain ⟨⟨g1, g3, g5, g7, g14, g16, g18, g20, g22, gt, gw⟩, hH, hP⟩ := okH_eq b53 e1 hV1
    have hwt1 : iA U1 92 = wt := by rw [iA, oU1 92 (by omega)]; exact hwt
    have rs : ∀ d, mres cT 267 d 0 (ment 3 [.ref 53]) [] (hs E U1) = some (some (.int (saV z (pdS 53 z t pk hc V))), hs E U1) := fun d => by
      rw [B_servedByAll_ok hE b53 g1.1 g1.2 g16.1 g16.2 g18.1 g18.2, saV]
      have : saG U1 53 (z 16) (z 18) = saG (pdS 53 z t pk hc V) 53 (z 16) (z 18) := by
        funext i s
        rw [saG, saG, iA, iA, iF, e1 (53 + 17) (by omega) (by omega), e1 (53 + 19) (by omega) (by omega), e1 53 (by omega) (by omega)]
      rw [this]
    have ro : ∀ d, mres cT 269 d 0 (ment 4 [.ref 53, .int 1]) [] (hs E U1) = some (some (.int (otV z (pdS 53 z t pk hc V))), hs E U1) := fun d => by
      rw [B_casesThatAre_ok hE b53 g1.1 g1.2, otV, iA, e1 (53 + 2) (by omega) (by omega)]
    obtain ⟨w1, w2⟩ := X_waits_ok (v := saV z (pdS 53 z t pk hc V)) (p := 2 * i) hE hw (by omega) hwt1
    obtain ⟨w3, w4⟩ := X_waits_ok (v := otV z (pdS 53 z t pk hc V)) (p := 2 * i + 1) hE hw (by omega) hwt1
    rw [chV]
    by_cases q1 : ckO wt w (2 * i) (saV z (pdS 53 z t pk hc V))
    · rw [if_pos q1]
      have w1 := w1 q1
      by_cases q2 : ckO wt w (2 * i + 1) (otV z (pdS 53 z t pk hc V))
      · rw [if_pos q2]
        have w3 := w3 q2
        obtain ⟨U2, o2, r2⟩ := ih (i + 1) _ U1 hV1 oV1 e1 (by omega)
        refine ⟨U2, o2, fun d => ?_⟩
        simp only [r_il3 c_X_check_46, r_il1 c_X_check_47, r_icge c_X_check_48, ↓reduceIte, hs_h, Option.bind_some, mfix_i, mfix_r, mfix_n, mfix_a, Option.toList_some, Option.toList_none, List.cons_append, List.nil_append, List.singleton_append, h1, if_false]
        simp only [r_al0 c_X_check_51, r_an0 c_X_check_51, r_gfSr c_X_check_52 o9 rfl, r_cv1 c_X_check_55, r_al0 c_X_check_58, r_an0 c_X_check_58, r_ci c_X_check_59, r_il3 c_X_check_60, r_imul c_X_check_61, r_il2 c_X_check_62, r_al0 c_X_check_63, r_an0 c_X_check_63, r_gfSr c_X_check_64 o9 rfl, r_cv1 c_X_check_67, r_cv4 c_X_check_70, r_ifne c_X_check_73, r_ci c_X_check_76, r_ci c_X_check_77, r_il3 c_X_check_78, r_imul c_X_check_79, r_iadd c_X_check_80, r_iret c_X_check_81, r_al0 c_X_check_82, r_an0 c_X_check_82, r_ci c_X_check_83, r_il3 c_X_check_84, r_imul c_X_check_85, r_ci c_X_check_86, r_iadd c_X_check_87, r_il2 c_X_check_88, r_al0 c_X_check_89, r_an0 c_X_check_89, r_gfSr c_X_check_90 o9 rfl, r_ci c_X_check_93, r_cv2 c_X_check_94, r_cv4 c_X_check_97, r_ifne c_X_check_100, r_ci c_X_check_103, r_ci c_X_check_104, r_il3 c_X_check_105, r_imul c_X_check_106, r_iadd c_X_check_107, r_iret c_X_check_108, r_inc3 c_X_check_109, r_goto c_X_check_112, ↓reduceIte, hs_h, Option.bind_some, mfix_i, mfix_r, mfix_n, mfix_a, Option.toList_some, Option.toList_none, List.cons_append, List.nil_append, List.singleton_append, mwt, Value.category, Nat.reduceAdd, Nat.reduceLeDiff, true_and, and_true, and_self, m9, m53, r1, k2m, nI_1, rs, w1, one_nz, if_false, ro, w3, r2]
      · rw [if_neg q2]
        have w4 := w4 q2
        refine ⟨U1, oU1, fun d => ?_⟩
        simp only [r_il3 c_X_check_46, r_il1 c_X_check_47, r_icge c_X_check_48, ↓reduceIte, hs_h, Option.bind_some, mfix_i, mfix_r, mfix_n, mfix_a, Option.toList_some, Option.toList_none, List.cons_append, List.nil_append, List.singleton_append, h1, if_false]
        simp only [r_al0 c_X_check_51, r_an0 c_X_check_51, r_gfSr c_X_check_52 o9 rfl, r_cv1 c_X_check_55, r_al0 c_X_check_58, r_an0 c_X_check_58, r_ci c_X_check_59, r_il3 c_X_check_60, r_imul c_X_check_61, r_il2 c_X_check_62, r_al0 c_X_check_63, r_an0 c_X_check_63, r_gfSr c_X_check_64 o9 rfl, r_cv1 c_X_check_67, r_cv4 c_X_check_70, r_ifne c_X_check_73, r_ci c_X_check_76, r_ci c_X_check_77, r_il3 c_X_check_78, r_imul c_X_check_79, r_iadd c_X_check_80, r_iret c_X_check_81, r_al0 c_X_check_82, r_an0 c_X_check_82, r_ci c_X_check_83, r_il3 c_X_check_84, r_imul c_X_check_85, r_ci c_X_check_86, r_iadd c_X_check_87, r_il2 c_X_check_88, r_al0 c_X_check_89, r_an0 c_X_check_89, r_gfSr c_X_check_90 o9 rfl, r_ci c_X_check_93, r_cv2 c_X_check_94, r_cv4 c_X_check_97, r_ifne c_X_check_100, r_ci c_X_check_103, r_ci c_X_check_104, r_il3 c_X_check_105, r_imul c_X_check_106, r_iadd c_X_check_107, r_iret c_X_check_108, r_inc3 c_X_check_109, r_goto c_X_check_112, ↓reduceIte, hs_h, Option.bind_some, mfix_i, mfix_r, mfix_n, mfix_a, Option.toList_some, Option.toList_none, List.cons_append, List.nil_append, List.singleton_append, mwt, Value.category, Nat.reduceAdd, Nat.reduceLeDiff, true_and, and_true, and_self, m9, m53, r1, k2m, nI_1, rs, w1, one_nz, if_false, ro, w4, if_true, k2a]
    · rw [if_neg q1]
      have w2 := w2 q1
      refine ⟨U1, oU1, fun d => ?_⟩
      simp only [r_il3 c_X_check_46, r_il1 c_X_check_47, r_icge c_X_check_48, ↓reduceIte, hs_h, Option.bind_some, mfix_i, mfix_r, mfix_n, mfix_a, Option.toList_some, Option.toList_none, List.cons_append, List.nil_append, List.singleton_append, h1, if_false]
      simp only [r_al0 c_X_check_51, r_an0 c_X_check_51, r_gfSr c_X_check_52 o9 rfl, r_cv1 c_X_check_55, r_al0 c_X_check_58, r_an0 c_X_check_58, r_ci c_X_check_59, r_il3 c_X_check_60, r_imul c_X_check_61, r_il2 c_X_check_62, r_al0 c_X_check_63, r_an0 c_X_check_63, r_gfSr c_X_check_64 o9 rfl, r_cv1 c_X_check_67, r_cv4 c_X_check_70, r_ifne c_X_check_73, r_ci c_X_check_76, r_ci c_X_check_77, r_il3 c_X_check_78, r_imul c_X_check_79, r_iadd c_X_check_80, r_iret c_X_check_81, ↓reduceIte, hs_h, Option.bind_some, mfix_i, mfix_r, mfix_n, mfix_a, Option.toList_some, Option.toList_none, List.cons_append, List.nil_append, List.singleton_append, mwt, Value.category, Nat.reduceAdd, Nat.reduceLeDiff, true_and, and_true, and_self, m9, m53, r1, k2m, rs, w2, if_true, k1a]
/-- what the model answers in the end -/
def fnM (w N : Nat) (r g : Int32) : Int32 := if g = 0 then 1 + r else if nI w = nI (2 * N) then 0 else 1 + r
theorem rem2 (h : i < 1000) : nI i - nI i / 2 * 2 = nI (i % 2) := pk_rem (d := 2) (by omega) (by decide) (by decide)
theorem M_check_z {W : SS} : mres cT 273 d 82 [.ref 93, .int x, .int y, .int v, .int 0, .int l] [] (hs E W) = mres cT 273 d 167 [.ref 93, .int x, .int y, .int v, .int 0, .int l] [] (hs E W) := by
  by_cases q : 2 * x ≤ l
  · simp only [r_il5 c_M_check_82, r_ci c_M_check_84, r_il1 c_M_check_85, r_imul c_M_check_86, r_icge c_M_check_87, r_il4 c_M_check_90, r_ifeq c_M_check_92, ↓reduceIte, hs_h, Option.bind_some, mfix_i, mfix_r, mfix_n, mfix_a, Option.toList_some, Option.toList_none, List.cons_append, List.nil_append, List.singleton_append, q, if_true]
  · simp only [r_il5 c_M_check_82, r_ci c_M_check_84, r_il1 c_M_check_85, r_imul c_M_check_86, r_icge c_M_check_87, r_il4 c_M_check_90, r_ifeq c_M_check_92, ↓reduceIte, hs_h, Option.bind_some, mfix_i, mfix_r, mfix_n, mfix_a, Option.toList_some, Option.toList_none, List.cons_append, List.nil_append, List.singleton_append, q, if_false, if_true]
theorem M_check_2 (hE : okE E) (hw : w ≤ 60) (hN : N ≤ 30) : ∀ m i V W, (∀ j, j < w → iA W 98 j = wt j) → Rel E V 53 z t hc pk (td + i) (18 * td + 18 * i) (iA W 94) → td ≤ 2999 → 2 * i ≤ w → i + m = N → ∃ W2 r g l, eqN W W2 ∧ fnM w N r g = chV wt w N z t pk hc i m V ∧ ∀ d, mres cT 273 d 82 [.ref 93, .int (nI N), .int (nI w), .int (nI (2 * i)), .int 1, .int (nI (2 * i))] [] (hs E W) = mres cT 273 d 167 [.ref 93, .int (nI N), .int (nI w), .int r, .int g, .int l] [] (hs E W2) := by
  have o10 := o_M hE
  have m10 := m_M hE
  have h2 : ¬ (2 : Int32) = 0 := by decide
  intro m
  induction m with
  | zero =>
    intro i V W hW hR htd hiw hi
    have ei : i = N := by omega
    subst ei
    have h1 : nI (2 * i) ≤ nI (2 * i) := nI_le (Nat.le_refl _) (by omega)
    refine ⟨W, nI (2 * i), 1, nI (2 * i), eqN_rf, ?_, fun d => ?_⟩
    · rw [fnM, if_neg (by decide), chV, k1a]
      by_cases q : 2 * i < w
      · rw [if_pos q, if_neg (fun e => by have := (nI_eq (by omega) (by omega)).mp e; omega)]
      · rw [if_neg q, if_pos (by rw [show w = 2 * i by omega])]
    · simp only [r_il5 c_M_check_82, r_ci c_M_check_84, r_il1 c_M_check_85, r_imul c_M_check_86, r_icge c_M_check_87, ↓reduceIte, hs_h, Option.bind_some, mfix_i, mfix_r, mfix_n, mfix_a, Option.toList_some, Option.toList_none, List.cons_append, List.nil_append, List.singleton_append, k2m, h1, if_true]
  | succ m ih =>
    intro i V W hW hR htd hiw hi
    have a1 : ¬ nI (2 * N) ≤ nI (2 * i) := nI_ge (by omega) (by omega)
    have a2 : ¬ nI (2 * N) ≤ nI (2 * i + 1) := nI_ge (by omega) (by omega)
    have e0 : nI (2 * i) - nI (2 * i) / 2 * 2 = 0 := by rw [rem2 (by omega), show 2 * i % 2 = 0 by omega, nI_0]
    have e1 : nI (2 * i + 1) - nI (2 * i + 1) / 2 * 2 = 1 := by rw [rem2 (by omega), show (2 * i + 1) % 2 = 1 by omega]; rfl
    obtain ⟨W1, n1, hR1, r1⟩ := M_day_R hE b53 hR (by omega) (by omega)
    have hR1 : Rel E (pdS 53 z t pk hc V) 53 z t hc pk (td + (i + 1)) (18 * td + 18 * (i + 1)) (iA W1 94) := hR1
    have c1 : ∀ j, j < w → iA W1 98 j = wt j := fun j hj => by rw [iA, n1.1 98 (by omega) (by omega) (by omega) (by omega) (by omega)]; exact hW j hj
    obtain ⟨W2, n2, r2⟩ := M_servedAll_R hE hR1
    have r2 : ∀ d, mres cT 271 d 0 (ment 3 [.ref 93]) [] (hs E W1) = some (some (.int (saV z (pdS 53 z t pk hc V))), hs E W2) := r2
    have hR2 : Rel E (pdS 53 z t pk hc V) 53 z t hc pk (td + (i + 1)) (18 * td + 18 * (i + 1)) (iA W2 94) := by rw [eqM_94 n2]; exact hR1
    have c2 : ∀ j, j < w → iA W2 98 j = wt j := fun j hj => by rw [iA, n2.1 98 (by omega) (by omega) (by omega) (by omega)]; exact c1 j hj
    have r3 : ∀ d, mres cT 272 d 0 (ment 4 [.ref 93, .int 1]) [] (hs E W2) = some (some (.int (otV z (pdS 53 z t pk hc V))), hs E W2) := fun d => M_casesIn_R hE hR2
    have n12 := eqN_tr n1 (eqN_M n2)
    rw [chV]
    by_cases q0 : 2 * i < w
    · have b1 : ¬ nI w ≤ nI (2 * i) := nI_ge q0 (by omega)
      have i60 : 2 * i < 60 := by omega
      by_cases q1 : wt (2 * i) = saV z (pdS 53 z t pk hc V)
      · rw [if_pos ⟨q0, q1⟩]
        have s1 : ∀ d, mres cT 273 d 82 [.ref 93, .int (nI N), .int (nI w), .int (nI (2 * i)), .int 1, .int (nI (2 * i))] [] (hs E W) = mres cT 273 d 82 [.ref 93, .int (nI N), .int (nI w), .int (nI (2 * i + 1)), .int 1, .int (nI (2 * i + 1))] [] (hs E W2) := fun d => by
          conv => lhs; simp only [r_il5 c_M_check_82, r_ci c_M_check_84, r_il1 c_M_check_85, r_imul c_M_check_86, r_icge c_M_check_87, r_il4 c_M_check_90, r_ifeq c_M_check_92, ↓reduceIte, hs_h, Option.bind_some, mfix_i, mfix_r, mfix_n, mfix_a, Option.toList_some, Option.toList_none, List.cons_append, List.nil_append, List.singleton_append, k2m, a1, one_nz, if_false]
          conv => lhs; simp only [r_il5 c_M_check_95, r_ci c_M_check_97, r_irem c_M_check_98 h2, r_ifne c_M_check_99, r_al0 c_M_check_102, r_cv1 c_M_check_103, r_il5 c_M_check_106, r_il2 c_M_check_108, r_icge c_M_check_109, r_al0 c_M_check_112, r_gfSr c_M_check_113 o10 rfl, r_il5 c_M_check_116, r_ial c_M_check_118, r_il5 c_M_check_119, r_ci c_M_check_121, r_irem c_M_check_122 h2, r_ifne c_M_check_123, r_al0 c_M_check_126, r_cv1 c_M_check_127, r_goto c_M_check_130, r_al0 c_M_check_133, r_ci c_M_check_134, r_cv2 c_M_check_135, r_icne c_M_check_138, r_ci c_M_check_141, r_goto c_M_check_142, r_ci c_M_check_145, r_is4 c_M_check_146, r_il3 c_M_check_148, r_il4 c_M_check_149, r_ifeq c_M_check_151, r_ci c_M_check_154, r_goto c_M_check_155, r_ci c_M_check_158, r_iadd c_M_check_159, r_is3 c_M_check_160, r_inc5 c_M_check_161, r_goto c_M_check_164, ↓reduceIte, hs_h, Option.bind_some, mfix_i, mfix_r, mfix_n, mfix_a, Option.toList_some, Option.toList_none, List.cons_append, List.nil_append, List.singleton_append, mwt, Value.category, Nat.reduceAdd, Nat.reduceLeDiff, true_and, and_true, and_self, e0, if_true, m10, r1, b1, if_false, mia_I (iM98 hE) i60 (by decide), c1 _ q0, r2, q1, one_nz, nI_1]
        by_cases p0 : 2 * i + 1 < w
        · have b2 : ¬ nI w ≤ nI (2 * i + 1) := nI_ge p0 (by omega)
          have j60 : 2 * i + 1 < 60 := by omega
          by_cases p1 : wt (2 * i + 1) = otV z (pdS 53 z t pk hc V)
          · rw [if_pos ⟨p0, p1⟩]
            obtain ⟨W3, r, g, l, n3, f3, r4⟩ := ih (i + 1) _ W2 c2 hR2 htd (by omega) (by omega)
            refine ⟨W3, r, g, l, eqN_tr n12 n3, f3, fun d => ?_⟩
            rw [show 2 * (i + 1) = 2 * i + 1 + 1 by omega] at r4
            rw [s1, ← r4]
            conv => lhs; simp only [r_il5 c_M_check_82, r_ci c_M_check_84, r_il1 c_M_check_85, r_imul c_M_check_86, r_icge c_M_check_87, r_il4 c_M_check_90, r_ifeq c_M_check_92, ↓reduceIte, hs_h, Option.bind_some, mfix_i, mfix_r, mfix_n, mfix_a, Option.toList_some, Option.toList_none, List.cons_append, List.nil_append, List.singleton_append, k2m, a2, one_nz, if_false]
            conv => lhs; simp only [r_il5 c_M_check_95, r_ci c_M_check_97, r_irem c_M_check_98 h2, r_ifne c_M_check_99, r_al0 c_M_check_102, r_cv1 c_M_check_103, r_il5 c_M_check_106, r_il2 c_M_check_108, r_icge c_M_check_109, r_al0 c_M_check_112, r_gfSr c_M_check_113 o10 rfl, r_il5 c_M_check_116, r_ial c_M_check_118, r_il5 c_M_check_119, r_ci c_M_check_121, r_irem c_M_check_122 h2, r_ifne c_M_check_123, r_al0 c_M_check_126, r_cv1 c_M_check_127, r_goto c_M_check_130, r_al0 c_M_check_133, r_ci c_M_check_134, r_cv2 c_M_check_135, r_icne c_M_check_138, r_ci c_M_check_141, r_goto c_M_check_142, r_ci c_M_check_145, r_is4 c_M_check_146, r_il3 c_M_check_148, r_il4 c_M_check_149, r_ifeq c_M_check_151, r_ci c_M_check_154, r_goto c_M_check_155, r_ci c_M_check_158, r_iadd c_M_check_159, r_is3 c_M_check_160, r_inc5 c_M_check_161, r_goto c_M_check_164, ↓reduceIte, hs_h, Option.bind_some, mfix_i, mfix_r, mfix_n, mfix_a, Option.toList_some, Option.toList_none, List.cons_append, List.nil_append, List.singleton_append, mwt, Value.category, Nat.reduceAdd, Nat.reduceLeDiff, true_and, and_true, and_self, e1, m10, b2, if_false, mia_I (iM98 hE) j60 (by decide), c2 _ p0, r3, p1, one_nz, if_true, nI_1]
          · rw [if_neg (fun e => p1 e.2)]
            refine ⟨W2, nI (2 * i + 1), 0, nI (2 * i + 1 + 1), n12, by rw [fnM, if_pos rfl, k1a, show 1 + (2 * i + 1) = 2 + 2 * i by omega], fun d => ?_⟩
            rw [s1, ← M_check_z]
            conv => lhs; simp only [r_il5 c_M_check_82, r_ci c_M_check_84, r_il1 c_M_check_85, r_imul c_M_check_86, r_icge c_M_check_87, r_il4 c_M_check_90, r_ifeq c_M_check_92, ↓reduceIte, hs_h, Option.bind_some, mfix_i, mfix_r, mfix_n, mfix_a, Option.toList_some, Option.toList_none, List.cons_append, List.nil_append, List.singleton_append, k2m, a2, one_nz, if_false]
            conv => lhs; simp only [r_il5 c_M_check_95, r_ci c_M_check_97, r_irem c_M_check_98 h2, r_ifne c_M_check_99, r_al0 c_M_check_102, r_cv1 c_M_check_103, r_il5 c_M_check_106, r_il2 c_M_check_108, r_icge c_M_check_109, r_al0 c_M_check_112, r_gfSr c_M_check_113 o10 rfl, r_il5 c_M_check_116, r_ial c_M_check_118, r_il5 c_M_check_119, r_ci c_M_check_121, r_irem c_M_check_122 h2, r_ifne c_M_check_123, r_al0 c_M_check_126, r_cv1 c_M_check_127, r_goto c_M_check_130, r_al0 c_M_check_133, r_ci c_M_check_134, r_cv2 c_M_check_135, r_icne c_M_check_138, r_ci c_M_check_141, r_goto c_M_check_142, r_ci c_M_check_145, r_is4 c_M_check_146, r_il3 c_M_check_148, r_il4 c_M_check_149, r_ifeq c_M_check_151, r_ci c_M_check_154, r_goto c_M_check_155, r_ci c_M_check_158, r_iadd c_M_check_159, r_is3 c_M_check_160, r_inc5 c_M_check_161, r_goto c_M_check_164, ↓reduceIte, hs_h, Option.bind_some, mfix_i, mfix_r, mfix_n, mfix_a, Option.toList_some, Option.toList_none, List.cons_append, List.nil_append, List.singleton_append, mwt, Value.category, Nat.reduceAdd, Nat.reduceLeDiff, true_and, and_true, and_self, e1, m10, b2, if_false, mia_I (iM98 hE) j60 (by decide), c2 _ p0, r3, p1, one_nz, if_true, Int32.add_zero, nI_1]
        · rw [if_neg (fun e => p0 e.1)]
          have b2 : nI w ≤ nI (2 * i + 1) := nI_le (by omega) (by omega)
          refine ⟨W2, nI (2 * i + 1), 0, nI (2 * i + 1 + 1), n12, by rw [fnM, if_pos rfl, k1a, show 1 + (2 * i + 1) = 2 + 2 * i by omega], fun d => ?_⟩
          rw [s1, ← M_check_z]
          conv => lhs; simp only [r_il5 c_M_check_82, r_ci c_M_check_84, r_il1 c_M_check_85, r_imul c_M_check_86, r_icge c_M_check_87, r_il4 c_M_check_90, r_ifeq c_M_check_92, ↓reduceIte, hs_h, Option.bind_some, mfix_i, mfix_r, mfix_n, mfix_a, Option.toList_some, Option.toList_none, List.cons_append, List.nil_append, List.singleton_append, k2m, a2, one_nz, if_false]
          conv => lhs; simp only [r_il5 c_M_check_95, r_ci c_M_check_97, r_irem c_M_check_98 h2, r_ifne c_M_check_99, r_al0 c_M_check_102, r_cv1 c_M_check_103, r_il5 c_M_check_106, r_il2 c_M_check_108, r_icge c_M_check_109, r_ci c_M_check_145, r_is4 c_M_check_146, r_il3 c_M_check_148, r_il4 c_M_check_149, r_ifeq c_M_check_151, r_ci c_M_check_154, r_goto c_M_check_155, r_ci c_M_check_158, r_iadd c_M_check_159, r_is3 c_M_check_160, r_inc5 c_M_check_161, r_goto c_M_check_164, ↓reduceIte, hs_h, Option.bind_some, mfix_i, mfix_r, mfix_n, mfix_a, Option.toList_some, Option.toList_none, List.cons_append, List.nil_append, List.singleton_append, mwt, Value.category, Nat.reduceAdd, Nat.reduceLeDiff, true_and, and_true, and_self, e1, m10, b2, one_nz, if_true, if_false, Int32.add_zero, nI_1]
      · rw [if_neg (fun e => q1 e.2)]
        refine ⟨W2, nI (2 * i), 0, nI (2 * i + 1), n12, by rw [fnM, if_pos rfl, k1a], fun d => ?_⟩
        rw [← M_check_z]
        conv => lhs; simp only [r_il5 c_M_check_82, r_ci c_M_check_84, r_il1 c_M_check_85, r_imul c_M_check_86, r_icge c_M_check_87, r_il4 c_M_check_90, r_ifeq c_M_check_92, ↓reduceIte, hs_h, Option.bind_some, mfix_i, mfix_r, mfix_n, mfix_a, Option.toList_some, Option.toList_none, List.cons_append, List.nil_append, List.singleton_append, k2m, a1, one_nz, if_false]
        conv => lhs; simp only [r_il5 c_M_check_95, r_ci c_M_check_97, r_irem c_M_check_98 h2, r_ifne c_M_check_99, r_al0 c_M_check_102, r_cv1 c_M_check_103, r_il5 c_M_check_106, r_il2 c_M_check_108, r_icge c_M_check_109, r_al0 c_M_check_112, r_gfSr c_M_check_113 o10 rfl, r_il5 c_M_check_116, r_ial c_M_check_118, r_il5 c_M_check_119, r_ci c_M_check_121, r_irem c_M_check_122 h2, r_ifne c_M_check_123, r_al0 c_M_check_126, r_cv1 c_M_check_127, r_goto c_M_check_130, r_al0 c_M_check_133, r_ci c_M_check_134, r_cv2 c_M_check_135, r_icne c_M_check_138, r_ci c_M_check_141, r_goto c_M_check_142, r_ci c_M_check_145, r_is4 c_M_check_146, r_il3 c_M_check_148, r_il4 c_M_check_149, r_ifeq c_M_check_151, r_ci c_M_check_154, r_goto c_M_check_155, r_ci c_M_check_158, r_iadd c_M_check_159, r_is3 c_M_check_160, r_inc5 c_M_check_161, r_goto c_M_check_164, ↓reduceIte, hs_h, Option.bind_some, mfix_i, mfix_r, mfix_n, mfix_a, Option.toList_some, Option.toList_none, List.cons_append, List.nil_append, List.singleton_append, mwt, Value.category, Nat.reduceAdd, Nat.reduceLeDiff, true_and, and_true, and_self, e0, if_true, m10, r1, b1, if_false, mia_I (iM98 hE) i60 (by decide), c1 _ q0, r2, q1, Int32.add_zero, nI_1]
    · rw [if_neg (fun e => q0 e.1)]
      have b1 : nI w ≤ nI (2 * i) := nI_le (by omega) (by omega)
      refine ⟨W1, nI (2 * i), 0, nI (2 * i + 1), n1, by rw [fnM, if_pos rfl, k1a], fun d => ?_⟩
      rw [← M_check_z]
      conv => lhs; simp only [r_il5 c_M_check_82, r_ci c_M_check_84, r_il1 c_M_check_85, r_imul c_M_check_86, r_icge c_M_check_87, r_il4 c_M_check_90, r_ifeq c_M_check_92, ↓reduceIte, hs_h, Option.bind_some, mfix_i, mfix_r, mfix_n, mfix_a, Option.toList_some, Option.toList_none, List.cons_append, List.nil_append, List.singleton_append, k2m, a1, one_nz, if_false]
      conv => lhs; simp only [r_il5 c_M_check_95, r_ci c_M_check_97, r_irem c_M_check_98 h2, r_ifne c_M_check_99, r_al0 c_M_check_102, r_cv1 c_M_check_103, r_il5 c_M_check_106, r_il2 c_M_check_108, r_icge c_M_check_109, r_ci c_M_check_145, r_is4 c_M_check_146, r_il3 c_M_check_148, r_il4 c_M_check_149, r_ifeq c_M_check_151, r_ci c_M_check_154, r_goto c_M_check_155, r_ci c_M_check_158, r_iadd c_M_check_159, r_is3 c_M_check_160, r_inc5 c_M_check_161, r_goto c_M_check_164, ↓reduceIte, hs_h, Option.bind_some, mfix_i, mfix_r, mfix_n, mfix_a, Option.toList_some, Option.toList_none, List.cons_append, List.nil_append, List.singleton_append, mwt, Value.category, Nat.reduceAdd, Nat.reduceLeDiff, true_and, and_true, and_self, e0, if_true, m10, r1, b1, Int32.add_zero, nI_1]
end CHECKQ
