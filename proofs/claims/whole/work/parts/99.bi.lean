/-! call: unwind -/
section UNWQ
variable {E : EE} {R S S1 S2 U U2 V : SS} {b d k n m i j p td B a s q : Nat} {c v w x y : Int32} {z t hc pk : Nat → Nat} {f f0 f1 g g' A A' : Nat → Int32}
theorem ud_o (h1 : q ≠ b + 8) (h2 : q ≠ b + 2) : udA V b k j q = V q := by rw [udA, sA, va_up, if_neg h2, sA, va_up, if_neg h1]
theorem M_unw_3 (hE : okE E) (hR : Rel E R b z t hc pk td B (iA S 94)) (hk : k < z 7) (hl : llq (iA R (b + 8)) (nI (hc k)) (z 7) = some k) (hs1 : iA R (b + 2) (hc k * 6 + 3) = 1) : ∃ S2, eqM S S2 ∧ ∀ d, mres cT 208 d 0 (ment 6 [.ref 93, .int (nI k)]) [] (hs E S) = mres cT 208 d 143 [.ref 93, .int (nI k), .int (nI (hc k)), .int (nI k), .int (if uwS R b z t k (hc k) = 0 then 0 else 1), .retAddr 0] [] (hs E S2) := by
  have o10 := o_M hE
  have m10 := m_M hE
  obtain ⟨n1, n14, n16, n18, n20, n22, n3, n5, n7⟩ := rl_okm hR
  have hz7 := n7.2
  have hH := (rl_okh hR).2.1
  have hj := (rl_unq hR).1 k hk
  have j12 := (hH k hk).2
  have ht := rl_tod hR
  have a0 : iA S 94 (670 + 6 * k) = nI (hc k) := (rl_hea hR k hk 0 (by omega)).trans (hH k hk).1
  have a1 : iA S 94 (670 + 6 * k + 1) = iA R (b + 8) (k * 5 + 1) := rl_hea hR k hk 1 (by omega)
  have c0 : iA S 94 (20 + 6 * hc k + 0) = iA R (b + 2) (hc k * 6) := rl_c0 hR hj (c := 0) (by omega)
  have c3 : iA S 94 (20 + 6 * hc k + 3) = 1 := (rl_c0 hR hj (c := 3) (by omega)).trans hs1
  obtain ⟨S2, e2, r2⟩ := M_rule_R (S := S) (fo := iA R (b + 2) (hc k * 6)) (fk := 4) (x0 := nI td - iA R (b + 8) (k * 5 + 1)) (x1 := 0) (x2 := 0) (x3 := 0) hE hR (by simp)
  have ev : rlV R b (z 22) t (iA R (b + 2) (hc k * 6)) 4 (iF R b 8) (nI td - iA R (b + 8) (k * 5 + 1)) 0 0 0 = uwS R b z t k (hc k) := by rw [uwS, ht.1]
  rw [ev] at r2
  refine ⟨S2, e2, fun d => ?_⟩
  have l0 := M_unw_1 (d := d) (x := nI k) hE hR j12 (z 7) 0 (by omega)
  rw [hl, nI_0] at l0
  have hx : ¬ (nI k < 0 ∨ nI (z 7) ≤ nI k) := by
    rintro (h | h)
    · exact nI_pos (by omega) h
    · exact nI_ge hk (by omega) h
  have l0 : mres cT 208 d 29 [.ref 93, .int (nI k), .int (nI (hc k)), .int (-1), .int 0, .retAddr 0] [] (hs E S) = mres cT 208 d 84 [.ref 93, .int (nI k), .int (nI (hc k)), .int (nI k), .int (nI (z 7)), .retAddr 0] [] (hs E S) := l0
  simp only [ment, mfl, List.length, List.replicate, List.cons_append, List.nil_append, Nat.reduceAdd, Nat.reduceSub]
  simp only [r_al0 c_M_unwind_0, r_il1 c_M_unwind_1, r_ci c_M_unwind_2, r_cv3 c_M_unwind_4, r_ifne c_M_unwind_7, r_ci c_M_unwind_10, r_iret c_M_unwind_12, r_al0 c_M_unwind_13, r_gfSr c_M_unwind_14 o10 rfl, r_il1 c_M_unwind_17, r_ci c_M_unwind_18, r_ca2 c_M_unwind_19, r_ial c_M_unwind_22, r_is2 c_M_unwind_23, r_ci c_M_unwind_24, r_is3 c_M_unwind_25, r_ci c_M_unwind_26, r_is4 c_M_unwind_27, ↓reduceIte, hs_h, Option.bind_some, mfix_i, mfix_r, mfix_n, mfix_a, Option.toList_some, Option.toList_none, List.cons_append, List.nil_append, List.singleton_append, mwt, Value.category, Nat.reduceAdd, Nat.reduceLeDiff, true_and, and_true, and_self, m10, mt10 hE, n7.1, th_eq (show z 7 < 2 ^ 31 by omega), hx, if_false, one_nz, oh0, mia_94 hE (show 670 + 6 * k < 2578 by omega), a0, l0]
  by_cases u0 : uwS R b z t k (hc k) = 0
  · simp only [r_il3 c_M_unwind_84, r_il1 c_M_unwind_85, r_icne c_M_unwind_86, r_al0 c_M_unwind_89, r_il2 c_M_unwind_90, r_ci c_M_unwind_91, r_cv3 c_M_unwind_92, r_ci c_M_unwind_95, r_iceq c_M_unwind_96, r_ci c_M_unwind_99, r_iret c_M_unwind_101, r_al0 c_M_unwind_102, r_al0 c_M_unwind_103, r_il2 c_M_unwind_104, r_ci c_M_unwind_105, r_cv3 c_M_unwind_106, r_ci c_M_unwind_109, r_al0 c_M_unwind_110, r_gfSr c_M_unwind_111 o10 rfl, r_ci c_M_unwind_114, r_ial c_M_unwind_115, r_al0 c_M_unwind_116, r_gfSr c_M_unwind_117 o10 rfl, r_il1 c_M_unwind_120, r_ci c_M_unwind_121, r_ca2 c_M_unwind_122, r_ial c_M_unwind_125, r_isub c_M_unwind_126, r_ci c_M_unwind_127, r_ci c_M_unwind_128, r_ci c_M_unwind_129, r_cv7 c_M_unwind_130, r_ifeq c_M_unwind_133, r_ci c_M_unwind_136, r_goto c_M_unwind_137, r_ci c_M_unwind_140, r_is4 c_M_unwind_141, ↓reduceIte, hs_h, Option.bind_some, mfix_i, mfix_r, mfix_n, mfix_a, Option.toList_some, Option.toList_none, List.cons_append, List.nil_append, List.singleton_append, mwt, Value.category, Nat.reduceAdd, Nat.reduceLeDiff, true_and, and_true, and_self, m10, if_true, oc3 hE j12, c3, oc0 hE j12, c0, mn0 hE, ht.2.2, oh1, mia_94 hE (show 670 + 6 * k + 1 < 2578 by omega), a1, r2, u0]
  · simp only [r_il3 c_M_unwind_84, r_il1 c_M_unwind_85, r_icne c_M_unwind_86, r_al0 c_M_unwind_89, r_il2 c_M_unwind_90, r_ci c_M_unwind_91, r_cv3 c_M_unwind_92, r_ci c_M_unwind_95, r_iceq c_M_unwind_96, r_ci c_M_unwind_99, r_iret c_M_unwind_101, r_al0 c_M_unwind_102, r_al0 c_M_unwind_103, r_il2 c_M_unwind_104, r_ci c_M_unwind_105, r_cv3 c_M_unwind_106, r_ci c_M_unwind_109, r_al0 c_M_unwind_110, r_gfSr c_M_unwind_111 o10 rfl, r_ci c_M_unwind_114, r_ial c_M_unwind_115, r_al0 c_M_unwind_116, r_gfSr c_M_unwind_117 o10 rfl, r_il1 c_M_unwind_120, r_ci c_M_unwind_121, r_ca2 c_M_unwind_122, r_ial c_M_unwind_125, r_isub c_M_unwind_126, r_ci c_M_unwind_127, r_ci c_M_unwind_128, r_ci c_M_unwind_129, r_cv7 c_M_unwind_130, r_ifeq c_M_unwind_133, r_ci c_M_unwind_136, r_goto c_M_unwind_137, r_ci c_M_unwind_140, r_is4 c_M_unwind_141, ↓reduceIte, hs_h, Option.bind_some, mfix_i, mfix_r, mfix_n, mfix_a, Option.toList_some, Option.toList_none, List.cons_append, List.nil_append, List.singleton_append, mwt, Value.category, Nat.reduceAdd, Nat.reduceLeDiff, true_and, and_true, and_self, m10, if_true, oc3 hE j12, c3, oc0 hE j12, c0, mn0 hE, ht.2.2, oh1, mia_94 hE (show 670 + 6 * k + 1 < 2578 by omega), a1, r2, u0, if_false]
theorem q_unwind (h : Inv E S) : opE E S 207 208 3 6 [.int c] := by
  obtain ⟨hE, hpar, ⟨z, t, hc, pk, td, htd, hR⟩, hI, hTp, hWt, hSh, hKy⟩ := id h
  obtain ⟨b, hb1⟩ : ∃ b, b = 1 := ⟨1, rfl⟩
  have hb : bkb b := Or.inl hb1
  rw [← hb1] at hR
  have o9 := o_X hE hb1
  have o0 := o_B hE hb
  have o8 := o_I hE hb
  have o1 := o_L hE hb
  have o5 := o_P hE
  have o10 := o_M hE
  have m10 := m_M hE
  have m9 : ∀ S, misc (hp E S 0) 9 = true := fun S => misc_o o9
  have m0 : ∀ S, misc (hp E S b) 0 = true := fun S => misc_o o0
  have m8 : ∀ S, misc (hp E S (b + 13)) 8 = true := fun S => misc_o o8
  have m1 : ∀ S, misc (hp E S (b + 22)) 1 = true := fun S => misc_o o1
  have m5 : ∀ S, misc (hp E S 79) 5 = true := fun S => misc_o o5
  obtain ⟨n1, n14, n16, n18, n20, n22, n3, n5, n7⟩ := rl_okm hR
  obtain ⟨⟨g1, g3, g5, g7, g14, g16, g18, g20, g22, gt, gw⟩, hH, hP⟩ := rl_okh hR
  have ht := rl_tod hR
  rcases ixc (n := z 7) c (by omega) with hx | ⟨k, hk, rfl, hx⟩
  · refine op_v h (-1000000001) (fun d => ?_) (fun d => ?_)
    · simp only [ment, mfl, List.length, List.replicate, List.cons_append, List.nil_append, Nat.reduceAdd, Nat.reduceSub]; simp only [r_al0 c_X_unwind_0, r_an0 c_X_unwind_0, r_gfSr c_X_unwind_1 o9 rfl, r_gfSr c_X_unwind_4 o0 rfl, r_il1 c_X_unwind_7, r_cv2 c_X_unwind_8, r_ifne c_X_unwind_11, r_ci c_X_unwind_14, r_iret c_X_unwind_16, r_al0 c_X_unwind_17, r_an0 c_X_unwind_17, r_gfSr c_X_unwind_18 o9 rfl, r_il1 c_X_unwind_21, r_cv2 c_X_unwind_22, r_ifne c_X_unwind_25, r_ci c_X_unwind_28, r_iret c_X_unwind_30, r_al0 c_X_unwind_31, r_an0 c_X_unwind_31, r_gfSr c_X_unwind_32 o9 rfl, r_il1 c_X_unwind_35, r_cv2 c_X_unwind_36, r_ifeq c_X_unwind_39, r_ci c_X_unwind_42, r_goto c_X_unwind_43, r_ci c_X_unwind_46, r_is2 c_X_unwind_47, r_il2 c_X_unwind_48, r_ifne c_X_unwind_49, r_al0 c_X_unwind_52, r_an0 c_X_unwind_52, r_gfSr c_X_unwind_53 o9 rfl, r_gfSr c_X_unwind_56 o0 rfl, r_gfSr c_X_unwind_59 o8 rfl, r_cv1 c_X_unwind_62, r_ifeq c_X_unwind_65, r_ci c_X_unwind_68, r_iret c_X_unwind_70, r_al0 c_X_unwind_71, r_an0 c_X_unwind_71, r_gfSr c_X_unwind_72 o9 rfl, r_il1 c_X_unwind_75, r_il2 c_X_unwind_76, r_cv3 c_X_unwind_77, r_il2 c_X_unwind_80, r_ifeq c_X_unwind_81, r_ci c_X_unwind_84, r_goto c_X_unwind_85, r_ci c_X_unwind_88, r_iret c_X_unwind_89, ↓reduceIte, hs_h, Option.bind_some, mfix_i, mfix_r, mfix_n, mfix_a, Option.toList_some, Option.toList_none, List.cons_append, List.nil_append, List.singleton_append, mwt, Value.category, Nat.reduceAdd, Nat.reduceLeDiff, true_and, and_true, and_self, misc_w (w_7 hE hb), has_7 hE hb, g7.1, hx, if_true]
    · simp only [ment, mfl, List.length, List.replicate, List.cons_append, List.nil_append, Nat.reduceAdd, Nat.reduceSub]; simp only [r_al0 c_M_unwind_0, r_il1 c_M_unwind_1, r_ci c_M_unwind_2, r_cv3 c_M_unwind_4, r_ifne c_M_unwind_7, r_ci c_M_unwind_10, r_iret c_M_unwind_12, ↓reduceIte, hs_h, Option.bind_some, mfix_i, mfix_r, mfix_n, mfix_a, Option.toList_some, Option.toList_none, List.cons_append, List.nil_append, List.singleton_append, mwt, Value.category, Nat.reduceAdd, Nat.reduceLeDiff, true_and, and_true, and_self, m10, mt10 hE, n7.1, th_eq (show z 7 < 2 ^ 31 by omega), hx, if_true]
  have m7' := fun S => misc_w (S := S) (w_7 hE hb)
  have m16 := fun S => misc_w (S := S) (w_16 hE hb)
  have hz7 := n7.2
  have hj := (rl_unq hR).1 k hk
  have j12 := (hH k hk).2
  have rc : ∀ d, mres cT 203 d 0 (ment 4 [.ref b, .int (nI k)]) [] (hs E S) = some (some (.int (cuS S b (z 7) k hc)), hs E S) := fun d => B_canUnwind_ok hE hb g7.1 g7.2 hH hk
  rw [cu_S hk (hH k hk).1] at rc
  by_cases hl : llq (iA S (b + 8)) (nI (hc k)) (z 7) = some k ∧ iA S (b + 2) (hc k * 6 + 3) = 1
  · rw [if_pos hl] at rc
    obtain ⟨hl, hs1⟩ := hl
    obtain ⟨V, eV, rV⟩ := B_unwindRule_ok (k := k) hE hb ⟨g1, g3, g5, g7, g14, g16, g18, g20, g22, gt, gw⟩ hH hk
    have cV : ∀ q, q ≠ 25 → q ≠ 26 → V q = S q := fun q h1 h2 => eV q (by omega) (by omega)
    have hRV : Rel E V b z t hc pk td (18 * td) (iA S 94) := Rel_cells hb (fun q hq => eV q (by omega) (by omega)) (Nat.le_refl _) hR
    obtain ⟨v1, v2, v3, v4, v5, v6, v7, v8, v9, v10, v11⟩ := (rl_okh hRV).1
    have hHV := (rl_okh hRV).2.1
    obtain ⟨s, l1, l2, l3⟩ := rl_lat hR (hc k) hj
    have q5 : iA S (b + 17) (s * 3 + 2) ≠ 2147483647 := l3.resolve_left (by rw [hs1]; decide)
    have e17 : iA (udA V b k (hc k)) (b + 17) = iA S (b + 17) := by rw [iA, ud_o (by omega) (by omega), cV _ (by omega) (by omega)]
    have hR1 := Rel_in hb (Rel_void hb hRV hk) hj
    rw [iA_sA_ne (show b + 2 ≠ b + 8 by omega)] at hR1
    have hR1 : Rel E (udA V b k (hc k)) b z t hc pk td (18 * td) (upd (upd (iA S 94) (670 + 6 * k + 2) 3) (20 + 6 * hc k + 3) 0) := hR1
    have hin : iA (udA V b k (hc k)) (b + 2) (hc k * 6 + 3) = 0 := by rw [udA, iA_sA, pk_us]
    have f4 : upd (upd (iA S 94) (670 + 6 * k + 2) 3) (20 + 6 * hc k + 3) 0 4 = nI (z 16) := by rw [pk_un (by omega), pk_un (by omega)]; exact n16.1
    have f0 : upd (upd (iA S 94) (670 + 6 * k + 2) 3) (20 + 6 * hc k + 3) 0 0 = nI td := by rw [pk_un (by omega), pk_un (by omega)]; exact ht.2.2
    by_cases u0 : uwS S b z t k (hc k) = 0
    · by_cases q : z 16 = 30
      · have q1 : nI 30 ≤ nI (z 16) := (fullS n16.2 (by omega)).mpr q
        have q2 : nI (z 16) = 30 := by rw [q]; rfl
        obtain ⟨W, eW, rW⟩ := M_unw_3 (S := V) hE (show Rel E S b z t hc pk td (18 * td) (iA V 94) by rw [iA, cV 94 (by omega) (by omega)]; exact hR) hk hl hs1
        refine ⟨-1000000003, V, W, fun d _ => ?_, fun d _ => ?_, Inv_q h (hb1 ▸ eV) eW⟩
        · simp only [ment, mfl, List.length, List.replicate, List.cons_append, List.nil_append, Nat.reduceAdd, Nat.reduceSub]; simp only [r_al0 c_X_unwind_0, r_an0 c_X_unwind_0, r_gfSr c_X_unwind_1 o9 rfl, r_gfSr c_X_unwind_4 o0 rfl, r_il1 c_X_unwind_7, r_cv2 c_X_unwind_8, r_ifne c_X_unwind_11, r_ci c_X_unwind_14, r_iret c_X_unwind_16, r_al0 c_X_unwind_17, r_an0 c_X_unwind_17, r_gfSr c_X_unwind_18 o9 rfl, r_il1 c_X_unwind_21, r_cv2 c_X_unwind_22, r_ifne c_X_unwind_25, r_ci c_X_unwind_28, r_iret c_X_unwind_30, r_al0 c_X_unwind_31, r_an0 c_X_unwind_31, r_gfSr c_X_unwind_32 o9 rfl, r_il1 c_X_unwind_35, r_cv2 c_X_unwind_36, r_ifeq c_X_unwind_39, r_ci c_X_unwind_42, r_goto c_X_unwind_43, r_ci c_X_unwind_46, r_is2 c_X_unwind_47, r_il2 c_X_unwind_48, r_ifne c_X_unwind_49, r_al0 c_X_unwind_52, r_an0 c_X_unwind_52, r_gfSr c_X_unwind_53 o9 rfl, r_gfSr c_X_unwind_56 o0 rfl, r_gfSr c_X_unwind_59 o8 rfl, r_cv1 c_X_unwind_62, r_ifeq c_X_unwind_65, r_ci c_X_unwind_68, r_iret c_X_unwind_70, r_al0 c_X_unwind_71, r_an0 c_X_unwind_71, r_gfSr c_X_unwind_72 o9 rfl, r_il1 c_X_unwind_75, r_il2 c_X_unwind_76, r_cv3 c_X_unwind_77, r_il2 c_X_unwind_80, r_ifeq c_X_unwind_81, r_ci c_X_unwind_84, r_goto c_X_unwind_85, r_ci c_X_unwind_88, r_iret c_X_unwind_89, ↓reduceIte, hs_h, Option.bind_some, mfix_i, mfix_r, mfix_n, mfix_a, Option.toList_some, Option.toList_none, List.cons_append, List.nil_append, List.singleton_append, mwt, Value.category, Nat.reduceAdd, Nat.reduceLeDiff, true_and, and_true, and_self, m7', has_7 hE hb, g7.1, hx, if_false, one_nz, m0, rc, rV, u0, if_true, m16, full_16 hE hb, v6.1, q1]
        · have w4 : iA W 94 4 = nI (z 16) := by rw [eqM_94 eW, iA, cV 94 (by omega) (by omega)]; exact n16.1
          rw [rW, u0, if_pos rfl]
          simp only [r_il4 c_M_unwind_143, r_ifne c_M_unwind_145, r_al0 c_M_unwind_148, r_gfSr c_M_unwind_149 o10 rfl, r_ci c_M_unwind_152, r_ial c_M_unwind_153, r_ci c_M_unwind_154, r_icne c_M_unwind_156, r_ci c_M_unwind_159, r_iret c_M_unwind_161, ↓reduceIte, hs_h, Option.bind_some, mfix_i, mfix_r, mfix_n, mfix_a, Option.toList_some, Option.toList_none, List.cons_append, List.nil_append, List.singleton_append, mwt, Value.category, Nat.reduceAdd, Nat.reduceLeDiff, true_and, and_true, and_self, if_true, mn4 hE, w4, q2]
      · have qz : z 16 < 30 := by have := n16.2; omega
        have q1 : ¬ nI 30 ≤ nI (z 16) := fun e => q ((fullS n16.2 (by omega)).mp e)
        have q2 : ¬ nI (z 16) = 30 := fun e => q ((nI_eq (b := 30) (by omega) (by omega)).mp e)
        have hae := all_end hR l1 (by omega) q5
        have hR2 := Rel_begin hb hR1 hj qz hin (by rw [e17]; exact hae)
        rw [e17] at hR2
        have ru := fun d => B_undo_0 (d := d) hE hb ⟨v1, v2, v3, v4, v5, v6, v7, v8, v9, v10, v11⟩ hHV hk qz
        rw [e17, (rl_tod hRV).1] at ru
        obtain ⟨U, hU⟩ : ∃ U, adR (udA V b k (hc k)) b 16 (z 16) (rowSet (iA S (b + 17)) (z 16 * 3) 3 [nI (hc k), nI td, 2147483647, 0]) = U := ⟨_, rfl⟩
        have ru : ∀ d, mres cT 206 d 0 (ment 4 [.ref b, .int (nI k), .int 0]) [] (hs E V) = some (none, hs E U) := fun d => by rw [← hU]; exact ru d
        rw [hU] at hR2
        have cU : ∀ q, (q = 0 ∨ 27 ≤ q ∨ q = 24) → U q = S q := fun q hq => by
          rw [← hU, ad_o (by omega) (by omega), ud_o (by omega) (by omega), cV _ (by omega) (by omega)]
        have u94 : iA U 94 = iA S 94 := by rw [iA, cU 94 (by omega)]
        obtain ⟨W, eW, rW⟩ := M_unw_3 (S := U) hE (show Rel E S b z t hc pk td (18 * td) (iA U 94) by rw [u94]; exact hR) hk hl hs1
        have w94 : iA W 94 = iA S 94 := (eqM_94 eW).trans u94
        have mb := fun d => M_begins_ok (d := d) (S := sA W 94 (upd (upd (iA S 94) (670 + 6 * k + 2) 3) (20 + 6 * hc k + 3) 0)) hE j12 (by rw [i94]; exact f4) qz
        rw [i94, f0, sA_sA] at mb
        refine ⟨0, U, _, fun d _ => ?_, fun d _ => ?_, Inv_u h hb1 cU eW htd hR2⟩
        · simp only [ment, mfl, List.length, List.replicate, List.cons_append, List.nil_append, Nat.reduceAdd, Nat.reduceSub]; simp only [r_al0 c_X_unwind_0, r_an0 c_X_unwind_0, r_gfSr c_X_unwind_1 o9 rfl, r_gfSr c_X_unwind_4 o0 rfl, r_il1 c_X_unwind_7, r_cv2 c_X_unwind_8, r_ifne c_X_unwind_11, r_ci c_X_unwind_14, r_iret c_X_unwind_16, r_al0 c_X_unwind_17, r_an0 c_X_unwind_17, r_gfSr c_X_unwind_18 o9 rfl, r_il1 c_X_unwind_21, r_cv2 c_X_unwind_22, r_ifne c_X_unwind_25, r_ci c_X_unwind_28, r_iret c_X_unwind_30, r_al0 c_X_unwind_31, r_an0 c_X_unwind_31, r_gfSr c_X_unwind_32 o9 rfl, r_il1 c_X_unwind_35, r_cv2 c_X_unwind_36, r_ifeq c_X_unwind_39, r_ci c_X_unwind_42, r_goto c_X_unwind_43, r_ci c_X_unwind_46, r_is2 c_X_unwind_47, r_il2 c_X_unwind_48, r_ifne c_X_unwind_49, r_al0 c_X_unwind_52, r_an0 c_X_unwind_52, r_gfSr c_X_unwind_53 o9 rfl, r_gfSr c_X_unwind_56 o0 rfl, r_gfSr c_X_unwind_59 o8 rfl, r_cv1 c_X_unwind_62, r_ifeq c_X_unwind_65, r_ci c_X_unwind_68, r_iret c_X_unwind_70, r_al0 c_X_unwind_71, r_an0 c_X_unwind_71, r_gfSr c_X_unwind_72 o9 rfl, r_il1 c_X_unwind_75, r_il2 c_X_unwind_76, r_cv3 c_X_unwind_77, r_il2 c_X_unwind_80, r_ifeq c_X_unwind_81, r_ci c_X_unwind_84, r_goto c_X_unwind_85, r_ci c_X_unwind_88, r_iret c_X_unwind_89, ↓reduceIte, hs_h, Option.bind_some, mfix_i, mfix_r, mfix_n, mfix_a, Option.toList_some, Option.toList_none, List.cons_append, List.nil_append, List.singleton_append, mwt, Value.category, Nat.reduceAdd, Nat.reduceLeDiff, true_and, and_true, and_self, m7', has_7 hE hb, g7.1, hx, if_false, one_nz, m0, rc, rV, u0, if_true, m16, full_16 hE hb, v6.1, q1, ru]
        · rw [rW, u0, if_pos rfl]
          simp only [r_il4 c_M_unwind_143, r_ifne c_M_unwind_145, r_al0 c_M_unwind_148, r_gfSr c_M_unwind_149 o10 rfl, r_ci c_M_unwind_152, r_ial c_M_unwind_153, r_ci c_M_unwind_154, r_icne c_M_unwind_156, r_ci c_M_unwind_159, r_iret c_M_unwind_161, r_al0 c_M_unwind_162, r_gfSr c_M_unwind_163 o10 rfl, r_il1 c_M_unwind_166, r_ci c_M_unwind_167, r_ca2 c_M_unwind_168, r_ci c_M_unwind_171, r_ias c_M_unwind_172, r_al0 c_M_unwind_173, r_il2 c_M_unwind_174, r_ci c_M_unwind_175, r_ci c_M_unwind_176, r_cv4 c_M_unwind_177, r_il4 c_M_unwind_180, r_ifne c_M_unwind_182, r_al0 c_M_unwind_185, r_il2 c_M_unwind_186, r_cv2 c_M_unwind_187, r_ci c_M_unwind_190, r_iret c_M_unwind_191, ↓reduceIte, hs_h, Option.bind_some, mfix_i, mfix_r, mfix_n, mfix_a, Option.toList_some, Option.toList_none, List.cons_append, List.nil_append, List.singleton_append, mwt, Value.category, Nat.reduceAdd, Nat.reduceLeDiff, true_and, and_true, and_self, m10, if_true, if_false, mn4 hE, w94, n16.1, q2, oh2, mis_94 hE (show 670 + 6 * k + 2 < 2578 by omega), hs_94 hE, i94, be3 hE j12, sA_sA, mb]
    · have hR2 := Rel_reopen hb hR1 hj (by rw [e17]; exact l1) hin
      rw [e17] at hR2
      have ru := fun d => B_undo_1 (d := d) hE hb ⟨v1, v2, v3, v4, v5, v6, v7, v8, v9, v10, v11⟩ hHV hk
      rw [reS, e17, l1] at ru
      obtain ⟨U, hU⟩ : ∃ U, sA (udA V b k (hc k)) (b + 17) (upd (iA S (b + 17)) (s * 3 + 2) 2147483647) = U := ⟨_, rfl⟩
      have ru : ∀ d, mres cT 206 d 0 (ment 4 [.ref b, .int (nI k), .int 1]) [] (hs E V) = some (none, hs E U) := fun d => by rw [← hU]; exact ru d
      rw [hU] at hR2
      have cU : ∀ q, (q = 0 ∨ 27 ≤ q ∨ q = 24) → U q = S q := fun q hq => by
        rw [← hU, sA, va_up, if_neg (by omega), ud_o (by omega) (by omega), cV _ (by omega) (by omega)]
      have u94 : iA U 94 = iA S 94 := by rw [iA, cU 94 (by omega)]
      obtain ⟨W, eW, rW⟩ := M_unw_3 (S := U) hE (show Rel E S b z t hc pk td (18 * td) (iA U 94) by rw [u94]; exact hR) hk hl hs1
      have w94 : iA W 94 = iA S 94 := (eqM_94 eW).trans u94
      obtain ⟨f2, hf2⟩ : ∃ f2, upd (upd (iA S 94) (670 + 6 * k + 2) 3) (20 + 6 * hc k + 3) 0 = f2 := ⟨_, rfl⟩
      rw [hf2] at f4 f0 hR2
      have s3 := (lsq_lt l1).1
      have fs : ∀ i, i < z 16 → f2 (164 + 3 * i) = iA S (b + 17) (i * 3) := fun i hi => by
        have := n16.2
        rw [← hf2, pk_un (by omega), pk_un (by omega), (rl_sps hR i hi).1, ((rl_spg hR).1 i hi).1]
      have lp := fun d => M_unw_2 (d := d) (S := W) (x := nI k) (y := nI k) (w := 1) (A := iA S (b + 17)) hE f4 n16.2 fs j12 (z 16) 0 (by omega)
      have c0 : clF (iA S (b + 17)) f2 (hc k) 0 = f2 := rfl
      have cn : clF (iA S (b + 17)) f2 (hc k) (z 16) = upd f2 (20 + 6 * hc k + 5) (nI s) := by rw [clF, l1]
      rw [c0, cn, nI_0] at lp
      have s30 : s < 30 := by have := n16.2; omega
      have c5 : upd f2 (20 + 6 * hc k + 5) (nI s) (20 + 6 * hc k + 5) = nI s := pk_us
      refine ⟨1, U, _, fun d _ => ?_, fun d _ => ?_, Inv_u h hb1 cU eW htd hR2⟩
      · simp only [ment, mfl, List.length, List.replicate, List.cons_append, List.nil_append, Nat.reduceAdd, Nat.reduceSub]; simp only [r_al0 c_X_unwind_0, r_an0 c_X_unwind_0, r_gfSr c_X_unwind_1 o9 rfl, r_gfSr c_X_unwind_4 o0 rfl, r_il1 c_X_unwind_7, r_cv2 c_X_unwind_8, r_ifne c_X_unwind_11, r_ci c_X_unwind_14, r_iret c_X_unwind_16, r_al0 c_X_unwind_17, r_an0 c_X_unwind_17, r_gfSr c_X_unwind_18 o9 rfl, r_il1 c_X_unwind_21, r_cv2 c_X_unwind_22, r_ifne c_X_unwind_25, r_ci c_X_unwind_28, r_iret c_X_unwind_30, r_al0 c_X_unwind_31, r_an0 c_X_unwind_31, r_gfSr c_X_unwind_32 o9 rfl, r_il1 c_X_unwind_35, r_cv2 c_X_unwind_36, r_ifeq c_X_unwind_39, r_ci c_X_unwind_42, r_goto c_X_unwind_43, r_ci c_X_unwind_46, r_is2 c_X_unwind_47, r_il2 c_X_unwind_48, r_ifne c_X_unwind_49, r_al0 c_X_unwind_52, r_an0 c_X_unwind_52, r_gfSr c_X_unwind_53 o9 rfl, r_gfSr c_X_unwind_56 o0 rfl, r_gfSr c_X_unwind_59 o8 rfl, r_cv1 c_X_unwind_62, r_ifeq c_X_unwind_65, r_ci c_X_unwind_68, r_iret c_X_unwind_70, r_al0 c_X_unwind_71, r_an0 c_X_unwind_71, r_gfSr c_X_unwind_72 o9 rfl, r_il1 c_X_unwind_75, r_il2 c_X_unwind_76, r_cv3 c_X_unwind_77, r_il2 c_X_unwind_80, r_ifeq c_X_unwind_81, r_ci c_X_unwind_84, r_goto c_X_unwind_85, r_ci c_X_unwind_88, r_iret c_X_unwind_89, ↓reduceIte, hs_h, Option.bind_some, mfix_i, mfix_r, mfix_n, mfix_a, Option.toList_some, Option.toList_none, List.cons_append, List.nil_append, List.singleton_append, mwt, Value.category, Nat.reduceAdd, Nat.reduceLeDiff, true_and, and_true, and_self, m7', has_7 hE hb, g7.1, hx, if_false, one_nz, m0, rc, rV, u0, ru]
      · rw [rW, if_neg u0]
        simp only [r_il4 c_M_unwind_143, r_ifne c_M_unwind_145, r_al0 c_M_unwind_148, r_gfSr c_M_unwind_149 o10 rfl, r_ci c_M_unwind_152, r_ial c_M_unwind_153, r_ci c_M_unwind_154, r_icne c_M_unwind_156, r_ci c_M_unwind_159, r_iret c_M_unwind_161, r_al0 c_M_unwind_162, r_gfSr c_M_unwind_163 o10 rfl, r_il1 c_M_unwind_166, r_ci c_M_unwind_167, r_ca2 c_M_unwind_168, r_ci c_M_unwind_171, r_ias c_M_unwind_172, r_al0 c_M_unwind_173, r_il2 c_M_unwind_174, r_ci c_M_unwind_175, r_ci c_M_unwind_176, r_cv4 c_M_unwind_177, r_il4 c_M_unwind_180, r_ifne c_M_unwind_182, r_al0 c_M_unwind_185, r_il2 c_M_unwind_186, r_cv2 c_M_unwind_187, r_ci c_M_unwind_190, r_iret c_M_unwind_191, r_ci c_M_unwind_192, r_is5 c_M_unwind_193, ↓reduceIte, hs_h, Option.bind_some, mfix_i, mfix_r, mfix_n, mfix_a, Option.toList_some, Option.toList_none, List.cons_append, List.nil_append, List.singleton_append, mwt, Value.category, Nat.reduceAdd, Nat.reduceLeDiff, true_and, and_true, and_self, m10, one_nz, if_false, w94, oh2, mis_94 hE (show 670 + 6 * k + 2 < 2578 by omega), hs_94 hE, i94, be3 hE j12, sA_sA, hf2, lp]
        simp only [r_al0 c_M_unwind_237, r_gfSr c_M_unwind_238 o10 rfl, r_ci c_M_unwind_241, r_ci c_M_unwind_244, r_al0 c_M_unwind_245, r_il2 c_M_unwind_246, r_ci c_M_unwind_247, r_cv3 c_M_unwind_248, r_imul c_M_unwind_251, r_iadd c_M_unwind_252, r_ci c_M_unwind_253, r_iadd c_M_unwind_254, r_ci c_M_unwind_255, r_ias c_M_unwind_256, r_ci c_M_unwind_257, r_iret c_M_unwind_258, ↓reduceIte, hs_h, Option.bind_some, mfix_i, mfix_r, mfix_n, mfix_a, Option.toList_some, Option.toList_none, List.cons_append, List.nil_append, List.singleton_append, mwt, Value.category, Nat.reduceAdd, Nat.reduceLeDiff, true_and, and_true, and_self, km2, km3, km4, km6, km104, km24, ka20, ka92, ka164, ka254, ka314, ka474, ka634, ka670, ka850, ka890, ka914, ka12, kr2, kr3, kr4, kr5, nI_1, nI_add, m10, oc5 hE j12, i94, c5, mis_94 hE (show 164 + 3 * s + 2 < 2578 by omega), hs_94 hE, sA_sA, roF]
  · rw [if_neg hl] at rc
    have l0 := fun d => M_unw_1 (d := d) (x := nI k) hE hR j12 (z 7) 0 (by omega)
    have a0 : iA S 94 (670 + 6 * k) = nI (hc k) := (rl_hea hR k hk 0 (by omega)).trans (hH k hk).1
    have c3 : iA S 94 (20 + 6 * hc k + 3) = iA S (b + 2) (hc k * 6 + 3) := rl_c0 hR hj (c := 3) (by omega)
    have l0 : ∀ d, mres cT 208 d 29 [.ref 93, .int (nI k), .int (nI (hc k)), .int (-1), .int 0, .retAddr 0] [] (hs E S) = mres cT 208 d 84 [.ref 93, .int (nI k), .int (nI (hc k)), .int (cdF (llq (iA S (b + 8)) (nI (hc k)) (z 7))), .int (nI (z 7)), .retAddr 0] [] (hs E S) := l0
    refine op_v h (-1000000002) (fun d => ?_) (fun d => ?_)
    · simp only [ment, mfl, List.length, List.replicate, List.cons_append, List.nil_append, Nat.reduceAdd, Nat.reduceSub]; simp only [r_al0 c_X_unwind_0, r_an0 c_X_unwind_0, r_gfSr c_X_unwind_1 o9 rfl, r_gfSr c_X_unwind_4 o0 rfl, r_il1 c_X_unwind_7, r_cv2 c_X_unwind_8, r_ifne c_X_unwind_11, r_ci c_X_unwind_14, r_iret c_X_unwind_16, r_al0 c_X_unwind_17, r_an0 c_X_unwind_17, r_gfSr c_X_unwind_18 o9 rfl, r_il1 c_X_unwind_21, r_cv2 c_X_unwind_22, r_ifne c_X_unwind_25, r_ci c_X_unwind_28, r_iret c_X_unwind_30, r_al0 c_X_unwind_31, r_an0 c_X_unwind_31, r_gfSr c_X_unwind_32 o9 rfl, r_il1 c_X_unwind_35, r_cv2 c_X_unwind_36, r_ifeq c_X_unwind_39, r_ci c_X_unwind_42, r_goto c_X_unwind_43, r_ci c_X_unwind_46, r_is2 c_X_unwind_47, r_il2 c_X_unwind_48, r_ifne c_X_unwind_49, r_al0 c_X_unwind_52, r_an0 c_X_unwind_52, r_gfSr c_X_unwind_53 o9 rfl, r_gfSr c_X_unwind_56 o0 rfl, r_gfSr c_X_unwind_59 o8 rfl, r_cv1 c_X_unwind_62, r_ifeq c_X_unwind_65, r_ci c_X_unwind_68, r_iret c_X_unwind_70, r_al0 c_X_unwind_71, r_an0 c_X_unwind_71, r_gfSr c_X_unwind_72 o9 rfl, r_il1 c_X_unwind_75, r_il2 c_X_unwind_76, r_cv3 c_X_unwind_77, r_il2 c_X_unwind_80, r_ifeq c_X_unwind_81, r_ci c_X_unwind_84, r_goto c_X_unwind_85, r_ci c_X_unwind_88, r_iret c_X_unwind_89, ↓reduceIte, hs_h, Option.bind_some, mfix_i, mfix_r, mfix_n, mfix_a, Option.toList_some, Option.toList_none, List.cons_append, List.nil_append, List.singleton_append, mwt, Value.category, Nat.reduceAdd, Nat.reduceLeDiff, true_and, and_true, and_self, m7', has_7 hE hb, g7.1, hx, if_false, one_nz, m0, rc, if_true]
    · simp only [ment, mfl, List.length, List.replicate, List.cons_append, List.nil_append, Nat.reduceAdd, Nat.reduceSub]
      simp only [r_al0 c_M_unwind_0, r_il1 c_M_unwind_1, r_ci c_M_unwind_2, r_cv3 c_M_unwind_4, r_ifne c_M_unwind_7, r_ci c_M_unwind_10, r_iret c_M_unwind_12, r_al0 c_M_unwind_13, r_gfSr c_M_unwind_14 o10 rfl, r_il1 c_M_unwind_17, r_ci c_M_unwind_18, r_ca2 c_M_unwind_19, r_ial c_M_unwind_22, r_is2 c_M_unwind_23, r_ci c_M_unwind_24, r_is3 c_M_unwind_25, r_ci c_M_unwind_26, r_is4 c_M_unwind_27, ↓reduceIte, hs_h, Option.bind_some, mfix_i, mfix_r, mfix_n, mfix_a, Option.toList_some, Option.toList_none, List.cons_append, List.nil_append, List.singleton_append, mwt, Value.category, Nat.reduceAdd, Nat.reduceLeDiff, true_and, and_true, and_self, m10, mt10 hE, n7.1, th_eq (show z 7 < 2 ^ 31 by omega), hx, if_false, one_nz, oh0, mia_94 hE (show 670 + 6 * k < 2578 by omega), a0, l0]
      by_cases e1 : llq (iA S (b + 8)) (nI (hc k)) (z 7) = some k
      · have e2 : ¬ iA S (b + 2) (hc k * 6 + 3) = 1 := fun e => hl ⟨e1, e⟩
        simp only [r_il3 c_M_unwind_84, r_il1 c_M_unwind_85, r_icne c_M_unwind_86, r_al0 c_M_unwind_89, r_il2 c_M_unwind_90, r_ci c_M_unwind_91, r_cv3 c_M_unwind_92, r_ci c_M_unwind_95, r_iceq c_M_unwind_96, r_ci c_M_unwind_99, r_iret c_M_unwind_101, ↓reduceIte, hs_h, Option.bind_some, mfix_i, mfix_r, mfix_n, mfix_a, Option.toList_some, Option.toList_none, List.cons_append, List.nil_append, List.singleton_append, mwt, Value.category, Nat.reduceAdd, Nat.reduceLeDiff, true_and, and_true, and_self, m10, e1, cdF, if_true, oc3 hE j12, c3, e2, if_false]
      · have e3 : ¬ cdF (llq (iA S (b + 8)) (nI (hc k)) (z 7)) = nI k := fun e => e1 ((cd_eq (by omega) (fun s hs => by have := llq_lt hs; omega)).mp e)
        simp only [r_il3 c_M_unwind_84, r_il1 c_M_unwind_85, r_icne c_M_unwind_86, r_al0 c_M_unwind_89, r_il2 c_M_unwind_90, r_ci c_M_unwind_91, r_cv3 c_M_unwind_92, r_ci c_M_unwind_95, r_iceq c_M_unwind_96, r_ci c_M_unwind_99, r_iret c_M_unwind_101, ↓reduceIte, hs_h, Option.bind_some, mfix_i, mfix_r, mfix_n, mfix_a, Option.toList_some, Option.toList_none, List.cons_append, List.nil_append, List.singleton_append, mwt, Value.category, Nat.reduceAdd, Nat.reduceLeDiff, true_and, and_true, and_self, m10, e3, if_false]
end UNWQ
