/-! the model tells what the books tell: notices, causes, risks -/
section MCAUSE
variable {E : EE} {R S S1 : SS} {b d k n D td kd w B : Nat} {z t hc pk : Nat → Nat} {c : Int32}
theorem M_hasNotice_R (hE : okE E) (h : Rel E R b z t hc pk td B (iA S 94)) (hk : k < z 1) : ∃ S2, eqM S S2 ∧ ∀ d, mres cT 195 d 0 (ment 6 [.ref 93, .int (nI k)]) [] (hs E S) = some (some (.int (hnS R b z t pk k)), hs E S2) := by
  have o10 := o_M hE
  have m10 := m_M hE
  have k12 : k < 12 := Nat.lt_of_lt_of_le hk (rl_okm h).1.2
  have c0 : iA S 94 (20 + 6 * k + 0) = iA R (b + 2) (k * 6) := rl_c0 h hk (c := 0) (by omega)
  have c4 : iA S 94 (20 + 6 * k + 4) = iA R (b + 2) (k * 6 + 4) := rl_c0 h hk (c := 4) (by omega)
  obtain ⟨S2, e2, r2⟩ := M_rule_R (fo := iA R (b + 2) (k * 6)) (fk := 1) (x0 := iA R (b + 2) (k * 6 + 4)) (x1 := 0) (x2 := 0) (x3 := 0) hE h (Or.inr (Or.inl rfl))
  have r2 : ∀ d, mres cT 91 d 0 (ment 12 [.ref 93, .int (iA R (b + 2) (k * 6)), .int 1, .int (iA R (b + 2) (k * 6 + 4)), .int 0, .int 0, .int 0]) [] (hs E S) = some (some (.int (ahS R b z t k)), hs E S2) := r2
  refine ⟨S2, e2, fun d => ?_⟩
  have h2 : Rel E R b z t hc pk td B (iA S2 94) := by rw [eqM_94 e2]; exact h
  have h8 := (rl_okm h2).2.2.2.2.2.2.1
  have ht := rl_tod h2
  have hP := (rl_okh h2).2.2
  have lp : ∀ m i s w5, (s = 0 ∨ s = 1) → i + m = z 3 → mres cT 195 d 26 [.ref 93, .int (nI k), .int (ahS R b z t k), .int s, .int (nI i), w5] [] (hs E S2) = some (some (.int (if s = 0 then hnF (iA R (b + 4)) pk (nI k) (iF R b 8) (ahS R b z t k) i m else 1)), hs E S2) := by
    intro m
    induction m with
    | zero =>
      intro i s w5 h01 hi
      have h1 : nI (z 3) ≤ nI i := nI_le (by omega) (by omega)
      rcases h01 with rfl | rfl
      · simp only [r_il4 c_M_hasNotice_26, r_al0 c_M_hasNotice_28, r_gfSr c_M_hasNotice_29 o10 rfl, r_ci c_M_hasNotice_32, r_ial c_M_hasNotice_34, r_icge c_M_hasNotice_35, r_il3 c_M_hasNotice_126, r_zret c_M_hasNotice_127, ↓reduceIte, hs_h, Option.bind_some, mfix_i, mfix_r, mfix_n, mfix_a, Option.toList_some, Option.toList_none, List.cons_append, List.nil_append, List.singleton_append, mn8 hE, h8.1, h1, if_true, mz0, hnF]
      · simp only [r_il4 c_M_hasNotice_26, r_al0 c_M_hasNotice_28, r_gfSr c_M_hasNotice_29 o10 rfl, r_ci c_M_hasNotice_32, r_ial c_M_hasNotice_34, r_icge c_M_hasNotice_35, r_il3 c_M_hasNotice_126, r_zret c_M_hasNotice_127, ↓reduceIte, hs_h, Option.bind_some, mfix_i, mfix_r, mfix_n, mfix_a, Option.toList_some, Option.toList_none, List.cons_append, List.nil_append, List.singleton_append, mn8 hE, h8.1, h1, if_true, one_nz, if_false, mz1]
    | succ m ih =>
      intro i s w5 h01 hi
      have h1 : ¬ nI (z 3) ≤ nI i := nI_ge (by omega) (by omega)
      obtain ⟨p1, -⟩ := rl_pap h2 i (by omega)
      obtain ⟨q0, q5⟩ := hP i (by omega)
      have f0 : iA S2 94 (474 + 4 * i) = nI (pk i) := by rw [← q0]; exact p1 0 (by omega)
      have f1 : iA S2 94 (474 + 4 * i + 1) = iA R (b + 4) (i * 4 + 1) := p1 1 (by omega)
      have f2 : iA S2 94 (474 + 4 * i + 2) = iA R (b + 4) (i * 4 + 2) := p1 2 (by omega)
      have f3 : iA S2 94 (474 + 4 * i + 3) = iA R (b + 4) (i * 4 + 3) := p1 3 (by omega)
      have ft : iA S2 94 0 = iF R b 8 := by rw [ht.2.2, ht.1]
      have e3 : nI (pk i) = 3 ↔ pk i = 3 := nI_eq (b := 3) (by omega) (by omega)
      have ihn := fun s h01 w5 => ih (i + 1) s w5 h01 (by omega)
      have ih0 := ihn 0 (Or.inl rfl)
      have ih1 := ihn 1 (Or.inr rfl)
      simp only [if_true] at ih0
      simp only [one_nz, if_false] at ih1
      have u3 := ud3 (pk i) q5
      simp only [r_il4 c_M_hasNotice_26, r_al0 c_M_hasNotice_28, r_gfSr c_M_hasNotice_29 o10 rfl, r_ci c_M_hasNotice_32, r_ial c_M_hasNotice_34, r_icge c_M_hasNotice_35, ↓reduceIte, hs_h, Option.bind_some, mfix_i, mfix_r, mfix_n, mfix_a, Option.toList_some, Option.toList_none, List.cons_append, List.nil_append, List.singleton_append, mn8 hE, h8.1, h1, if_false]
      rcases h01 with rfl | rfl
      · rw [if_pos rfl, hnF]
        by_cases a0 : pk i = 3
        · rw [if_neg (fun h => (u3.mp h) a0)]
          by_cases a1 : iA R (b + 4) (i * 4 + 1) = nI k
          · by_cases a2 : iA R (b + 4) (i * 4 + 2) = iF R b 8
            · rw [if_pos a2, if_pos a1]
              by_cases a3 : iF R b 8 - iA R (b + 4) (i * 4 + 3) < ahS R b z t k
              · rw [if_pos a3]
                simp only [r_ci c_M_hasNotice_38, r_ci c_M_hasNotice_41, r_il4 c_M_hasNotice_42, r_imul c_M_hasNotice_44, r_iadd c_M_hasNotice_45, r_is5 c_M_hasNotice_46, r_il3 c_M_hasNotice_48, r_ifne c_M_hasNotice_49, r_al0 c_M_hasNotice_52, r_gfSr c_M_hasNotice_53 o10 rfl, r_il5 c_M_hasNotice_56, r_ial c_M_hasNotice_58, r_ci c_M_hasNotice_59, r_icne c_M_hasNotice_60, r_al0 c_M_hasNotice_63, r_gfSr c_M_hasNotice_64 o10 rfl, r_il5 c_M_hasNotice_67, r_ci c_M_hasNotice_69, r_iadd c_M_hasNotice_70, r_ial c_M_hasNotice_71, r_il1 c_M_hasNotice_72, r_icne c_M_hasNotice_73, r_al0 c_M_hasNotice_76, r_gfSr c_M_hasNotice_77 o10 rfl, r_il5 c_M_hasNotice_80, r_ci c_M_hasNotice_82, r_iadd c_M_hasNotice_83, r_ial c_M_hasNotice_84, r_al0 c_M_hasNotice_85, r_gfSr c_M_hasNotice_86 o10 rfl, r_ci c_M_hasNotice_89, r_ial c_M_hasNotice_90, r_icne c_M_hasNotice_91, r_al0 c_M_hasNotice_94, r_gfSr c_M_hasNotice_95 o10 rfl, r_ci c_M_hasNotice_98, r_ial c_M_hasNotice_99, r_al0 c_M_hasNotice_100, r_gfSr c_M_hasNotice_101 o10 rfl, r_il5 c_M_hasNotice_104, r_ci c_M_hasNotice_106, r_iadd c_M_hasNotice_107, r_ial c_M_hasNotice_108, r_isub c_M_hasNotice_109, r_il2 c_M_hasNotice_110, r_iclt c_M_hasNotice_111, r_ci c_M_hasNotice_114, r_goto c_M_hasNotice_115, r_ci c_M_hasNotice_118, r_is3 c_M_hasNotice_119, r_inc4 c_M_hasNotice_120, r_goto c_M_hasNotice_123, ↓reduceIte, hs_h, Option.bind_some, mfix_i, mfix_r, mfix_n, mfix_a, Option.toList_some, Option.toList_none, List.cons_append, List.nil_append, List.singleton_append, km2, km3, km4, km6, km104, km24, ka20, ka92, ka164, ka254, ka314, ka474, ka634, ka670, ka850, ka890, ka914, ka12, kr2, kr3, kr4, kr5, nI_1, nI_add, mia_94 hE (show 474 + 4 * i < 2578 by omega), mia_94 hE (show 474 + 4 * i + 1 < 2578 by omega), mia_94 hE (show 474 + 4 * i + 2 < 2578 by omega), mia_94 hE (show 474 + 4 * i + 3 < 2578 by omega), mn0 hE, f0, f1, f2, f3, ft, e3.mpr a0, a1, a2, a3, if_true, ih0]
              · rw [if_neg a3]
                simp only [r_ci c_M_hasNotice_38, r_ci c_M_hasNotice_41, r_il4 c_M_hasNotice_42, r_imul c_M_hasNotice_44, r_iadd c_M_hasNotice_45, r_is5 c_M_hasNotice_46, r_il3 c_M_hasNotice_48, r_ifne c_M_hasNotice_49, r_al0 c_M_hasNotice_52, r_gfSr c_M_hasNotice_53 o10 rfl, r_il5 c_M_hasNotice_56, r_ial c_M_hasNotice_58, r_ci c_M_hasNotice_59, r_icne c_M_hasNotice_60, r_al0 c_M_hasNotice_63, r_gfSr c_M_hasNotice_64 o10 rfl, r_il5 c_M_hasNotice_67, r_ci c_M_hasNotice_69, r_iadd c_M_hasNotice_70, r_ial c_M_hasNotice_71, r_il1 c_M_hasNotice_72, r_icne c_M_hasNotice_73, r_al0 c_M_hasNotice_76, r_gfSr c_M_hasNotice_77 o10 rfl, r_il5 c_M_hasNotice_80, r_ci c_M_hasNotice_82, r_iadd c_M_hasNotice_83, r_ial c_M_hasNotice_84, r_al0 c_M_hasNotice_85, r_gfSr c_M_hasNotice_86 o10 rfl, r_ci c_M_hasNotice_89, r_ial c_M_hasNotice_90, r_icne c_M_hasNotice_91, r_al0 c_M_hasNotice_94, r_gfSr c_M_hasNotice_95 o10 rfl, r_ci c_M_hasNotice_98, r_ial c_M_hasNotice_99, r_al0 c_M_hasNotice_100, r_gfSr c_M_hasNotice_101 o10 rfl, r_il5 c_M_hasNotice_104, r_ci c_M_hasNotice_106, r_iadd c_M_hasNotice_107, r_ial c_M_hasNotice_108, r_isub c_M_hasNotice_109, r_il2 c_M_hasNotice_110, r_iclt c_M_hasNotice_111, r_ci c_M_hasNotice_114, r_goto c_M_hasNotice_115, r_ci c_M_hasNotice_118, r_is3 c_M_hasNotice_119, r_inc4 c_M_hasNotice_120, r_goto c_M_hasNotice_123, ↓reduceIte, hs_h, Option.bind_some, mfix_i, mfix_r, mfix_n, mfix_a, Option.toList_some, Option.toList_none, List.cons_append, List.nil_append, List.singleton_append, km2, km3, km4, km6, km104, km24, ka20, ka92, ka164, ka254, ka314, ka474, ka634, ka670, ka850, ka890, ka914, ka12, kr2, kr3, kr4, kr5, nI_1, nI_add, mia_94 hE (show 474 + 4 * i < 2578 by omega), mia_94 hE (show 474 + 4 * i + 1 < 2578 by omega), mia_94 hE (show 474 + 4 * i + 2 < 2578 by omega), mia_94 hE (show 474 + 4 * i + 3 < 2578 by omega), mn0 hE, f0, f1, f2, f3, ft, e3.mpr a0, a1, a2, a3, if_true, if_false, ih1]
            · rw [if_neg a2]
              simp only [r_ci c_M_hasNotice_38, r_ci c_M_hasNotice_41, r_il4 c_M_hasNotice_42, r_imul c_M_hasNotice_44, r_iadd c_M_hasNotice_45, r_is5 c_M_hasNotice_46, r_il3 c_M_hasNotice_48, r_ifne c_M_hasNotice_49, r_al0 c_M_hasNotice_52, r_gfSr c_M_hasNotice_53 o10 rfl, r_il5 c_M_hasNotice_56, r_ial c_M_hasNotice_58, r_ci c_M_hasNotice_59, r_icne c_M_hasNotice_60, r_al0 c_M_hasNotice_63, r_gfSr c_M_hasNotice_64 o10 rfl, r_il5 c_M_hasNotice_67, r_ci c_M_hasNotice_69, r_iadd c_M_hasNotice_70, r_ial c_M_hasNotice_71, r_il1 c_M_hasNotice_72, r_icne c_M_hasNotice_73, r_al0 c_M_hasNotice_76, r_gfSr c_M_hasNotice_77 o10 rfl, r_il5 c_M_hasNotice_80, r_ci c_M_hasNotice_82, r_iadd c_M_hasNotice_83, r_ial c_M_hasNotice_84, r_al0 c_M_hasNotice_85, r_gfSr c_M_hasNotice_86 o10 rfl, r_ci c_M_hasNotice_89, r_ial c_M_hasNotice_90, r_icne c_M_hasNotice_91, r_al0 c_M_hasNotice_94, r_gfSr c_M_hasNotice_95 o10 rfl, r_ci c_M_hasNotice_98, r_ial c_M_hasNotice_99, r_al0 c_M_hasNotice_100, r_gfSr c_M_hasNotice_101 o10 rfl, r_il5 c_M_hasNotice_104, r_ci c_M_hasNotice_106, r_iadd c_M_hasNotice_107, r_ial c_M_hasNotice_108, r_isub c_M_hasNotice_109, r_il2 c_M_hasNotice_110, r_iclt c_M_hasNotice_111, r_ci c_M_hasNotice_114, r_goto c_M_hasNotice_115, r_ci c_M_hasNotice_118, r_is3 c_M_hasNotice_119, r_inc4 c_M_hasNotice_120, r_goto c_M_hasNotice_123, ↓reduceIte, hs_h, Option.bind_some, mfix_i, mfix_r, mfix_n, mfix_a, Option.toList_some, Option.toList_none, List.cons_append, List.nil_append, List.singleton_append, km2, km3, km4, km6, km104, km24, ka20, ka92, ka164, ka254, ka314, ka474, ka634, ka670, ka850, ka890, ka914, ka12, kr2, kr3, kr4, kr5, nI_1, nI_add, mia_94 hE (show 474 + 4 * i < 2578 by omega), mia_94 hE (show 474 + 4 * i + 1 < 2578 by omega), mia_94 hE (show 474 + 4 * i + 2 < 2578 by omega), mn0 hE, f0, f1, f2, ft, e3.mpr a0, a1, a2, if_true, if_false, ih0]
          · have e : (if iA R (b + 4) (i * 4 + 2) = iF R b 8 then if iA R (b + 4) (i * 4 + 1) = nI k then if iF R b 8 - iA R (b + 4) (i * 4 + 3) < ahS R b z t k then hnF (iA R (b + 4)) pk (nI k) (iF R b 8) (ahS R b z t k) (i + 1) m else 1 else hnF (iA R (b + 4)) pk (nI k) (iF R b 8) (ahS R b z t k) (i + 1) m else hnF (iA R (b + 4)) pk (nI k) (iF R b 8) (ahS R b z t k) (i + 1) m) = hnF (iA R (b + 4)) pk (nI k) (iF R b 8) (ahS R b z t k) (i + 1) m := by
              rw [if_neg a1, ite_self]
            rw [e]
            simp only [r_ci c_M_hasNotice_38, r_ci c_M_hasNotice_41, r_il4 c_M_hasNotice_42, r_imul c_M_hasNotice_44, r_iadd c_M_hasNotice_45, r_is5 c_M_hasNotice_46, r_il3 c_M_hasNotice_48, r_ifne c_M_hasNotice_49, r_al0 c_M_hasNotice_52, r_gfSr c_M_hasNotice_53 o10 rfl, r_il5 c_M_hasNotice_56, r_ial c_M_hasNotice_58, r_ci c_M_hasNotice_59, r_icne c_M_hasNotice_60, r_al0 c_M_hasNotice_63, r_gfSr c_M_hasNotice_64 o10 rfl, r_il5 c_M_hasNotice_67, r_ci c_M_hasNotice_69, r_iadd c_M_hasNotice_70, r_ial c_M_hasNotice_71, r_il1 c_M_hasNotice_72, r_icne c_M_hasNotice_73, r_al0 c_M_hasNotice_76, r_gfSr c_M_hasNotice_77 o10 rfl, r_il5 c_M_hasNotice_80, r_ci c_M_hasNotice_82, r_iadd c_M_hasNotice_83, r_ial c_M_hasNotice_84, r_al0 c_M_hasNotice_85, r_gfSr c_M_hasNotice_86 o10 rfl, r_ci c_M_hasNotice_89, r_ial c_M_hasNotice_90, r_icne c_M_hasNotice_91, r_al0 c_M_hasNotice_94, r_gfSr c_M_hasNotice_95 o10 rfl, r_ci c_M_hasNotice_98, r_ial c_M_hasNotice_99, r_al0 c_M_hasNotice_100, r_gfSr c_M_hasNotice_101 o10 rfl, r_il5 c_M_hasNotice_104, r_ci c_M_hasNotice_106, r_iadd c_M_hasNotice_107, r_ial c_M_hasNotice_108, r_isub c_M_hasNotice_109, r_il2 c_M_hasNotice_110, r_iclt c_M_hasNotice_111, r_ci c_M_hasNotice_114, r_goto c_M_hasNotice_115, r_ci c_M_hasNotice_118, r_is3 c_M_hasNotice_119, r_inc4 c_M_hasNotice_120, r_goto c_M_hasNotice_123, ↓reduceIte, hs_h, Option.bind_some, mfix_i, mfix_r, mfix_n, mfix_a, Option.toList_some, Option.toList_none, List.cons_append, List.nil_append, List.singleton_append, km2, km3, km4, km6, km104, km24, ka20, ka92, ka164, ka254, ka314, ka474, ka634, ka670, ka850, ka890, ka914, ka12, kr2, kr3, kr4, kr5, nI_1, nI_add, mia_94 hE (show 474 + 4 * i < 2578 by omega), mia_94 hE (show 474 + 4 * i + 1 < 2578 by omega), f0, f1, e3.mpr a0, a1, if_true, if_false, ih0]
        · have a0' : ¬ nI (pk i) = 3 := fun h => a0 (e3.mp h)
          rw [if_pos (u3.mpr a0)]
          simp only [r_ci c_M_hasNotice_38, r_ci c_M_hasNotice_41, r_il4 c_M_hasNotice_42, r_imul c_M_hasNotice_44, r_iadd c_M_hasNotice_45, r_is5 c_M_hasNotice_46, r_il3 c_M_hasNotice_48, r_ifne c_M_hasNotice_49, r_al0 c_M_hasNotice_52, r_gfSr c_M_hasNotice_53 o10 rfl, r_il5 c_M_hasNotice_56, r_ial c_M_hasNotice_58, r_ci c_M_hasNotice_59, r_icne c_M_hasNotice_60, r_al0 c_M_hasNotice_63, r_gfSr c_M_hasNotice_64 o10 rfl, r_il5 c_M_hasNotice_67, r_ci c_M_hasNotice_69, r_iadd c_M_hasNotice_70, r_ial c_M_hasNotice_71, r_il1 c_M_hasNotice_72, r_icne c_M_hasNotice_73, r_al0 c_M_hasNotice_76, r_gfSr c_M_hasNotice_77 o10 rfl, r_il5 c_M_hasNotice_80, r_ci c_M_hasNotice_82, r_iadd c_M_hasNotice_83, r_ial c_M_hasNotice_84, r_al0 c_M_hasNotice_85, r_gfSr c_M_hasNotice_86 o10 rfl, r_ci c_M_hasNotice_89, r_ial c_M_hasNotice_90, r_icne c_M_hasNotice_91, r_al0 c_M_hasNotice_94, r_gfSr c_M_hasNotice_95 o10 rfl, r_ci c_M_hasNotice_98, r_ial c_M_hasNotice_99, r_al0 c_M_hasNotice_100, r_gfSr c_M_hasNotice_101 o10 rfl, r_il5 c_M_hasNotice_104, r_ci c_M_hasNotice_106, r_iadd c_M_hasNotice_107, r_ial c_M_hasNotice_108, r_isub c_M_hasNotice_109, r_il2 c_M_hasNotice_110, r_iclt c_M_hasNotice_111, r_ci c_M_hasNotice_114, r_goto c_M_hasNotice_115, r_ci c_M_hasNotice_118, r_is3 c_M_hasNotice_119, r_inc4 c_M_hasNotice_120, r_goto c_M_hasNotice_123, ↓reduceIte, hs_h, Option.bind_some, mfix_i, mfix_r, mfix_n, mfix_a, Option.toList_some, Option.toList_none, List.cons_append, List.nil_append, List.singleton_append, km2, km3, km4, km6, km104, km24, ka20, ka92, ka164, ka254, ka314, ka474, ka634, ka670, ka850, ka890, ka914, ka12, kr2, kr3, kr4, kr5, nI_1, nI_add, mia_94 hE (show 474 + 4 * i < 2578 by omega), f0, a0', if_true, if_false, ih0]
      · simp only [r_ci c_M_hasNotice_38, r_ci c_M_hasNotice_41, r_il4 c_M_hasNotice_42, r_imul c_M_hasNotice_44, r_iadd c_M_hasNotice_45, r_is5 c_M_hasNotice_46, r_il3 c_M_hasNotice_48, r_ifne c_M_hasNotice_49, r_al0 c_M_hasNotice_52, r_gfSr c_M_hasNotice_53 o10 rfl, r_il5 c_M_hasNotice_56, r_ial c_M_hasNotice_58, r_ci c_M_hasNotice_59, r_icne c_M_hasNotice_60, r_al0 c_M_hasNotice_63, r_gfSr c_M_hasNotice_64 o10 rfl, r_il5 c_M_hasNotice_67, r_ci c_M_hasNotice_69, r_iadd c_M_hasNotice_70, r_ial c_M_hasNotice_71, r_il1 c_M_hasNotice_72, r_icne c_M_hasNotice_73, r_al0 c_M_hasNotice_76, r_gfSr c_M_hasNotice_77 o10 rfl, r_il5 c_M_hasNotice_80, r_ci c_M_hasNotice_82, r_iadd c_M_hasNotice_83, r_ial c_M_hasNotice_84, r_al0 c_M_hasNotice_85, r_gfSr c_M_hasNotice_86 o10 rfl, r_ci c_M_hasNotice_89, r_ial c_M_hasNotice_90, r_icne c_M_hasNotice_91, r_al0 c_M_hasNotice_94, r_gfSr c_M_hasNotice_95 o10 rfl, r_ci c_M_hasNotice_98, r_ial c_M_hasNotice_99, r_al0 c_M_hasNotice_100, r_gfSr c_M_hasNotice_101 o10 rfl, r_il5 c_M_hasNotice_104, r_ci c_M_hasNotice_106, r_iadd c_M_hasNotice_107, r_ial c_M_hasNotice_108, r_isub c_M_hasNotice_109, r_il2 c_M_hasNotice_110, r_iclt c_M_hasNotice_111, r_ci c_M_hasNotice_114, r_goto c_M_hasNotice_115, r_ci c_M_hasNotice_118, r_is3 c_M_hasNotice_119, r_inc4 c_M_hasNotice_120, r_goto c_M_hasNotice_123, ↓reduceIte, hs_h, Option.bind_some, mfix_i, mfix_r, mfix_n, mfix_a, Option.toList_some, Option.toList_none, List.cons_append, List.nil_append, List.singleton_append, km2, km3, km4, km6, km104, km24, ka20, ka92, ka164, ka254, ka314, ka474, ka634, ka670, ka850, ka890, ka914, ka12, kr2, kr3, kr4, kr5, nI_1, nI_add, one_nz, if_false, ih1]
  have lq := fun w5 => lp (z 3) 0 0 w5 (Or.inl rfl) (by omega)
  rw [nI_0] at lq
  simp only [if_true] at lq
  simp only [ment, mfl, List.length, List.replicate, List.cons_append, List.nil_append, Nat.reduceAdd, Nat.reduceSub, hnS]
  simp only [r_al0 c_M_hasNotice_0, r_al0 c_M_hasNotice_1, r_il1 c_M_hasNotice_2, r_ci c_M_hasNotice_3, r_cv3 c_M_hasNotice_4, r_ci c_M_hasNotice_7, r_al0 c_M_hasNotice_8, r_il1 c_M_hasNotice_9, r_ci c_M_hasNotice_10, r_cv3 c_M_hasNotice_11, r_ci c_M_hasNotice_14, r_ci c_M_hasNotice_15, r_ci c_M_hasNotice_16, r_cv7 c_M_hasNotice_17, r_is2 c_M_hasNotice_20, r_ci c_M_hasNotice_21, r_is3 c_M_hasNotice_22, r_ci c_M_hasNotice_23, r_is4 c_M_hasNotice_24, ↓reduceIte, hs_h, Option.bind_some, mfix_i, mfix_r, mfix_n, mfix_a, Option.toList_some, Option.toList_none, List.cons_append, List.nil_append, List.singleton_append, mwt, Value.category, Nat.reduceAdd, Nat.reduceLeDiff, true_and, and_true, and_self, m10, oc0 hE k12, oc4 hE k12, c0, c4, r2, lq]
theorem M_causeOf_R (hE : okE E) (h : Rel E R b z t hc pk td B (iA S 94)) (hk : k < z 1) : ∃ S2, eqM S S2 ∧ ∀ d, mres cT 196 d 0 (ment 2 [.ref 93, .int (nI k)]) [] (hs E S) = some (some (.int (nI (caN R b z t pk k))), hs E S2) := by
  have o10 := o_M hE
  have m10 := m_M hE
  have ht := rl_tod h
  obtain ⟨S2, e2, r2⟩ := M_isDue_R (D := td) hE h hk (by omega)
  rw [← ht.1] at r2
  have h2 : Rel E R b z t hc pk td B (iA S2 94) := by rw [eqM_94 e2]; exact h
  obtain ⟨S3, e3, r3⟩ := M_hasNotice_R hE h2 hk
  have ft : iA S 94 0 = iF R b 8 := by rw [ht.2.2, ht.1]
  rw [caN]
  by_cases a1 : duS R b z t k (iF R b 8) = 0
  · refine ⟨S2, e2, fun d => ?_⟩
    rw [if_pos a1]
    simp only [ment, mfl, List.length, List.replicate, List.cons_append, List.nil_append, Nat.reduceAdd, Nat.reduceSub]
    simp only [r_al0 c_M_causeOf_0, r_il1 c_M_causeOf_1, r_al0 c_M_causeOf_2, r_gfSr c_M_causeOf_3 o10 rfl, r_ci c_M_causeOf_6, r_ial c_M_causeOf_7, r_cv3 c_M_causeOf_8, r_ifne c_M_causeOf_11, r_ci c_M_causeOf_14, r_goto c_M_causeOf_15, r_al0 c_M_causeOf_18, r_il1 c_M_causeOf_19, r_cv2 c_M_causeOf_20, r_ifne c_M_causeOf_23, r_ci c_M_causeOf_26, r_goto c_M_causeOf_27, r_al0 c_M_causeOf_30, r_il1 c_M_causeOf_31, r_cv2 c_M_causeOf_32, r_ifne c_M_causeOf_35, r_ci c_M_causeOf_38, r_goto c_M_causeOf_39, r_ci c_M_causeOf_42, r_iret c_M_causeOf_43, ↓reduceIte, hs_h, Option.bind_some, mfix_i, mfix_r, mfix_n, mfix_a, Option.toList_some, Option.toList_none, List.cons_append, List.nil_append, List.singleton_append, mwt, Value.category, Nat.reduceAdd, Nat.reduceLeDiff, true_and, and_true, and_self, m10, mn0 hE, ft, r2, a1, if_true]; rfl
  · rw [if_neg a1]
    by_cases a2 : hrF (iA R (b + 4)) pk (nI k) (iF R b 8) 0 (z 3) = 0
    · refine ⟨S2, e2, fun d => ?_⟩
      rw [if_pos a2]
      simp only [ment, mfl, List.length, List.replicate, List.cons_append, List.nil_append, Nat.reduceAdd, Nat.reduceSub]
      simp only [r_al0 c_M_causeOf_0, r_il1 c_M_causeOf_1, r_al0 c_M_causeOf_2, r_gfSr c_M_causeOf_3 o10 rfl, r_ci c_M_causeOf_6, r_ial c_M_causeOf_7, r_cv3 c_M_causeOf_8, r_ifne c_M_causeOf_11, r_ci c_M_causeOf_14, r_goto c_M_causeOf_15, r_al0 c_M_causeOf_18, r_il1 c_M_causeOf_19, r_cv2 c_M_causeOf_20, r_ifne c_M_causeOf_23, r_ci c_M_causeOf_26, r_goto c_M_causeOf_27, r_al0 c_M_causeOf_30, r_il1 c_M_causeOf_31, r_cv2 c_M_causeOf_32, r_ifne c_M_causeOf_35, r_ci c_M_causeOf_38, r_goto c_M_causeOf_39, r_ci c_M_causeOf_42, r_iret c_M_causeOf_43, ↓reduceIte, hs_h, Option.bind_some, mfix_i, mfix_r, mfix_n, mfix_a, Option.toList_some, Option.toList_none, List.cons_append, List.nil_append, List.singleton_append, mwt, Value.category, Nat.reduceAdd, Nat.reduceLeDiff, true_and, and_true, and_self, m10, mn0 hE, ft, r2, a1, if_false, M_hasReport_R hE h2, a2, if_true]; rfl
    · rw [if_neg a2]
      refine ⟨S3, eqM_tr e2 e3, fun d => ?_⟩
      by_cases a3 : hnS R b z t pk k = 0
      · rw [if_pos a3]
        simp only [ment, mfl, List.length, List.replicate, List.cons_append, List.nil_append, Nat.reduceAdd, Nat.reduceSub]
        simp only [r_al0 c_M_causeOf_0, r_il1 c_M_causeOf_1, r_al0 c_M_causeOf_2, r_gfSr c_M_causeOf_3 o10 rfl, r_ci c_M_causeOf_6, r_ial c_M_causeOf_7, r_cv3 c_M_causeOf_8, r_ifne c_M_causeOf_11, r_ci c_M_causeOf_14, r_goto c_M_causeOf_15, r_al0 c_M_causeOf_18, r_il1 c_M_causeOf_19, r_cv2 c_M_causeOf_20, r_ifne c_M_causeOf_23, r_ci c_M_causeOf_26, r_goto c_M_causeOf_27, r_al0 c_M_causeOf_30, r_il1 c_M_causeOf_31, r_cv2 c_M_causeOf_32, r_ifne c_M_causeOf_35, r_ci c_M_causeOf_38, r_goto c_M_causeOf_39, r_ci c_M_causeOf_42, r_iret c_M_causeOf_43, ↓reduceIte, hs_h, Option.bind_some, mfix_i, mfix_r, mfix_n, mfix_a, Option.toList_some, Option.toList_none, List.cons_append, List.nil_append, List.singleton_append, mwt, Value.category, Nat.reduceAdd, Nat.reduceLeDiff, true_and, and_true, and_self, m10, mn0 hE, ft, r2, a1, if_false, M_hasReport_R hE h2, a2, r3, a3, if_true]; rfl
      · rw [if_neg a3]
        simp only [ment, mfl, List.length, List.replicate, List.cons_append, List.nil_append, Nat.reduceAdd, Nat.reduceSub]
        simp only [r_al0 c_M_causeOf_0, r_il1 c_M_causeOf_1, r_al0 c_M_causeOf_2, r_gfSr c_M_causeOf_3 o10 rfl, r_ci c_M_causeOf_6, r_ial c_M_causeOf_7, r_cv3 c_M_causeOf_8, r_ifne c_M_causeOf_11, r_ci c_M_causeOf_14, r_goto c_M_causeOf_15, r_al0 c_M_causeOf_18, r_il1 c_M_causeOf_19, r_cv2 c_M_causeOf_20, r_ifne c_M_causeOf_23, r_ci c_M_causeOf_26, r_goto c_M_causeOf_27, r_al0 c_M_causeOf_30, r_il1 c_M_causeOf_31, r_cv2 c_M_causeOf_32, r_ifne c_M_causeOf_35, r_ci c_M_causeOf_38, r_goto c_M_causeOf_39, r_ci c_M_causeOf_42, r_iret c_M_causeOf_43, ↓reduceIte, hs_h, Option.bind_some, mfix_i, mfix_r, mfix_n, mfix_a, Option.toList_some, Option.toList_none, List.cons_append, List.nil_append, List.singleton_append, mwt, Value.category, Nat.reduceAdd, Nat.reduceLeDiff, true_and, and_true, and_self, m10, mn0 hE, ft, r2, a1, if_false, M_hasReport_R hE h2, a2, r3, a3]; rfl
theorem M_riskOf_R (hE : okE E) (h : Rel E R b z t hc pk td B (iA S 94)) (hk : k < z 1) (hw : w < 3) : mres cT 34 d 0 (ment 4 [.ref 93, .int (nI k), .int (nI w)]) [] (hs E S) = some (some (.int (rkS R b k (nI w))), hs E S) := by
  have k12 : k < 12 := Nat.lt_of_lt_of_le hk (rl_okm h).1.2
  obtain ⟨r, hr, e1, e2⟩ := rk_eq (rl_cas h) (rl_tab h) hk hw
  rw [M_riskOf_ok hE k12 e1 hr hw, e2]
  rfl
/-! bits -/
def btI (x : Int32) (i : Nat) : Bool := x.toBitVec.getLsbD i
theorem bt_or {x y : Int32} {i : Nat} : btI (x ||| y) i = (btI x i || btI y i) := by simp [btI]
theorem bt_and {x y : Int32} {i : Nat} : btI (x &&& y) i = (btI x i && btI y i) := by simp [btI]
theorem bt_ext {x y : Int32} (h : ∀ i, i < 32 → btI x i = btI y i) : x = y := by
  apply Int32.toBitVec_inj.mp
  apply BitVec.eq_of_getLsbD_eq
  intro i hi
  exact h i hi
theorem bt_0 {i : Nat} : btI 0 i = false := by simp [btI]
theorem sh_lt : ∀ j : Fin 31, ((1 : Int32) <<< (nI j.1 &&& 31)).toBitVec = BitVec.twoPow 32 j.1 := by decide +kernel
theorem bt_sh {i j : Nat} (hj : j < 31) : btI (1 <<< (nI j &&& 31)) i = decide (j = i) := by
  rw [btI, sh_lt ⟨j, hj⟩]
  rw [BitVec.getLsbD_twoPow]
  by_cases e : j = i
  · subst e; simp; omega
  · simp [e]
theorem bt_has {x : Int32} {j : Nat} (hj : j < 31) : x >>> (nI j &&& 31) &&& 1 = (if btI x j = true then 1 else 0) := by
  have hs : nI j &&& 31 = nI j := by
    rw [pk_andN (by omega) 5 (by decide)]
    exact congrArg nI (Nat.mod_eq_of_lt (by omega))
  have e : ((nI j).toBitVec.smod 32).toNat = j := by
    have : ∀ j : Fin 31, ((nI j.1).toBitVec.smod 32).toNat = j.1 := by decide +kernel
    exact this ⟨j, hj⟩
  apply bt_ext
  intro i hi
  rw [bt_and, hs]
  have h1 : btI 1 i = decide (i = 0) := by
    have : ∀ i : Fin 32, btI 1 i.1 = decide (i.1 = 0) := by decide +kernel
    exact this ⟨i, hi⟩
  rw [h1]
  by_cases c : i = 0
  · subst c
    have : btI (x >>> nI j) 0 = btI x j := by
      simp only [btI, Int32.toBitVec_shiftRight]
      show (x.toBitVec.sshiftRight ((nI j).toBitVec.smod 32).toNat).getLsbD 0 = _
      rw [BitVec.getLsbD_sshiftRight, e]
      have hj2 : j < 32 := by omega
      simp [hj2]
    rw [this]
    cases btI x j <;> decide
  · rw [decide_eq_false c, Bool.and_false]
    split
    · rw [h1, decide_eq_false c]
    · rw [bt_0]
end MCAUSE
