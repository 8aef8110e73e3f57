/-! the law: its loop -/
section LAWL
variable {E : EE} {S : SS} {d i j L m k : Nat} {xs : Nat → Int32}
theorem mpick_in {x : Int32} {df : Nat} : ∀ tb : List (Int32 × Nat), mpick x df tb = df ∨ mpick x df tb ∈ tb.map Prod.snd
  | [] => Or.inl rfl
  | q :: tb => by
    rw [mpick]
    split
    · exact Or.inr (List.mem_cons.mpr (Or.inl rfl))
    · rcases mpick_in tb with h | h
      · exact Or.inl h
      · exact Or.inr (List.mem_cons.mpr (Or.inr h))
theorem lw_all (h : Inv E S) (hi : i + 6 < E.2.2.1) (hL : E.2.2.1 ≤ 448) (h1 : E.1 < 900) (h2 : E.2.1 ≤ 900000) {t : Nat} (ht : t = 1823 ∨ t ∈ ([244, 297, 330, 373, 416, 459, 482, 505, 528, 561, 594, 617, 650, 683, 706, 749, 772, 805, 838, 871, 946, 989, 1022, 1055, 1088, 1131, 1164, 1207, 1240, 1273, 1296, 1319, 1342, 1365, 1388, 1431, 1464, 1497, 1510, 1533, 1546, 1589, 1632, 1695, 1728, 1751, 1774, 1787, 1800] : List Nat)) : atP E S i t := by
  rcases ht with rfl | ht
  · exact ⟨E, S, ⟨h, by omega, by omega, by omega, rfl⟩, fun d _ => rfl⟩
  simp only [List.mem_cons, List.not_mem_nil, or_false] at ht
  rcases ht with rfl | rfl | rfl | rfl | rfl | rfl | rfl | rfl | rfl | rfl | rfl | rfl | rfl | rfl | rfl | rfl | rfl | rfl | rfl | rfl | rfl | rfl | rfl | rfl | rfl | rfl | rfl | rfl | rfl | rfl | rfl | rfl | rfl | rfl | rfl | rfl | rfl | rfl | rfl | rfl | rfl | rfl | rfl | rfl | rfl | rfl | rfl | rfl | rfl
  · exact lw_0 h hi hL (opG_of (q_person h))
  · exact lw_1 h hi hL (opG_of (q_told h))
  · exact lw_2 h hi hL (opG_of (q_be h))
  · exact lw_3 h hi hL (opG_of (q_sentence h))
  · exact lw_4 h hi hL (opG_of (q_gap h))
  · exact lw_5 h hi hL (opG_of (q_flee h))
  · exact lw_6 h hi hL (opG_of (q_caught h))
  · exact lw_7 h hi hL (opG_of (q_gone h))
  · exact lw_8 h hi hL (opG_of (q_served h))
  · exact lw_9 h hi hL (opG_of (q_credit h))
  · exact lw_10 h hi hL (opG_of (q_back h))
  · exact lw_11 h hi hL (opG_of (q_credits h))
  · exact lw_12 h hi hL (opG_of (q_due h))
  · exact lw_13 h hi hL (opG_of (q_date h))
  · exact lw_14 h hi hL (opG_of (q_feed h))
  · exact lw_15 h hi hL (opG_of (q_trim h))
  · exact lw_16 h hi hL (q_text h h1 h2)
  · exact lw_17 h hi hL (opG_of (q_of h))
  · exact lw_18 h hi hL (opG_of (q_why h))
  · exact lw_19 h hi hL (opG_of (q_rules h))
  · exact lw_20 h hi hL (opG_of (q_paper h))
  · exact lw_21 h hi hL (opG_of (q_paperTold h))
  · exact lw_22 h hi hL (opG_of (q_as h))
  · exact lw_23 h hi hL (opG_of (q_member h))
  · exact lw_24 h hi hL (opG_of (q_conflict h))
  · exact lw_25 h hi hL (opG_of (q_is h))
  · exact lw_26 h hi hL (opG_of (q_board h))
  · exact lw_27 h hi hL (opG_of (q_hearing h))
  · exact lw_28 h hi hL (opG_of (q_heard h))
  · exact lw_29 h hi hL (opG_of (q_cause h))
  · exact lw_30 h hi hL (opG_of (q_puts h))
  · exact lw_31 h hi hL (opG_of (q_recall h))
  · exact lw_32 h hi hL (opG_of (q_unwind h))
  · exact lw_33 h hi hL (opG_of (q_run h))
  · exact lw_34 h hi hL (opG_of (q_table h))
  · exact lw_35 h hi hL (opG_of (q_like h))
  · exact lw_36 h hi hL (opG_of (q_twice h))
  · exact lw_37 h hi hL (opG_of (q_spread h))
  · exact lw_38 h hi hL (opG_of (q_seed h))
  · exact lw_39 h hi hL (opG_of (q_draw h))
  · exact lw_40 h hi hL (opG_of (q_sheet h))
  · exact lw_41 h hi hL (opG_of (q_add h))
  · exact lw_42 h hi hL (opG_of (q_copy h))
  · exact lw_43 h hi hL (opG_of (q_same h))
  · exact lw_44 h hi hL (opG_of (q_tell h))
  · exact lw_45 h hi hL (opG_of (q_check h))
  · exact lw_46 h hi hL (opG_of (q_keep h))
  · exact lw_47 h hi hL (opG_of (q_restore h))
  · exact lw_48 h hi hL (opG_of (q_count h))
theorem nI_s7 (hL : L ≤ 448) (hi : i ≤ 1000) : (nI L - 7 < nI i) = (L < i + 7) := by
  refine propext ?_
  have e1 : (nI L - nI 7).toInt = (L : Int) - (7 : Nat) := pk_sub_toInt (by omega) (by omega)
  have e2 : (nI i).toInt = (i : Int) := nI_toInt (by omega)
  rw [show (7 : Int32) = nI 7 from rfl, Int32.lt_iff_toInt_lt, e1, e2]
  omega
theorem W_loop (hL : L ≤ 448) : ∀ m k E S, k + m = 64 → Inv E S → E.2.2 = (L, xs) → E.1 ≤ 109 + 2 * k → E.2.1 ≤ 11752 + 101 * k → ∃ (E' : EE) (S' : SS), E'.1 ≤ 237 ∧ E'.2.1 ≤ 20000 ∧ mres cT 281 160 18 [.ref 3000000, .ref 0, .ref 93, .int (nI (7 * k))] [] (hs E S) = some (some (.int 1), hs E' S') := by
  intro m
  induction m with
  | zero =>
    intro k E S hk h e h1 h2
    have eL : E.2.2.1 = L := by rw [e]
    have a1 : (nI L - 7 < nI (7 * k)) := by rw [nI_s7 hL (by omega)]; omega
    refine ⟨E, S, by omega, by omega, ?_⟩
    simp only [r_il3 c_W_law_18, r_al0 c_W_law_19, r_len c_W_law_20, r_ci c_W_law_21, r_isub c_W_law_23, r_icgt c_W_law_24, r_ci c_W_law_1829, r_zret c_W_law_1830, ↓reduceIte, hs_h, Option.bind_some, mfix_i, mfix_r, mfix_n, mfix_a, Option.toList_some, Option.toList_none, List.cons_append, List.nil_append, List.singleton_append, sc_len h.1, eL, a1, if_true, mz1]
  | succ m ih =>
    intro k E S hk h e h1 h2
    have eL : E.2.2.1 = L := by rw [e]
    by_cases c : L < 7 * k + 7
    · have a1 : (nI L - 7 < nI (7 * k)) := by rw [nI_s7 hL (by omega)]; exact c
      refine ⟨E, S, by omega, by omega, ?_⟩
      simp only [r_il3 c_W_law_18, r_al0 c_W_law_19, r_len c_W_law_20, r_ci c_W_law_21, r_isub c_W_law_23, r_icgt c_W_law_24, r_ci c_W_law_1829, r_zret c_W_law_1830, ↓reduceIte, hs_h, Option.bind_some, mfix_i, mfix_r, mfix_n, mfix_a, Option.toList_some, Option.toList_none, List.cons_append, List.nil_append, List.singleton_append, sc_len h.1, eL, a1, if_true, mz1]
    · have a1 : ¬ (nI L - 7 < nI (7 * k)) := by rw [nI_s7 hL (by omega)]; exact c
      have f0 := sc_at (S := S) (j := 7 * k) h.1 (by omega) (by omega)
      generalize hv : (E.2.2.2 (7 * k)) &&& 63 = v
      obtain ⟨E', S2, ⟨hI, b1, b2, b3, b4⟩, r⟩ := lw_all (i := 7 * k) (t := mpick v 1823 [(0, 244), (1, 297), (2, 330), (3, 373), (4, 416), (5, 459), (6, 482), (7, 505), (8, 528), (9, 561), (10, 594), (11, 617), (12, 650), (13, 683), (14, 706), (15, 749), (16, 772), (17, 805), (18, 838), (19, 871), (20, 946), (21, 989), (22, 1022), (23, 1055), (24, 1088), (25, 1131), (26, 1164), (27, 1207), (28, 1240), (29, 1273), (30, 1296), (31, 1319), (32, 1342), (33, 1365), (34, 1388), (35, 1431), (36, 1464), (37, 1497), (38, 1510), (39, 1533), (40, 1546), (41, 1589), (42, 1632), (43, 1695), (44, 1728), (45, 1751), (46, 1774), (47, 1787), (48, 1800)]) h (by omega) (by omega) (by omega) (by omega) (mpick_in _)
      obtain ⟨E2, S3, c1, c2, c3⟩ := ih (k + 1) E' S2 (by omega) hI (by rw [b4]; exact e) (by omega) (by omega)
      refine ⟨E2, S3, c1, c2, ?_⟩
      rw [show 7 * (k + 1) = 7 * k + 7 by omega] at c3
      have r := r 160 (by decide)
      simp only [r_il3 c_W_law_18, r_al0 c_W_law_19, r_len c_W_law_20, r_ci c_W_law_21, r_isub c_W_law_23, r_icgt c_W_law_24, ↓reduceIte, hs_h, Option.bind_some, mfix_i, mfix_r, mfix_n, mfix_a, Option.toList_some, Option.toList_none, List.cons_append, List.nil_append, List.singleton_append, sc_len h.1, eL, a1, if_false]
      simp only [r_al0 c_W_law_27, r_il3 c_W_law_28, r_ial c_W_law_29, r_ci c_W_law_30, r_iand c_W_law_32, ↓reduceIte, hs_h, Option.bind_some, mfix_i, mfix_r, mfix_n, mfix_a, Option.toList_some, Option.toList_none, List.cons_append, List.nil_append, List.singleton_append, f0, hv]
      rw [r_sw c_W_law_33, r]
      simp only [r_inc3 c_W_law_1823, r_goto c_W_law_1826, ↓reduceIte, hs_h, Option.bind_some, mfix_i, mfix_r, mfix_n, mfix_a, Option.toList_some, Option.toList_none, List.cons_append, List.nil_append, List.singleton_append, kr7, c3]
theorem law_goes : LawGoes := by
  intro L xs hL
  obtain ⟨E', S', h1, h2, h3⟩ := W_loop hL 64 0 (E0 L xs) S0 rfl Inv0 rfl (Nat.le_refl _) (Nat.le_refl _)
  exact ⟨hs E' S', W_start.trans h3, by show E'.1 ≤ 600000; omega, by show E'.2.1 ≤ 7302250; omega⟩
end LAWL
