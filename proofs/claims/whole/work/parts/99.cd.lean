/-! the law: its cases -/
section LAWC
variable {E : EE} {S : SS} {d i j L m k : Nat} {xs : Nat → Int32}
theorem kr6 {n : Nat} : nI n + 6 = nI (n + 6) := nI_add n 6
theorem kr7 {n : Nat} : nI n + 7 = nI (n + 7) := nI_add n 7
theorem sc_at (hE : okE E) (hj : j < E.2.2.1) (hL : E.2.2.1 ≤ 448) : mia (hp E S 3000000) 0 10 (nI j) = some (E.2.2.2 j) := by
  have h1 := hE.2.1
  rw [hp, if_neg (by omega), mx, if_neg (by omega), if_neg (by omega), if_neg (by omega), if_pos rfl, mia_n (Or.inr rfl) hj (by omega)]
theorem sc_len (hE : okE E) : mlen (hp E S 3000000) = some E.2.2.1 := by
  have h1 := hE.2.1
  rw [hp, if_neg (by omega), mx, if_neg (by omega), if_neg (by omega), if_neg (by omega), if_pos rfl]
  rfl
/-- what one turn of the law leaves -/
def stp (E E' : EE) (S2 : SS) : Prop := Inv E' S2 ∧ E.1 ≤ E'.1 ∧ E'.1 ≤ E.1 + 2 ∧ E'.2.1 ≤ E.2.1 + 101 ∧ E'.2.2 = E.2.2
def atP (E : EE) (S : SS) (i pc : Nat) : Prop := ∃ E' S2, stp E E' S2 ∧ ∀ d, 62 ≤ d → mres cT 281 d pc [.ref 3000000, .ref 0, .ref 93, .int (nI i)] [] (hs E S) = mres cT 281 d 1823 [.ref 3000000, .ref 0, .ref 93, .int (nI i)] [] (hs E' S2)
theorem lw_0 (h : Inv E S) (hi : i + 6 < E.2.2.1) (hL : E.2.2.1 ≤ 448) (op : opG E S 16 20 6 6 [.int (E.2.2.2 (i + 1)), .int (E.2.2.2 (i + 2)), .int (E.2.2.2 (i + 3)), .int (E.2.2.2 (i + 4))]) : atP E S i 244 := by
  obtain ⟨v, E', S1, S2, r1, r2, hI, a1, a2, a3, a4⟩ := op
  have hE := h.1
  have hE' := hI.1
  have m9 : ∀ S, misc (hp E S 0) 9 = true := fun S => misc_o (o_X (b := 1) hE rfl)
  have m10 := m_M hE'
  have f1 : mia (hp E S 3000000) 0 10 (nI (i + 1)) = some (E.2.2.2 (i + 1)) := sc_at hE (by omega) hL
  have g1 : mia (hp E' S1 3000000) 0 10 (nI (i + 1)) = some (E.2.2.2 (i + 1)) := by rw [← a4]; exact sc_at hE' (by rw [a4]; omega) (by rw [a4]; exact hL)
  have f2 : mia (hp E S 3000000) 0 10 (nI (i + 2)) = some (E.2.2.2 (i + 2)) := sc_at hE (by omega) hL
  have g2 : mia (hp E' S1 3000000) 0 10 (nI (i + 2)) = some (E.2.2.2 (i + 2)) := by rw [← a4]; exact sc_at hE' (by rw [a4]; omega) (by rw [a4]; exact hL)
  have f3 : mia (hp E S 3000000) 0 10 (nI (i + 3)) = some (E.2.2.2 (i + 3)) := sc_at hE (by omega) hL
  have g3 : mia (hp E' S1 3000000) 0 10 (nI (i + 3)) = some (E.2.2.2 (i + 3)) := by rw [← a4]; exact sc_at hE' (by rw [a4]; omega) (by rw [a4]; exact hL)
  have f4 : mia (hp E S 3000000) 0 10 (nI (i + 4)) = some (E.2.2.2 (i + 4)) := sc_at hE (by omega) hL
  have g4 : mia (hp E' S1 3000000) 0 10 (nI (i + 4)) = some (E.2.2.2 (i + 4)) := by rw [← a4]; exact sc_at hE' (by rw [a4]; omega) (by rw [a4]; exact hL)
  refine ⟨E', S2, ⟨hI, a1, a2, a3, a4⟩, fun d hd => ?_⟩
  have r1 := r1 d hd
  have r2 := r2 d hd
  simp only [r_al1 c_W_law_244, r_al0 c_W_law_245, r_il3 c_W_law_246, r_ci c_W_law_247, r_iadd c_W_law_248, r_ial c_W_law_249, r_al0 c_W_law_250, r_il3 c_W_law_251, r_ci c_W_law_252, r_iadd c_W_law_253, r_ial c_W_law_254, r_al0 c_W_law_255, r_il3 c_W_law_256, r_ci c_W_law_257, r_iadd c_W_law_258, r_ial c_W_law_259, r_al0 c_W_law_260, r_il3 c_W_law_261, r_ci c_W_law_262, r_iadd c_W_law_263, r_ial c_W_law_264, r_cv5 c_W_law_265, r_al2 c_W_law_268, r_al0 c_W_law_269, r_il3 c_W_law_270, r_ci c_W_law_271, r_iadd c_W_law_272, r_ial c_W_law_273, r_al0 c_W_law_274, r_il3 c_W_law_275, r_ci c_W_law_276, r_iadd c_W_law_277, r_ial c_W_law_278, r_al0 c_W_law_279, r_il3 c_W_law_280, r_ci c_W_law_281, r_iadd c_W_law_282, r_ial c_W_law_283, r_al0 c_W_law_284, r_il3 c_W_law_285, r_ci c_W_law_286, r_iadd c_W_law_287, r_ial c_W_law_288, r_cv5 c_W_law_289, r_iceq c_W_law_292, ↓reduceIte, hs_h, Option.bind_some, mfix_i, mfix_r, mfix_n, mfix_a, Option.toList_some, Option.toList_none, List.cons_append, List.nil_append, List.singleton_append, mwt, Value.category, Nat.reduceAdd, Nat.reduceLeDiff, true_and, and_true, and_self, m9, m10, nI_1, kr2, kr3, kr4, f1, g1, f2, g2, f3, g3, f4, g4, r1, r2, if_true]
theorem lw_1 (h : Inv E S) (hi : i + 6 < E.2.2.1) (hL : E.2.2.1 ≤ 448) (op : opG E S 28 36 3 3 [.int (E.2.2.2 (i + 1)), .int (E.2.2.2 (i + 2))]) : atP E S i 297 := by
  obtain ⟨v, E', S1, S2, r1, r2, hI, a1, a2, a3, a4⟩ := op
  have hE := h.1
  have hE' := hI.1
  have m9 : ∀ S, misc (hp E S 0) 9 = true := fun S => misc_o (o_X (b := 1) hE rfl)
  have m10 := m_M hE'
  have f1 : mia (hp E S 3000000) 0 10 (nI (i + 1)) = some (E.2.2.2 (i + 1)) := sc_at hE (by omega) hL
  have g1 : mia (hp E' S1 3000000) 0 10 (nI (i + 1)) = some (E.2.2.2 (i + 1)) := by rw [← a4]; exact sc_at hE' (by rw [a4]; omega) (by rw [a4]; exact hL)
  have f2 : mia (hp E S 3000000) 0 10 (nI (i + 2)) = some (E.2.2.2 (i + 2)) := sc_at hE (by omega) hL
  have g2 : mia (hp E' S1 3000000) 0 10 (nI (i + 2)) = some (E.2.2.2 (i + 2)) := by rw [← a4]; exact sc_at hE' (by rw [a4]; omega) (by rw [a4]; exact hL)
  refine ⟨E', S2, ⟨hI, a1, a2, a3, a4⟩, fun d hd => ?_⟩
  have r1 := r1 d hd
  have r2 := r2 d hd
  simp only [r_al1 c_W_law_297, r_al0 c_W_law_298, r_il3 c_W_law_299, r_ci c_W_law_300, r_iadd c_W_law_301, r_ial c_W_law_302, r_al0 c_W_law_303, r_il3 c_W_law_304, r_ci c_W_law_305, r_iadd c_W_law_306, r_ial c_W_law_307, r_cv3 c_W_law_308, r_al2 c_W_law_311, r_al0 c_W_law_312, r_il3 c_W_law_313, r_ci c_W_law_314, r_iadd c_W_law_315, r_ial c_W_law_316, r_al0 c_W_law_317, r_il3 c_W_law_318, r_ci c_W_law_319, r_iadd c_W_law_320, r_ial c_W_law_321, r_cv3 c_W_law_322, r_iceq c_W_law_325, ↓reduceIte, hs_h, Option.bind_some, mfix_i, mfix_r, mfix_n, mfix_a, Option.toList_some, Option.toList_none, List.cons_append, List.nil_append, List.singleton_append, mwt, Value.category, Nat.reduceAdd, Nat.reduceLeDiff, true_and, and_true, and_self, m9, m10, nI_1, kr2, f1, g1, f2, g2, r1, r2, if_true]
theorem lw_2 (h : Inv E S) (hi : i + 6 < E.2.2.1) (hL : E.2.2.1 ≤ 448) (op : opG E S 39 40 4 6 [.int (E.2.2.2 (i + 1)), .int (E.2.2.2 (i + 2)), .int (E.2.2.2 (i + 3))]) : atP E S i 330 := by
  obtain ⟨v, E', S1, S2, r1, r2, hI, a1, a2, a3, a4⟩ := op
  have hE := h.1
  have hE' := hI.1
  have m9 : ∀ S, misc (hp E S 0) 9 = true := fun S => misc_o (o_X (b := 1) hE rfl)
  have m10 := m_M hE'
  have f1 : mia (hp E S 3000000) 0 10 (nI (i + 1)) = some (E.2.2.2 (i + 1)) := sc_at hE (by omega) hL
  have g1 : mia (hp E' S1 3000000) 0 10 (nI (i + 1)) = some (E.2.2.2 (i + 1)) := by rw [← a4]; exact sc_at hE' (by rw [a4]; omega) (by rw [a4]; exact hL)
  have f2 : mia (hp E S 3000000) 0 10 (nI (i + 2)) = some (E.2.2.2 (i + 2)) := sc_at hE (by omega) hL
  have g2 : mia (hp E' S1 3000000) 0 10 (nI (i + 2)) = some (E.2.2.2 (i + 2)) := by rw [← a4]; exact sc_at hE' (by rw [a4]; omega) (by rw [a4]; exact hL)
  have f3 : mia (hp E S 3000000) 0 10 (nI (i + 3)) = some (E.2.2.2 (i + 3)) := sc_at hE (by omega) hL
  have g3 : mia (hp E' S1 3000000) 0 10 (nI (i + 3)) = some (E.2.2.2 (i + 3)) := by rw [← a4]; exact sc_at hE' (by rw [a4]; omega) (by rw [a4]; exact hL)
  refine ⟨E', S2, ⟨hI, a1, a2, a3, a4⟩, fun d hd => ?_⟩
  have r1 := r1 d hd
  have r2 := r2 d hd
  simp only [r_al1 c_W_law_330, r_al0 c_W_law_331, r_il3 c_W_law_332, r_ci c_W_law_333, r_iadd c_W_law_334, r_ial c_W_law_335, r_al0 c_W_law_336, r_il3 c_W_law_337, r_ci c_W_law_338, r_iadd c_W_law_339, r_ial c_W_law_340, r_al0 c_W_law_341, r_il3 c_W_law_342, r_ci c_W_law_343, r_iadd c_W_law_344, r_ial c_W_law_345, r_cv4 c_W_law_346, r_al2 c_W_law_349, r_al0 c_W_law_350, r_il3 c_W_law_351, r_ci c_W_law_352, r_iadd c_W_law_353, r_ial c_W_law_354, r_al0 c_W_law_355, r_il3 c_W_law_356, r_ci c_W_law_357, r_iadd c_W_law_358, r_ial c_W_law_359, r_al0 c_W_law_360, r_il3 c_W_law_361, r_ci c_W_law_362, r_iadd c_W_law_363, r_ial c_W_law_364, r_cv4 c_W_law_365, r_iceq c_W_law_368, ↓reduceIte, hs_h, Option.bind_some, mfix_i, mfix_r, mfix_n, mfix_a, Option.toList_some, Option.toList_none, List.cons_append, List.nil_append, List.singleton_append, mwt, Value.category, Nat.reduceAdd, Nat.reduceLeDiff, true_and, and_true, and_self, m9, m10, nI_1, kr2, kr3, f1, g1, f2, g2, f3, g3, r1, r2, if_true]
theorem lw_3 (h : Inv E S) (hi : i + 6 < E.2.2.1) (hL : E.2.2.1 ≤ 448) (op : opG E S 42 43 4 5 [.int (E.2.2.2 (i + 1)), .int (E.2.2.2 (i + 2)), .int (E.2.2.2 (i + 3))]) : atP E S i 373 := by
  obtain ⟨v, E', S1, S2, r1, r2, hI, a1, a2, a3, a4⟩ := op
  have hE := h.1
  have hE' := hI.1
  have m9 : ∀ S, misc (hp E S 0) 9 = true := fun S => misc_o (o_X (b := 1) hE rfl)
  have m10 := m_M hE'
  have f1 : mia (hp E S 3000000) 0 10 (nI (i + 1)) = some (E.2.2.2 (i + 1)) := sc_at hE (by omega) hL
  have g1 : mia (hp E' S1 3000000) 0 10 (nI (i + 1)) = some (E.2.2.2 (i + 1)) := by rw [← a4]; exact sc_at hE' (by rw [a4]; omega) (by rw [a4]; exact hL)
  have f2 : mia (hp E S 3000000) 0 10 (nI (i + 2)) = some (E.2.2.2 (i + 2)) := sc_at hE (by omega) hL
  have g2 : mia (hp E' S1 3000000) 0 10 (nI (i + 2)) = some (E.2.2.2 (i + 2)) := by rw [← a4]; exact sc_at hE' (by rw [a4]; omega) (by rw [a4]; exact hL)
  have f3 : mia (hp E S 3000000) 0 10 (nI (i + 3)) = some (E.2.2.2 (i + 3)) := sc_at hE (by omega) hL
  have g3 : mia (hp E' S1 3000000) 0 10 (nI (i + 3)) = some (E.2.2.2 (i + 3)) := by rw [← a4]; exact sc_at hE' (by rw [a4]; omega) (by rw [a4]; exact hL)
  refine ⟨E', S2, ⟨hI, a1, a2, a3, a4⟩, fun d hd => ?_⟩
  have r1 := r1 d hd
  have r2 := r2 d hd
  simp only [r_al1 c_W_law_373, r_al0 c_W_law_374, r_il3 c_W_law_375, r_ci c_W_law_376, r_iadd c_W_law_377, r_ial c_W_law_378, r_al0 c_W_law_379, r_il3 c_W_law_380, r_ci c_W_law_381, r_iadd c_W_law_382, r_ial c_W_law_383, r_al0 c_W_law_384, r_il3 c_W_law_385, r_ci c_W_law_386, r_iadd c_W_law_387, r_ial c_W_law_388, r_cv4 c_W_law_389, r_al2 c_W_law_392, r_al0 c_W_law_393, r_il3 c_W_law_394, r_ci c_W_law_395, r_iadd c_W_law_396, r_ial c_W_law_397, r_al0 c_W_law_398, r_il3 c_W_law_399, r_ci c_W_law_400, r_iadd c_W_law_401, r_ial c_W_law_402, r_al0 c_W_law_403, r_il3 c_W_law_404, r_ci c_W_law_405, r_iadd c_W_law_406, r_ial c_W_law_407, r_cv4 c_W_law_408, r_iceq c_W_law_411, ↓reduceIte, hs_h, Option.bind_some, mfix_i, mfix_r, mfix_n, mfix_a, Option.toList_some, Option.toList_none, List.cons_append, List.nil_append, List.singleton_append, mwt, Value.category, Nat.reduceAdd, Nat.reduceLeDiff, true_and, and_true, and_self, m9, m10, nI_1, kr2, kr3, f1, g1, f2, g2, f3, g3, r1, r2, if_true]
theorem lw_4 (h : Inv E S) (hi : i + 6 < E.2.2.1) (hL : E.2.2.1 ≤ 448) (op : opG E S 44 45 4 5 [.int (E.2.2.2 (i + 1)), .int (E.2.2.2 (i + 2)), .int (E.2.2.2 (i + 3))]) : atP E S i 416 := by
  obtain ⟨v, E', S1, S2, r1, r2, hI, a1, a2, a3, a4⟩ := op
  have hE := h.1
  have hE' := hI.1
  have m9 : ∀ S, misc (hp E S 0) 9 = true := fun S => misc_o (o_X (b := 1) hE rfl)
  have m10 := m_M hE'
  have f1 : mia (hp E S 3000000) 0 10 (nI (i + 1)) = some (E.2.2.2 (i + 1)) := sc_at hE (by omega) hL
  have g1 : mia (hp E' S1 3000000) 0 10 (nI (i + 1)) = some (E.2.2.2 (i + 1)) := by rw [← a4]; exact sc_at hE' (by rw [a4]; omega) (by rw [a4]; exact hL)
  have f2 : mia (hp E S 3000000) 0 10 (nI (i + 2)) = some (E.2.2.2 (i + 2)) := sc_at hE (by omega) hL
  have g2 : mia (hp E' S1 3000000) 0 10 (nI (i + 2)) = some (E.2.2.2 (i + 2)) := by rw [← a4]; exact sc_at hE' (by rw [a4]; omega) (by rw [a4]; exact hL)
  have f3 : mia (hp E S 3000000) 0 10 (nI (i + 3)) = some (E.2.2.2 (i + 3)) := sc_at hE (by omega) hL
  have g3 : mia (hp E' S1 3000000) 0 10 (nI (i + 3)) = some (E.2.2.2 (i + 3)) := by rw [← a4]; exact sc_at hE' (by rw [a4]; omega) (by rw [a4]; exact hL)
  refine ⟨E', S2, ⟨hI, a1, a2, a3, a4⟩, fun d hd => ?_⟩
  have r1 := r1 d hd
  have r2 := r2 d hd
  simp only [r_al1 c_W_law_416, r_al0 c_W_law_417, r_il3 c_W_law_418, r_ci c_W_law_419, r_iadd c_W_law_420, r_ial c_W_law_421, r_al0 c_W_law_422, r_il3 c_W_law_423, r_ci c_W_law_424, r_iadd c_W_law_425, r_ial c_W_law_426, r_al0 c_W_law_427, r_il3 c_W_law_428, r_ci c_W_law_429, r_iadd c_W_law_430, r_ial c_W_law_431, r_cv4 c_W_law_432, r_al2 c_W_law_435, r_al0 c_W_law_436, r_il3 c_W_law_437, r_ci c_W_law_438, r_iadd c_W_law_439, r_ial c_W_law_440, r_al0 c_W_law_441, r_il3 c_W_law_442, r_ci c_W_law_443, r_iadd c_W_law_444, r_ial c_W_law_445, r_al0 c_W_law_446, r_il3 c_W_law_447, r_ci c_W_law_448, r_iadd c_W_law_449, r_ial c_W_law_450, r_cv4 c_W_law_451, r_iceq c_W_law_454, ↓reduceIte, hs_h, Option.bind_some, mfix_i, mfix_r, mfix_n, mfix_a, Option.toList_some, Option.toList_none, List.cons_append, List.nil_append, List.singleton_append, mwt, Value.category, Nat.reduceAdd, Nat.reduceLeDiff, true_and, and_true, and_self, m9, m10, nI_1, kr2, kr3, f1, g1, f2, g2, f3, g3, r1, r2, if_true]
theorem lw_5 (h : Inv E S) (hi : i + 6 < E.2.2.1) (hL : E.2.2.1 ≤ 448) (op : opG E S 50 52 2 2 [.int (E.2.2.2 (i + 1))]) : atP E S i 459 := by
  obtain ⟨v, E', S1, S2, r1, r2, hI, a1, a2, a3, a4⟩ := op
  have hE := h.1
  have hE' := hI.1
  have m9 : ∀ S, misc (hp E S 0) 9 = true := fun S => misc_o (o_X (b := 1) hE rfl)
  have m10 := m_M hE'
  have f1 : mia (hp E S 3000000) 0 10 (nI (i + 1)) = some (E.2.2.2 (i + 1)) := sc_at hE (by omega) hL
  have g1 : mia (hp E' S1 3000000) 0 10 (nI (i + 1)) = some (E.2.2.2 (i + 1)) := by rw [← a4]; exact sc_at hE' (by rw [a4]; omega) (by rw [a4]; exact hL)
  refine ⟨E', S2, ⟨hI, a1, a2, a3, a4⟩, fun d hd => ?_⟩
  have r1 := r1 d hd
  have r2 := r2 d hd
  simp only [r_al1 c_W_law_459, r_al0 c_W_law_460, r_il3 c_W_law_461, r_ci c_W_law_462, r_iadd c_W_law_463, r_ial c_W_law_464, r_cv2 c_W_law_465, r_al2 c_W_law_468, r_al0 c_W_law_469, r_il3 c_W_law_470, r_ci c_W_law_471, r_iadd c_W_law_472, r_ial c_W_law_473, r_cv2 c_W_law_474, r_iceq c_W_law_477, ↓reduceIte, hs_h, Option.bind_some, mfix_i, mfix_r, mfix_n, mfix_a, Option.toList_some, Option.toList_none, List.cons_append, List.nil_append, List.singleton_append, mwt, Value.category, Nat.reduceAdd, Nat.reduceLeDiff, true_and, and_true, and_self, m9, m10, nI_1, f1, g1, r1, r2, if_true]
theorem lw_6 (h : Inv E S) (hi : i + 6 < E.2.2.1) (hL : E.2.2.1 ≤ 448) (op : opG E S 53 54 2 2 [.int (E.2.2.2 (i + 1))]) : atP E S i 482 := by
  obtain ⟨v, E', S1, S2, r1, r2, hI, a1, a2, a3, a4⟩ := op
  have hE := h.1
  have hE' := hI.1
  have m9 : ∀ S, misc (hp E S 0) 9 = true := fun S => misc_o (o_X (b := 1) hE rfl)
  have m10 := m_M hE'
  have f1 : mia (hp E S 3000000) 0 10 (nI (i + 1)) = some (E.2.2.2 (i + 1)) := sc_at hE (by omega) hL
  have g1 : mia (hp E' S1 3000000) 0 10 (nI (i + 1)) = some (E.2.2.2 (i + 1)) := by rw [← a4]; exact sc_at hE' (by rw [a4]; omega) (by rw [a4]; exact hL)
  refine ⟨E', S2, ⟨hI, a1, a2, a3, a4⟩, fun d hd => ?_⟩
  have r1 := r1 d hd
  have r2 := r2 d hd
  simp only [r_al1 c_W_law_482, r_al0 c_W_law_483, r_il3 c_W_law_484, r_ci c_W_law_485, r_iadd c_W_law_486, r_ial c_W_law_487, r_cv2 c_W_law_488, r_al2 c_W_law_491, r_al0 c_W_law_492, r_il3 c_W_law_493, r_ci c_W_law_494, r_iadd c_W_law_495, r_ial c_W_law_496, r_cv2 c_W_law_497, r_iceq c_W_law_500, ↓reduceIte, hs_h, Option.bind_some, mfix_i, mfix_r, mfix_n, mfix_a, Option.toList_some, Option.toList_none, List.cons_append, List.nil_append, List.singleton_append, mwt, Value.category, Nat.reduceAdd, Nat.reduceLeDiff, true_and, and_true, and_self, m9, m10, nI_1, f1, g1, r1, r2, if_true]
theorem lw_7 (h : Inv E S) (hi : i + 6 < E.2.2.1) (hL : E.2.2.1 ≤ 448) (op : opG E S 56 57 2 2 [.int (E.2.2.2 (i + 1))]) : atP E S i 505 := by
  obtain ⟨v, E', S1, S2, r1, r2, hI, a1, a2, a3, a4⟩ := op
  have hE := h.1
  have hE' := hI.1
  have m9 : ∀ S, misc (hp E S 0) 9 = true := fun S => misc_o (o_X (b := 1) hE rfl)
  have m10 := m_M hE'
  have f1 : mia (hp E S 3000000) 0 10 (nI (i + 1)) = some (E.2.2.2 (i + 1)) := sc_at hE (by omega) hL
  have g1 : mia (hp E' S1 3000000) 0 10 (nI (i + 1)) = some (E.2.2.2 (i + 1)) := by rw [← a4]; exact sc_at hE' (by rw [a4]; omega) (by rw [a4]; exact hL)
  refine ⟨E', S2, ⟨hI, a1, a2, a3, a4⟩, fun d hd => ?_⟩
  have r1 := r1 d hd
  have r2 := r2 d hd
  simp only [r_al1 c_W_law_505, r_al0 c_W_law_506, r_il3 c_W_law_507, r_ci c_W_law_508, r_iadd c_W_law_509, r_ial c_W_law_510, r_cv2 c_W_law_511, r_al2 c_W_law_514, r_al0 c_W_law_515, r_il3 c_W_law_516, r_ci c_W_law_517, r_iadd c_W_law_518, r_ial c_W_law_519, r_cv2 c_W_law_520, r_iceq c_W_law_523, ↓reduceIte, hs_h, Option.bind_some, mfix_i, mfix_r, mfix_n, mfix_a, Option.toList_some, Option.toList_none, List.cons_append, List.nil_append, List.singleton_append, mwt, Value.category, Nat.reduceAdd, Nat.reduceLeDiff, true_and, and_true, and_self, m9, m10, nI_1, f1, g1, r1, r2, if_true]
theorem lw_8 (h : Inv E S) (hi : i + 6 < E.2.2.1) (hL : E.2.2.1 ≤ 448) (op : opG E S 61 65 3 3 [.int (E.2.2.2 (i + 1)), .int (E.2.2.2 (i + 2))]) : atP E S i 528 := by
  obtain ⟨v, E', S1, S2, r1, r2, hI, a1, a2, a3, a4⟩ := op
  have hE := h.1
  have hE' := hI.1
  have m9 : ∀ S, misc (hp E S 0) 9 = true := fun S => misc_o (o_X (b := 1) hE rfl)
  have m10 := m_M hE'
  have f1 : mia (hp E S 3000000) 0 10 (nI (i + 1)) = some (E.2.2.2 (i + 1)) := sc_at hE (by omega) hL
  have g1 : mia (hp E' S1 3000000) 0 10 (nI (i + 1)) = some (E.2.2.2 (i + 1)) := by rw [← a4]; exact sc_at hE' (by rw [a4]; omega) (by rw [a4]; exact hL)
  have f2 : mia (hp E S 3000000) 0 10 (nI (i + 2)) = some (E.2.2.2 (i + 2)) := sc_at hE (by omega) hL
  have g2 : mia (hp E' S1 3000000) 0 10 (nI (i + 2)) = some (E.2.2.2 (i + 2)) := by rw [← a4]; exact sc_at hE' (by rw [a4]; omega) (by rw [a4]; exact hL)
  refine ⟨E', S2, ⟨hI, a1, a2, a3, a4⟩, fun d hd => ?_⟩
  have r1 := r1 d hd
  have r2 := r2 d hd
  simp only [r_al1 c_W_law_528, r_al0 c_W_law_529, r_il3 c_W_law_530, r_ci c_W_law_531, r_iadd c_W_law_532, r_ial c_W_law_533, r_al0 c_W_law_534, r_il3 c_W_law_535, r_ci c_W_law_536, r_iadd c_W_law_537, r_ial c_W_law_538, r_cv3 c_W_law_539, r_al2 c_W_law_542, r_al0 c_W_law_543, r_il3 c_W_law_544, r_ci c_W_law_545, r_iadd c_W_law_546, r_ial c_W_law_547, r_al0 c_W_law_548, r_il3 c_W_law_549, r_ci c_W_law_550, r_iadd c_W_law_551, r_ial c_W_law_552, r_cv3 c_W_law_553, r_iceq c_W_law_556, ↓reduceIte, hs_h, Option.bind_some, mfix_i, mfix_r, mfix_n, mfix_a, Option.toList_some, Option.toList_none, List.cons_append, List.nil_append, List.singleton_append, mwt, Value.category, Nat.reduceAdd, Nat.reduceLeDiff, true_and, and_true, and_self, m9, m10, nI_1, kr2, f1, g1, f2, g2, r1, r2, if_true]
theorem lw_9 (h : Inv E S) (hi : i + 6 < E.2.2.1) (hL : E.2.2.1 ≤ 448) (op : opG E S 66 67 3 4 [.int (E.2.2.2 (i + 1)), .int (E.2.2.2 (i + 2))]) : atP E S i 561 := by
  obtain ⟨v, E', S1, S2, r1, r2, hI, a1, a2, a3, a4⟩ := op
  have hE := h.1
  have hE' := hI.1
  have m9 : ∀ S, misc (hp E S 0) 9 = true := fun S => misc_o (o_X (b := 1) hE rfl)
  have m10 := m_M hE'
  have f1 : mia (hp E S 3000000) 0 10 (nI (i + 1)) = some (E.2.2.2 (i + 1)) := sc_at hE (by omega) hL
  have g1 : mia (hp E' S1 3000000) 0 10 (nI (i + 1)) = some (E.2.2.2 (i + 1)) := by rw [← a4]; exact sc_at hE' (by rw [a4]; omega) (by rw [a4]; exact hL)
  have f2 : mia (hp E S 3000000) 0 10 (nI (i + 2)) = some (E.2.2.2 (i + 2)) := sc_at hE (by omega) hL
  have g2 : mia (hp E' S1 3000000) 0 10 (nI (i + 2)) = some (E.2.2.2 (i + 2)) := by rw [← a4]; exact sc_at hE' (by rw [a4]; omega) (by rw [a4]; exact hL)
  refine ⟨E', S2, ⟨hI, a1, a2, a3, a4⟩, fun d hd => ?_⟩
  have r1 := r1 d hd
  have r2 := r2 d hd
  simp only [r_al1 c_W_law_561, r_al0 c_W_law_562, r_il3 c_W_law_563, r_ci c_W_law_564, r_iadd c_W_law_565, r_ial c_W_law_566, r_al0 c_W_law_567, r_il3 c_W_law_568, r_ci c_W_law_569, r_iadd c_W_law_570, r_ial c_W_law_571, r_cv3 c_W_law_572, r_al2 c_W_law_575, r_al0 c_W_law_576, r_il3 c_W_law_577, r_ci c_W_law_578, r_iadd c_W_law_579, r_ial c_W_law_580, r_al0 c_W_law_581, r_il3 c_W_law_582, r_ci c_W_law_583, r_iadd c_W_law_584, r_ial c_W_law_585, r_cv3 c_W_law_586, r_iceq c_W_law_589, ↓reduceIte, hs_h, Option.bind_some, mfix_i, mfix_r, mfix_n, mfix_a, Option.toList_some, Option.toList_none, List.cons_append, List.nil_append, List.singleton_append, mwt, Value.category, Nat.reduceAdd, Nat.reduceLeDiff, true_and, and_true, and_self, m9, m10, nI_1, kr2, f1, g1, f2, g2, r1, r2, if_true]
theorem lw_10 (h : Inv E S) (hi : i + 6 < E.2.2.1) (hL : E.2.2.1 ≤ 448) (op : opG E S 68 69 3 3 [.int (E.2.2.2 (i + 1))]) : atP E S i 594 := by
  obtain ⟨v, E', S1, S2, r1, r2, hI, a1, a2, a3, a4⟩ := op
  have hE := h.1
  have hE' := hI.1
  have m9 : ∀ S, misc (hp E S 0) 9 = true := fun S => misc_o (o_X (b := 1) hE rfl)
  have m10 := m_M hE'
  have f1 : mia (hp E S 3000000) 0 10 (nI (i + 1)) = some (E.2.2.2 (i + 1)) := sc_at hE (by omega) hL
  have g1 : mia (hp E' S1 3000000) 0 10 (nI (i + 1)) = some (E.2.2.2 (i + 1)) := by rw [← a4]; exact sc_at hE' (by rw [a4]; omega) (by rw [a4]; exact hL)
  refine ⟨E', S2, ⟨hI, a1, a2, a3, a4⟩, fun d hd => ?_⟩
  have r1 := r1 d hd
  have r2 := r2 d hd
  simp only [r_al1 c_W_law_594, r_al0 c_W_law_595, r_il3 c_W_law_596, r_ci c_W_law_597, r_iadd c_W_law_598, r_ial c_W_law_599, r_cv2 c_W_law_600, r_al2 c_W_law_603, r_al0 c_W_law_604, r_il3 c_W_law_605, r_ci c_W_law_606, r_iadd c_W_law_607, r_ial c_W_law_608, r_cv2 c_W_law_609, r_iceq c_W_law_612, ↓reduceIte, hs_h, Option.bind_some, mfix_i, mfix_r, mfix_n, mfix_a, Option.toList_some, Option.toList_none, List.cons_append, List.nil_append, List.singleton_append, mwt, Value.category, Nat.reduceAdd, Nat.reduceLeDiff, true_and, and_true, and_self, m9, m10, nI_1, f1, g1, r1, r2, if_true]
theorem lw_11 (h : Inv E S) (hi : i + 6 < E.2.2.1) (hL : E.2.2.1 ≤ 448) (op : opG E S 71 73 3 3 [.int (E.2.2.2 (i + 1)), .int (E.2.2.2 (i + 2))]) : atP E S i 617 := by
  obtain ⟨v, E', S1, S2, r1, r2, hI, a1, a2, a3, a4⟩ := op
  have hE := h.1
  have hE' := hI.1
  have m9 : ∀ S, misc (hp E S 0) 9 = true := fun S => misc_o (o_X (b := 1) hE rfl)
  have m10 := m_M hE'
  have f1 : mia (hp E S 3000000) 0 10 (nI (i + 1)) = some (E.2.2.2 (i + 1)) := sc_at hE (by omega) hL
  have g1 : mia (hp E' S1 3000000) 0 10 (nI (i + 1)) = some (E.2.2.2 (i + 1)) := by rw [← a4]; exact sc_at hE' (by rw [a4]; omega) (by rw [a4]; exact hL)
  have f2 : mia (hp E S 3000000) 0 10 (nI (i + 2)) = some (E.2.2.2 (i + 2)) := sc_at hE (by omega) hL
  have g2 : mia (hp E' S1 3000000) 0 10 (nI (i + 2)) = some (E.2.2.2 (i + 2)) := by rw [← a4]; exact sc_at hE' (by rw [a4]; omega) (by rw [a4]; exact hL)
  refine ⟨E', S2, ⟨hI, a1, a2, a3, a4⟩, fun d hd => ?_⟩
  have r1 := r1 d hd
  have r2 := r2 d hd
  simp only [r_al1 c_W_law_617, r_al0 c_W_law_618, r_il3 c_W_law_619, r_ci c_W_law_620, r_iadd c_W_law_621, r_ial c_W_law_622, r_al0 c_W_law_623, r_il3 c_W_law_624, r_ci c_W_law_625, r_iadd c_W_law_626, r_ial c_W_law_627, r_cv3 c_W_law_628, r_al2 c_W_law_631, r_al0 c_W_law_632, r_il3 c_W_law_633, r_ci c_W_law_634, r_iadd c_W_law_635, r_ial c_W_law_636, r_al0 c_W_law_637, r_il3 c_W_law_638, r_ci c_W_law_639, r_iadd c_W_law_640, r_ial c_W_law_641, r_cv3 c_W_law_642, r_iceq c_W_law_645, ↓reduceIte, hs_h, Option.bind_some, mfix_i, mfix_r, mfix_n, mfix_a, Option.toList_some, Option.toList_none, List.cons_append, List.nil_append, List.singleton_append, mwt, Value.category, Nat.reduceAdd, Nat.reduceLeDiff, true_and, and_true, and_self, m9, m10, nI_1, kr2, f1, g1, f2, g2, r1, r2, if_true]
theorem lw_12 (h : Inv E S) (hi : i + 6 < E.2.2.1) (hL : E.2.2.1 ≤ 448) (op : opG E S 87 94 3 3 [.int (E.2.2.2 (i + 1)), .int (E.2.2.2 (i + 2))]) : atP E S i 650 := by
  obtain ⟨v, E', S1, S2, r1, r2, hI, a1, a2, a3, a4⟩ := op
  have hE := h.1
  have hE' := hI.1
  have m9 : ∀ S, misc (hp E S 0) 9 = true := fun S => misc_o (o_X (b := 1) hE rfl)
  have m10 := m_M hE'
  have f1 : mia (hp E S 3000000) 0 10 (nI (i + 1)) = some (E.2.2.2 (i + 1)) := sc_at hE (by omega) hL
  have g1 : mia (hp E' S1 3000000) 0 10 (nI (i + 1)) = some (E.2.2.2 (i + 1)) := by rw [← a4]; exact sc_at hE' (by rw [a4]; omega) (by rw [a4]; exact hL)
  have f2 : mia (hp E S 3000000) 0 10 (nI (i + 2)) = some (E.2.2.2 (i + 2)) := sc_at hE (by omega) hL
  have g2 : mia (hp E' S1 3000000) 0 10 (nI (i + 2)) = some (E.2.2.2 (i + 2)) := by rw [← a4]; exact sc_at hE' (by rw [a4]; omega) (by rw [a4]; exact hL)
  refine ⟨E', S2, ⟨hI, a1, a2, a3, a4⟩, fun d hd => ?_⟩
  have r1 := r1 d hd
  have r2 := r2 d hd
  simp only [r_al1 c_W_law_650, r_al0 c_W_law_651, r_il3 c_W_law_652, r_ci c_W_law_653, r_iadd c_W_law_654, r_ial c_W_law_655, r_al0 c_W_law_656, r_il3 c_W_law_657, r_ci c_W_law_658, r_iadd c_W_law_659, r_ial c_W_law_660, r_cv3 c_W_law_661, r_al2 c_W_law_664, r_al0 c_W_law_665, r_il3 c_W_law_666, r_ci c_W_law_667, r_iadd c_W_law_668, r_ial c_W_law_669, r_al0 c_W_law_670, r_il3 c_W_law_671, r_ci c_W_law_672, r_iadd c_W_law_673, r_ial c_W_law_674, r_cv3 c_W_law_675, r_iceq c_W_law_678, ↓reduceIte, hs_h, Option.bind_some, mfix_i, mfix_r, mfix_n, mfix_a, Option.toList_some, Option.toList_none, List.cons_append, List.nil_append, List.singleton_append, mwt, Value.category, Nat.reduceAdd, Nat.reduceLeDiff, true_and, and_true, and_self, m9, m10, nI_1, kr2, f1, g1, f2, g2, r1, r2, if_true]
theorem lw_13 (h : Inv E S) (hi : i + 6 < E.2.2.1) (hL : E.2.2.1 ≤ 448) (op : opG E S 96 97 2 6 [.int (E.2.2.2 (i + 1))]) : atP E S i 683 := by
  obtain ⟨v, E', S1, S2, r1, r2, hI, a1, a2, a3, a4⟩ := op
  have hE := h.1
  have hE' := hI.1
  have m9 : ∀ S, misc (hp E S 0) 9 = true := fun S => misc_o (o_X (b := 1) hE rfl)
  have m10 := m_M hE'
  have f1 : mia (hp E S 3000000) 0 10 (nI (i + 1)) = some (E.2.2.2 (i + 1)) := sc_at hE (by omega) hL
  have g1 : mia (hp E' S1 3000000) 0 10 (nI (i + 1)) = some (E.2.2.2 (i + 1)) := by rw [← a4]; exact sc_at hE' (by rw [a4]; omega) (by rw [a4]; exact hL)
  refine ⟨E', S2, ⟨hI, a1, a2, a3, a4⟩, fun d hd => ?_⟩
  have r1 := r1 d hd
  have r2 := r2 d hd
  simp only [r_al1 c_W_law_683, r_al0 c_W_law_684, r_il3 c_W_law_685, r_ci c_W_law_686, r_iadd c_W_law_687, r_ial c_W_law_688, r_cv2 c_W_law_689, r_al2 c_W_law_692, r_al0 c_W_law_693, r_il3 c_W_law_694, r_ci c_W_law_695, r_iadd c_W_law_696, r_ial c_W_law_697, r_cv2 c_W_law_698, r_iceq c_W_law_701, ↓reduceIte, hs_h, Option.bind_some, mfix_i, mfix_r, mfix_n, mfix_a, Option.toList_some, Option.toList_none, List.cons_append, List.nil_append, List.singleton_append, mwt, Value.category, Nat.reduceAdd, Nat.reduceLeDiff, true_and, and_true, and_self, m9, m10, nI_1, f1, g1, r1, r2, if_true]
theorem lw_14 (h : Inv E S) (hi : i + 6 < E.2.2.1) (hL : E.2.2.1 ≤ 448) (op : opG E S 100 101 4 6 [.int (E.2.2.2 (i + 1)), .int (E.2.2.2 (i + 2)), .int (E.2.2.2 (i + 3))]) : atP E S i 706 := by
  obtain ⟨v, E', S1, S2, r1, r2, hI, a1, a2, a3, a4⟩ := op
  have hE := h.1
  have hE' := hI.1
  have m9 : ∀ S, misc (hp E S 0) 9 = true := fun S => misc_o (o_X (b := 1) hE rfl)
  have m10 := m_M hE'
  have f1 : mia (hp E S 3000000) 0 10 (nI (i + 1)) = some (E.2.2.2 (i + 1)) := sc_at hE (by omega) hL
  have g1 : mia (hp E' S1 3000000) 0 10 (nI (i + 1)) = some (E.2.2.2 (i + 1)) := by rw [← a4]; exact sc_at hE' (by rw [a4]; omega) (by rw [a4]; exact hL)
  have f2 : mia (hp E S 3000000) 0 10 (nI (i + 2)) = some (E.2.2.2 (i + 2)) := sc_at hE (by omega) hL
  have g2 : mia (hp E' S1 3000000) 0 10 (nI (i + 2)) = some (E.2.2.2 (i + 2)) := by rw [← a4]; exact sc_at hE' (by rw [a4]; omega) (by rw [a4]; exact hL)
  have f3 : mia (hp E S 3000000) 0 10 (nI (i + 3)) = some (E.2.2.2 (i + 3)) := sc_at hE (by omega) hL
  have g3 : mia (hp E' S1 3000000) 0 10 (nI (i + 3)) = some (E.2.2.2 (i + 3)) := by rw [← a4]; exact sc_at hE' (by rw [a4]; omega) (by rw [a4]; exact hL)
  refine ⟨E', S2, ⟨hI, a1, a2, a3, a4⟩, fun d hd => ?_⟩
  have r1 := r1 d hd
  have r2 := r2 d hd
  simp only [r_al1 c_W_law_706, r_al0 c_W_law_707, r_il3 c_W_law_708, r_ci c_W_law_709, r_iadd c_W_law_710, r_ial c_W_law_711, r_al0 c_W_law_712, r_il3 c_W_law_713, r_ci c_W_law_714, r_iadd c_W_law_715, r_ial c_W_law_716, r_al0 c_W_law_717, r_il3 c_W_law_718, r_ci c_W_law_719, r_iadd c_W_law_720, r_ial c_W_law_721, r_cv4 c_W_law_722, r_al2 c_W_law_725, r_al0 c_W_law_726, r_il3 c_W_law_727, r_ci c_W_law_728, r_iadd c_W_law_729, r_ial c_W_law_730, r_al0 c_W_law_731, r_il3 c_W_law_732, r_ci c_W_law_733, r_iadd c_W_law_734, r_ial c_W_law_735, r_al0 c_W_law_736, r_il3 c_W_law_737, r_ci c_W_law_738, r_iadd c_W_law_739, r_ial c_W_law_740, r_cv4 c_W_law_741, r_iceq c_W_law_744, ↓reduceIte, hs_h, Option.bind_some, mfix_i, mfix_r, mfix_n, mfix_a, Option.toList_some, Option.toList_none, List.cons_append, List.nil_append, List.singleton_append, mwt, Value.category, Nat.reduceAdd, Nat.reduceLeDiff, true_and, and_true, and_self, m9, m10, nI_1, kr2, kr3, f1, g1, f2, g2, f3, g3, r1, r2, if_true]
theorem lw_15 (h : Inv E S) (hi : i + 6 < E.2.2.1) (hL : E.2.2.1 ≤ 448) (op : opG E S 102 103 2 2 [.int (E.2.2.2 (i + 1))]) : atP E S i 749 := by
  obtain ⟨v, E', S1, S2, r1, r2, hI, a1, a2, a3, a4⟩ := op
  have hE := h.1
  have hE' := hI.1
  have m9 : ∀ S, misc (hp E S 0) 9 = true := fun S => misc_o (o_X (b := 1) hE rfl)
  have m10 := m_M hE'
  have f1 : mia (hp E S 3000000) 0 10 (nI (i + 1)) = some (E.2.2.2 (i + 1)) := sc_at hE (by omega) hL
  have g1 : mia (hp E' S1 3000000) 0 10 (nI (i + 1)) = some (E.2.2.2 (i + 1)) := by rw [← a4]; exact sc_at hE' (by rw [a4]; omega) (by rw [a4]; exact hL)
  refine ⟨E', S2, ⟨hI, a1, a2, a3, a4⟩, fun d hd => ?_⟩
  have r1 := r1 d hd
  have r2 := r2 d hd
  simp only [r_al1 c_W_law_749, r_al0 c_W_law_750, r_il3 c_W_law_751, r_ci c_W_law_752, r_iadd c_W_law_753, r_ial c_W_law_754, r_cv2 c_W_law_755, r_al2 c_W_law_758, r_al0 c_W_law_759, r_il3 c_W_law_760, r_ci c_W_law_761, r_iadd c_W_law_762, r_ial c_W_law_763, r_cv2 c_W_law_764, r_iceq c_W_law_767, ↓reduceIte, hs_h, Option.bind_some, mfix_i, mfix_r, mfix_n, mfix_a, Option.toList_some, Option.toList_none, List.cons_append, List.nil_append, List.singleton_append, mwt, Value.category, Nat.reduceAdd, Nat.reduceLeDiff, true_and, and_true, and_self, m9, m10, nI_1, f1, g1, r1, r2, if_true]
theorem lw_16 (h : Inv E S) (hi : i + 6 < E.2.2.1) (hL : E.2.2.1 ≤ 448) (op : opG E S 139 154 5 8 [.int (E.2.2.2 (i + 1)), .int (E.2.2.2 (i + 2))]) : atP E S i 772 := by
  obtain ⟨v, E', S1, S2, r1, r2, hI, a1, a2, a3, a4⟩ := op
  have hE := h.1
  have hE' := hI.1
  have m9 : ∀ S, misc (hp E S 0) 9 = true := fun S => misc_o (o_X (b := 1) hE rfl)
  have m10 := m_M hE'
  have f1 : mia (hp E S 3000000) 0 10 (nI (i + 1)) = some (E.2.2.2 (i + 1)) := sc_at hE (by omega) hL
  have g1 : mia (hp E' S1 3000000) 0 10 (nI (i + 1)) = some (E.2.2.2 (i + 1)) := by rw [← a4]; exact sc_at hE' (by rw [a4]; omega) (by rw [a4]; exact hL)
  have f2 : mia (hp E S 3000000) 0 10 (nI (i + 2)) = some (E.2.2.2 (i + 2)) := sc_at hE (by omega) hL
  have g2 : mia (hp E' S1 3000000) 0 10 (nI (i + 2)) = some (E.2.2.2 (i + 2)) := by rw [← a4]; exact sc_at hE' (by rw [a4]; omega) (by rw [a4]; exact hL)
  refine ⟨E', S2, ⟨hI, a1, a2, a3, a4⟩, fun d hd => ?_⟩
  have r1 := r1 d hd
  have r2 := r2 d hd
  simp only [r_al1 c_W_law_772, r_al0 c_W_law_773, r_il3 c_W_law_774, r_ci c_W_law_775, r_iadd c_W_law_776, r_ial c_W_law_777, r_al0 c_W_law_778, r_il3 c_W_law_779, r_ci c_W_law_780, r_iadd c_W_law_781, r_ial c_W_law_782, r_cv3 c_W_law_783, r_al2 c_W_law_786, r_al0 c_W_law_787, r_il3 c_W_law_788, r_ci c_W_law_789, r_iadd c_W_law_790, r_ial c_W_law_791, r_al0 c_W_law_792, r_il3 c_W_law_793, r_ci c_W_law_794, r_iadd c_W_law_795, r_ial c_W_law_796, r_cv3 c_W_law_797, r_iceq c_W_law_800, ↓reduceIte, hs_h, Option.bind_some, mfix_i, mfix_r, mfix_n, mfix_a, Option.toList_some, Option.toList_none, List.cons_append, List.nil_append, List.singleton_append, mwt, Value.category, Nat.reduceAdd, Nat.reduceLeDiff, true_and, and_true, and_self, m9, m10, nI_1, kr2, f1, g1, f2, g2, r1, r2, if_true]
theorem lw_17 (h : Inv E S) (hi : i + 6 < E.2.2.1) (hL : E.2.2.1 ≤ 448) (op : opG E S 155 156 4 3 [.int (E.2.2.2 (i + 1)), .int (E.2.2.2 (i + 2))]) : atP E S i 805 := by
  obtain ⟨v, E', S1, S2, r1, r2, hI, a1, a2, a3, a4⟩ := op
  have hE := h.1
  have hE' := hI.1
  have m9 : ∀ S, misc (hp E S 0) 9 = true := fun S => misc_o (o_X (b := 1) hE rfl)
  have m10 := m_M hE'
  have f1 : mia (hp E S 3000000) 0 10 (nI (i + 1)) = some (E.2.2.2 (i + 1)) := sc_at hE (by omega) hL
  have g1 : mia (hp E' S1 3000000) 0 10 (nI (i + 1)) = some (E.2.2.2 (i + 1)) := by rw [← a4]; exact sc_at hE' (by rw [a4]; omega) (by rw [a4]; exact hL)
  have f2 : mia (hp E S 3000000) 0 10 (nI (i + 2)) = some (E.2.2.2 (i + 2)) := sc_at hE (by omega) hL
  have g2 : mia (hp E' S1 3000000) 0 10 (nI (i + 2)) = some (E.2.2.2 (i + 2)) := by rw [← a4]; exact sc_at hE' (by rw [a4]; omega) (by rw [a4]; exact hL)
  refine ⟨E', S2, ⟨hI, a1, a2, a3, a4⟩, fun d hd => ?_⟩
  have r1 := r1 d hd
  have r2 := r2 d hd
  simp only [r_al1 c_W_law_805, r_al0 c_W_law_806, r_il3 c_W_law_807, r_ci c_W_law_808, r_iadd c_W_law_809, r_ial c_W_law_810, r_al0 c_W_law_811, r_il3 c_W_law_812, r_ci c_W_law_813, r_iadd c_W_law_814, r_ial c_W_law_815, r_cv3 c_W_law_816, r_al2 c_W_law_819, r_al0 c_W_law_820, r_il3 c_W_law_821, r_ci c_W_law_822, r_iadd c_W_law_823, r_ial c_W_law_824, r_al0 c_W_law_825, r_il3 c_W_law_826, r_ci c_W_law_827, r_iadd c_W_law_828, r_ial c_W_law_829, r_cv3 c_W_law_830, r_iceq c_W_law_833, ↓reduceIte, hs_h, Option.bind_some, mfix_i, mfix_r, mfix_n, mfix_a, Option.toList_some, Option.toList_none, List.cons_append, List.nil_append, List.singleton_append, mwt, Value.category, Nat.reduceAdd, Nat.reduceLeDiff, true_and, and_true, and_self, m9, m10, nI_1, kr2, f1, g1, f2, g2, r1, r2, if_true]
theorem lw_18 (h : Inv E S) (hi : i + 6 < E.2.2.1) (hL : E.2.2.1 ≤ 448) (op : opG E S 157 158 3 4 [.int (E.2.2.2 (i + 1)), .int (E.2.2.2 (i + 2))]) : atP E S i 838 := by
  obtain ⟨v, E', S1, S2, r1, r2, hI, a1, a2, a3, a4⟩ := op
  have hE := h.1
  have hE' := hI.1
  have m9 : ∀ S, misc (hp E S 0) 9 = true := fun S => misc_o (o_X (b := 1) hE rfl)
  have m10 := m_M hE'
  have f1 : mia (hp E S 3000000) 0 10 (nI (i + 1)) = some (E.2.2.2 (i + 1)) := sc_at hE (by omega) hL
  have g1 : mia (hp E' S1 3000000) 0 10 (nI (i + 1)) = some (E.2.2.2 (i + 1)) := by rw [← a4]; exact sc_at hE' (by rw [a4]; omega) (by rw [a4]; exact hL)
  have f2 : mia (hp E S 3000000) 0 10 (nI (i + 2)) = some (E.2.2.2 (i + 2)) := sc_at hE (by omega) hL
  have g2 : mia (hp E' S1 3000000) 0 10 (nI (i + 2)) = some (E.2.2.2 (i + 2)) := by rw [← a4]; exact sc_at hE' (by rw [a4]; omega) (by rw [a4]; exact hL)
  refine ⟨E', S2, ⟨hI, a1, a2, a3, a4⟩, fun d hd => ?_⟩
  have r1 := r1 d hd
  have r2 := r2 d hd
  simp only [r_al1 c_W_law_838, r_al0 c_W_law_839, r_il3 c_W_law_840, r_ci c_W_law_841, r_iadd c_W_law_842, r_ial c_W_law_843, r_al0 c_W_law_844, r_il3 c_W_law_845, r_ci c_W_law_846, r_iadd c_W_law_847, r_ial c_W_law_848, r_cv3 c_W_law_849, r_al2 c_W_law_852, r_al0 c_W_law_853, r_il3 c_W_law_854, r_ci c_W_law_855, r_iadd c_W_law_856, r_ial c_W_law_857, r_al0 c_W_law_858, r_il3 c_W_law_859, r_ci c_W_law_860, r_iadd c_W_law_861, r_ial c_W_law_862, r_cv3 c_W_law_863, r_iceq c_W_law_866, ↓reduceIte, hs_h, Option.bind_some, mfix_i, mfix_r, mfix_n, mfix_a, Option.toList_some, Option.toList_none, List.cons_append, List.nil_append, List.singleton_append, mwt, Value.category, Nat.reduceAdd, Nat.reduceLeDiff, true_and, and_true, and_self, m9, m10, nI_1, kr2, f1, g1, f2, g2, r1, r2, if_true]
theorem lw_19 (h : Inv E S) (hi : i + 6 < E.2.2.1) (hL : E.2.2.1 ≤ 448) (op : opG E S 159 160 7 7 [.int (E.2.2.2 (i + 1)), .int (E.2.2.2 (i + 2)), .int (E.2.2.2 (i + 3)), .int (E.2.2.2 (i + 4)), .int (E.2.2.2 (i + 5)), .int (E.2.2.2 (i + 6))]) : atP E S i 871 := by
  obtain ⟨v, E', S1, S2, r1, r2, hI, a1, a2, a3, a4⟩ := op
  have hE := h.1
  have hE' := hI.1
  have m9 : ∀ S, misc (hp E S 0) 9 = true := fun S => misc_o (o_X (b := 1) hE rfl)
  have m10 := m_M hE'
  have f1 : mia (hp E S 3000000) 0 10 (nI (i + 1)) = some (E.2.2.2 (i + 1)) := sc_at hE (by omega) hL
  have g1 : mia (hp E' S1 3000000) 0 10 (nI (i + 1)) = some (E.2.2.2 (i + 1)) := by rw [← a4]; exact sc_at hE' (by rw [a4]; omega) (by rw [a4]; exact hL)
  have f2 : mia (hp E S 3000000) 0 10 (nI (i + 2)) = some (E.2.2.2 (i + 2)) := sc_at hE (by omega) hL
  have g2 : mia (hp E' S1 3000000) 0 10 (nI (i + 2)) = some (E.2.2.2 (i + 2)) := by rw [← a4]; exact sc_at hE' (by rw [a4]; omega) (by rw [a4]; exact hL)
  have f3 : mia (hp E S 3000000) 0 10 (nI (i + 3)) = some (E.2.2.2 (i + 3)) := sc_at hE (by omega) hL
  have g3 : mia (hp E' S1 3000000) 0 10 (nI (i + 3)) = some (E.2.2.2 (i + 3)) := by rw [← a4]; exact sc_at hE' (by rw [a4]; omega) (by rw [a4]; exact hL)
  have f4 : mia (hp E S 3000000) 0 10 (nI (i + 4)) = some (E.2.2.2 (i + 4)) := sc_at hE (by omega) hL
  have g4 : mia (hp E' S1 3000000) 0 10 (nI (i + 4)) = some (E.2.2.2 (i + 4)) := by rw [← a4]; exact sc_at hE' (by rw [a4]; omega) (by rw [a4]; exact hL)
  have f5 : mia (hp E S 3000000) 0 10 (nI (i + 5)) = some (E.2.2.2 (i + 5)) := sc_at hE (by omega) hL
  have g5 : mia (hp E' S1 3000000) 0 10 (nI (i + 5)) = some (E.2.2.2 (i + 5)) := by rw [← a4]; exact sc_at hE' (by rw [a4]; omega) (by rw [a4]; exact hL)
  have f6 : mia (hp E S 3000000) 0 10 (nI (i + 6)) = some (E.2.2.2 (i + 6)) := sc_at hE (by omega) hL
  have g6 : mia (hp E' S1 3000000) 0 10 (nI (i + 6)) = some (E.2.2.2 (i + 6)) := by rw [← a4]; exact sc_at hE' (by rw [a4]; omega) (by rw [a4]; exact hL)
  refine ⟨E', S2, ⟨hI, a1, a2, a3, a4⟩, fun d hd => ?_⟩
  have r1 := r1 d hd
  have r2 := r2 d hd
  simp only [r_al1 c_W_law_871, r_al0 c_W_law_872, r_il3 c_W_law_873, r_ci c_W_law_874, r_iadd c_W_law_875, r_ial c_W_law_876, r_al0 c_W_law_877, r_il3 c_W_law_878, r_ci c_W_law_879, r_iadd c_W_law_880, r_ial c_W_law_881, r_al0 c_W_law_882, r_il3 c_W_law_883, r_ci c_W_law_884, r_iadd c_W_law_885, r_ial c_W_law_886, r_al0 c_W_law_887, r_il3 c_W_law_888, r_ci c_W_law_889, r_iadd c_W_law_890, r_ial c_W_law_891, r_al0 c_W_law_892, r_il3 c_W_law_893, r_ci c_W_law_894, r_iadd c_W_law_895, r_ial c_W_law_896, r_al0 c_W_law_897, r_il3 c_W_law_898, r_ci c_W_law_899, r_iadd c_W_law_901, r_ial c_W_law_902, r_cv7 c_W_law_903, r_al2 c_W_law_906, r_al0 c_W_law_907, r_il3 c_W_law_908, r_ci c_W_law_909, r_iadd c_W_law_910, r_ial c_W_law_911, r_al0 c_W_law_912, r_il3 c_W_law_913, r_ci c_W_law_914, r_iadd c_W_law_915, r_ial c_W_law_916, r_al0 c_W_law_917, r_il3 c_W_law_918, r_ci c_W_law_919, r_iadd c_W_law_920, r_ial c_W_law_921, r_al0 c_W_law_922, r_il3 c_W_law_923, r_ci c_W_law_924, r_iadd c_W_law_925, r_ial c_W_law_926, r_al0 c_W_law_927, r_il3 c_W_law_928, r_ci c_W_law_929, r_iadd c_W_law_930, r_ial c_W_law_931, r_al0 c_W_law_932, r_il3 c_W_law_933, r_ci c_W_law_934, r_iadd c_W_law_936, r_ial c_W_law_937, r_cv7 c_W_law_938, r_iceq c_W_law_941, ↓reduceIte, hs_h, Option.bind_some, mfix_i, mfix_r, mfix_n, mfix_a, Option.toList_some, Option.toList_none, List.cons_append, List.nil_append, List.singleton_append, mwt, Value.category, Nat.reduceAdd, Nat.reduceLeDiff, true_and, and_true, and_self, m9, m10, nI_1, kr2, kr3, kr4, kr5, kr6, f1, g1, f2, g2, f3, g3, f4, g4, f5, g5, f6, g6, r1, r2, if_true]
theorem lw_20 (h : Inv E S) (hi : i + 6 < E.2.2.1) (hL : E.2.2.1 ≤ 448) (op : opG E S 162 163 4 7 [.int (E.2.2.2 (i + 1)), .int (E.2.2.2 (i + 2)), .int (E.2.2.2 (i + 3))]) : atP E S i 946 := by
  obtain ⟨v, E', S1, S2, r1, r2, hI, a1, a2, a3, a4⟩ := op
  have hE := h.1
  have hE' := hI.1
  have m9 : ∀ S, misc (hp E S 0) 9 = true := fun S => misc_o (o_X (b := 1) hE rfl)
  have m10 := m_M hE'
  have f1 : mia (hp E S 3000000) 0 10 (nI (i + 1)) = some (E.2.2.2 (i + 1)) := sc_at hE (by omega) hL
  have g1 : mia (hp E' S1 3000000) 0 10 (nI (i + 1)) = some (E.2.2.2 (i + 1)) := by rw [← a4]; exact sc_at hE' (by rw [a4]; omega) (by rw [a4]; exact hL)
  have f2 : mia (hp E S 3000000) 0 10 (nI (i + 2)) = some (E.2.2.2 (i + 2)) := sc_at hE (by omega) hL
  have g2 : mia (hp E' S1 3000000) 0 10 (nI (i + 2)) = some (E.2.2.2 (i + 2)) := by rw [← a4]; exact sc_at hE' (by rw [a4]; omega) (by rw [a4]; exact hL)
  have f3 : mia (hp E S 3000000) 0 10 (nI (i + 3)) = some (E.2.2.2 (i + 3)) := sc_at hE (by omega) hL
  have g3 : mia (hp E' S1 3000000) 0 10 (nI (i + 3)) = some (E.2.2.2 (i + 3)) := by rw [← a4]; exact sc_at hE' (by rw [a4]; omega) (by rw [a4]; exact hL)
  refine ⟨E', S2, ⟨hI, a1, a2, a3, a4⟩, fun d hd => ?_⟩
  have r1 := r1 d hd
  have r2 := r2 d hd
  simp only [r_al1 c_W_law_946, r_al0 c_W_law_947, r_il3 c_W_law_948, r_ci c_W_law_949, r_iadd c_W_law_950, r_ial c_W_law_951, r_al0 c_W_law_952, r_il3 c_W_law_953, r_ci c_W_law_954, r_iadd c_W_law_955, r_ial c_W_law_956, r_al0 c_W_law_957, r_il3 c_W_law_958, r_ci c_W_law_959, r_iadd c_W_law_960, r_ial c_W_law_961, r_cv4 c_W_law_962, r_al2 c_W_law_965, r_al0 c_W_law_966, r_il3 c_W_law_967, r_ci c_W_law_968, r_iadd c_W_law_969, r_ial c_W_law_970, r_al0 c_W_law_971, r_il3 c_W_law_972, r_ci c_W_law_973, r_iadd c_W_law_974, r_ial c_W_law_975, r_al0 c_W_law_976, r_il3 c_W_law_977, r_ci c_W_law_978, r_iadd c_W_law_979, r_ial c_W_law_980, r_cv4 c_W_law_981, r_iceq c_W_law_984, ↓reduceIte, hs_h, Option.bind_some, mfix_i, mfix_r, mfix_n, mfix_a, Option.toList_some, Option.toList_none, List.cons_append, List.nil_append, List.singleton_append, mwt, Value.category, Nat.reduceAdd, Nat.reduceLeDiff, true_and, and_true, and_self, m9, m10, nI_1, kr2, kr3, f1, g1, f2, g2, f3, g3, r1, r2, if_true]
theorem lw_21 (h : Inv E S) (hi : i + 6 < E.2.2.1) (hL : E.2.2.1 ≤ 448) (op : opG E S 166 167 3 5 [.int (E.2.2.2 (i + 1)), .int (E.2.2.2 (i + 2))]) : atP E S i 989 := by
  obtain ⟨v, E', S1, S2, r1, r2, hI, a1, a2, a3, a4⟩ := op
  have hE := h.1
  have hE' := hI.1
  have m9 : ∀ S, misc (hp E S 0) 9 = true := fun S => misc_o (o_X (b := 1) hE rfl)
  have m10 := m_M hE'
  have f1 : mia (hp E S 3000000) 0 10 (nI (i + 1)) = some (E.2.2.2 (i + 1)) := sc_at hE (by omega) hL
  have g1 : mia (hp E' S1 3000000) 0 10 (nI (i + 1)) = some (E.2.2.2 (i + 1)) := by rw [← a4]; exact sc_at hE' (by rw [a4]; omega) (by rw [a4]; exact hL)
  have f2 : mia (hp E S 3000000) 0 10 (nI (i + 2)) = some (E.2.2.2 (i + 2)) := sc_at hE (by omega) hL
  have g2 : mia (hp E' S1 3000000) 0 10 (nI (i + 2)) = some (E.2.2.2 (i + 2)) := by rw [← a4]; exact sc_at hE' (by rw [a4]; omega) (by rw [a4]; exact hL)
  refine ⟨E', S2, ⟨hI, a1, a2, a3, a4⟩, fun d hd => ?_⟩
  have r1 := r1 d hd
  have r2 := r2 d hd
  simp only [r_al1 c_W_law_989, r_al0 c_W_law_990, r_il3 c_W_law_991, r_ci c_W_law_992, r_iadd c_W_law_993, r_ial c_W_law_994, r_al0 c_W_law_995, r_il3 c_W_law_996, r_ci c_W_law_997, r_iadd c_W_law_998, r_ial c_W_law_999, r_cv3 c_W_law_1000, r_al2 c_W_law_1003, r_al0 c_W_law_1004, r_il3 c_W_law_1005, r_ci c_W_law_1006, r_iadd c_W_law_1007, r_ial c_W_law_1008, r_al0 c_W_law_1009, r_il3 c_W_law_1010, r_ci c_W_law_1011, r_iadd c_W_law_1012, r_ial c_W_law_1013, r_cv3 c_W_law_1014, r_iceq c_W_law_1017, ↓reduceIte, hs_h, Option.bind_some, mfix_i, mfix_r, mfix_n, mfix_a, Option.toList_some, Option.toList_none, List.cons_append, List.nil_append, List.singleton_append, mwt, Value.category, Nat.reduceAdd, Nat.reduceLeDiff, true_and, and_true, and_self, m9, m10, nI_1, kr2, f1, g1, f2, g2, r1, r2, if_true]
theorem lw_22 (h : Inv E S) (hi : i + 6 < E.2.2.1) (hL : E.2.2.1 ≤ 448) (op : opG E S 168 170 3 4 [.int (E.2.2.2 (i + 1)), .int (E.2.2.2 (i + 2))]) : atP E S i 1022 := by
  obtain ⟨v, E', S1, S2, r1, r2, hI, a1, a2, a3, a4⟩ := op
  have hE := h.1
  have hE' := hI.1
  have m9 : ∀ S, misc (hp E S 0) 9 = true := fun S => misc_o (o_X (b := 1) hE rfl)
  have m10 := m_M hE'
  have f1 : mia (hp E S 3000000) 0 10 (nI (i + 1)) = some (E.2.2.2 (i + 1)) := sc_at hE (by omega) hL
  have g1 : mia (hp E' S1 3000000) 0 10 (nI (i + 1)) = some (E.2.2.2 (i + 1)) := by rw [← a4]; exact sc_at hE' (by rw [a4]; omega) (by rw [a4]; exact hL)
  have f2 : mia (hp E S 3000000) 0 10 (nI (i + 2)) = some (E.2.2.2 (i + 2)) := sc_at hE (by omega) hL
  have g2 : mia (hp E' S1 3000000) 0 10 (nI (i + 2)) = some (E.2.2.2 (i + 2)) := by rw [← a4]; exact sc_at hE' (by rw [a4]; omega) (by rw [a4]; exact hL)
  refine ⟨E', S2, ⟨hI, a1, a2, a3, a4⟩, fun d hd => ?_⟩
  have r1 := r1 d hd
  have r2 := r2 d hd
  simp only [r_al1 c_W_law_1022, r_al0 c_W_law_1023, r_il3 c_W_law_1024, r_ci c_W_law_1025, r_iadd c_W_law_1026, r_ial c_W_law_1027, r_al0 c_W_law_1028, r_il3 c_W_law_1029, r_ci c_W_law_1030, r_iadd c_W_law_1031, r_ial c_W_law_1032, r_cv3 c_W_law_1033, r_al2 c_W_law_1036, r_al0 c_W_law_1037, r_il3 c_W_law_1038, r_ci c_W_law_1039, r_iadd c_W_law_1040, r_ial c_W_law_1041, r_al0 c_W_law_1042, r_il3 c_W_law_1043, r_ci c_W_law_1044, r_iadd c_W_law_1045, r_ial c_W_law_1046, r_cv3 c_W_law_1047, r_iceq c_W_law_1050, ↓reduceIte, hs_h, Option.bind_some, mfix_i, mfix_r, mfix_n, mfix_a, Option.toList_some, Option.toList_none, List.cons_append, List.nil_append, List.singleton_append, mwt, Value.category, Nat.reduceAdd, Nat.reduceLeDiff, true_and, and_true, and_self, m9, m10, nI_1, kr2, f1, g1, f2, g2, r1, r2, if_true]
theorem lw_23 (h : Inv E S) (hi : i + 6 < E.2.2.1) (hL : E.2.2.1 ≤ 448) (op : opG E S 171 172 3 4 [.int (E.2.2.2 (i + 1)), .int (E.2.2.2 (i + 2))]) : atP E S i 1055 := by
  obtain ⟨v, E', S1, S2, r1, r2, hI, a1, a2, a3, a4⟩ := op
  have hE := h.1
  have hE' := hI.1
  have m9 : ∀ S, misc (hp E S 0) 9 = true := fun S => misc_o (o_X (b := 1) hE rfl)
  have m10 := m_M hE'
  have f1 : mia (hp E S 3000000) 0 10 (nI (i + 1)) = some (E.2.2.2 (i + 1)) := sc_at hE (by omega) hL
  have g1 : mia (hp E' S1 3000000) 0 10 (nI (i + 1)) = some (E.2.2.2 (i + 1)) := by rw [← a4]; exact sc_at hE' (by rw [a4]; omega) (by rw [a4]; exact hL)
  have f2 : mia (hp E S 3000000) 0 10 (nI (i + 2)) = some (E.2.2.2 (i + 2)) := sc_at hE (by omega) hL
  have g2 : mia (hp E' S1 3000000) 0 10 (nI (i + 2)) = some (E.2.2.2 (i + 2)) := by rw [← a4]; exact sc_at hE' (by rw [a4]; omega) (by rw [a4]; exact hL)
  refine ⟨E', S2, ⟨hI, a1, a2, a3, a4⟩, fun d hd => ?_⟩
  have r1 := r1 d hd
  have r2 := r2 d hd
  simp only [r_al1 c_W_law_1055, r_al0 c_W_law_1056, r_il3 c_W_law_1057, r_ci c_W_law_1058, r_iadd c_W_law_1059, r_ial c_W_law_1060, r_al0 c_W_law_1061, r_il3 c_W_law_1062, r_ci c_W_law_1063, r_iadd c_W_law_1064, r_ial c_W_law_1065, r_cv3 c_W_law_1066, r_al2 c_W_law_1069, r_al0 c_W_law_1070, r_il3 c_W_law_1071, r_ci c_W_law_1072, r_iadd c_W_law_1073, r_ial c_W_law_1074, r_al0 c_W_law_1075, r_il3 c_W_law_1076, r_ci c_W_law_1077, r_iadd c_W_law_1078, r_ial c_W_law_1079, r_cv3 c_W_law_1080, r_iceq c_W_law_1083, ↓reduceIte, hs_h, Option.bind_some, mfix_i, mfix_r, mfix_n, mfix_a, Option.toList_some, Option.toList_none, List.cons_append, List.nil_append, List.singleton_append, mwt, Value.category, Nat.reduceAdd, Nat.reduceLeDiff, true_and, and_true, and_self, m9, m10, nI_1, kr2, f1, g1, f2, g2, r1, r2, if_true]
theorem lw_24 (h : Inv E S) (hi : i + 6 < E.2.2.1) (hL : E.2.2.1 ≤ 448) (op : opG E S 173 174 6 6 [.int (E.2.2.2 (i + 1)), .int (E.2.2.2 (i + 2)), .int (E.2.2.2 (i + 3))]) : atP E S i 1088 := by
  obtain ⟨v, E', S1, S2, r1, r2, hI, a1, a2, a3, a4⟩ := op
  have hE := h.1
  have hE' := hI.1
  have m9 : ∀ S, misc (hp E S 0) 9 = true := fun S => misc_o (o_X (b := 1) hE rfl)
  have m10 := m_M hE'
  have f1 : mia (hp E S 3000000) 0 10 (nI (i + 1)) = some (E.2.2.2 (i + 1)) := sc_at hE (by omega) hL
  have g1 : mia (hp E' S1 3000000) 0 10 (nI (i + 1)) = some (E.2.2.2 (i + 1)) := by rw [← a4]; exact sc_at hE' (by rw [a4]; omega) (by rw [a4]; exact hL)
  have f2 : mia (hp E S 3000000) 0 10 (nI (i + 2)) = some (E.2.2.2 (i + 2)) := sc_at hE (by omega) hL
  have g2 : mia (hp E' S1 3000000) 0 10 (nI (i + 2)) = some (E.2.2.2 (i + 2)) := by rw [← a4]; exact sc_at hE' (by rw [a4]; omega) (by rw [a4]; exact hL)
  have f3 : mia (hp E S 3000000) 0 10 (nI (i + 3)) = some (E.2.2.2 (i + 3)) := sc_at hE (by omega) hL
  have g3 : mia (hp E' S1 3000000) 0 10 (nI (i + 3)) = some (E.2.2.2 (i + 3)) := by rw [← a4]; exact sc_at hE' (by rw [a4]; omega) (by rw [a4]; exact hL)
  refine ⟨E', S2, ⟨hI, a1, a2, a3, a4⟩, fun d hd => ?_⟩
  have r1 := r1 d hd
  have r2 := r2 d hd
  simp only [r_al1 c_W_law_1088, r_al0 c_W_law_1089, r_il3 c_W_law_1090, r_ci c_W_law_1091, r_iadd c_W_law_1092, r_ial c_W_law_1093, r_al0 c_W_law_1094, r_il3 c_W_law_1095, r_ci c_W_law_1096, r_iadd c_W_law_1097, r_ial c_W_law_1098, r_al0 c_W_law_1099, r_il3 c_W_law_1100, r_ci c_W_law_1101, r_iadd c_W_law_1102, r_ial c_W_law_1103, r_cv4 c_W_law_1104, r_al2 c_W_law_1107, r_al0 c_W_law_1108, r_il3 c_W_law_1109, r_ci c_W_law_1110, r_iadd c_W_law_1111, r_ial c_W_law_1112, r_al0 c_W_law_1113, r_il3 c_W_law_1114, r_ci c_W_law_1115, r_iadd c_W_law_1116, r_ial c_W_law_1117, r_al0 c_W_law_1118, r_il3 c_W_law_1119, r_ci c_W_law_1120, r_iadd c_W_law_1121, r_ial c_W_law_1122, r_cv4 c_W_law_1123, r_iceq c_W_law_1126, ↓reduceIte, hs_h, Option.bind_some, mfix_i, mfix_r, mfix_n, mfix_a, Option.toList_some, Option.toList_none, List.cons_append, List.nil_append, List.singleton_append, mwt, Value.category, Nat.reduceAdd, Nat.reduceLeDiff, true_and, and_true, and_self, m9, m10, nI_1, kr2, kr3, f1, g1, f2, g2, f3, g3, r1, r2, if_true]
theorem lw_25 (h : Inv E S) (hi : i + 6 < E.2.2.1) (hL : E.2.2.1 ≤ 448) (op : opG E S 175 176 3 3 [.int (E.2.2.2 (i + 1)), .int (E.2.2.2 (i + 2))]) : atP E S i 1131 := by
  obtain ⟨v, E', S1, S2, r1, r2, hI, a1, a2, a3, a4⟩ := op
  have hE := h.1
  have hE' := hI.1
  have m9 : ∀ S, misc (hp E S 0) 9 = true := fun S => misc_o (o_X (b := 1) hE rfl)
  have m10 := m_M hE'
  have f1 : mia (hp E S 3000000) 0 10 (nI (i + 1)) = some (E.2.2.2 (i + 1)) := sc_at hE (by omega) hL
  have g1 : mia (hp E' S1 3000000) 0 10 (nI (i + 1)) = some (E.2.2.2 (i + 1)) := by rw [← a4]; exact sc_at hE' (by rw [a4]; omega) (by rw [a4]; exact hL)
  have f2 : mia (hp E S 3000000) 0 10 (nI (i + 2)) = some (E.2.2.2 (i + 2)) := sc_at hE (by omega) hL
  have g2 : mia (hp E' S1 3000000) 0 10 (nI (i + 2)) = some (E.2.2.2 (i + 2)) := by rw [← a4]; exact sc_at hE' (by rw [a4]; omega) (by rw [a4]; exact hL)
  refine ⟨E', S2, ⟨hI, a1, a2, a3, a4⟩, fun d hd => ?_⟩
  have r1 := r1 d hd
  have r2 := r2 d hd
  simp only [r_al1 c_W_law_1131, r_al0 c_W_law_1132, r_il3 c_W_law_1133, r_ci c_W_law_1134, r_iadd c_W_law_1135, r_ial c_W_law_1136, r_al0 c_W_law_1137, r_il3 c_W_law_1138, r_ci c_W_law_1139, r_iadd c_W_law_1140, r_ial c_W_law_1141, r_cv3 c_W_law_1142, r_al2 c_W_law_1145, r_al0 c_W_law_1146, r_il3 c_W_law_1147, r_ci c_W_law_1148, r_iadd c_W_law_1149, r_ial c_W_law_1150, r_al0 c_W_law_1151, r_il3 c_W_law_1152, r_ci c_W_law_1153, r_iadd c_W_law_1154, r_ial c_W_law_1155, r_cv3 c_W_law_1156, r_iceq c_W_law_1159, ↓reduceIte, hs_h, Option.bind_some, mfix_i, mfix_r, mfix_n, mfix_a, Option.toList_some, Option.toList_none, List.cons_append, List.nil_append, List.singleton_append, mwt, Value.category, Nat.reduceAdd, Nat.reduceLeDiff, true_and, and_true, and_self, m9, m10, nI_1, kr2, f1, g1, f2, g2, r1, r2, if_true]
theorem lw_26 (h : Inv E S) (hi : i + 6 < E.2.2.1) (hL : E.2.2.1 ≤ 448) (op : opG E S 179 184 5 5 [.int (E.2.2.2 (i + 1)), .int (E.2.2.2 (i + 2)), .int (E.2.2.2 (i + 3))]) : atP E S i 1164 := by
  obtain ⟨v, E', S1, S2, r1, r2, hI, a1, a2, a3, a4⟩ := op
  have hE := h.1
  have hE' := hI.1
  have m9 : ∀ S, misc (hp E S 0) 9 = true := fun S => misc_o (o_X (b := 1) hE rfl)
  have m10 := m_M hE'
  have f1 : mia (hp E S 3000000) 0 10 (nI (i + 1)) = some (E.2.2.2 (i + 1)) := sc_at hE (by omega) hL
  have g1 : mia (hp E' S1 3000000) 0 10 (nI (i + 1)) = some (E.2.2.2 (i + 1)) := by rw [← a4]; exact sc_at hE' (by rw [a4]; omega) (by rw [a4]; exact hL)
  have f2 : mia (hp E S 3000000) 0 10 (nI (i + 2)) = some (E.2.2.2 (i + 2)) := sc_at hE (by omega) hL
  have g2 : mia (hp E' S1 3000000) 0 10 (nI (i + 2)) = some (E.2.2.2 (i + 2)) := by rw [← a4]; exact sc_at hE' (by rw [a4]; omega) (by rw [a4]; exact hL)
  have f3 : mia (hp E S 3000000) 0 10 (nI (i + 3)) = some (E.2.2.2 (i + 3)) := sc_at hE (by omega) hL
  have g3 : mia (hp E' S1 3000000) 0 10 (nI (i + 3)) = some (E.2.2.2 (i + 3)) := by rw [← a4]; exact sc_at hE' (by rw [a4]; omega) (by rw [a4]; exact hL)
  refine ⟨E', S2, ⟨hI, a1, a2, a3, a4⟩, fun d hd => ?_⟩
  have r1 := r1 d hd
  have r2 := r2 d hd
  simp only [r_al1 c_W_law_1164, r_al0 c_W_law_1165, r_il3 c_W_law_1166, r_ci c_W_law_1167, r_iadd c_W_law_1168, r_ial c_W_law_1169, r_al0 c_W_law_1170, r_il3 c_W_law_1171, r_ci c_W_law_1172, r_iadd c_W_law_1173, r_ial c_W_law_1174, r_al0 c_W_law_1175, r_il3 c_W_law_1176, r_ci c_W_law_1177, r_iadd c_W_law_1178, r_ial c_W_law_1179, r_cv4 c_W_law_1180, r_al2 c_W_law_1183, r_al0 c_W_law_1184, r_il3 c_W_law_1185, r_ci c_W_law_1186, r_iadd c_W_law_1187, r_ial c_W_law_1188, r_al0 c_W_law_1189, r_il3 c_W_law_1190, r_ci c_W_law_1191, r_iadd c_W_law_1192, r_ial c_W_law_1193, r_al0 c_W_law_1194, r_il3 c_W_law_1195, r_ci c_W_law_1196, r_iadd c_W_law_1197, r_ial c_W_law_1198, r_cv4 c_W_law_1199, r_iceq c_W_law_1202, ↓reduceIte, hs_h, Option.bind_some, mfix_i, mfix_r, mfix_n, mfix_a, Option.toList_some, Option.toList_none, List.cons_append, List.nil_append, List.singleton_append, mwt, Value.category, Nat.reduceAdd, Nat.reduceLeDiff, true_and, and_true, and_self, m9, m10, nI_1, kr2, kr3, f1, g1, f2, g2, f3, g3, r1, r2, if_true]
theorem lw_27 (h : Inv E S) (hi : i + 6 < E.2.2.1) (hL : E.2.2.1 ≤ 448) (op : opG E S 185 187 3 5 [.int (E.2.2.2 (i + 1)), .int (E.2.2.2 (i + 2))]) : atP E S i 1207 := by
  obtain ⟨v, E', S1, S2, r1, r2, hI, a1, a2, a3, a4⟩ := op
  have hE := h.1
  have hE' := hI.1
  have m9 : ∀ S, misc (hp E S 0) 9 = true := fun S => misc_o (o_X (b := 1) hE rfl)
  have m10 := m_M hE'
  have f1 : mia (hp E S 3000000) 0 10 (nI (i + 1)) = some (E.2.2.2 (i + 1)) := sc_at hE (by omega) hL
  have g1 : mia (hp E' S1 3000000) 0 10 (nI (i + 1)) = some (E.2.2.2 (i + 1)) := by rw [← a4]; exact sc_at hE' (by rw [a4]; omega) (by rw [a4]; exact hL)
  have f2 : mia (hp E S 3000000) 0 10 (nI (i + 2)) = some (E.2.2.2 (i + 2)) := sc_at hE (by omega) hL
  have g2 : mia (hp E' S1 3000000) 0 10 (nI (i + 2)) = some (E.2.2.2 (i + 2)) := by rw [← a4]; exact sc_at hE' (by rw [a4]; omega) (by rw [a4]; exact hL)
  refine ⟨E', S2, ⟨hI, a1, a2, a3, a4⟩, fun d hd => ?_⟩
  have r1 := r1 d hd
  have r2 := r2 d hd
  simp only [r_al1 c_W_law_1207, r_al0 c_W_law_1208, r_il3 c_W_law_1209, r_ci c_W_law_1210, r_iadd c_W_law_1211, r_ial c_W_law_1212, r_al0 c_W_law_1213, r_il3 c_W_law_1214, r_ci c_W_law_1215, r_iadd c_W_law_1216, r_ial c_W_law_1217, r_cv3 c_W_law_1218, r_al2 c_W_law_1221, r_al0 c_W_law_1222, r_il3 c_W_law_1223, r_ci c_W_law_1224, r_iadd c_W_law_1225, r_ial c_W_law_1226, r_al0 c_W_law_1227, r_il3 c_W_law_1228, r_ci c_W_law_1229, r_iadd c_W_law_1230, r_ial c_W_law_1231, r_cv3 c_W_law_1232, r_iceq c_W_law_1235, ↓reduceIte, hs_h, Option.bind_some, mfix_i, mfix_r, mfix_n, mfix_a, Option.toList_some, Option.toList_none, List.cons_append, List.nil_append, List.singleton_append, mwt, Value.category, Nat.reduceAdd, Nat.reduceLeDiff, true_and, and_true, and_self, m9, m10, nI_1, kr2, f1, g1, f2, g2, r1, r2, if_true]
theorem lw_28 (h : Inv E S) (hi : i + 6 < E.2.2.1) (hL : E.2.2.1 ≤ 448) (op : opG E S 188 189 3 3 [.int (E.2.2.2 (i + 1)), .int (E.2.2.2 (i + 2))]) : atP E S i 1240 := by
  obtain ⟨v, E', S1, S2, r1, r2, hI, a1, a2, a3, a4⟩ := op
  have hE := h.1
  have hE' := hI.1
  have m9 : ∀ S, misc (hp E S 0) 9 = true := fun S => misc_o (o_X (b := 1) hE rfl)
  have m10 := m_M hE'
  have f1 : mia (hp E S 3000000) 0 10 (nI (i + 1)) = some (E.2.2.2 (i + 1)) := sc_at hE (by omega) hL
  have g1 : mia (hp E' S1 3000000) 0 10 (nI (i + 1)) = some (E.2.2.2 (i + 1)) := by rw [← a4]; exact sc_at hE' (by rw [a4]; omega) (by rw [a4]; exact hL)
  have f2 : mia (hp E S 3000000) 0 10 (nI (i + 2)) = some (E.2.2.2 (i + 2)) := sc_at hE (by omega) hL
  have g2 : mia (hp E' S1 3000000) 0 10 (nI (i + 2)) = some (E.2.2.2 (i + 2)) := by rw [← a4]; exact sc_at hE' (by rw [a4]; omega) (by rw [a4]; exact hL)
  refine ⟨E', S2, ⟨hI, a1, a2, a3, a4⟩, fun d hd => ?_⟩
  have r1 := r1 d hd
  have r2 := r2 d hd
  simp only [r_al1 c_W_law_1240, r_al0 c_W_law_1241, r_il3 c_W_law_1242, r_ci c_W_law_1243, r_iadd c_W_law_1244, r_ial c_W_law_1245, r_al0 c_W_law_1246, r_il3 c_W_law_1247, r_ci c_W_law_1248, r_iadd c_W_law_1249, r_ial c_W_law_1250, r_cv3 c_W_law_1251, r_al2 c_W_law_1254, r_al0 c_W_law_1255, r_il3 c_W_law_1256, r_ci c_W_law_1257, r_iadd c_W_law_1258, r_ial c_W_law_1259, r_al0 c_W_law_1260, r_il3 c_W_law_1261, r_ci c_W_law_1262, r_iadd c_W_law_1263, r_ial c_W_law_1264, r_cv3 c_W_law_1265, r_iceq c_W_law_1268, ↓reduceIte, hs_h, Option.bind_some, mfix_i, mfix_r, mfix_n, mfix_a, Option.toList_some, Option.toList_none, List.cons_append, List.nil_append, List.singleton_append, mwt, Value.category, Nat.reduceAdd, Nat.reduceLeDiff, true_and, and_true, and_self, m9, m10, nI_1, kr2, f1, g1, f2, g2, r1, r2, if_true]
theorem lw_29 (h : Inv E S) (hi : i + 6 < E.2.2.1) (hL : E.2.2.1 ≤ 448) (op : opG E S 193 197 2 2 [.int (E.2.2.2 (i + 1))]) : atP E S i 1273 := by
  obtain ⟨v, E', S1, S2, r1, r2, hI, a1, a2, a3, a4⟩ := op
  have hE := h.1
  have hE' := hI.1
  have m9 : ∀ S, misc (hp E S 0) 9 = true := fun S => misc_o (o_X (b := 1) hE rfl)
  have m10 := m_M hE'
  have f1 : mia (hp E S 3000000) 0 10 (nI (i + 1)) = some (E.2.2.2 (i + 1)) := sc_at hE (by omega) hL
  have g1 : mia (hp E' S1 3000000) 0 10 (nI (i + 1)) = some (E.2.2.2 (i + 1)) := by rw [← a4]; exact sc_at hE' (by rw [a4]; omega) (by rw [a4]; exact hL)
  refine ⟨E', S2, ⟨hI, a1, a2, a3, a4⟩, fun d hd => ?_⟩
  have r1 := r1 d hd
  have r2 := r2 d hd
  simp only [r_al1 c_W_law_1273, r_al0 c_W_law_1274, r_il3 c_W_law_1275, r_ci c_W_law_1276, r_iadd c_W_law_1277, r_ial c_W_law_1278, r_cv2 c_W_law_1279, r_al2 c_W_law_1282, r_al0 c_W_law_1283, r_il3 c_W_law_1284, r_ci c_W_law_1285, r_iadd c_W_law_1286, r_ial c_W_law_1287, r_cv2 c_W_law_1288, r_iceq c_W_law_1291, ↓reduceIte, hs_h, Option.bind_some, mfix_i, mfix_r, mfix_n, mfix_a, Option.toList_some, Option.toList_none, List.cons_append, List.nil_append, List.singleton_append, mwt, Value.category, Nat.reduceAdd, Nat.reduceLeDiff, true_and, and_true, and_self, m9, m10, nI_1, f1, g1, r1, r2, if_true]
theorem lw_30 (h : Inv E S) (hi : i + 6 < E.2.2.1) (hL : E.2.2.1 ≤ 448) (op : opG E S 199 200 2 2 [.int (E.2.2.2 (i + 1))]) : atP E S i 1296 := by
  obtain ⟨v, E', S1, S2, r1, r2, hI, a1, a2, a3, a4⟩ := op
  have hE := h.1
  have hE' := hI.1
  have m9 : ∀ S, misc (hp E S 0) 9 = true := fun S => misc_o (o_X (b := 1) hE rfl)
  have m10 := m_M hE'
  have f1 : mia (hp E S 3000000) 0 10 (nI (i + 1)) = some (E.2.2.2 (i + 1)) := sc_at hE (by omega) hL
  have g1 : mia (hp E' S1 3000000) 0 10 (nI (i + 1)) = some (E.2.2.2 (i + 1)) := by rw [← a4]; exact sc_at hE' (by rw [a4]; omega) (by rw [a4]; exact hL)
  refine ⟨E', S2, ⟨hI, a1, a2, a3, a4⟩, fun d hd => ?_⟩
  have r1 := r1 d hd
  have r2 := r2 d hd
  simp only [r_al1 c_W_law_1296, r_al0 c_W_law_1297, r_il3 c_W_law_1298, r_ci c_W_law_1299, r_iadd c_W_law_1300, r_ial c_W_law_1301, r_cv2 c_W_law_1302, r_al2 c_W_law_1305, r_al0 c_W_law_1306, r_il3 c_W_law_1307, r_ci c_W_law_1308, r_iadd c_W_law_1309, r_ial c_W_law_1310, r_cv2 c_W_law_1311, r_iceq c_W_law_1314, ↓reduceIte, hs_h, Option.bind_some, mfix_i, mfix_r, mfix_n, mfix_a, Option.toList_some, Option.toList_none, List.cons_append, List.nil_append, List.singleton_append, mwt, Value.category, Nat.reduceAdd, Nat.reduceLeDiff, true_and, and_true, and_self, m9, m10, nI_1, f1, g1, r1, r2, if_true]
theorem lw_31 (h : Inv E S) (hi : i + 6 < E.2.2.1) (hL : E.2.2.1 ≤ 448) (op : opG E S 201 202 2 2 [.int (E.2.2.2 (i + 1))]) : atP E S i 1319 := by
  obtain ⟨v, E', S1, S2, r1, r2, hI, a1, a2, a3, a4⟩ := op
  have hE := h.1
  have hE' := hI.1
  have m9 : ∀ S, misc (hp E S 0) 9 = true := fun S => misc_o (o_X (b := 1) hE rfl)
  have m10 := m_M hE'
  have f1 : mia (hp E S 3000000) 0 10 (nI (i + 1)) = some (E.2.2.2 (i + 1)) := sc_at hE (by omega) hL
  have g1 : mia (hp E' S1 3000000) 0 10 (nI (i + 1)) = some (E.2.2.2 (i + 1)) := by rw [← a4]; exact sc_at hE' (by rw [a4]; omega) (by rw [a4]; exact hL)
  refine ⟨E', S2, ⟨hI, a1, a2, a3, a4⟩, fun d hd => ?_⟩
  have r1 := r1 d hd
  have r2 := r2 d hd
  simp only [r_al1 c_W_law_1319, r_al0 c_W_law_1320, r_il3 c_W_law_1321, r_ci c_W_law_1322, r_iadd c_W_law_1323, r_ial c_W_law_1324, r_cv2 c_W_law_1325, r_al2 c_W_law_1328, r_al0 c_W_law_1329, r_il3 c_W_law_1330, r_ci c_W_law_1331, r_iadd c_W_law_1332, r_ial c_W_law_1333, r_cv2 c_W_law_1334, r_iceq c_W_law_1337, ↓reduceIte, hs_h, Option.bind_some, mfix_i, mfix_r, mfix_n, mfix_a, Option.toList_some, Option.toList_none, List.cons_append, List.nil_append, List.singleton_append, mwt, Value.category, Nat.reduceAdd, Nat.reduceLeDiff, true_and, and_true, and_self, m9, m10, nI_1, f1, g1, r1, r2, if_true]
theorem lw_32 (h : Inv E S) (hi : i + 6 < E.2.2.1) (hL : E.2.2.1 ≤ 448) (op : opG E S 207 208 3 6 [.int (E.2.2.2 (i + 1))]) : atP E S i 1342 := by
  obtain ⟨v, E', S1, S2, r1, r2, hI, a1, a2, a3, a4⟩ := op
  have hE := h.1
  have hE' := hI.1
  have m9 : ∀ S, misc (hp E S 0) 9 = true := fun S => misc_o (o_X (b := 1) hE rfl)
  have m10 := m_M hE'
  have f1 : mia (hp E S 3000000) 0 10 (nI (i + 1)) = some (E.2.2.2 (i + 1)) := sc_at hE (by omega) hL
  have g1 : mia (hp E' S1 3000000) 0 10 (nI (i + 1)) = some (E.2.2.2 (i + 1)) := by rw [← a4]; exact sc_at hE' (by rw [a4]; omega) (by rw [a4]; exact hL)
  refine ⟨E', S2, ⟨hI, a1, a2, a3, a4⟩, fun d hd => ?_⟩
  have r1 := r1 d hd
  have r2 := r2 d hd
  simp only [r_al1 c_W_law_1342, r_al0 c_W_law_1343, r_il3 c_W_law_1344, r_ci c_W_law_1345, r_iadd c_W_law_1346, r_ial c_W_law_1347, r_cv2 c_W_law_1348, r_al2 c_W_law_1351, r_al0 c_W_law_1352, r_il3 c_W_law_1353, r_ci c_W_law_1354, r_iadd c_W_law_1355, r_ial c_W_law_1356, r_cv2 c_W_law_1357, r_iceq c_W_law_1360, ↓reduceIte, hs_h, Option.bind_some, mfix_i, mfix_r, mfix_n, mfix_a, Option.toList_some, Option.toList_none, List.cons_append, List.nil_append, List.singleton_append, mwt, Value.category, Nat.reduceAdd, Nat.reduceLeDiff, true_and, and_true, and_self, m9, m10, nI_1, f1, g1, r1, r2, if_true]
theorem lw_33 (h : Inv E S) (hi : i + 6 < E.2.2.1) (hL : E.2.2.1 ≤ 448) (op : opG E S 220 226 3 3 [.int (E.2.2.2 (i + 1))]) : atP E S i 1365 := by
  obtain ⟨v, E', S1, S2, r1, r2, hI, a1, a2, a3, a4⟩ := op
  have hE := h.1
  have hE' := hI.1
  have m9 : ∀ S, misc (hp E S 0) 9 = true := fun S => misc_o (o_X (b := 1) hE rfl)
  have m10 := m_M hE'
  have f1 : mia (hp E S 3000000) 0 10 (nI (i + 1)) = some (E.2.2.2 (i + 1)) := sc_at hE (by omega) hL
  have g1 : mia (hp E' S1 3000000) 0 10 (nI (i + 1)) = some (E.2.2.2 (i + 1)) := by rw [← a4]; exact sc_at hE' (by rw [a4]; omega) (by rw [a4]; exact hL)
  refine ⟨E', S2, ⟨hI, a1, a2, a3, a4⟩, fun d hd => ?_⟩
  have r1 := r1 d hd
  have r2 := r2 d hd
  simp only [r_al1 c_W_law_1365, r_al0 c_W_law_1366, r_il3 c_W_law_1367, r_ci c_W_law_1368, r_iadd c_W_law_1369, r_ial c_W_law_1370, r_cv2 c_W_law_1371, r_al2 c_W_law_1374, r_al0 c_W_law_1375, r_il3 c_W_law_1376, r_ci c_W_law_1377, r_iadd c_W_law_1378, r_ial c_W_law_1379, r_cv2 c_W_law_1380, r_iceq c_W_law_1383, ↓reduceIte, hs_h, Option.bind_some, mfix_i, mfix_r, mfix_n, mfix_a, Option.toList_some, Option.toList_none, List.cons_append, List.nil_append, List.singleton_append, mwt, Value.category, Nat.reduceAdd, Nat.reduceLeDiff, true_and, and_true, and_self, m9, m10, nI_1, f1, g1, r1, r2, if_true]
theorem lw_34 (h : Inv E S) (hi : i + 6 < E.2.2.1) (hL : E.2.2.1 ≤ 448) (op : opG E S 227 228 4 5 [.int (E.2.2.2 (i + 1)), .int (E.2.2.2 (i + 2)), .int (E.2.2.2 (i + 3))]) : atP E S i 1388 := by
  obtain ⟨v, E', S1, S2, r1, r2, hI, a1, a2, a3, a4⟩ := op
  have hE := h.1
  have hE' := hI.1
  have m9 : ∀ S, misc (hp E S 0) 9 = true := fun S => misc_o (o_X (b := 1) hE rfl)
  have m10 := m_M hE'
  have f1 : mia (hp E S 3000000) 0 10 (nI (i + 1)) = some (E.2.2.2 (i + 1)) := sc_at hE (by omega) hL
  have g1 : mia (hp E' S1 3000000) 0 10 (nI (i + 1)) = some (E.2.2.2 (i + 1)) := by rw [← a4]; exact sc_at hE' (by rw [a4]; omega) (by rw [a4]; exact hL)
  have f2 : mia (hp E S 3000000) 0 10 (nI (i + 2)) = some (E.2.2.2 (i + 2)) := sc_at hE (by omega) hL
  have g2 : mia (hp E' S1 3000000) 0 10 (nI (i + 2)) = some (E.2.2.2 (i + 2)) := by rw [← a4]; exact sc_at hE' (by rw [a4]; omega) (by rw [a4]; exact hL)
  have f3 : mia (hp E S 3000000) 0 10 (nI (i + 3)) = some (E.2.2.2 (i + 3)) := sc_at hE (by omega) hL
  have g3 : mia (hp E' S1 3000000) 0 10 (nI (i + 3)) = some (E.2.2.2 (i + 3)) := by rw [← a4]; exact sc_at hE' (by rw [a4]; omega) (by rw [a4]; exact hL)
  refine ⟨E', S2, ⟨hI, a1, a2, a3, a4⟩, fun d hd => ?_⟩
  have r1 := r1 d hd
  have r2 := r2 d hd
  simp only [r_al1 c_W_law_1388, r_al0 c_W_law_1389, r_il3 c_W_law_1390, r_ci c_W_law_1391, r_iadd c_W_law_1392, r_ial c_W_law_1393, r_al0 c_W_law_1394, r_il3 c_W_law_1395, r_ci c_W_law_1396, r_iadd c_W_law_1397, r_ial c_W_law_1398, r_al0 c_W_law_1399, r_il3 c_W_law_1400, r_ci c_W_law_1401, r_iadd c_W_law_1402, r_ial c_W_law_1403, r_cv4 c_W_law_1404, r_al2 c_W_law_1407, r_al0 c_W_law_1408, r_il3 c_W_law_1409, r_ci c_W_law_1410, r_iadd c_W_law_1411, r_ial c_W_law_1412, r_al0 c_W_law_1413, r_il3 c_W_law_1414, r_ci c_W_law_1415, r_iadd c_W_law_1416, r_ial c_W_law_1417, r_al0 c_W_law_1418, r_il3 c_W_law_1419, r_ci c_W_law_1420, r_iadd c_W_law_1421, r_ial c_W_law_1422, r_cv4 c_W_law_1423, r_iceq c_W_law_1426, ↓reduceIte, hs_h, Option.bind_some, mfix_i, mfix_r, mfix_n, mfix_a, Option.toList_some, Option.toList_none, List.cons_append, List.nil_append, List.singleton_append, mwt, Value.category, Nat.reduceAdd, Nat.reduceLeDiff, true_and, and_true, and_self, m9, m10, nI_1, kr2, kr3, f1, g1, f2, g2, f3, g3, r1, r2, if_true]
theorem lw_35 (h : Inv E S) (hi : i + 6 < E.2.2.1) (hL : E.2.2.1 ≤ 448) (op : opG E S 231 232 5 9 [.int (E.2.2.2 (i + 1)), .int (E.2.2.2 (i + 2))]) : atP E S i 1431 := by
  obtain ⟨v, E', S1, S2, r1, r2, hI, a1, a2, a3, a4⟩ := op
  have hE := h.1
  have hE' := hI.1
  have m9 : ∀ S, misc (hp E S 0) 9 = true := fun S => misc_o (o_X (b := 1) hE rfl)
  have m10 := m_M hE'
  have f1 : mia (hp E S 3000000) 0 10 (nI (i + 1)) = some (E.2.2.2 (i + 1)) := sc_at hE (by omega) hL
  have g1 : mia (hp E' S1 3000000) 0 10 (nI (i + 1)) = some (E.2.2.2 (i + 1)) := by rw [← a4]; exact sc_at hE' (by rw [a4]; omega) (by rw [a4]; exact hL)
  have f2 : mia (hp E S 3000000) 0 10 (nI (i + 2)) = some (E.2.2.2 (i + 2)) := sc_at hE (by omega) hL
  have g2 : mia (hp E' S1 3000000) 0 10 (nI (i + 2)) = some (E.2.2.2 (i + 2)) := by rw [← a4]; exact sc_at hE' (by rw [a4]; omega) (by rw [a4]; exact hL)
  refine ⟨E', S2, ⟨hI, a1, a2, a3, a4⟩, fun d hd => ?_⟩
  have r1 := r1 d hd
  have r2 := r2 d hd
  simp only [r_al1 c_W_law_1431, r_al0 c_W_law_1432, r_il3 c_W_law_1433, r_ci c_W_law_1434, r_iadd c_W_law_1435, r_ial c_W_law_1436, r_al0 c_W_law_1437, r_il3 c_W_law_1438, r_ci c_W_law_1439, r_iadd c_W_law_1440, r_ial c_W_law_1441, r_cv3 c_W_law_1442, r_al2 c_W_law_1445, r_al0 c_W_law_1446, r_il3 c_W_law_1447, r_ci c_W_law_1448, r_iadd c_W_law_1449, r_ial c_W_law_1450, r_al0 c_W_law_1451, r_il3 c_W_law_1452, r_ci c_W_law_1453, r_iadd c_W_law_1454, r_ial c_W_law_1455, r_cv3 c_W_law_1456, r_iceq c_W_law_1459, ↓reduceIte, hs_h, Option.bind_some, mfix_i, mfix_r, mfix_n, mfix_a, Option.toList_some, Option.toList_none, List.cons_append, List.nil_append, List.singleton_append, mwt, Value.category, Nat.reduceAdd, Nat.reduceLeDiff, true_and, and_true, and_self, m9, m10, nI_1, kr2, f1, g1, f2, g2, r1, r2, if_true]
theorem lw_36 (h : Inv E S) (hi : i + 6 < E.2.2.1) (hL : E.2.2.1 ≤ 448) (op : opG E S 233 234 3 4 [.int (E.2.2.2 (i + 1)), .int (E.2.2.2 (i + 2))]) : atP E S i 1464 := by
  obtain ⟨v, E', S1, S2, r1, r2, hI, a1, a2, a3, a4⟩ := op
  have hE := h.1
  have hE' := hI.1
  have m9 : ∀ S, misc (hp E S 0) 9 = true := fun S => misc_o (o_X (b := 1) hE rfl)
  have m10 := m_M hE'
  have f1 : mia (hp E S 3000000) 0 10 (nI (i + 1)) = some (E.2.2.2 (i + 1)) := sc_at hE (by omega) hL
  have g1 : mia (hp E' S1 3000000) 0 10 (nI (i + 1)) = some (E.2.2.2 (i + 1)) := by rw [← a4]; exact sc_at hE' (by rw [a4]; omega) (by rw [a4]; exact hL)
  have f2 : mia (hp E S 3000000) 0 10 (nI (i + 2)) = some (E.2.2.2 (i + 2)) := sc_at hE (by omega) hL
  have g2 : mia (hp E' S1 3000000) 0 10 (nI (i + 2)) = some (E.2.2.2 (i + 2)) := by rw [← a4]; exact sc_at hE' (by rw [a4]; omega) (by rw [a4]; exact hL)
  refine ⟨E', S2, ⟨hI, a1, a2, a3, a4⟩, fun d hd => ?_⟩
  have r1 := r1 d hd
  have r2 := r2 d hd
  simp only [r_al1 c_W_law_1464, r_al0 c_W_law_1465, r_il3 c_W_law_1466, r_ci c_W_law_1467, r_iadd c_W_law_1468, r_ial c_W_law_1469, r_al0 c_W_law_1470, r_il3 c_W_law_1471, r_ci c_W_law_1472, r_iadd c_W_law_1473, r_ial c_W_law_1474, r_cv3 c_W_law_1475, r_al2 c_W_law_1478, r_al0 c_W_law_1479, r_il3 c_W_law_1480, r_ci c_W_law_1481, r_iadd c_W_law_1482, r_ial c_W_law_1483, r_al0 c_W_law_1484, r_il3 c_W_law_1485, r_ci c_W_law_1486, r_iadd c_W_law_1487, r_ial c_W_law_1488, r_cv3 c_W_law_1489, r_iceq c_W_law_1492, ↓reduceIte, hs_h, Option.bind_some, mfix_i, mfix_r, mfix_n, mfix_a, Option.toList_some, Option.toList_none, List.cons_append, List.nil_append, List.singleton_append, mwt, Value.category, Nat.reduceAdd, Nat.reduceLeDiff, true_and, and_true, and_self, m9, m10, nI_1, kr2, f1, g1, f2, g2, r1, r2, if_true]
theorem lw_37 (h : Inv E S) (hi : i + 6 < E.2.2.1) (hL : E.2.2.1 ≤ 448) (op : opG E S 235 236 1 3 []) : atP E S i 1497 := by
  obtain ⟨v, E', S1, S2, r1, r2, hI, a1, a2, a3, a4⟩ := op
  have hE := h.1
  have hE' := hI.1
  have m9 : ∀ S, misc (hp E S 0) 9 = true := fun S => misc_o (o_X (b := 1) hE rfl)
  have m10 := m_M hE'
  refine ⟨E', S2, ⟨hI, a1, a2, a3, a4⟩, fun d hd => ?_⟩
  have r1 := r1 d hd
  have r2 := r2 d hd
  simp only [r_al1 c_W_law_1497, r_cv1 c_W_law_1498, r_al2 c_W_law_1501, r_cv1 c_W_law_1502, r_iceq c_W_law_1505, ↓reduceIte, hs_h, Option.bind_some, mfix_i, mfix_r, mfix_n, mfix_a, Option.toList_some, Option.toList_none, List.cons_append, List.nil_append, List.singleton_append, mwt, Value.category, Nat.reduceAdd, Nat.reduceLeDiff, true_and, and_true, and_self, m9, m10, r1, r2, if_true]
theorem lw_38 (h : Inv E S) (hi : i + 6 < E.2.2.1) (hL : E.2.2.1 ≤ 448) (op : opG E S 237 238 3 3 [.int (E.2.2.2 (i + 1))]) : atP E S i 1510 := by
  obtain ⟨v, E', S1, S2, r1, r2, hI, a1, a2, a3, a4⟩ := op
  have hE := h.1
  have hE' := hI.1
  have m9 : ∀ S, misc (hp E S 0) 9 = true := fun S => misc_o (o_X (b := 1) hE rfl)
  have m10 := m_M hE'
  have f1 : mia (hp E S 3000000) 0 10 (nI (i + 1)) = some (E.2.2.2 (i + 1)) := sc_at hE (by omega) hL
  have g1 : mia (hp E' S1 3000000) 0 10 (nI (i + 1)) = some (E.2.2.2 (i + 1)) := by rw [← a4]; exact sc_at hE' (by rw [a4]; omega) (by rw [a4]; exact hL)
  refine ⟨E', S2, ⟨hI, a1, a2, a3, a4⟩, fun d hd => ?_⟩
  have r1 := r1 d hd
  have r2 := r2 d hd
  simp only [r_al1 c_W_law_1510, r_al0 c_W_law_1511, r_il3 c_W_law_1512, r_ci c_W_law_1513, r_iadd c_W_law_1514, r_ial c_W_law_1515, r_cv2 c_W_law_1516, r_al2 c_W_law_1519, r_al0 c_W_law_1520, r_il3 c_W_law_1521, r_ci c_W_law_1522, r_iadd c_W_law_1523, r_ial c_W_law_1524, r_cv2 c_W_law_1525, r_iceq c_W_law_1528, ↓reduceIte, hs_h, Option.bind_some, mfix_i, mfix_r, mfix_n, mfix_a, Option.toList_some, Option.toList_none, List.cons_append, List.nil_append, List.singleton_append, mwt, Value.category, Nat.reduceAdd, Nat.reduceLeDiff, true_and, and_true, and_self, m9, m10, nI_1, f1, g1, r1, r2, if_true]
theorem lw_39 (h : Inv E S) (hi : i + 6 < E.2.2.1) (hL : E.2.2.1 ≤ 448) (op : opG E S 241 243 2 5 []) : atP E S i 1533 := by
  obtain ⟨v, E', S1, S2, r1, r2, hI, a1, a2, a3, a4⟩ := op
  have hE := h.1
  have hE' := hI.1
  have m9 : ∀ S, misc (hp E S 0) 9 = true := fun S => misc_o (o_X (b := 1) hE rfl)
  have m10 := m_M hE'
  refine ⟨E', S2, ⟨hI, a1, a2, a3, a4⟩, fun d hd => ?_⟩
  have r1 := r1 d hd
  have r2 := r2 d hd
  simp only [r_al1 c_W_law_1533, r_cv1 c_W_law_1534, r_al2 c_W_law_1537, r_cv1 c_W_law_1538, r_iceq c_W_law_1541, ↓reduceIte, hs_h, Option.bind_some, mfix_i, mfix_r, mfix_n, mfix_a, Option.toList_some, Option.toList_none, List.cons_append, List.nil_append, List.singleton_append, mwt, Value.category, Nat.reduceAdd, Nat.reduceLeDiff, true_and, and_true, and_self, m9, m10, r1, r2, if_true]
theorem lw_40 (h : Inv E S) (hi : i + 6 < E.2.2.1) (hL : E.2.2.1 ≤ 448) (op : opG E S 247 249 6 5 [.int (E.2.2.2 (i + 1)), .int (E.2.2.2 (i + 2)), .int (E.2.2.2 (i + 3))]) : atP E S i 1546 := by
  obtain ⟨v, E', S1, S2, r1, r2, hI, a1, a2, a3, a4⟩ := op
  have hE := h.1
  have hE' := hI.1
  have m9 : ∀ S, misc (hp E S 0) 9 = true := fun S => misc_o (o_X (b := 1) hE rfl)
  have m10 := m_M hE'
  have f1 : mia (hp E S 3000000) 0 10 (nI (i + 1)) = some (E.2.2.2 (i + 1)) := sc_at hE (by omega) hL
  have g1 : mia (hp E' S1 3000000) 0 10 (nI (i + 1)) = some (E.2.2.2 (i + 1)) := by rw [← a4]; exact sc_at hE' (by rw [a4]; omega) (by rw [a4]; exact hL)
  have f2 : mia (hp E S 3000000) 0 10 (nI (i + 2)) = some (E.2.2.2 (i + 2)) := sc_at hE (by omega) hL
  have g2 : mia (hp E' S1 3000000) 0 10 (nI (i + 2)) = some (E.2.2.2 (i + 2)) := by rw [← a4]; exact sc_at hE' (by rw [a4]; omega) (by rw [a4]; exact hL)
  have f3 : mia (hp E S 3000000) 0 10 (nI (i + 3)) = some (E.2.2.2 (i + 3)) := sc_at hE (by omega) hL
  have g3 : mia (hp E' S1 3000000) 0 10 (nI (i + 3)) = some (E.2.2.2 (i + 3)) := by rw [← a4]; exact sc_at hE' (by rw [a4]; omega) (by rw [a4]; exact hL)
  refine ⟨E', S2, ⟨hI, a1, a2, a3, a4⟩, fun d hd => ?_⟩
  have r1 := r1 d hd
  have r2 := r2 d hd
  simp only [r_al1 c_W_law_1546, r_al0 c_W_law_1547, r_il3 c_W_law_1548, r_ci c_W_law_1549, r_iadd c_W_law_1550, r_ial c_W_law_1551, r_al0 c_W_law_1552, r_il3 c_W_law_1553, r_ci c_W_law_1554, r_iadd c_W_law_1555, r_ial c_W_law_1556, r_al0 c_W_law_1557, r_il3 c_W_law_1558, r_ci c_W_law_1559, r_iadd c_W_law_1560, r_ial c_W_law_1561, r_cv4 c_W_law_1562, r_al2 c_W_law_1565, r_al0 c_W_law_1566, r_il3 c_W_law_1567, r_ci c_W_law_1568, r_iadd c_W_law_1569, r_ial c_W_law_1570, r_al0 c_W_law_1571, r_il3 c_W_law_1572, r_ci c_W_law_1573, r_iadd c_W_law_1574, r_ial c_W_law_1575, r_al0 c_W_law_1576, r_il3 c_W_law_1577, r_ci c_W_law_1578, r_iadd c_W_law_1579, r_ial c_W_law_1580, r_cv4 c_W_law_1581, r_iceq c_W_law_1584, ↓reduceIte, hs_h, Option.bind_some, mfix_i, mfix_r, mfix_n, mfix_a, Option.toList_some, Option.toList_none, List.cons_append, List.nil_append, List.singleton_append, mwt, Value.category, Nat.reduceAdd, Nat.reduceLeDiff, true_and, and_true, and_self, m9, m10, nI_1, kr2, kr3, f1, g1, f2, g2, f3, g3, r1, r2, if_true]
theorem lw_41 (h : Inv E S) (hi : i + 6 < E.2.2.1) (hL : E.2.2.1 ≤ 448) (op : opG E S 253 254 5 7 [.int (E.2.2.2 (i + 1)), .int (E.2.2.2 (i + 2)), .int (E.2.2.2 (i + 3))]) : atP E S i 1589 := by
  obtain ⟨v, E', S1, S2, r1, r2, hI, a1, a2, a3, a4⟩ := op
  have hE := h.1
  have hE' := hI.1
  have m9 : ∀ S, misc (hp E S 0) 9 = true := fun S => misc_o (o_X (b := 1) hE rfl)
  have m10 := m_M hE'
  have f1 : mia (hp E S 3000000) 0 10 (nI (i + 1)) = some (E.2.2.2 (i + 1)) := sc_at hE (by omega) hL
  have g1 : mia (hp E' S1 3000000) 0 10 (nI (i + 1)) = some (E.2.2.2 (i + 1)) := by rw [← a4]; exact sc_at hE' (by rw [a4]; omega) (by rw [a4]; exact hL)
  have f2 : mia (hp E S 3000000) 0 10 (nI (i + 2)) = some (E.2.2.2 (i + 2)) := sc_at hE (by omega) hL
  have g2 : mia (hp E' S1 3000000) 0 10 (nI (i + 2)) = some (E.2.2.2 (i + 2)) := by rw [← a4]; exact sc_at hE' (by rw [a4]; omega) (by rw [a4]; exact hL)
  have f3 : mia (hp E S 3000000) 0 10 (nI (i + 3)) = some (E.2.2.2 (i + 3)) := sc_at hE (by omega) hL
  have g3 : mia (hp E' S1 3000000) 0 10 (nI (i + 3)) = some (E.2.2.2 (i + 3)) := by rw [← a4]; exact sc_at hE' (by rw [a4]; omega) (by rw [a4]; exact hL)
  refine ⟨E', S2, ⟨hI, a1, a2, a3, a4⟩, fun d hd => ?_⟩
  have r1 := r1 d hd
  have r2 := r2 d hd
  simp only [r_al1 c_W_law_1589, r_al0 c_W_law_1590, r_il3 c_W_law_1591, r_ci c_W_law_1592, r_iadd c_W_law_1593, r_ial c_W_law_1594, r_al0 c_W_law_1595, r_il3 c_W_law_1596, r_ci c_W_law_1597, r_iadd c_W_law_1598, r_ial c_W_law_1599, r_al0 c_W_law_1600, r_il3 c_W_law_1601, r_ci c_W_law_1602, r_iadd c_W_law_1603, r_ial c_W_law_1604, r_cv4 c_W_law_1605, r_al2 c_W_law_1608, r_al0 c_W_law_1609, r_il3 c_W_law_1610, r_ci c_W_law_1611, r_iadd c_W_law_1612, r_ial c_W_law_1613, r_al0 c_W_law_1614, r_il3 c_W_law_1615, r_ci c_W_law_1616, r_iadd c_W_law_1617, r_ial c_W_law_1618, r_al0 c_W_law_1619, r_il3 c_W_law_1620, r_ci c_W_law_1621, r_iadd c_W_law_1622, r_ial c_W_law_1623, r_cv4 c_W_law_1624, r_iceq c_W_law_1627, ↓reduceIte, hs_h, Option.bind_some, mfix_i, mfix_r, mfix_n, mfix_a, Option.toList_some, Option.toList_none, List.cons_append, List.nil_append, List.singleton_append, mwt, Value.category, Nat.reduceAdd, Nat.reduceLeDiff, true_and, and_true, and_self, m9, m10, nI_1, kr2, kr3, f1, g1, f2, g2, f3, g3, r1, r2, if_true]
theorem lw_42 (h : Inv E S) (hi : i + 6 < E.2.2.1) (hL : E.2.2.1 ≤ 448) (op : opG E S 256 257 8 7 [.int (E.2.2.2 (i + 1)), .int (E.2.2.2 (i + 2)), .int (E.2.2.2 (i + 3)), .int (E.2.2.2 (i + 4)), .int (E.2.2.2 (i + 5))]) : atP E S i 1632 := by
  obtain ⟨v, E', S1, S2, r1, r2, hI, a1, a2, a3, a4⟩ := op
  have hE := h.1
  have hE' := hI.1
  have m9 : ∀ S, misc (hp E S 0) 9 = true := fun S => misc_o (o_X (b := 1) hE rfl)
  have m10 := m_M hE'
  have f1 : mia (hp E S 3000000) 0 10 (nI (i + 1)) = some (E.2.2.2 (i + 1)) := sc_at hE (by omega) hL
  have g1 : mia (hp E' S1 3000000) 0 10 (nI (i + 1)) = some (E.2.2.2 (i + 1)) := by rw [← a4]; exact sc_at hE' (by rw [a4]; omega) (by rw [a4]; exact hL)
  have f2 : mia (hp E S 3000000) 0 10 (nI (i + 2)) = some (E.2.2.2 (i + 2)) := sc_at hE (by omega) hL
  have g2 : mia (hp E' S1 3000000) 0 10 (nI (i + 2)) = some (E.2.2.2 (i + 2)) := by rw [← a4]; exact sc_at hE' (by rw [a4]; omega) (by rw [a4]; exact hL)
  have f3 : mia (hp E S 3000000) 0 10 (nI (i + 3)) = some (E.2.2.2 (i + 3)) := sc_at hE (by omega) hL
  have g3 : mia (hp E' S1 3000000) 0 10 (nI (i + 3)) = some (E.2.2.2 (i + 3)) := by rw [← a4]; exact sc_at hE' (by rw [a4]; omega) (by rw [a4]; exact hL)
  have f4 : mia (hp E S 3000000) 0 10 (nI (i + 4)) = some (E.2.2.2 (i + 4)) := sc_at hE (by omega) hL
  have g4 : mia (hp E' S1 3000000) 0 10 (nI (i + 4)) = some (E.2.2.2 (i + 4)) := by rw [← a4]; exact sc_at hE' (by rw [a4]; omega) (by rw [a4]; exact hL)
  have f5 : mia (hp E S 3000000) 0 10 (nI (i + 5)) = some (E.2.2.2 (i + 5)) := sc_at hE (by omega) hL
  have g5 : mia (hp E' S1 3000000) 0 10 (nI (i + 5)) = some (E.2.2.2 (i + 5)) := by rw [← a4]; exact sc_at hE' (by rw [a4]; omega) (by rw [a4]; exact hL)
  refine ⟨E', S2, ⟨hI, a1, a2, a3, a4⟩, fun d hd => ?_⟩
  have r1 := r1 d hd
  have r2 := r2 d hd
  simp only [r_al1 c_W_law_1632, r_al0 c_W_law_1633, r_il3 c_W_law_1634, r_ci c_W_law_1635, r_iadd c_W_law_1636, r_ial c_W_law_1637, r_al0 c_W_law_1638, r_il3 c_W_law_1639, r_ci c_W_law_1640, r_iadd c_W_law_1641, r_ial c_W_law_1642, r_al0 c_W_law_1643, r_il3 c_W_law_1644, r_ci c_W_law_1645, r_iadd c_W_law_1646, r_ial c_W_law_1647, r_al0 c_W_law_1648, r_il3 c_W_law_1649, r_ci c_W_law_1650, r_iadd c_W_law_1651, r_ial c_W_law_1652, r_al0 c_W_law_1653, r_il3 c_W_law_1654, r_ci c_W_law_1655, r_iadd c_W_law_1656, r_ial c_W_law_1657, r_cv6 c_W_law_1658, r_al2 c_W_law_1661, r_al0 c_W_law_1662, r_il3 c_W_law_1663, r_ci c_W_law_1664, r_iadd c_W_law_1665, r_ial c_W_law_1666, r_al0 c_W_law_1667, r_il3 c_W_law_1668, r_ci c_W_law_1669, r_iadd c_W_law_1670, r_ial c_W_law_1671, r_al0 c_W_law_1672, r_il3 c_W_law_1673, r_ci c_W_law_1674, r_iadd c_W_law_1675, r_ial c_W_law_1676, r_al0 c_W_law_1677, r_il3 c_W_law_1678, r_ci c_W_law_1679, r_iadd c_W_law_1680, r_ial c_W_law_1681, r_al0 c_W_law_1682, r_il3 c_W_law_1683, r_ci c_W_law_1684, r_iadd c_W_law_1685, r_ial c_W_law_1686, r_cv6 c_W_law_1687, r_iceq c_W_law_1690, ↓reduceIte, hs_h, Option.bind_some, mfix_i, mfix_r, mfix_n, mfix_a, Option.toList_some, Option.toList_none, List.cons_append, List.nil_append, List.singleton_append, mwt, Value.category, Nat.reduceAdd, Nat.reduceLeDiff, true_and, and_true, and_self, m9, m10, nI_1, kr2, kr3, kr4, kr5, f1, g1, f2, g2, f3, g3, f4, g4, f5, g5, r1, r2, if_true]
theorem lw_43 (h : Inv E S) (hi : i + 6 < E.2.2.1) (hL : E.2.2.1 ≤ 448) (op : opG E S 259 260 6 7 [.int (E.2.2.2 (i + 1)), .int (E.2.2.2 (i + 2))]) : atP E S i 1695 := by
  obtain ⟨v, E', S1, S2, r1, r2, hI, a1, a2, a3, a4⟩ := op
  have hE := h.1
  have hE' := hI.1
  have m9 : ∀ S, misc (hp E S 0) 9 = true := fun S => misc_o (o_X (b := 1) hE rfl)
  have m10 := m_M hE'
  have f1 : mia (hp E S 3000000) 0 10 (nI (i + 1)) = some (E.2.2.2 (i + 1)) := sc_at hE (by omega) hL
  have g1 : mia (hp E' S1 3000000) 0 10 (nI (i + 1)) = some (E.2.2.2 (i + 1)) := by rw [← a4]; exact sc_at hE' (by rw [a4]; omega) (by rw [a4]; exact hL)
  have f2 : mia (hp E S 3000000) 0 10 (nI (i + 2)) = some (E.2.2.2 (i + 2)) := sc_at hE (by omega) hL
  have g2 : mia (hp E' S1 3000000) 0 10 (nI (i + 2)) = some (E.2.2.2 (i + 2)) := by rw [← a4]; exact sc_at hE' (by rw [a4]; omega) (by rw [a4]; exact hL)
  refine ⟨E', S2, ⟨hI, a1, a2, a3, a4⟩, fun d hd => ?_⟩
  have r1 := r1 d hd
  have r2 := r2 d hd
  simp only [r_al1 c_W_law_1695, r_al0 c_W_law_1696, r_il3 c_W_law_1697, r_ci c_W_law_1698, r_iadd c_W_law_1699, r_ial c_W_law_1700, r_al0 c_W_law_1701, r_il3 c_W_law_1702, r_ci c_W_law_1703, r_iadd c_W_law_1704, r_ial c_W_law_1705, r_cv3 c_W_law_1706, r_al2 c_W_law_1709, r_al0 c_W_law_1710, r_il3 c_W_law_1711, r_ci c_W_law_1712, r_iadd c_W_law_1713, r_ial c_W_law_1714, r_al0 c_W_law_1715, r_il3 c_W_law_1716, r_ci c_W_law_1717, r_iadd c_W_law_1718, r_ial c_W_law_1719, r_cv3 c_W_law_1720, r_iceq c_W_law_1723, ↓reduceIte, hs_h, Option.bind_some, mfix_i, mfix_r, mfix_n, mfix_a, Option.toList_some, Option.toList_none, List.cons_append, List.nil_append, List.singleton_append, mwt, Value.category, Nat.reduceAdd, Nat.reduceLeDiff, true_and, and_true, and_self, m9, m10, nI_1, kr2, f1, g1, f2, g2, r1, r2, if_true]
theorem lw_44 (h : Inv E S) (hi : i + 6 < E.2.2.1) (hL : E.2.2.1 ≤ 448) (op : opG E S 261 262 2 2 [.int (E.2.2.2 (i + 1))]) : atP E S i 1728 := by
  obtain ⟨v, E', S1, S2, r1, r2, hI, a1, a2, a3, a4⟩ := op
  have hE := h.1
  have hE' := hI.1
  have m9 : ∀ S, misc (hp E S 0) 9 = true := fun S => misc_o (o_X (b := 1) hE rfl)
  have m10 := m_M hE'
  have f1 : mia (hp E S 3000000) 0 10 (nI (i + 1)) = some (E.2.2.2 (i + 1)) := sc_at hE (by omega) hL
  have g1 : mia (hp E' S1 3000000) 0 10 (nI (i + 1)) = some (E.2.2.2 (i + 1)) := by rw [← a4]; exact sc_at hE' (by rw [a4]; omega) (by rw [a4]; exact hL)
  refine ⟨E', S2, ⟨hI, a1, a2, a3, a4⟩, fun d hd => ?_⟩
  have r1 := r1 d hd
  have r2 := r2 d hd
  simp only [r_al1 c_W_law_1728, r_al0 c_W_law_1729, r_il3 c_W_law_1730, r_ci c_W_law_1731, r_iadd c_W_law_1732, r_ial c_W_law_1733, r_cv2 c_W_law_1734, r_al2 c_W_law_1737, r_al0 c_W_law_1738, r_il3 c_W_law_1739, r_ci c_W_law_1740, r_iadd c_W_law_1741, r_ial c_W_law_1742, r_cv2 c_W_law_1743, r_iceq c_W_law_1746, ↓reduceIte, hs_h, Option.bind_some, mfix_i, mfix_r, mfix_n, mfix_a, Option.toList_some, Option.toList_none, List.cons_append, List.nil_append, List.singleton_append, mwt, Value.category, Nat.reduceAdd, Nat.reduceLeDiff, true_and, and_true, and_self, m9, m10, nI_1, f1, g1, r1, r2, if_true]
theorem lw_45 (h : Inv E S) (hi : i + 6 < E.2.2.1) (hL : E.2.2.1 ≤ 448) (op : opG E S 270 273 4 6 [.int (E.2.2.2 (i + 1))]) : atP E S i 1751 := by
  obtain ⟨v, E', S1, S2, r1, r2, hI, a1, a2, a3, a4⟩ := op
  have hE := h.1
  have hE' := hI.1
  have m9 : ∀ S, misc (hp E S 0) 9 = true := fun S => misc_o (o_X (b := 1) hE rfl)
  have m10 := m_M hE'
  have f1 : mia (hp E S 3000000) 0 10 (nI (i + 1)) = some (E.2.2.2 (i + 1)) := sc_at hE (by omega) hL
  have g1 : mia (hp E' S1 3000000) 0 10 (nI (i + 1)) = some (E.2.2.2 (i + 1)) := by rw [← a4]; exact sc_at hE' (by rw [a4]; omega) (by rw [a4]; exact hL)
  refine ⟨E', S2, ⟨hI, a1, a2, a3, a4⟩, fun d hd => ?_⟩
  have r1 := r1 d hd
  have r2 := r2 d hd
  simp only [r_al1 c_W_law_1751, r_al0 c_W_law_1752, r_il3 c_W_law_1753, r_ci c_W_law_1754, r_iadd c_W_law_1755, r_ial c_W_law_1756, r_cv2 c_W_law_1757, r_al2 c_W_law_1760, r_al0 c_W_law_1761, r_il3 c_W_law_1762, r_ci c_W_law_1763, r_iadd c_W_law_1764, r_ial c_W_law_1765, r_cv2 c_W_law_1766, r_iceq c_W_law_1769, ↓reduceIte, hs_h, Option.bind_some, mfix_i, mfix_r, mfix_n, mfix_a, Option.toList_some, Option.toList_none, List.cons_append, List.nil_append, List.singleton_append, mwt, Value.category, Nat.reduceAdd, Nat.reduceLeDiff, true_and, and_true, and_self, m9, m10, nI_1, f1, g1, r1, r2, if_true]
theorem lw_46 (h : Inv E S) (hi : i + 6 < E.2.2.1) (hL : E.2.2.1 ≤ 448) (op : opG E S 274 275 1 2 []) : atP E S i 1774 := by
  obtain ⟨v, E', S1, S2, r1, r2, hI, a1, a2, a3, a4⟩ := op
  have hE := h.1
  have hE' := hI.1
  have m9 : ∀ S, misc (hp E S 0) 9 = true := fun S => misc_o (o_X (b := 1) hE rfl)
  have m10 := m_M hE'
  refine ⟨E', S2, ⟨hI, a1, a2, a3, a4⟩, fun d hd => ?_⟩
  have r1 := r1 d hd
  have r2 := r2 d hd
  simp only [r_al1 c_W_law_1774, r_cv1 c_W_law_1775, r_al2 c_W_law_1778, r_cv1 c_W_law_1779, r_iceq c_W_law_1782, ↓reduceIte, hs_h, Option.bind_some, mfix_i, mfix_r, mfix_n, mfix_a, Option.toList_some, Option.toList_none, List.cons_append, List.nil_append, List.singleton_append, mwt, Value.category, Nat.reduceAdd, Nat.reduceLeDiff, true_and, and_true, and_self, m9, m10, r1, r2, if_true]
theorem lw_47 (h : Inv E S) (hi : i + 6 < E.2.2.1) (hL : E.2.2.1 ≤ 448) (op : opG E S 276 277 1 2 []) : atP E S i 1787 := by
  obtain ⟨v, E', S1, S2, r1, r2, hI, a1, a2, a3, a4⟩ := op
  have hE := h.1
  have hE' := hI.1
  have m9 : ∀ S, misc (hp E S 0) 9 = true := fun S => misc_o (o_X (b := 1) hE rfl)
  have m10 := m_M hE'
  refine ⟨E', S2, ⟨hI, a1, a2, a3, a4⟩, fun d hd => ?_⟩
  have r1 := r1 d hd
  have r2 := r2 d hd
  simp only [r_al1 c_W_law_1787, r_cv1 c_W_law_1788, r_al2 c_W_law_1791, r_cv1 c_W_law_1792, r_iceq c_W_law_1795, ↓reduceIte, hs_h, Option.bind_some, mfix_i, mfix_r, mfix_n, mfix_a, Option.toList_some, Option.toList_none, List.cons_append, List.nil_append, List.singleton_append, mwt, Value.category, Nat.reduceAdd, Nat.reduceLeDiff, true_and, and_true, and_self, m9, m10, r1, r2, if_true]
theorem lw_48 (h : Inv E S) (hi : i + 6 < E.2.2.1) (hL : E.2.2.1 ≤ 448) (op : opG E S 279 280 2 4 [.int (E.2.2.2 (i + 1))]) : atP E S i 1800 := by
  obtain ⟨v, E', S1, S2, r1, r2, hI, a1, a2, a3, a4⟩ := op
  have hE := h.1
  have hE' := hI.1
  have m9 : ∀ S, misc (hp E S 0) 9 = true := fun S => misc_o (o_X (b := 1) hE rfl)
  have m10 := m_M hE'
  have f1 : mia (hp E S 3000000) 0 10 (nI (i + 1)) = some (E.2.2.2 (i + 1)) := sc_at hE (by omega) hL
  have g1 : mia (hp E' S1 3000000) 0 10 (nI (i + 1)) = some (E.2.2.2 (i + 1)) := by rw [← a4]; exact sc_at hE' (by rw [a4]; omega) (by rw [a4]; exact hL)
  refine ⟨E', S2, ⟨hI, a1, a2, a3, a4⟩, fun d hd => ?_⟩
  have r1 := r1 d hd
  have r2 := r2 d hd
  simp only [r_al1 c_W_law_1800, r_al0 c_W_law_1801, r_il3 c_W_law_1802, r_ci c_W_law_1803, r_iadd c_W_law_1804, r_ial c_W_law_1805, r_cv2 c_W_law_1806, r_al2 c_W_law_1809, r_al0 c_W_law_1810, r_il3 c_W_law_1811, r_ci c_W_law_1812, r_iadd c_W_law_1813, r_ial c_W_law_1814, r_cv2 c_W_law_1815, r_iceq c_W_law_1818, ↓reduceIte, hs_h, Option.bind_some, mfix_i, mfix_r, mfix_n, mfix_a, Option.toList_some, Option.toList_none, List.cons_append, List.nil_append, List.singleton_append, mwt, Value.category, Nat.reduceAdd, Nat.reduceLeDiff, true_and, and_true, and_self, m9, m10, nI_1, f1, g1, r1, r2, if_true]
end LAWC
