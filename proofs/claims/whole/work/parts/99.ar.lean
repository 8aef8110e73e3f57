/-! sheets: what a call on them leaves alone; the model's sheet is made anew -/
section SHEET
variable {E : EE} {R R' S S1 S2 V U : SS} {b d k n m i j p td B a s q : Nat} {c v w x y l : Int32} {z t hc pk : Nat → Nat} {f f' f0 f1 g g' : Nat → Int32}
theorem Inv_S (h : Inv E S) (e : ∀ q, ¬ (84 ≤ q ∧ q ≤ 91) → ¬ (99 ≤ q ∧ q ≤ 101) → S1 q = S q) (hH : InvH S1) : Inv E S1 := by
  obtain ⟨h1, h2, h3, h4, h5, h6, h7, h8⟩ := h
  have e0 : ∀ k, iF S1 0 k = iF S 0 k := fun k => sS_F (e 0 (by omega) (by omega))
  have e1 : ∀ k, iF S1 93 k = iF S 93 k := fun k => sS_F (e 93 (by omega) (by omega))
  exact ⟨h1, h2, fr_B (fun q _ => e q (by omega) (by omega)) h3, fr_I (fun q _ => e q (by omega) (by omega)) (e0 3) (e1 3) h4, fr_T (fun q _ => e q (by omega) (by omega)) (e1 5) h5, fr_W (fun q _ => e q (by omega) (by omega)) (e0 8) (e1 7) h6, hH, fr_K (fun q _ => e q (by omega) (by omega)) h8⟩
theorem iM99 (hE : okE E) : isI E 99 4 := ⟨fun S => hp_r (o := 20) hE (by omega), by have := hE.1; omega⟩
theorem iM100 (hE : okE E) : isI E 100 4 := ⟨fun S => hp_r (o := 21) hE (by omega), by have := hE.1; omega⟩
theorem gM101 (hE : okE E) : isG E 101 96 := ⟨fun S => hp_r (o := 22) hE (by omega), by have := hE.1; omega⟩
def flM (g : Nat → Int64) (s n : Nat) : Nat → Int64 := fun j => if 24 * s ≤ j ∧ j < 24 * s + n then 0 else g j
theorem flM_s {g : Nat → Int64} : vp_updL (flM g s i) (24 * s + i) 0 = flM g s (i + 1) := by
  funext j
  by_cases e : j = 24 * s + i
  · subst e; simp only [vp_updL, if_true, flM, if_pos (show 24 * s ≤ 24 * s + i ∧ 24 * s + i < 24 * s + (i + 1) by omega)]
  · simp only [vp_updL, e, if_false, flM]
    by_cases e2 : 24 * s ≤ j ∧ j < 24 * s + i
    · rw [if_pos e2, if_pos (by omega)]
    · rw [if_neg e2, if_neg (by omega)]
theorem k24s : ∀ s : Nat, s < 4 → (24 : Int32) * nI s = nI (24 * s) := by decide
theorem k24i : ∀ i : Nat, i < 24 → ¬ (24 : Int32) ≤ nI i := by decide
theorem M_sheet_lp (hE : okE E) (hs4 : s < 4) : ∀ m i, i + m = 24 → mres cT 249 d 71 [.ref 93, .int (nI s), .int x, .int y, .int (nI i)] [] (hs E (sL S 101 (flM (iL S 101) s i))) = some (some (.int (iA S 100 s)), hs E (sL S 101 (flM (iL S 101) s 24))) := by
  have o10 := o_M hE
  have m10 := m_M hE
  intro m
  induction m with
  | zero =>
    intro i hi
    have e : i = 24 := by omega
    subst e
    simp only [r_il4 c_M_sheet_71, r_ci c_M_sheet_73, r_icge c_M_sheet_75, ↓reduceIte, hs_h, Option.bind_some, mfix_i, mfix_r, mfix_n, mfix_a, Option.toList_some, Option.toList_none, List.cons_append, List.nil_append, List.singleton_append, show nI 24 = 24 by decide, show ((24 : Int32) ≤ 24) = True from eq_true (by decide), if_true]
    simp only [r_al0 c_M_sheet_97, r_gfSr c_M_sheet_98 o10 rfl, r_il1 c_M_sheet_101, r_ial c_M_sheet_102, r_iret c_M_sheet_103, ↓reduceIte, hs_h, Option.bind_some, mfix_i, mfix_r, mfix_n, mfix_a, Option.toList_some, Option.toList_none, List.cons_append, List.nil_append, List.singleton_append, mia_I (iM100 hE) hs4 (by decide), iA_sL]
  | succ m ih =>
    intro i hi
    have ih := ih (i + 1) (by omega)
    rw [← flM_s] at ih
    simp only [r_il4 c_M_sheet_71, r_ci c_M_sheet_73, r_icge c_M_sheet_75, ↓reduceIte, hs_h, Option.bind_some, mfix_i, mfix_r, mfix_n, mfix_a, Option.toList_some, Option.toList_none, List.cons_append, List.nil_append, List.singleton_append, k24i i (by omega), if_false]
    simp only [r_al0 c_M_sheet_78, r_gfSr c_M_sheet_79 o10 rfl, r_ci c_M_sheet_82, r_il1 c_M_sheet_84, r_imul c_M_sheet_85, r_il4 c_M_sheet_86, r_iadd c_M_sheet_88, r_cl c_M_sheet_89, r_las c_M_sheet_90, r_inc4 c_M_sheet_91, r_goto c_M_sheet_94, ↓reduceIte, hs_h, Option.bind_some, mfix_i, mfix_r, mfix_n, mfix_a, Option.toList_some, Option.toList_none, List.cons_append, List.nil_append, List.singleton_append, k24s s hs4, nI_add, mls_G (gM101 hE) (show 24 * s + i < 96 by omega) (by decide), hs_G (gM101 hE), iL_sL, sL_sL, nI_1, ih]
end SHEET
