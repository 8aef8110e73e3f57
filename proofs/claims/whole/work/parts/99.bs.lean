/-! the model reads: signs, words, codes -/
section MRE
variable {E : EE} {S W : SS} {d n p q j l k kn i lo hi m : Nat} {T : Nat → Nat} {c v x fr tt so ft br nt cc pa : Int32} {σ ρ : PT} {g g' : Nat → Int32} {iv : Int32 → Int32} {R : PT → PT}
/-- the model's state that goes with the class's -/
def mkS (S : SS) (br nt : Int32) (σ : PT) (g : Nat → Int32) : SS := mpS S (nI σ.1) (nI σ.2.1) (mso σ) 0 br nt (nI σ.2.2.2.2.1) (nI σ.2.2.2.2.2.1) g
theorem M_isSign_ok (hE : okE E) (hT : mtp S n T) (hσ : rSt n T σ) : mres cT 146 d 0 (ment 2 [.ref 93, .int c]) [] (hs E (mkS S br nt σ g)) = some (some (.int (isg n T σ c)), hs E (mkS S br nt σ g)) := by
  have o10 := o_M hE
  obtain ⟨ho, -, hp, -⟩ := hσ
  have hn := hT.2.1
  rw [mkS, isg]
  simp only [ment, mfl, List.length, List.replicate, List.cons_append, List.nil_append, Nat.reduceAdd, Nat.reduceSub]
  by_cases a : σ.2.2.1 = 2
  · have h1 := hp (by omega)
    have h2 := ho.2.1
    obtain ⟨t4, t5⟩ := hT.2.2 σ.1 (by omega)
    have b1 : btN n T σ.1 = nI (T σ.1) := by rw [btN, if_pos (by omega)]
    have m3 : mso σ = 3 := by rw [mso_3]; exact a
    rw [if_pos a, b1]
    simp only [r_al0 c_M_isSign_0, r_gfS0 c_M_isSign_1 o10 rfl, r_ifne c_M_isSign_4, r_al0 c_M_isSign_7, r_gfS0 c_M_isSign_8 o10 rfl, r_ci c_M_isSign_11, r_icne c_M_isSign_12, r_al0 c_M_isSign_15, r_gfSr c_M_isSign_16 o10 rfl, r_al0 c_M_isSign_19, r_gfS0 c_M_isSign_20 o10 rfl, r_ial c_M_isSign_23, r_il1 c_M_isSign_24, r_icne c_M_isSign_25, r_ci c_M_isSign_28, r_goto c_M_isSign_29, r_ci c_M_isSign_32, r_zret c_M_isSign_33, ↓reduceIte, hs_h, Option.bind_some, mfix_i, mfix_r, mfix_n, mfix_a, Option.toList_some, Option.toList_none, List.cons_append, List.nil_append, List.singleton_append, mp16, mp15, m3, mp13, mp97, if_true, mia_I (i_97 hE) (show σ.1 < 96 by omega) (by decide), t4, mz0, mz1, ite_out]
  · have m3 : ¬ mso σ = 3 := by rw [mso_3]; exact a
    rw [if_neg a]
    simp only [r_al0 c_M_isSign_0, r_gfS0 c_M_isSign_1 o10 rfl, r_ifne c_M_isSign_4, r_al0 c_M_isSign_7, r_gfS0 c_M_isSign_8 o10 rfl, r_ci c_M_isSign_11, r_icne c_M_isSign_12, r_al0 c_M_isSign_15, r_gfSr c_M_isSign_16 o10 rfl, r_al0 c_M_isSign_19, r_gfS0 c_M_isSign_20 o10 rfl, r_ial c_M_isSign_23, r_il1 c_M_isSign_24, r_icne c_M_isSign_25, r_ci c_M_isSign_28, r_goto c_M_isSign_29, r_ci c_M_isSign_32, r_zret c_M_isSign_33, ↓reduceIte, hs_h, Option.bind_some, mfix_i, mfix_r, mfix_n, mfix_a, Option.toList_some, Option.toList_none, List.cons_append, List.nil_append, List.singleton_append, mp16, mp15, m3, if_true, if_false, mz0]
theorem M_isSign_f (hE : okE E) : mres cT 146 d 0 (ment 2 [.ref 93, .int c]) [] (hs E (mpS S fr tt so 1 br nt cc pa g)) = some (some (.int 0), hs E (mpS S fr tt so 1 br nt cc pa g)) := by
  have o10 := o_M hE
  simp only [ment, mfl, List.length, List.replicate, List.cons_append, List.nil_append, Nat.reduceAdd, Nat.reduceSub]
  simp only [r_al0 c_M_isSign_0, r_gfS0 c_M_isSign_1 o10 rfl, r_ifne c_M_isSign_4, r_al0 c_M_isSign_7, r_gfS0 c_M_isSign_8 o10 rfl, r_ci c_M_isSign_11, r_icne c_M_isSign_12, r_al0 c_M_isSign_15, r_gfSr c_M_isSign_16 o10 rfl, r_al0 c_M_isSign_19, r_gfS0 c_M_isSign_20 o10 rfl, r_ial c_M_isSign_23, r_il1 c_M_isSign_24, r_icne c_M_isSign_25, r_ci c_M_isSign_28, r_goto c_M_isSign_29, r_ci c_M_isSign_32, r_zret c_M_isSign_33, ↓reduceIte, hs_h, Option.bind_some, mfix_i, mfix_r, mfix_n, mfix_a, Option.toList_some, Option.toList_none, List.cons_append, List.nil_append, List.singleton_append, mp16, one_nz, if_false, mz0]
theorem M_put_ok (hE : okE E) (hk : k < 100) : mres cT 145 d 0 (ment 2 [.ref 93, .int c]) [] (hs E (mpS S fr tt so 0 br nt (nI k) pa g)) = some (none, hs E (mpS S fr tt so 0 br nt (nI (k + 1)) pa (upd g k c))) := by
  have o10 := o_M hE
  simp only [ment, mfl, List.length, List.replicate, List.cons_append, List.nil_append, Nat.reduceAdd, Nat.reduceSub]
  simp only [r_al0 c_M_put_0, r_gfS0 c_M_put_1 o10 rfl, r_ifne c_M_put_4, r_al0 c_M_put_7, r_gfSr c_M_put_8 o10 rfl, r_al0 c_M_put_11, r_gfS0 c_M_put_12 o10 rfl, r_il1 c_M_put_15, r_ias c_M_put_16, r_al0 c_M_put_17, r_dupi c_M_put_18, r_dupr c_M_put_18, r_gfS0 c_M_put_19 o10 rfl, r_ci c_M_put_22, r_iadd c_M_put_23, r_pfS c_M_put_24 o10 rfl, r_vret c_M_put_27, ↓reduceIte, hs_h, Option.bind_some, mfix_i, mfix_r, mfix_n, mfix_a, Option.toList_some, Option.toList_none, List.cons_append, List.nil_append, List.singleton_append, mp16, if_true, mp21, mis_I (i_103 hE) hk (by decide), mpA, hs_I (i_103 hE), umA, nI_1, um21]
theorem M_put_f (hE : okE E) : mres cT 145 d 0 (ment 2 [.ref 93, .int c]) [] (hs E (mpS S fr tt so 1 br nt cc pa g)) = some (none, hs E (mpS S fr tt so 1 br nt cc pa g)) := by
  have o10 := o_M hE
  simp only [ment, mfl, List.length, List.replicate, List.cons_append, List.nil_append, Nat.reduceAdd, Nat.reduceSub]
  simp only [r_al0 c_M_put_0, r_gfS0 c_M_put_1 o10 rfl, r_ifne c_M_put_4, r_vret c_M_put_27, ↓reduceIte, hs_h, Option.bind_some, mfix_i, mfix_r, mfix_n, mfix_a, Option.toList_some, Option.toList_none, List.cons_append, List.nil_append, List.singleton_append, mp16, one_nz, if_false]
theorem M_need_f (hE : okE E) : mres cT 144 d 0 (ment 2 [.ref 93, .int c]) [] (hs E (mpS S fr tt so 1 br nt cc pa g)) = some (none, hs E (mpS S fr tt so 1 br nt cc pa g)) := by
  have o10 := o_M hE
  simp only [ment, mfl, List.length, List.replicate, List.cons_append, List.nil_append, Nat.reduceAdd, Nat.reduceSub]
  simp only [r_al0 c_M_need_0, r_al0 c_M_need_1, r_gfS0 c_M_need_2 o10 rfl, r_ifne c_M_need_5, r_il1 c_M_need_8, r_ifne c_M_need_9, r_ci c_M_need_12, r_goto c_M_need_13, r_ci c_M_need_16, r_pfZ c_M_need_17 o10 rfl, r_al0 c_M_need_20, r_gfS0 c_M_need_21 o10 rfl, r_ifne c_M_need_24, r_al0 c_M_need_27, r_cv1 c_M_need_28, r_vret c_M_need_31, ↓reduceIte, hs_h, Option.bind_some, mfix_i, mfix_r, mfix_n, mfix_a, Option.toList_some, Option.toList_none, List.cons_append, List.nil_append, List.singleton_append, mwt, Value.category, Nat.reduceAdd, Nat.reduceLeDiff, true_and, and_true, and_self, mp16, one_nz, if_false, um16, or_true, true_or]
theorem M_need_0 (hE : okE E) : mres cT 144 d 0 (ment 2 [.ref 93, .int 0]) [] (hs E (mpS S fr tt so 0 br nt cc pa g)) = some (none, hs E (mpS S fr tt so 1 br nt cc pa g)) := by
  have o10 := o_M hE
  simp only [ment, mfl, List.length, List.replicate, List.cons_append, List.nil_append, Nat.reduceAdd, Nat.reduceSub]
  simp only [r_al0 c_M_need_0, r_al0 c_M_need_1, r_gfS0 c_M_need_2 o10 rfl, r_ifne c_M_need_5, r_il1 c_M_need_8, r_ifne c_M_need_9, r_ci c_M_need_12, r_goto c_M_need_13, r_ci c_M_need_16, r_pfZ c_M_need_17 o10 rfl, r_al0 c_M_need_20, r_gfS0 c_M_need_21 o10 rfl, r_ifne c_M_need_24, r_al0 c_M_need_27, r_cv1 c_M_need_28, r_vret c_M_need_31, ↓reduceIte, hs_h, Option.bind_some, mfix_i, mfix_r, mfix_n, mfix_a, Option.toList_some, Option.toList_none, List.cons_append, List.nil_append, List.singleton_append, mwt, Value.category, Nat.reduceAdd, Nat.reduceLeDiff, true_and, and_true, and_self, mp16, if_true, one_nz, if_false, um16, or_true, true_or]
theorem mk_adv : mkS S br nt (adv n T σ) g = mpS S (nI (adv n T σ).1) (nI (adv n T σ).2.1) (mso (adv n T σ)) 0 br nt (nI σ.2.2.2.2.1) (nI σ.2.2.2.2.2.1) g := by
  rw [mkS, adv_c.1, adv_c.2.2.2]
/-- a word that may be passed -/
def mwo (σ : PT) : Prop := (mso σ = 1 ∨ mso σ = 2) ↔ isW σ.2.2.1 = 1
theorem mwo_2 (h : σ.2.2.1 = 2) : mwo σ := by
  rw [mwo, mso, if_pos h, isW, if_neg (by omega), if_neg (by omega)]
  decide
theorem mwo_3 (h : σ.2.2.1 = 3) : mwo σ := by
  rw [mwo, mso, if_neg (by omega), if_pos h, isW, if_pos h]
  decide
theorem mwo_4 (h : σ.2.2.1 = 4) (h2 : σ.2.1 - σ.1 ≤ 4) : mwo σ := by
  rw [mwo, mso, if_neg (by omega), if_neg (by omega), if_pos h, if_pos h2, isW, if_neg (by omega), if_pos h]
  decide
theorem M_next_mk (hE : okE E) (hT : mtp S n T) (hb : σ.2.1 ≤ n) (hw : mwo σ) : mres cT 142 d 0 (ment 3 [.ref 93]) [] (hs E (mkS S br nt σ g)) = some (none, hs E (mkS S br nt (adv n T σ) g)) := by
  rw [mk_adv, mkS]
  exact M_next_ok hE hT hb hw
theorem M_need_1 (hE : okE E) (hT : mtp S n T) (hb : σ.2.1 ≤ n) (hw : mwo σ) : mres cT 144 d 0 (ment 2 [.ref 93, .int 1]) [] (hs E (mkS S br nt σ g)) = some (none, hs E (mkS S br nt (adv n T σ) g)) := by
  have o10 := o_M hE
  have m10 := m_M hE
  have rn := M_next_mk (d := d) (br := br) (nt := nt) (g := g) hE hT hb hw
  rw [mkS] at rn ⊢
  simp only [ment, mfl, List.length, List.replicate, List.cons_append, List.nil_append, Nat.reduceAdd, Nat.reduceSub]
  simp only [r_al0 c_M_need_0, r_al0 c_M_need_1, r_gfS0 c_M_need_2 o10 rfl, r_ifne c_M_need_5, r_il1 c_M_need_8, r_ifne c_M_need_9, r_ci c_M_need_12, r_goto c_M_need_13, r_ci c_M_need_16, r_pfZ c_M_need_17 o10 rfl, r_al0 c_M_need_20, r_gfS0 c_M_need_21 o10 rfl, r_ifne c_M_need_24, r_al0 c_M_need_27, r_cv1 c_M_need_28, r_vret c_M_need_31, ↓reduceIte, hs_h, Option.bind_some, mfix_i, mfix_r, mfix_n, mfix_a, Option.toList_some, Option.toList_none, List.cons_append, List.nil_append, List.singleton_append, mwt, Value.category, Nat.reduceAdd, Nat.reduceLeDiff, true_and, and_true, and_self, mp16, if_true, one_nz, if_false, um16, or_true, true_or, m10, rn]
theorem M_signHere_g (hE : okE E) (hS : ∀ d c, mres cT 146 d 0 (ment 2 [.ref 93, .int c]) [] (hs E W) = some (some (.int (iv c)), hs E W)) (h01 : ∀ c, iv c = 0 ∨ iv c = 1) (hh : hi < 10) (hl : lo + m = hi + 1) : mres cT 148 d 0 (ment 5 [.ref 93, .int (nI lo), .int (nI hi)]) [] (hs E W) = some (some (.int (rfor (fun k s => if iv (chS 26 k) = 0 then s else nI k) lo m (-1))), hs E W) := by
  have o10 := o_M hE
  have m10 := m_M hE
  have ms : ∀ S, misc (hp E S 1000026) 100 = true := fun S => s_misc (i := 26) hE (by decide)
  have sl : slen 26 = 10 := by decide
  have lp : ∀ m k s, k + m = hi + 1 → mres cT 148 d 5 [.ref 93, .int (nI lo), .int (nI hi), .int s, .int (nI k)] [] (hs E W) = some (some (.int (rfor (fun k s => if iv (chS 26 k) = 0 then s else nI k) k m s)), hs E W) := by
    intro m
    induction m with
    | zero =>
      intro k s hk
      have h1 : nI hi < nI k := nI_lt (by omega) (by omega)
      simp only [r_il4 c_M_signHere_5, r_il2 c_M_signHere_7, r_icgt c_M_signHere_8, r_il3 c_M_signHere_38, r_iret c_M_signHere_39, ↓reduceIte, hs_h, Option.bind_some, mfix_i, mfix_r, mfix_n, mfix_a, Option.toList_some, Option.toList_none, List.cons_append, List.nil_append, List.singleton_append, h1, if_true, rfor]
    | succ m ih =>
      intro k s hk
      have h1 : ¬ nI hi < nI k := nI_nlt (by omega) (by omega)
      have ih := fun s => ih (k + 1) s (by omega)
      have rc : ∀ d, mres cT 115 d 0 (ment 2 [.ref 1000026, .int (nI k)]) [] (hs E W) = some (some (.int (chS 26 k)), hs E W) := fun d => JS_charAt_ok (i := 26) hE (by decide) (by omega)
      rw [rfor]
      simp only [r_il4 c_M_signHere_5, r_il2 c_M_signHere_7, r_icgt c_M_signHere_8, ↓reduceIte, hs_h, Option.bind_some, mfix_i, mfix_r, mfix_n, mfix_a, Option.toList_some, Option.toList_none, List.cons_append, List.nil_append, List.singleton_append, h1, if_false]
      rcases h01 (chS 26 k) with a | a
      · simp only [r_al0 c_M_signHere_11, r_cv c_M_signHere_12, r_il4 c_M_signHere_14, r_cv2 c_M_signHere_16, r_cv2 c_M_signHere_19, r_ifeq c_M_signHere_22, r_il4 c_M_signHere_25, r_goto c_M_signHere_27, r_il3 c_M_signHere_30, r_is3 c_M_signHere_31, r_inc4 c_M_signHere_32, r_goto c_M_signHere_35, ↓reduceIte, hs_h, Option.bind_some, mfix_i, mfix_r, mfix_n, mfix_a, Option.toList_some, Option.toList_none, List.cons_append, List.nil_append, List.singleton_append, mwt, Value.category, Nat.reduceAdd, Nat.reduceLeDiff, true_and, and_true, and_self, ms, m10, rc, hS, a, if_true, nI_1, ih]
      · simp only [r_al0 c_M_signHere_11, r_cv c_M_signHere_12, r_il4 c_M_signHere_14, r_cv2 c_M_signHere_16, r_cv2 c_M_signHere_19, r_ifeq c_M_signHere_22, r_il4 c_M_signHere_25, r_goto c_M_signHere_27, r_il3 c_M_signHere_30, r_is3 c_M_signHere_31, r_inc4 c_M_signHere_32, r_goto c_M_signHere_35, ↓reduceIte, hs_h, Option.bind_some, mfix_i, mfix_r, mfix_n, mfix_a, Option.toList_some, Option.toList_none, List.cons_append, List.nil_append, List.singleton_append, mwt, Value.category, Nat.reduceAdd, Nat.reduceLeDiff, true_and, and_true, and_self, ms, m10, rc, hS, a, one_nz, if_false, nI_1, ih]
  have lq := lp m lo (-1) hl
  simp only [ment, mfl, List.length, List.replicate, List.cons_append, List.nil_append, Nat.reduceAdd, Nat.reduceSub]
  simp only [r_ci c_M_signHere_0, r_is3 c_M_signHere_1, r_il1 c_M_signHere_2, r_is4 c_M_signHere_3, ↓reduceIte, hs_h, Option.bind_some, mfix_i, mfix_r, mfix_n, mfix_a, Option.toList_some, Option.toList_none, List.cons_append, List.nil_append, List.singleton_append, lq]
def lvA (l : Nat) : Nat := if l = 0 then 0 else if l = 1 then 1 else if l = 2 then 2 else if l = 3 then 5 else 7
def lvB (l : Nat) : Nat := if l = 0 then 1 else if l = 1 then 1 else if l = 2 then 3 else 2
theorem sg_dec : ∀ l, l < 5 → ∀ b, b < 256 → rfor (fun k s => if (if nI b = chS 26 k then (1 : Int32) else 0) = 0 then s else nI k) (lvA l) (lvB l) (-1) = if sgl l b = true then mcd (-(nI b)) - 200000 else -1 := by decide +kernel
theorem sg_nn : ∀ l, l < 5 → ∀ b, b < 256 → sgl l b = true → ¬ (mcd (-(nI b)) - 200000 < 0) := by decide +kernel
theorem rfor_ii {s : Int32} : ∀ (m k : Nat), rfor (fun (_ : Nat) (s : Int32) => s) k m s = s
  | 0, _ => rfl
  | m + 1, k => by rw [rfor]; exact rfor_ii m (k + 1)
/-- the sign of a level here, as the model tells it -/
def sgW (n : Nat) (T : Nat → Nat) (l : Nat) (σ : PT) : Int32 := if σ.2.2.2.1 = none ∧ sgo n T l σ = 1 then mcd (-(btN n T σ.1)) - 200000 else -1
theorem sg_V (hl : l < 5) (hT : ∀ j, j < n → T j < 256) (hσ : rSt n T σ) (hf : σ.2.2.2.1 = none) : rfor (fun k s => if isg n T σ (chS 26 k) = 0 then s else nI k) (lvA l) (lvB l) (-1) = sgW n T l σ := by
  obtain ⟨ho, -, hp, -⟩ := hσ
  rw [sgW]
  by_cases a : σ.2.2.1 = 2
  · have h1 := hp (by omega)
    have h2 := ho.2.1
    have b1 : btN n T σ.1 = nI (T σ.1) := by rw [btN, if_pos (by omega)]
    have t5 := hT σ.1 (by omega)
    have e1 := sg_dec l hl (T σ.1) t5
    have e2 := sgl_ix l hl (T σ.1) t5
    have e3 : ∀ c, isg n T σ c = if nI (T σ.1) = c then 1 else 0 := fun c => by rw [isg, if_pos a, b1]
    simp only [e3]
    rw [e1]
    have e4 : sgo n T l σ = if sgl l (T σ.1) = true then 1 else 0 := by
      rw [sgo, if_pos a, b1, chI_T t5]
      cases hs : sgl l (T σ.1) with
      | true =>
        rw [hs] at e2
        rw [if_neg (of_decide_eq_false (by rw [e2]; rfl)), if_pos rfl]
      | false =>
        rw [hs] at e2
        rw [if_pos (of_decide_eq_true (by rw [e2]; rfl)), if_neg (by decide)]
    rw [e4, b1]
    cases hs : sgl l (T σ.1) with
    | true => rw [if_pos rfl, if_pos ⟨hf, by rw [if_pos rfl]⟩]
    | false => rw [if_neg (by decide), if_neg (fun h => by have := h.2; rw [if_neg (by decide)] at this; exact absurd this (by decide))]
  · have e3 : ∀ c, isg n T σ c = 0 := fun c => by rw [isg, if_neg a]
    simp only [e3, if_true]
    rw [rfor_ii, if_neg (fun h => by have := h.2; rw [sgo, if_neg a] at this; exact absurd this (by decide))]
/-- the model has stopped at a fault -/
def mbd (S : SS) (p : Nat) (W : SS) : Prop := ∃ (tt so br nt cc pa : Int32) (g : Nat → Int32), W = mpS S (nI p) tt so 1 br nt cc pa g
/-- class and model stand at the same place -/
def mrl (S : SS) (br nt : Int32) (σ : PT) (W : SS) : Prop := (σ.2.2.2.1 = none ∧ ∃ g, (∀ j, j < σ.2.2.2.2.1 → g j = mcd (σ.2.2.2.2.2.2 j)) ∧ W = mkS S br nt σ g) ∨ ∃ p, σ.2.2.2.1 = some p ∧ mbd S p W
theorem mrl_n (h : mrl S br nt σ W) (hf : σ.2.2.2.1 = none) : ∃ g, (∀ j, j < σ.2.2.2.2.1 → g j = mcd (σ.2.2.2.2.2.2 j)) ∧ W = mkS S br nt σ g := by
  rcases h with ⟨-, h⟩ | ⟨p, h, -⟩
  · exact h
  · rw [h] at hf; cases hf
theorem M_put_mrl (hE : okE E) (h : mrl S br nt ρ W) (hc : ρ.2.2.2.1 = none → ρ.2.2.2.2.1 < 96) : ∃ W', mrl S br nt (emi ρ c) W' ∧ ∀ d, mres cT 145 d 0 (ment 2 [.ref 93, .int (mcd c)]) [] (hs E W) = some (none, hs E W') := by
  rcases h with ⟨hf, g, h1, rfl⟩ | ⟨p, hf, tt, so, br', nt', cc, pa, g, rfl⟩
  · have hc := hc hf
    refine ⟨mkS S br nt (emi ρ c) (upd g ρ.2.2.2.2.1 (mcd c)), Or.inl ⟨by rw [emi_f.1]; exact hf, _, fun j hj => ?_, rfl⟩, fun d => ?_⟩
    · rw [emi_t hc] at hj ⊢
      have hj : j < ρ.2.2.2.2.1 + 1 := hj
      show upd g ρ.2.2.2.2.1 (mcd c) j = mcd (upd ρ.2.2.2.2.2.2 ρ.2.2.2.2.1 c j)
      by_cases e : j = ρ.2.2.2.2.1
      · rw [e, pk_us, pk_us]
      · rw [pk_un e, pk_un e]; exact h1 j (by omega)
    · rw [mkS, M_put_ok hE (show ρ.2.2.2.2.1 < 100 by omega), emi_t hc]
      rfl
  · exact ⟨_, Or.inr ⟨p, by rw [emi_f.1]; exact hf, tt, so, br', nt', cc, pa, g, rfl⟩, fun d => M_put_f hE⟩
theorem M_sgn_mrl (hE : okE E) (hT : mtp S n T) (hl : l < 5) (h : mrl S br nt ρ W) (hr : ρ.2.2.2.1 = none → rSt n T ρ) : ∀ d, mres cT 148 d 0 (ment 5 [.ref 93, .int (nI (lvA l)), .int (nI (lvA l + lvB l - 1))]) [] (hs E W) = some (some (.int (sgW n T l ρ)), hs E W) := fun d => by
  have hAB : ∀ l, l < 5 → lvA l + lvB l - 1 < 10 ∧ lvA l + lvB l = lvA l + lvB l - 1 + 1 := by decide
  obtain ⟨h8, h9⟩ := hAB l hl
  rcases h with ⟨hf, g, h1, rfl⟩ | ⟨p, hf, tt, so, br', nt', cc, pa, g, rfl⟩
  · rw [M_signHere_g (m := lvB l) (iv := isg n T ρ) hE (fun d c => M_isSign_ok hE hT (hr hf)) (fun c => isg01) h8 h9, sg_V hl (fun j hj => (hT.2.2 j hj).2) (hr hf) hf]
  · rw [M_signHere_g (m := lvB l) (iv := fun _ => 0) hE (fun d c => M_isSign_f hE) (fun c => Or.inl rfl) h8 h9]
    simp only [if_true]
    rw [rfor_ii, sgW, if_neg (fun h => by rw [hf] at h; cases h.1)]
theorem sgW_1 (hl : l < 5) (hT : ∀ j, j < n → T j < 256) (h : rSt n T σ) (hf : σ.2.2.2.1 = none) (h1 : sgo n T l σ = 1) : sgW n T l σ = mcd (-(btN n T σ.1)) - 200000 ∧ ¬ sgW n T l σ < 0 ∧ 200000 + sgW n T l σ = mcd (-(btN n T σ.1)) ∧ σ.2.2.1 = 2 := by
  obtain ⟨ho, -, hp, -⟩ := h
  obtain ⟨k1, k2, k3⟩ := sgo_k hl hT h1 (fun h3 => by have := hp h3; have := ho.2.1; omega)
  have e : sgW n T l σ = mcd (-(btN n T σ.1)) - 200000 := by rw [sgW, if_pos ⟨hf, h1⟩]
  refine ⟨e, ?_, ?_, k1⟩
  · rw [e, btN, if_pos k2]
    exact sg_nn l hl _ (hT _ k2) k3
  · rw [e, Int32.add_comm, Int32.sub_add_cancel]
theorem sgW_0 (h1 : ¬ (σ.2.2.2.1 = none ∧ sgo n T l σ = 1)) : sgW n T l σ = -1 ∧ sgW n T l σ < 0 := by
  rw [sgW, if_neg h1]
  exact ⟨rfl, by decide⟩
theorem lp_st (hn : n ≤ 96) (hl : l < 5) (hT : ∀ j, j < n → T j < 256) (hR : okR n T R) (h : rSt n T σ) (hf : σ.2.2.2.1 = none) (h1 : sgo n T l σ = 1) (hq : (R (adv n T σ)).2.2.2.1 = none) : (R (adv n T σ)).2.2.2.2.1 < 96 ∧ rSt n T (emi (R (adv n T σ)) c) ∧ σ.1 + 1 ≤ (emi (R (adv n T σ)) c).1 := by
  obtain ⟨ho, hcc, hp, -⟩ := id h
  obtain ⟨s1, s2⟩ := adv_wf h
  obtain ⟨c1, c2, c3, c4⟩ := adv_c (n := n) (T := T) (σ := σ)
  obtain ⟨k1, k2, k3⟩ := sgo_k hl hT h1 (fun h3 => by have := hp h3; have := ho.2.1; omega)
  have s2 := s2 (by omega)
  obtain ⟨t1, t2, t3, t4⟩ := hR _ s1 (by rw [c3]; exact hf) hq
  rw [c1] at t3
  have hb := t1.1.1
  have c96 : (R (adv n T σ)).2.2.2.2.1 < 96 := by omega
  refine ⟨c96, ?_, ?_⟩
  · have := okP_emi (c := c) t1.1
    rw [emi_t c96] at this ⊢
    refine ⟨this, ?_, t1.2.2⟩
    show (R (adv n T σ)).2.2.2.2.1 + 1 ≤ (R (adv n T σ)).1
    omega
  · rw [emi_t c96]
    show σ.1 + 1 ≤ (R (adv n T σ)).1
    omega
theorem M_isWord_ok (hE : okE E) (hT : mtp S n T) (hσ : rSt n T σ) (hi : i < 27) : mres cT 143 d 0 (ment 4 [.ref 93, .ref (1000000 + i)]) [] (hs E (mkS S br nt σ g)) = some (some (.int (if σ.2.2.1 = 3 then wdH n T i σ else 0)), hs E (mkS S br nt σ g)) := by
  have o10 := o_M hE
  have hn := hT.2.1
  have hl := slen_le i hi
  have ms : ∀ S, misc (hp E S (1000000 + i)) 100 = true := fun S => s_misc hE hi
  obtain ⟨⟨h1, h2, h3, h4, h5, h6⟩, -, hp, -⟩ := hσ
  have es : nI σ.2.1 - nI σ.1 = nI (σ.2.1 - σ.1) := pk_sub h5
  rw [mkS]
  have z0 : mres cT 143 d 32 [.ref 93, .ref (1000000 + i), .int 0, .int 0] [] (hs E (mpS S (nI σ.1) (nI σ.2.1) (mso σ) 0 br nt (nI σ.2.2.2.2.1) (nI σ.2.2.2.2.2.1) g)) = some (some (.int 0), hs E (mpS S (nI σ.1) (nI σ.2.1) (mso σ) 0 br nt (nI σ.2.2.2.2.1) (nI σ.2.2.2.2.2.1) g)) := by
    simp only [r_il2 c_M_isWord_32, r_ifeq c_M_isWord_33, r_il2 c_M_isWord_75, r_zret c_M_isWord_76, ↓reduceIte, hs_h, Option.bind_some, mfix_i, mfix_r, mfix_n, mfix_a, Option.toList_some, Option.toList_none, List.cons_append, List.nil_append, List.singleton_append, if_true, mz0]
  by_cases a : σ.2.2.1 = 3
  · have m1 : mso σ = 1 := by rw [mso_1]; exact a
    rw [if_pos a, wdH]
    by_cases b : σ.2.1 - σ.1 = slen i
    · have lp : ∀ m j, j + m = slen i → mres cT 143 d 32 [.ref 93, .ref (1000000 + i), .int 1, .int (nI j)] [] (hs E (mpS S (nI σ.1) (nI σ.2.1) (mso σ) 0 br nt (nI σ.2.2.2.2.1) (nI σ.2.2.2.2.2.1) g)) = some (some (.int (iwF n T i σ.1 j m)), hs E (mpS S (nI σ.1) (nI σ.2.1) (mso σ) 0 br nt (nI σ.2.2.2.2.1) (nI σ.2.2.2.2.2.1) g)) := by
        intro m
        induction m with
        | zero =>
          intro j hj
          have a1 : nI (slen i) ≤ nI j := nI_le (by omega) (by omega)
          simp only [r_il2 c_M_isWord_32, r_ifeq c_M_isWord_33, r_il3 c_M_isWord_36, r_al1 c_M_isWord_37, r_cv1 c_M_isWord_38, r_icge c_M_isWord_41, r_il2 c_M_isWord_75, r_zret c_M_isWord_76, ↓reduceIte, hs_h, Option.bind_some, mfix_i, mfix_r, mfix_n, mfix_a, Option.toList_some, Option.toList_none, List.cons_append, List.nil_append, List.singleton_append, mwt, Value.category, Nat.reduceAdd, Nat.reduceLeDiff, true_and, and_true, and_self, one_nz, if_false, ms, JS_length_ok hE hi, a1, if_true, iwF, mz1]
        | succ m ih =>
          intro j hj
          have a1 : ¬ nI (slen i) ≤ nI j := nI_ge (by omega) (by omega)
          have ih := ih (j + 1) (by omega)
          have jn : σ.1 + j < n := by omega
          obtain ⟨t4, t5⟩ := hT.2.2 (σ.1 + j) jn
          have b1 : btN n T (σ.1 + j) = nI (T (σ.1 + j)) := by rw [btN, if_pos jn]
          rw [iwF, b1]
          simp only [r_il2 c_M_isWord_32, r_ifeq c_M_isWord_33, r_il3 c_M_isWord_36, r_al1 c_M_isWord_37, r_cv1 c_M_isWord_38, r_icge c_M_isWord_41, ↓reduceIte, hs_h, Option.bind_some, mfix_i, mfix_r, mfix_n, mfix_a, Option.toList_some, Option.toList_none, List.cons_append, List.nil_append, List.singleton_append, mwt, Value.category, Nat.reduceAdd, Nat.reduceLeDiff, true_and, and_true, and_self, one_nz, if_false, ms, JS_length_ok hE hi, a1]
          by_cases e : nI (T (σ.1 + j)) = chS i j
          · rw [if_pos e]
            simp only [r_al0 c_M_isWord_44, r_gfSr c_M_isWord_45 o10 rfl, r_al0 c_M_isWord_48, r_gfS0 c_M_isWord_49 o10 rfl, r_il3 c_M_isWord_52, r_iadd c_M_isWord_53, r_ial c_M_isWord_54, r_al1 c_M_isWord_55, r_il3 c_M_isWord_56, r_cv2 c_M_isWord_57, r_icne c_M_isWord_60, r_ci c_M_isWord_63, r_goto c_M_isWord_64, r_ci c_M_isWord_67, r_is2 c_M_isWord_68, r_inc3 c_M_isWord_69, r_goto c_M_isWord_72, ↓reduceIte, hs_h, Option.bind_some, mfix_i, mfix_r, mfix_n, mfix_a, Option.toList_some, Option.toList_none, List.cons_append, List.nil_append, List.singleton_append, mwt, Value.category, Nat.reduceAdd, Nat.reduceLeDiff, true_and, and_true, and_self, mp13, mp97, nI_add, mia_I (i_97 hE) (show σ.1 + j < 96 by omega) (by decide), t4, ms, JS_charAt_ok hE hi (show j < slen i by omega), e, if_true, nI_1, ih]
          · rw [if_neg e]
            simp only [r_al0 c_M_isWord_44, r_gfSr c_M_isWord_45 o10 rfl, r_al0 c_M_isWord_48, r_gfS0 c_M_isWord_49 o10 rfl, r_il3 c_M_isWord_52, r_iadd c_M_isWord_53, r_ial c_M_isWord_54, r_al1 c_M_isWord_55, r_il3 c_M_isWord_56, r_cv2 c_M_isWord_57, r_icne c_M_isWord_60, r_ci c_M_isWord_63, r_goto c_M_isWord_64, r_ci c_M_isWord_67, r_is2 c_M_isWord_68, r_inc3 c_M_isWord_69, r_goto c_M_isWord_72, ↓reduceIte, hs_h, Option.bind_some, mfix_i, mfix_r, mfix_n, mfix_a, Option.toList_some, Option.toList_none, List.cons_append, List.nil_append, List.singleton_append, mwt, Value.category, Nat.reduceAdd, Nat.reduceLeDiff, true_and, and_true, and_self, mp13, mp97, nI_add, mia_I (i_97 hE) (show σ.1 + j < 96 by omega) (by decide), t4, ms, JS_charAt_ok hE hi (show j < slen i by omega), e, if_false]
            simp only [r_il2 c_M_isWord_32, r_ifeq c_M_isWord_33, r_il2 c_M_isWord_75, r_zret c_M_isWord_76, ↓reduceIte, hs_h, Option.bind_some, mfix_i, mfix_r, mfix_n, mfix_a, Option.toList_some, Option.toList_none, List.cons_append, List.nil_append, List.singleton_append, if_true, mz0]
      have lq := lp (slen i) 0 (by omega)
      rw [nI_0] at lq
      have b' : nI (σ.2.1 - σ.1) = nI (slen i) := by rw [b]
      rw [if_pos b]
      simp only [ment, mfl, List.length, List.replicate, List.cons_append, List.nil_append, Nat.reduceAdd, Nat.reduceSub]
      simp only [r_al0 c_M_isWord_0, r_gfS0 c_M_isWord_1 o10 rfl, r_ci c_M_isWord_4, r_icne c_M_isWord_5, r_al0 c_M_isWord_8, r_gfS0 c_M_isWord_9 o10 rfl, r_al0 c_M_isWord_12, r_gfS0 c_M_isWord_13 o10 rfl, r_isub c_M_isWord_16, r_al1 c_M_isWord_17, r_cv1 c_M_isWord_18, r_icne c_M_isWord_21, r_ci c_M_isWord_24, r_goto c_M_isWord_25, r_ci c_M_isWord_28, r_is2 c_M_isWord_29, r_ci c_M_isWord_30, r_is3 c_M_isWord_31, ↓reduceIte, hs_h, Option.bind_some, mfix_i, mfix_r, mfix_n, mfix_a, Option.toList_some, Option.toList_none, List.cons_append, List.nil_append, List.singleton_append, mwt, Value.category, Nat.reduceAdd, Nat.reduceLeDiff, true_and, and_true, and_self, mp15, m1, if_true, mp14, mp13, es, ms, JS_length_ok hE hi, b']
      rw [m1] at lq
      exact lq
    · have b' : ¬ nI (σ.2.1 - σ.1) = nI (slen i) := fun e => b ((nI_eq (by omega) (by omega)).mp e)
      rw [if_neg b]
      simp only [ment, mfl, List.length, List.replicate, List.cons_append, List.nil_append, Nat.reduceAdd, Nat.reduceSub]
      simp only [r_al0 c_M_isWord_0, r_gfS0 c_M_isWord_1 o10 rfl, r_ci c_M_isWord_4, r_icne c_M_isWord_5, r_al0 c_M_isWord_8, r_gfS0 c_M_isWord_9 o10 rfl, r_al0 c_M_isWord_12, r_gfS0 c_M_isWord_13 o10 rfl, r_isub c_M_isWord_16, r_al1 c_M_isWord_17, r_cv1 c_M_isWord_18, r_icne c_M_isWord_21, r_ci c_M_isWord_24, r_goto c_M_isWord_25, r_ci c_M_isWord_28, r_is2 c_M_isWord_29, r_ci c_M_isWord_30, r_is3 c_M_isWord_31, ↓reduceIte, hs_h, Option.bind_some, mfix_i, mfix_r, mfix_n, mfix_a, Option.toList_some, Option.toList_none, List.cons_append, List.nil_append, List.singleton_append, mwt, Value.category, Nat.reduceAdd, Nat.reduceLeDiff, true_and, and_true, and_self, mp15, m1, if_true, mp14, mp13, es, ms, JS_length_ok hE hi, b', if_false]
      rw [m1] at z0
      exact z0
  · have m1 : ¬ mso σ = 1 := by rw [mso_1]; exact a
    rw [if_neg a]
    simp only [ment, mfl, List.length, List.replicate, List.cons_append, List.nil_append, Nat.reduceAdd, Nat.reduceSub]
    simp only [r_al0 c_M_isWord_0, r_gfS0 c_M_isWord_1 o10 rfl, r_ci c_M_isWord_4, r_icne c_M_isWord_5, r_al0 c_M_isWord_8, r_gfS0 c_M_isWord_9 o10 rfl, r_al0 c_M_isWord_12, r_gfS0 c_M_isWord_13 o10 rfl, r_isub c_M_isWord_16, r_al1 c_M_isWord_17, r_cv1 c_M_isWord_18, r_icne c_M_isWord_21, r_ci c_M_isWord_24, r_goto c_M_isWord_25, r_ci c_M_isWord_28, r_is2 c_M_isWord_29, r_ci c_M_isWord_30, r_is3 c_M_isWord_31, ↓reduceIte, hs_h, Option.bind_some, mfix_i, mfix_r, mfix_n, mfix_a, Option.toList_some, Option.toList_none, List.cons_append, List.nil_append, List.singleton_append, mwt, Value.category, Nat.reduceAdd, Nat.reduceLeDiff, true_and, and_true, and_self, mp15, m1, if_false]
    exact z0
end MRE
