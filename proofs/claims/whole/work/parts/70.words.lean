/-! the reader: words and signs here -/
section WORDS
variable {E : EE} {S : SS} {d n p j so b l kn : Nat} {T : Nat → Nat} {c v x ky : Int32} {σ : PT}
theorem rz2 : iF (rdZ S ky σ) 81 2 = nI σ.2.2.2.2.1 := rd2
theorem rz3 : iF (rdZ S ky σ) 81 3 = nI σ.2.2.2.2.2.1 := rd3
theorem rz4 : iF (rdZ S ky σ) 81 4 = ky := rd4
theorem rz5 : iF (rdZ S ky σ) 81 5 = cdF σ.2.2.2.1 := rd5
theorem rz6 : iF (rdZ S ky σ) 81 6 = nI σ.2.2.1 := rd6
theorem rz7 : iF (rdZ S ky σ) 81 7 = nI σ.1 := rd7
theorem rz8 : iF (rdZ S ky σ) 81 8 = nI σ.2.1 := rd8
theorem rzA : iA (rdZ S ky σ) 82 = σ.2.2.2.2.2.2 := rdA
theorem tpS_rz (h : tpS S n T) : tpS (rdZ S ky σ) n T := tpS_rd h
def okP (n : Nat) (σ : PT) : Prop := σ.1 ≤ n ∧ σ.2.1 ≤ n ∧ σ.2.2.1 < 10 ∧ σ.2.2.2.2.1 ≤ 96 ∧ σ.1 ≤ σ.2.1 ∧ ∀ p, σ.2.2.2.1 = some p → p ≤ n
def isg (n : Nat) (T : Nat → Nat) (σ : PT) (c : Int32) : Int32 := if σ.2.2.1 = 2 then if btN n T σ.1 = c then 1 else 0 else 0
theorem D_isSign_ok (hE : okE E) (hT : tpS S n T) (hσ : okP n σ) : mres cT 128 d 0 (ment 2 [.ref 81, .int c]) [] (hs E (rdZ S ky σ)) = some (some (.int (isg n T σ c)), hs E (rdZ S ky σ)) := by
  have o7 := o_D hE
  have hn := hT.2.1
  have m5 : ∀ S, misc (hp E S 79) 5 = true := fun S => misc_o (o_P hE)
  obtain ⟨h1, h2, h3, h4, h5, h6⟩ := hσ
  have e2 : (nI σ.2.2.1 = 2) = (σ.2.2.1 = 2) := propext (nI_eq (b := 2) (by omega) (by omega))
  simp only [ment, mfl, List.length, List.replicate, List.cons_append, List.nil_append, Nat.reduceAdd, Nat.reduceSub]
  simp only [r_al0 c_D_isSign_0, r_gfS0 c_D_isSign_1 o7 rfl, r_ci c_D_isSign_4, r_icne c_D_isSign_5, r_al0 c_D_isSign_8, r_gfSr c_D_isSign_9 o7 rfl, r_al0 c_D_isSign_12, r_gfS0 c_D_isSign_13 o7 rfl, r_cv2 c_D_isSign_16, r_il1 c_D_isSign_19, r_icne c_D_isSign_20, r_ci c_D_isSign_23, r_goto c_D_isSign_24, r_ci c_D_isSign_27, r_zret c_D_isSign_28, ↓reduceIte, hs_h, Option.bind_some, mfix_i, mfix_r, mfix_n, mfix_a, Option.toList_some, Option.toList_none, List.cons_append, List.nil_append, List.singleton_append, mwt, Value.category, Nat.reduceAdd, Nat.reduceLeDiff, true_and, and_true, and_self, m5, rz6, rz7, e2, P_byteAt_ok hE (tpS_rz hT) (show σ.1 < 2 ^ 31 by omega), mz0, mz1, ite_out, isg]
def chI (x : Int32) : Int32 := (x.toUInt32 % 65536).toInt32
def sgo (n : Nat) (T : Nat → Nat) (l : Nat) (σ : PT) : Int32 := if σ.2.2.1 = 2 then if ixS (10 + l) (chI (btN n T σ.1)) < 0 then 0 else 1 else 0
theorem D_signsOf_ok {H : mH} (hl : l < 5) : mres cT 131 d 0 (ment 1 [.int (nI l)]) [] H = some (some (.ref (1000010 + l)), H) := by
  simp only [ment, mfl, List.length, List.replicate, List.cons_append, List.nil_append, Nat.reduceAdd, Nat.reduceSub]
  match l, hl with
  | 0, _ => simp only [r_il0 c_D_signsOf_0, r_sw c_D_signsOf_1, ↓reduceIte, hs_h, Option.bind_some, mfix_i, mfix_r, mfix_n, mfix_a, Option.toList_some, Option.toList_none, List.cons_append, List.nil_append, List.singleton_append, mpick, show (nI 0 = (0 : Int32)) = True from eq_true (by decide), if_true, r_cv c_D_signsOf_32, r_aret c_D_signsOf_34, r_aretn c_D_signsOf_34, r_cv c_D_signsOf_35, r_aret c_D_signsOf_37, r_aretn c_D_signsOf_37, r_cv c_D_signsOf_38, r_aret c_D_signsOf_40, r_aretn c_D_signsOf_40, r_cv c_D_signsOf_41, r_aret c_D_signsOf_43, r_aretn c_D_signsOf_43, r_cv c_D_signsOf_44, r_aret c_D_signsOf_46, r_aretn c_D_signsOf_46]
  | 1, _ => simp only [r_il0 c_D_signsOf_0, r_sw c_D_signsOf_1, ↓reduceIte, hs_h, Option.bind_some, mfix_i, mfix_r, mfix_n, mfix_a, Option.toList_some, Option.toList_none, List.cons_append, List.nil_append, List.singleton_append, mpick, show (nI 1 = (0 : Int32)) = False from eq_false (by decide), show (nI 1 = (1 : Int32)) = True from eq_true (by decide), if_true, if_false, r_cv c_D_signsOf_32, r_aret c_D_signsOf_34, r_aretn c_D_signsOf_34, r_cv c_D_signsOf_35, r_aret c_D_signsOf_37, r_aretn c_D_signsOf_37, r_cv c_D_signsOf_38, r_aret c_D_signsOf_40, r_aretn c_D_signsOf_40, r_cv c_D_signsOf_41, r_aret c_D_signsOf_43, r_aretn c_D_signsOf_43, r_cv c_D_signsOf_44, r_aret c_D_signsOf_46, r_aretn c_D_signsOf_46]
  | 2, _ => simp only [r_il0 c_D_signsOf_0, r_sw c_D_signsOf_1, ↓reduceIte, hs_h, Option.bind_some, mfix_i, mfix_r, mfix_n, mfix_a, Option.toList_some, Option.toList_none, List.cons_append, List.nil_append, List.singleton_append, mpick, show (nI 2 = (0 : Int32)) = False from eq_false (by decide), show (nI 2 = (1 : Int32)) = False from eq_false (by decide), show (nI 2 = (2 : Int32)) = True from eq_true (by decide), if_true, if_false, r_cv c_D_signsOf_32, r_aret c_D_signsOf_34, r_aretn c_D_signsOf_34, r_cv c_D_signsOf_35, r_aret c_D_signsOf_37, r_aretn c_D_signsOf_37, r_cv c_D_signsOf_38, r_aret c_D_signsOf_40, r_aretn c_D_signsOf_40, r_cv c_D_signsOf_41, r_aret c_D_signsOf_43, r_aretn c_D_signsOf_43, r_cv c_D_signsOf_44, r_aret c_D_signsOf_46, r_aretn c_D_signsOf_46]
  | 3, _ => simp only [r_il0 c_D_signsOf_0, r_sw c_D_signsOf_1, ↓reduceIte, hs_h, Option.bind_some, mfix_i, mfix_r, mfix_n, mfix_a, Option.toList_some, Option.toList_none, List.cons_append, List.nil_append, List.singleton_append, mpick, show (nI 3 = (0 : Int32)) = False from eq_false (by decide), show (nI 3 = (1 : Int32)) = False from eq_false (by decide), show (nI 3 = (2 : Int32)) = False from eq_false (by decide), show (nI 3 = (3 : Int32)) = True from eq_true (by decide), if_true, if_false, r_cv c_D_signsOf_32, r_aret c_D_signsOf_34, r_aretn c_D_signsOf_34, r_cv c_D_signsOf_35, r_aret c_D_signsOf_37, r_aretn c_D_signsOf_37, r_cv c_D_signsOf_38, r_aret c_D_signsOf_40, r_aretn c_D_signsOf_40, r_cv c_D_signsOf_41, r_aret c_D_signsOf_43, r_aretn c_D_signsOf_43, r_cv c_D_signsOf_44, r_aret c_D_signsOf_46, r_aretn c_D_signsOf_46]
  | 4, _ => simp only [r_il0 c_D_signsOf_0, r_sw c_D_signsOf_1, ↓reduceIte, hs_h, Option.bind_some, mfix_i, mfix_r, mfix_n, mfix_a, Option.toList_some, Option.toList_none, List.cons_append, List.nil_append, List.singleton_append, mpick, show (nI 4 = (0 : Int32)) = False from eq_false (by decide), show (nI 4 = (1 : Int32)) = False from eq_false (by decide), show (nI 4 = (2 : Int32)) = False from eq_false (by decide), show (nI 4 = (3 : Int32)) = False from eq_false (by decide), if_true, if_false, r_cv c_D_signsOf_32, r_aret c_D_signsOf_34, r_aretn c_D_signsOf_34, r_cv c_D_signsOf_35, r_aret c_D_signsOf_37, r_aretn c_D_signsOf_37, r_cv c_D_signsOf_38, r_aret c_D_signsOf_40, r_aretn c_D_signsOf_40, r_cv c_D_signsOf_41, r_aret c_D_signsOf_43, r_aretn c_D_signsOf_43, r_cv c_D_signsOf_44, r_aret c_D_signsOf_46, r_aretn c_D_signsOf_46]
theorem D_namesOf_ok {H : mH} (hl : l < 5) : mres cT 121 d 0 (ment 1 [.int (nI l)]) [] H = some (some (.ref (1000005 + l)), H) := by
  simp only [ment, mfl, List.length, List.replicate, List.cons_append, List.nil_append, Nat.reduceAdd, Nat.reduceSub]
  match l, hl with
  | 0, _ => simp only [r_il0 c_D_namesOf_0, r_sw c_D_namesOf_1, ↓reduceIte, hs_h, Option.bind_some, mfix_i, mfix_r, mfix_n, mfix_a, Option.toList_some, Option.toList_none, List.cons_append, List.nil_append, List.singleton_append, mpick, show (nI 0 = (0 : Int32)) = True from eq_true (by decide), if_true, r_cv c_D_namesOf_32, r_aret c_D_namesOf_34, r_aretn c_D_namesOf_34, r_cv c_D_namesOf_35, r_aret c_D_namesOf_37, r_aretn c_D_namesOf_37, r_cv c_D_namesOf_38, r_aret c_D_namesOf_40, r_aretn c_D_namesOf_40, r_cv c_D_namesOf_41, r_aret c_D_namesOf_43, r_aretn c_D_namesOf_43, r_cv c_D_namesOf_44, r_aret c_D_namesOf_46, r_aretn c_D_namesOf_46]
  | 1, _ => simp only [r_il0 c_D_namesOf_0, r_sw c_D_namesOf_1, ↓reduceIte, hs_h, Option.bind_some, mfix_i, mfix_r, mfix_n, mfix_a, Option.toList_some, Option.toList_none, List.cons_append, List.nil_append, List.singleton_append, mpick, show (nI 1 = (0 : Int32)) = False from eq_false (by decide), show (nI 1 = (1 : Int32)) = True from eq_true (by decide), if_true, if_false, r_cv c_D_namesOf_32, r_aret c_D_namesOf_34, r_aretn c_D_namesOf_34, r_cv c_D_namesOf_35, r_aret c_D_namesOf_37, r_aretn c_D_namesOf_37, r_cv c_D_namesOf_38, r_aret c_D_namesOf_40, r_aretn c_D_namesOf_40, r_cv c_D_namesOf_41, r_aret c_D_namesOf_43, r_aretn c_D_namesOf_43, r_cv c_D_namesOf_44, r_aret c_D_namesOf_46, r_aretn c_D_namesOf_46]
  | 2, _ => simp only [r_il0 c_D_namesOf_0, r_sw c_D_namesOf_1, ↓reduceIte, hs_h, Option.bind_some, mfix_i, mfix_r, mfix_n, mfix_a, Option.toList_some, Option.toList_none, List.cons_append, List.nil_append, List.singleton_append, mpick, show (nI 2 = (0 : Int32)) = False from eq_false (by decide), show (nI 2 = (1 : Int32)) = False from eq_false (by decide), show (nI 2 = (2 : Int32)) = True from eq_true (by decide), if_true, if_false, r_cv c_D_namesOf_32, r_aret c_D_namesOf_34, r_aretn c_D_namesOf_34, r_cv c_D_namesOf_35, r_aret c_D_namesOf_37, r_aretn c_D_namesOf_37, r_cv c_D_namesOf_38, r_aret c_D_namesOf_40, r_aretn c_D_namesOf_40, r_cv c_D_namesOf_41, r_aret c_D_namesOf_43, r_aretn c_D_namesOf_43, r_cv c_D_namesOf_44, r_aret c_D_namesOf_46, r_aretn c_D_namesOf_46]
  | 3, _ => simp only [r_il0 c_D_namesOf_0, r_sw c_D_namesOf_1, ↓reduceIte, hs_h, Option.bind_some, mfix_i, mfix_r, mfix_n, mfix_a, Option.toList_some, Option.toList_none, List.cons_append, List.nil_append, List.singleton_append, mpick, show (nI 3 = (0 : Int32)) = False from eq_false (by decide), show (nI 3 = (1 : Int32)) = False from eq_false (by decide), show (nI 3 = (2 : Int32)) = False from eq_false (by decide), show (nI 3 = (3 : Int32)) = True from eq_true (by decide), if_true, if_false, r_cv c_D_namesOf_32, r_aret c_D_namesOf_34, r_aretn c_D_namesOf_34, r_cv c_D_namesOf_35, r_aret c_D_namesOf_37, r_aretn c_D_namesOf_37, r_cv c_D_namesOf_38, r_aret c_D_namesOf_40, r_aretn c_D_namesOf_40, r_cv c_D_namesOf_41, r_aret c_D_namesOf_43, r_aretn c_D_namesOf_43, r_cv c_D_namesOf_44, r_aret c_D_namesOf_46, r_aretn c_D_namesOf_46]
  | 4, _ => simp only [r_il0 c_D_namesOf_0, r_sw c_D_namesOf_1, ↓reduceIte, hs_h, Option.bind_some, mfix_i, mfix_r, mfix_n, mfix_a, Option.toList_some, Option.toList_none, List.cons_append, List.nil_append, List.singleton_append, mpick, show (nI 4 = (0 : Int32)) = False from eq_false (by decide), show (nI 4 = (1 : Int32)) = False from eq_false (by decide), show (nI 4 = (2 : Int32)) = False from eq_false (by decide), show (nI 4 = (3 : Int32)) = False from eq_false (by decide), if_true, if_false, r_cv c_D_namesOf_32, r_aret c_D_namesOf_34, r_aretn c_D_namesOf_34, r_cv c_D_namesOf_35, r_aret c_D_namesOf_37, r_aretn c_D_namesOf_37, r_cv c_D_namesOf_38, r_aret c_D_namesOf_40, r_aretn c_D_namesOf_40, r_cv c_D_namesOf_41, r_aret c_D_namesOf_43, r_aretn c_D_namesOf_43, r_cv c_D_namesOf_44, r_aret c_D_namesOf_46, r_aretn c_D_namesOf_46]
theorem D_wordOf_ok {H : mH} (hl : l < 5) : mres cT 108 d 0 (ment 1 [.int (nI l)]) [] H = some (some (.ref (1000000 + l)), H) := by
  simp only [ment, mfl, List.length, List.replicate, List.cons_append, List.nil_append, Nat.reduceAdd, Nat.reduceSub]
  match l, hl with
  | 0, _ => simp only [r_il0 c_D_wordOf_0, r_sw c_D_wordOf_1, ↓reduceIte, hs_h, Option.bind_some, mfix_i, mfix_r, mfix_n, mfix_a, Option.toList_some, Option.toList_none, List.cons_append, List.nil_append, List.singleton_append, mpick, show (nI 0 = (0 : Int32)) = True from eq_true (by decide), if_true, r_cv c_D_wordOf_32, r_aret c_D_wordOf_34, r_aretn c_D_wordOf_34, r_cv c_D_wordOf_35, r_aret c_D_wordOf_37, r_aretn c_D_wordOf_37, r_cv c_D_wordOf_38, r_aret c_D_wordOf_40, r_aretn c_D_wordOf_40, r_cv c_D_wordOf_41, r_aret c_D_wordOf_43, r_aretn c_D_wordOf_43, r_cv c_D_wordOf_44, r_aret c_D_wordOf_46, r_aretn c_D_wordOf_46]
  | 1, _ => simp only [r_il0 c_D_wordOf_0, r_sw c_D_wordOf_1, ↓reduceIte, hs_h, Option.bind_some, mfix_i, mfix_r, mfix_n, mfix_a, Option.toList_some, Option.toList_none, List.cons_append, List.nil_append, List.singleton_append, mpick, show (nI 1 = (0 : Int32)) = False from eq_false (by decide), show (nI 1 = (1 : Int32)) = True from eq_true (by decide), if_true, if_false, r_cv c_D_wordOf_32, r_aret c_D_wordOf_34, r_aretn c_D_wordOf_34, r_cv c_D_wordOf_35, r_aret c_D_wordOf_37, r_aretn c_D_wordOf_37, r_cv c_D_wordOf_38, r_aret c_D_wordOf_40, r_aretn c_D_wordOf_40, r_cv c_D_wordOf_41, r_aret c_D_wordOf_43, r_aretn c_D_wordOf_43, r_cv c_D_wordOf_44, r_aret c_D_wordOf_46, r_aretn c_D_wordOf_46]
  | 2, _ => simp only [r_il0 c_D_wordOf_0, r_sw c_D_wordOf_1, ↓reduceIte, hs_h, Option.bind_some, mfix_i, mfix_r, mfix_n, mfix_a, Option.toList_some, Option.toList_none, List.cons_append, List.nil_append, List.singleton_append, mpick, show (nI 2 = (0 : Int32)) = False from eq_false (by decide), show (nI 2 = (1 : Int32)) = False from eq_false (by decide), show (nI 2 = (2 : Int32)) = True from eq_true (by decide), if_true, if_false, r_cv c_D_wordOf_32, r_aret c_D_wordOf_34, r_aretn c_D_wordOf_34, r_cv c_D_wordOf_35, r_aret c_D_wordOf_37, r_aretn c_D_wordOf_37, r_cv c_D_wordOf_38, r_aret c_D_wordOf_40, r_aretn c_D_wordOf_40, r_cv c_D_wordOf_41, r_aret c_D_wordOf_43, r_aretn c_D_wordOf_43, r_cv c_D_wordOf_44, r_aret c_D_wordOf_46, r_aretn c_D_wordOf_46]
  | 3, _ => simp only [r_il0 c_D_wordOf_0, r_sw c_D_wordOf_1, ↓reduceIte, hs_h, Option.bind_some, mfix_i, mfix_r, mfix_n, mfix_a, Option.toList_some, Option.toList_none, List.cons_append, List.nil_append, List.singleton_append, mpick, show (nI 3 = (0 : Int32)) = False from eq_false (by decide), show (nI 3 = (1 : Int32)) = False from eq_false (by decide), show (nI 3 = (2 : Int32)) = False from eq_false (by decide), show (nI 3 = (3 : Int32)) = True from eq_true (by decide), if_true, if_false, r_cv c_D_wordOf_32, r_aret c_D_wordOf_34, r_aretn c_D_wordOf_34, r_cv c_D_wordOf_35, r_aret c_D_wordOf_37, r_aretn c_D_wordOf_37, r_cv c_D_wordOf_38, r_aret c_D_wordOf_40, r_aretn c_D_wordOf_40, r_cv c_D_wordOf_41, r_aret c_D_wordOf_43, r_aretn c_D_wordOf_43, r_cv c_D_wordOf_44, r_aret c_D_wordOf_46, r_aretn c_D_wordOf_46]
  | 4, _ => simp only [r_il0 c_D_wordOf_0, r_sw c_D_wordOf_1, ↓reduceIte, hs_h, Option.bind_some, mfix_i, mfix_r, mfix_n, mfix_a, Option.toList_some, Option.toList_none, List.cons_append, List.nil_append, List.singleton_append, mpick, show (nI 4 = (0 : Int32)) = False from eq_false (by decide), show (nI 4 = (1 : Int32)) = False from eq_false (by decide), show (nI 4 = (2 : Int32)) = False from eq_false (by decide), show (nI 4 = (3 : Int32)) = False from eq_false (by decide), if_true, if_false, r_cv c_D_wordOf_32, r_aret c_D_wordOf_34, r_aretn c_D_wordOf_34, r_cv c_D_wordOf_35, r_aret c_D_wordOf_37, r_aretn c_D_wordOf_37, r_cv c_D_wordOf_38, r_aret c_D_wordOf_40, r_aretn c_D_wordOf_40, r_cv c_D_wordOf_41, r_aret c_D_wordOf_43, r_aretn c_D_wordOf_43, r_cv c_D_wordOf_44, r_aret c_D_wordOf_46, r_aretn c_D_wordOf_46]
theorem D_signIsOf_ok (hE : okE E) (hT : tpS S n T) (hσ : okP n σ) (hl : l < 5) : mres cT 132 d 0 (ment 2 [.ref 81, .int (nI l)]) [] (hs E (rdZ S ky σ)) = some (some (.int (sgo n T l σ)), hs E (rdZ S ky σ)) := by
  have o7 := o_D hE
  have hn := hT.2.1
  have m5 : ∀ S, misc (hp E S 79) 5 = true := fun S => misc_o (o_P hE)
  obtain ⟨h1, h2, h3, h4, h5, h6⟩ := hσ
  have e2 : (nI σ.2.2.1 = 2) = (σ.2.2.1 = 2) := propext (nI_eq (b := 2) (by omega) (by omega))
  have ms : ∀ S, misc (hp E S (1000010 + l)) 100 = true := fun S => by
    rw [show 1000010 + l = 1000000 + (10 + l) by omega]; exact s_misc hE (by omega)
  have rx : ∀ S d c, mres cT 126 d 0 (ment 2 [.ref (1000010 + l), .int c]) [] (hs E S) = some (some (.int (ixS (10 + l) c)), hs E S) := fun S d c => by
    rw [show 1000010 + l = 1000000 + (10 + l) by omega]; exact JS_indexOf1_ok hE (by omega)
  simp only [ment, mfl, List.length, List.replicate, List.cons_append, List.nil_append, Nat.reduceAdd, Nat.reduceSub, sgo]
  by_cases q : σ.2.2.1 = 2
  · have q' : nI σ.2.2.1 = 2 := by rw [q]; rfl
    simp only [r_al0 c_D_signIsOf_0, r_gfS0 c_D_signIsOf_1 o7 rfl, r_ci c_D_signIsOf_4, r_icne c_D_signIsOf_5, r_il1 c_D_signIsOf_8, r_ca1 c_D_signIsOf_9, r_al0 c_D_signIsOf_12, r_gfSr c_D_signIsOf_13 o7 rfl, r_al0 c_D_signIsOf_16, r_gfS0 c_D_signIsOf_17 o7 rfl, r_cv2 c_D_signIsOf_20, r_i2c c_D_signIsOf_23, r_cv2 c_D_signIsOf_24, r_iflt c_D_signIsOf_27, r_ci c_D_signIsOf_30, r_goto c_D_signIsOf_31, r_ci c_D_signIsOf_34, r_zret c_D_signIsOf_35, ↓reduceIte, hs_h, Option.bind_some, mfix_i, mfix_r, mfix_n, mfix_a, Option.toList_some, Option.toList_none, List.cons_append, List.nil_append, List.singleton_append, mwt, Value.category, Nat.reduceAdd, Nat.reduceLeDiff, true_and, and_true, and_self, m5, ms, rz6, rz7, q, show (nI 2 = (2 : Int32)) = True from eq_true (by decide), if_true, D_signsOf_ok hl, P_byteAt_ok hE (tpS_rz hT) (show σ.1 < 2 ^ 31 by omega), rx, mz0, mz1, ite_out, chI]
    rfl
  · have q' : ¬ nI σ.2.2.1 = 2 := by rw [e2]; exact q
    simp only [r_al0 c_D_signIsOf_0, r_gfS0 c_D_signIsOf_1 o7 rfl, r_ci c_D_signIsOf_4, r_icne c_D_signIsOf_5, r_il1 c_D_signIsOf_8, r_ca1 c_D_signIsOf_9, r_al0 c_D_signIsOf_12, r_gfSr c_D_signIsOf_13 o7 rfl, r_al0 c_D_signIsOf_16, r_gfS0 c_D_signIsOf_17 o7 rfl, r_cv2 c_D_signIsOf_20, r_i2c c_D_signIsOf_23, r_cv2 c_D_signIsOf_24, r_iflt c_D_signIsOf_27, r_ci c_D_signIsOf_30, r_goto c_D_signIsOf_31, r_ci c_D_signIsOf_34, r_zret c_D_signIsOf_35, ↓reduceIte, hs_h, Option.bind_some, mfix_i, mfix_r, mfix_n, mfix_a, Option.toList_some, Option.toList_none, List.cons_append, List.nil_append, List.singleton_append, rz6, q', q, if_false, mz0]
def nuF (n : Nat) (T : Nat → Nat) : Nat → Nat → Int32 → Int32
  | 0, _, v => v
  | m + 1, p, v => nuF n T m (p + 1) (v * 10 + btN n T p - 48)
theorem D_numberHere_ok (hE : okE E) (hT : tpS S n T) (hσ : okP n σ) : mres cT 118 d 0 (ment 3 [.ref 81]) [] (hs E (rdZ S ky σ)) = some (some (.int (nuF n T (σ.2.1 - σ.1) σ.1 0)), hs E (rdZ S ky σ)) := by
  have o7 := o_D hE
  have hn := hT.2.1
  have m5 : ∀ S, misc (hp E S 79) 5 = true := fun S => misc_o (o_P hE)
  obtain ⟨h1, h2, h3, h4, h5, h6⟩ := hσ
  have lp : ∀ m p v, p + m = σ.2.1 → mres cT 118 d 7 [.ref 81, .int v, .int (nI p)] [] (hs E (rdZ S ky σ)) = some (some (.int (nuF n T m p v)), hs E (rdZ S ky σ)) := by
    intro m
    induction m with
    | zero =>
      intro p v hp
      have a1 : nI σ.2.1 ≤ nI p := nI_le (by omega) (by omega)
      simp only [r_il2 c_D_numberHere_7, r_al0 c_D_numberHere_8, r_gfS0 c_D_numberHere_9 o7 rfl, r_icge c_D_numberHere_12, r_il1 c_D_numberHere_38, r_iret c_D_numberHere_39, ↓reduceIte, hs_h, Option.bind_some, mfix_i, mfix_r, mfix_n, mfix_a, Option.toList_some, Option.toList_none, List.cons_append, List.nil_append, List.singleton_append, rz8, a1, if_true, nuF]
    | succ m ih =>
      intro p v hp
      have a1 : ¬ nI σ.2.1 ≤ nI p := nI_ge (by omega) (by omega)
      have ih := fun v => ih (p + 1) v (by omega)
      simp only [r_il2 c_D_numberHere_7, r_al0 c_D_numberHere_8, r_gfS0 c_D_numberHere_9 o7 rfl, r_icge c_D_numberHere_12, ↓reduceIte, hs_h, Option.bind_some, mfix_i, mfix_r, mfix_n, mfix_a, Option.toList_some, Option.toList_none, List.cons_append, List.nil_append, List.singleton_append, rz8, a1, if_false]
      simp only [r_il1 c_D_numberHere_15, r_ci c_D_numberHere_16, r_imul c_D_numberHere_18, r_al0 c_D_numberHere_19, r_gfSr c_D_numberHere_20 o7 rfl, r_il2 c_D_numberHere_23, r_cv2 c_D_numberHere_24, r_iadd c_D_numberHere_27, r_ci c_D_numberHere_28, r_isub c_D_numberHere_30, r_is1 c_D_numberHere_31, r_inc2 c_D_numberHere_32, r_goto c_D_numberHere_35, ↓reduceIte, hs_h, Option.bind_some, mfix_i, mfix_r, mfix_n, mfix_a, Option.toList_some, Option.toList_none, List.cons_append, List.nil_append, List.singleton_append, mwt, Value.category, Nat.reduceAdd, Nat.reduceLeDiff, true_and, and_true, and_self, m5, P_byteAt_ok hE (tpS_rz hT) (show p < 2 ^ 31 by omega), nI_1, ih, nuF]
  have lq := lp (σ.2.1 - σ.1) σ.1 0 (by omega)
  simp only [ment, mfl, List.length, List.replicate, List.cons_append, List.nil_append, Nat.reduceAdd, Nat.reduceSub]
  simp only [r_ci c_D_numberHere_0, r_is1 c_D_numberHere_1, r_al0 c_D_numberHere_2, r_gfS0 c_D_numberHere_3 o7 rfl, r_is2 c_D_numberHere_6, ↓reduceIte, hs_h, Option.bind_some, mfix_i, mfix_r, mfix_n, mfix_a, Option.toList_some, Option.toList_none, List.cons_append, List.nil_append, List.singleton_append, rz7, lq]
def nmI (n : Nat) (T : Nat → Nat) (kn : Nat) (σ : PT) : Int32 := if σ.2.1 = σ.1 + 1 then ixS (5 + kn) (chI (btN n T σ.1)) else -1
def nmH (n : Nat) (T : Nat → Nat) (kn : Nat) (σ : PT) : Int32 := if 0 ≤ nmI n T kn σ then nmI n T kn σ else -1000000005
theorem D_nameHere_ok (hE : okE E) (hT : tpS S n T) (hσ : okP n σ) (hk : kn < 5) : mres cT 127 d 0 (ment 2 [.ref 81]) [] (hs E (rdZ S (nI kn) σ)) = some (some (.int (nmH n T kn σ)), hs E (rdZ S (nI kn) σ)) := by
  have o7 := o_D hE
  have hn := hT.2.1
  have m5 : ∀ S, misc (hp E S 79) 5 = true := fun S => misc_o (o_P hE)
  obtain ⟨h1, h2, h3, h4, h5, h6⟩ := hσ
  have ms : ∀ S, misc (hp E S (1000005 + kn)) 100 = true := fun S => by
    rw [show 1000005 + kn = 1000000 + (5 + kn) by omega]; exact s_misc hE (by omega)
  have rx : ∀ S d c, mres cT 126 d 0 (ment 2 [.ref (1000005 + kn), .int c]) [] (hs E S) = some (some (.int (ixS (5 + kn) c)), hs E S) := fun S d c => by
    rw [show 1000005 + kn = 1000000 + (5 + kn) by omega]; exact JS_indexOf1_ok hE (by omega)
  have es : nI σ.2.1 - nI σ.1 = nI (σ.2.1 - σ.1) := pk_sub h5
  simp only [ment, mfl, List.length, List.replicate, List.cons_append, List.nil_append, Nat.reduceAdd, Nat.reduceSub]
  by_cases q : σ.2.1 = σ.1 + 1
  · have q' : nI (σ.2.1 - σ.1) = 1 := by rw [show σ.2.1 - σ.1 = 1 by omega]; rfl
    have q2 : nmI n T kn σ = ixS (5 + kn) ((btN n T σ.1).toUInt32 % 65536).toInt32 := if_pos q
    simp only [r_al0 c_D_nameHere_0, r_gfS0 c_D_nameHere_1 o7 rfl, r_al0 c_D_nameHere_4, r_gfS0 c_D_nameHere_5 o7 rfl, r_isub c_D_nameHere_8, r_ci c_D_nameHere_9, r_icne c_D_nameHere_10, r_al0 c_D_nameHere_13, r_gfS0 c_D_nameHere_14 o7 rfl, r_ca1 c_D_nameHere_17, r_al0 c_D_nameHere_20, r_gfSr c_D_nameHere_21 o7 rfl, r_al0 c_D_nameHere_24, r_gfS0 c_D_nameHere_25 o7 rfl, r_cv2 c_D_nameHere_28, r_i2c c_D_nameHere_31, r_cv2 c_D_nameHere_32, r_goto c_D_nameHere_35, r_ci c_D_nameHere_38, r_is1 c_D_nameHere_39, r_il1 c_D_nameHere_40, r_ifge c_D_nameHere_41, r_ci c_D_nameHere_44, r_goto c_D_nameHere_46, r_il1 c_D_nameHere_49, r_iret c_D_nameHere_50, ↓reduceIte, hs_h, Option.bind_some, mfix_i, mfix_r, mfix_n, mfix_a, Option.toList_some, Option.toList_none, List.cons_append, List.nil_append, List.singleton_append, mwt, Value.category, Nat.reduceAdd, Nat.reduceLeDiff, true_and, and_true, and_self, m5, ms, rz8, rz7, rz4, es, q', if_true, D_namesOf_ok hk, P_byteAt_ok hE (tpS_rz hT) (show σ.1 < 2 ^ 31 by omega), rx, ite_out, nmH, q2]
  · have q' : ¬ nI (σ.2.1 - σ.1) = 1 := fun e => q (by have := (nI_eq (b := 1) (by omega) (by omega)).mp e; omega)
    have q2 : nmI n T kn σ = -1 := if_neg q
    simp only [r_al0 c_D_nameHere_0, r_gfS0 c_D_nameHere_1 o7 rfl, r_al0 c_D_nameHere_4, r_gfS0 c_D_nameHere_5 o7 rfl, r_isub c_D_nameHere_8, r_ci c_D_nameHere_9, r_icne c_D_nameHere_10, r_al0 c_D_nameHere_13, r_gfS0 c_D_nameHere_14 o7 rfl, r_ca1 c_D_nameHere_17, r_al0 c_D_nameHere_20, r_gfSr c_D_nameHere_21 o7 rfl, r_al0 c_D_nameHere_24, r_gfS0 c_D_nameHere_25 o7 rfl, r_cv2 c_D_nameHere_28, r_i2c c_D_nameHere_31, r_cv2 c_D_nameHere_32, r_goto c_D_nameHere_35, r_ci c_D_nameHere_38, r_is1 c_D_nameHere_39, r_il1 c_D_nameHere_40, r_ifge c_D_nameHere_41, r_ci c_D_nameHere_44, r_goto c_D_nameHere_46, r_il1 c_D_nameHere_49, r_iret c_D_nameHere_50, ↓reduceIte, hs_h, Option.bind_some, mfix_i, mfix_r, mfix_n, mfix_a, Option.toList_some, Option.toList_none, List.cons_append, List.nil_append, List.singleton_append, mwt, Value.category, Nat.reduceAdd, Nat.reduceLeDiff, true_and, and_true, and_self, rz8, rz7, es, q', if_false, ite_out, nmH, q2]
def emi (σ : PT) (c : Int32) : PT := if σ.2.2.2.2.1 < 96 then (σ.1, σ.2.1, σ.2.2.1, σ.2.2.2.1, σ.2.2.2.2.1 + 1, σ.2.2.2.2.2.1, upd σ.2.2.2.2.2.2 σ.2.2.2.2.1 c) else σ
theorem D_emit_ok (hE : okE E) (hσ : okP n σ) : mres cT 119 d 0 (ment 2 [.ref 81, .int c]) [] (hs E (rdZ S ky σ)) = some (none, hs E (rdZ S ky (emi σ c))) := by
  have o7 := o_D hE
  obtain ⟨h1, h2, h3, h4, h5, h6⟩ := hσ
  have a1 : ¬ nI σ.2.2.2.2.1 < 0 := nI_pos (by omega)
  simp only [ment, mfl, List.length, List.replicate, List.cons_append, List.nil_append, Nat.reduceAdd, Nat.reduceSub]
  by_cases q : σ.2.2.2.2.1 < 96
  · have a2 : nI σ.2.2.2.2.1 < nI 96 := nI_lt q (by omega)
    rw [emi, if_pos q]
    simp only [r_al0 c_D_emit_0, r_gfS0 c_D_emit_1 o7 rfl, r_iflt c_D_emit_4, r_al0 c_D_emit_7, r_gfS0 c_D_emit_8 o7 rfl, r_al0 c_D_emit_11, r_gfSr c_D_emit_12 o7 rfl, r_len c_D_emit_15, r_iclt c_D_emit_16, r_vret c_D_emit_19, r_al0 c_D_emit_20, r_gfSr c_D_emit_21 o7 rfl, r_al0 c_D_emit_24, r_gfS0 c_D_emit_25 o7 rfl, r_il1 c_D_emit_28, r_ias c_D_emit_29, r_al0 c_D_emit_30, r_dupi c_D_emit_31, r_dupr c_D_emit_31, r_gfS0 c_D_emit_32 o7 rfl, r_ci c_D_emit_35, r_iadd c_D_emit_36, r_pfS c_D_emit_37 o7 rfl, r_vret c_D_emit_40, ↓reduceIte, hs_h, Option.bind_some, mfix_i, mfix_r, mfix_n, mfix_a, Option.toList_some, Option.toList_none, List.cons_append, List.nil_append, List.singleton_append, rz2, a1, a2, if_false, if_true, mlen_I (i_D hE), mis_I (i_D hE) q (by decide), hs_I (i_D hE), rzA]
    simp only [rdZ, upA, rd2, up2, nI_1]
  · have a2 : ¬ nI σ.2.2.2.2.1 < nI 96 := nI_nlt (by omega) (by omega)
    rw [emi, if_neg q]
    simp only [r_al0 c_D_emit_0, r_gfS0 c_D_emit_1 o7 rfl, r_iflt c_D_emit_4, r_al0 c_D_emit_7, r_gfS0 c_D_emit_8 o7 rfl, r_al0 c_D_emit_11, r_gfSr c_D_emit_12 o7 rfl, r_len c_D_emit_15, r_iclt c_D_emit_16, r_vret c_D_emit_19, r_al0 c_D_emit_20, r_gfSr c_D_emit_21 o7 rfl, r_al0 c_D_emit_24, r_gfS0 c_D_emit_25 o7 rfl, r_il1 c_D_emit_28, r_ias c_D_emit_29, r_al0 c_D_emit_30, r_dupi c_D_emit_31, r_dupr c_D_emit_31, r_gfS0 c_D_emit_32 o7 rfl, r_ci c_D_emit_35, r_iadd c_D_emit_36, r_pfS c_D_emit_37 o7 rfl, r_vret c_D_emit_40, ↓reduceIte, hs_h, Option.bind_some, mfix_i, mfix_r, mfix_n, mfix_a, Option.toList_some, Option.toList_none, List.cons_append, List.nil_append, List.singleton_append, rz2, a1, a2, if_false, mlen_I (i_D hE)]
def lfv (σ : PT) : PT := (σ.1, σ.2.1, σ.2.2.1, σ.2.2.2.1, σ.2.2.2.2.1, σ.2.2.2.2.2.1 + 1, σ.2.2.2.2.2.2)
def lef (n : Nat) (T : Nat → Nat) (σ : PT) (c : Int32) : PT := adv n T (emi (lfv σ) c)
theorem okP_emi (h : okP n σ) : okP n (emi σ c) := by
  obtain ⟨h1, h2, h3, h4, h5, h6⟩ := h
  rw [emi]
  split
  · exact ⟨h1, h2, h3, by show _ + 1 ≤ 96; omega, h5, h6⟩
  · exact ⟨h1, h2, h3, h4, h5, h6⟩
theorem okP_lfv (h : okP n σ) : okP n (lfv σ) := h
theorem okP_adv (h : okP n σ) : okP n (adv n T σ) := by
  obtain ⟨h1, h2, h3, h4, h5, h6⟩ := h
  obtain ⟨a1, a2, a3, a4, a5, a6⟩ := adv_b (T := T) h2
  refine ⟨by omega, a3, a4, ?_, a2, ?_⟩
  · rw [a6]; exact h4
  · rw [a6]; exact h6
theorem D_emitLeaf_ok (hE : okE E) (hT : tpS S n T) (hσ : okP n σ) : mres cT 120 d 0 (ment 2 [.ref 81, .int c]) [] (hs E (rdZ S ky σ)) = some (none, hs E (rdZ S ky (lef n T σ c))) := by
  have o7 := o_D hE
  have m7 : ∀ S, misc (hp E S 81) 7 = true := fun S => misc_o o7
  have e1 : sF (rdZ S ky σ) 81 3 (nI (σ.2.2.2.2.2.1 + 1)) = rdZ S ky (lfv σ) := up3
  have h2 := okP_emi (c := c) (okP_lfv hσ)
  have r1 := fun d => D_emit_ok (d := d) (S := S) (ky := ky) (c := c) hE (okP_lfv hσ)
  have r2 := fun d => D_advance_ok (d := d) (S := S) (ky := ky) hE hT h2.2.1 h2.2.2.1
  simp only [ment, mfl, List.length, List.replicate, List.cons_append, List.nil_append, Nat.reduceAdd, Nat.reduceSub]
  simp only [r_al0 c_D_emitLeaf_0, r_dupi c_D_emitLeaf_1, r_dupr c_D_emitLeaf_1, r_gfS0 c_D_emitLeaf_2 o7 rfl, r_ci c_D_emitLeaf_5, r_iadd c_D_emitLeaf_6, r_pfS c_D_emitLeaf_7 o7 rfl, r_al0 c_D_emitLeaf_10, r_il1 c_D_emitLeaf_11, r_cv2 c_D_emitLeaf_12, r_al0 c_D_emitLeaf_15, r_cv1 c_D_emitLeaf_16, r_vret c_D_emitLeaf_19, ↓reduceIte, hs_h, Option.bind_some, mfix_i, mfix_r, mfix_n, mfix_a, Option.toList_some, Option.toList_none, List.cons_append, List.nil_append, List.singleton_append, mwt, Value.category, Nat.reduceAdd, Nat.reduceLeDiff, true_and, and_true, and_self, m7, rz3, nI_1, e1, r1, r2, lef]
def rfu (σ : PT) : PT := (σ.1, σ.2.1, σ.2.2.1, (match σ.2.2.2.1 with | none => some σ.1 | some p => some p), σ.2.2.2.2)
theorem okP_rfu (h : okP n σ) : okP n (rfu σ) := by
  obtain ⟨h1, h2, h3, h4, h5, h6⟩ := h
  refine ⟨h1, h2, h3, h4, h5, fun p hp => ?_⟩
  cases q : σ.2.2.2.1 with
  | none => rw [rfu, q] at hp; cases hp; exact h1
  | some r => rw [rfu, q] at hp; cases hp; exact h6 _ q
theorem D_refuse_ok (hE : okE E) (hf : ∀ p, σ.2.2.2.1 = some p → p < 2 ^ 31) : mres cT 129 d 0 (ment 1 [.ref 81]) [] (hs E (rdZ S ky σ)) = some (none, hs E (rdZ S ky (rfu σ))) := by
  have o7 := o_D hE
  simp only [ment, mfl, List.length, List.replicate, List.cons_append, List.nil_append, Nat.reduceAdd, Nat.reduceSub]
  cases q : σ.2.2.2.1 with
  | none =>
    have e1 : cdF none = -1 := rfl
    simp only [r_al0 c_D_refuse_0, r_gfS0 c_D_refuse_1 o7 rfl, r_ci c_D_refuse_4, r_icne c_D_refuse_5, r_al0 c_D_refuse_8, r_al0 c_D_refuse_9, r_gfS0 c_D_refuse_10 o7 rfl, r_pfS c_D_refuse_13 o7 rfl, r_vret c_D_refuse_16, ↓reduceIte, hs_h, Option.bind_some, mfix_i, mfix_r, mfix_n, mfix_a, Option.toList_some, Option.toList_none, List.cons_append, List.nil_append, List.singleton_append, rz5, q, e1, if_true, rz7]
    rw [rdZ, up5, rfu, q]
    rfl
  | some p =>
    have e1 : ¬ cdF (some p) = -1 := fun e => by
      have h : nI p = -1 := e
      have h0 := nI_pos (hf p q)
      rw [h] at h0
      exact h0 (by decide)
    simp only [r_al0 c_D_refuse_0, r_gfS0 c_D_refuse_1 o7 rfl, r_ci c_D_refuse_4, r_icne c_D_refuse_5, r_al0 c_D_refuse_8, r_al0 c_D_refuse_9, r_gfS0 c_D_refuse_10 o7 rfl, r_pfS c_D_refuse_13 o7 rfl, r_vret c_D_refuse_16, ↓reduceIte, hs_h, Option.bind_some, mfix_i, mfix_r, mfix_n, mfix_a, Option.toList_some, Option.toList_none, List.cons_append, List.nil_append, List.singleton_append, rz5, q, e1, if_false]
    rw [rfu, q]
    simp only [rdZ, q]
end WORDS
