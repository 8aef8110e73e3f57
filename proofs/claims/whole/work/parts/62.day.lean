/-! the books: a day passes -/
section DAY
variable {E : EE} {S S1 : SS} {d b n k q j a : Nat} {c pr v : Int32} {hc z t pk : Nat → Nat}
theorem rfor_kb {α : Type} {P : α → Prop} {g : Nat → α → α} : ∀ (m i : Nat) (s : α), (∀ j s, i ≤ j → j < i + m → P s → P (g j s)) → P s → P (rfor g i m s)
  | 0, _, _, _, h => h
  | m + 1, i, s, hg, h => by
    rw [rfor]
    exact rfor_kb m (i + 1) _ (fun j s h1 h2 => hg j s (by omega) (by omega)) (hg i s (by omega) (by omega) h)
theorem rfor_rel {α β : Type} {R : α → β → Prop} {g : Nat → α → α} {g' : Nat → β → β} : ∀ (m i : Nat) (s : α) (s' : β), (∀ j s s', i ≤ j → j < i + m → R s s' → R (g j s) (g' j s')) → R s s' → R (rfor g i m s) (rfor g' i m s')
  | 0, _, _, _, _, h => h
  | m + 1, i, s, s', hg, h => by
    rw [rfor, rfor]
    exact rfor_rel m (i + 1) _ _ (fun j s s' h1 h2 => hg j s s' (by omega) (by omega)) (hg i s s' (by omega) (by omega) h)
theorem rfor_id {α : Type} {g : Nat → α → α} {s : α} (hg : ∀ i, g i s = s) : ∀ (m i : Nat), rfor g i m s = s
  | 0, _ => rfl
  | m + 1, i => by rw [rfor, hg, rfor_id hg m (i + 1)]
def bdp (v : Int32) : Prop := v = -1000000005 ∨ ∃ p q r : Nat, p < 9 ∧ q < 9 ∧ r < 9 ∧ v = nI (p * 100 + q * 10 + r)
theorem boS_p {f : Nat → Int32} {ab : Int32} (hn : n ≤ 9) : bdp (boS f n ab) := by
  refine rfor_kb (P := fun s : Int32 × Int32 => bdp s.1) n 0 _ (fun i s _ hi hs => ?_) (Or.inl rfl)
  refine rfor_kb (P := fun s : Int32 × Int32 => bdp s.1) _ _ _ (fun j s _ hj hs => ?_) hs
  refine rfor_kb (P := fun s : Int32 × Int32 => bdp s.1) _ _ _ (fun k s _ hk hs => ?_) hs
  rw [boG]
  split
  · split
    · refine Or.inr ⟨i, j, k, by omega, by omega, by omega, ?_⟩
      show nI i * nI 100 + nI j * nI 10 + nI k = _
      rw [pk_mul, pk_mul, nI_add, nI_add]
    · exact hs
  · exact hs
theorem bd_1 {p q r : Nat} (hp : p < 9) (hq : q < 9) (hr : r < 9) : nI (p * 100 + q * 10 + r) / 100 = nI p := by
  rw [show (100 : Int32) = nI 100 from rfl, pk_div (by omega) (by decide) (by decide)]
  exact congrArg nI (by omega)
theorem bd_2 {p q r : Nat} (hp : p < 9) (hq : q < 9) (hr : r < 9) : nI (p * 100 + q * 10 + r) / 10 - nI (p * 100 + q * 10 + r) / 10 / 10 * 10 = nI q := by
  rw [show (10 : Int32) = nI 10 from rfl, pk_div (by omega) (by decide) (by decide), pk_rem (by omega) (by decide) (by decide)]
  exact congrArg nI (by omega)
theorem bd_3 {p q r : Nat} (hp : p < 9) (hq : q < 9) (hr : r < 9) : nI (p * 100 + q * 10 + r) - nI (p * 100 + q * 10 + r) / 10 * 10 = nI r := by
  rw [show (10 : Int32) = nI 10 from rfl, pk_rem (by omega) (by decide) (by decide)]
  exact congrArg nI (by omega)
def tkT (S : SS) (b : Nat) (v : Int32) : SS := adT (adT (adT S b (v / 100).toNatClampNeg) b (v / 10 - v / 10 / 10 * 10).toNatClampNeg) b (v - v / 10 * 10).toNatClampNeg
theorem B_takeTurns_v (hE : okE E) (hb : bkb b) (hv : bdp v) (hn : v ≠ -1000000005) : mres cT 215 d 0 (ment 2 [.ref b, .int v]) [] (hs E S) = some (none, hs E (tkT S b v)) := by
  obtain ⟨p, q, r, hp, hq, hr, rfl⟩ := hv.resolve_left hn
  rw [tkT, bd_1 hp hq hr, bd_2 hp hq hr, bd_3 hp hq hr, nI_clamp (by omega), nI_clamp (by omega), nI_clamp (by omega)]
  exact B_takeTurns_ok hE hb (bd_1 hp hq hr) (bd_2 hp hq hr) (bd_3 hp hq hr) hp hq hr
theorem eqS_adT (h : eqS b S S1) : eqS b (adT S b k) (adT S1 b k) := by
  rw [adT, adT, show iA S1 (b + 6) = iA S (b + 6) by rw [iA, h _ (by omega) (by omega)]]
  exact eqS_sA h
theorem eqS_sF {i : Nat} (h : eqS b S S1) : eqS b (sF S a i v) (sF S1 a i v) := by
  intro p h1 h2
  by_cases e : p = a
  · subst e
    simp only [sF, va_up, if_true, h p h1 h2]
  · simp only [sF, va_up, e, if_false, h p h1 h2]
def blS (S : SS) (b : Nat) (z : Nat → Nat) (l : Int32) (p : Nat) : Int32 := boS (iA S (b + 6)) (z 5) (mfS (iA S (b + 6)) (z 5) (rfor (coG (iA S (b + 8)) l) 0 (z 7) 0) (nI p) (iF S b 8))
def lhS (b : Nat) (z t hc : Nat → Nat) (p : Nat) (s : Int32 × SS) : SS :=
  if s.1 = 0 then s.2 else if blS s.2 b z s.1 p = -1000000005 then rfor (paG b z t hc s.1) 0 (z 7) s.2 else rfor (haG b z t hc s.1) 0 (z 7) (tkT s.2 b (blS s.2 b z s.1 p))
def pdG (b : Nat) (z t pk hc : Nat → Nat) (c : Int32) (p : Nat) (S : SS) : SS := lhS b z t hc p (rfor (siG b z t pk hc c (nI p)) 0 (z 7) (0, S))
theorem okH_tkT (hb : bkb b) (h : okH E S b z t hc pk) : okH E (tkT S b v) b z t hc pk := okH_adT hb (okH_adT hb (okH_adT hb h))
theorem okH_pdG (hb : bkb b) {p : Nat} (h : okH E S b z t hc pk) : okH E (pdG b z t pk hc c p S) b z t hc pk := by
  have h2 : okH E (rfor (siG b z t pk hc c (nI p)) 0 (z 7) (0, S)).2 b z t hc pk := rfor_keep (P := fun s : Int32 × SS => okH E s.2 b z t hc pk) (fun i s => okH_siG hb) _ _ _ h
  rw [pdG, lhS]
  split
  · exact h2
  · split
    · exact rfor_keep (P := fun s : SS => okH E s b z t hc pk) (fun i s hs => by rw [paG]; split; exact okH_poS hb hs; exact hs) _ _ _ h2
    · exact rfor_keep (P := fun s : SS => okH E s b z t hc pk) (fun i s hs => by rw [haG]; split; exact okH_hoS hb hs; exact hs) _ _ _ (okH_tkT hb h2)
theorem pdG_0 {p : Nat} : pdG b z t pk hc 0 p S = S := by
  have e : rfor (siG b z t pk hc 0 (nI p)) 0 (z 7) (0, S) = (0, S) := rfor_id (fun i => by
    rw [siG, if_pos]
    rw [Int32.zero_shiftRight, Int32.zero_and]) _ _
  rw [pdG, e, lhS, if_pos rfl]
def tdS (S : SS) (b n : Nat) : Int32 := rfor (htG (iA S (b + 8)) (iF S b 8)) 0 n 0
def pvS (b : Nat) (z t pk hc : Nat → Nat) (S : SS) : SS := rfor (vlG b hc (tdS S b (z 7))) 0 (z 7) (rfor (pdG b z t pk hc (tdS S b (z 7))) 0 6 S)
def pdS (b : Nat) (z t pk hc : Nat → Nat) (S : SS) : SS := sF (pvS b z t pk hc S) b 8 (iF (pvS b z t pk hc S) b 8 + 1)
theorem okH_vlG (hb : bkb b) {i : Nat} (h : okH E S b z t hc pk) : okH E (vlG b hc c i S) b z t hc pk := by
  have bl := bkb_lt hb
  rw [vlG]; repeat' split
  all_goals first | exact h | exact ⟨okB_sA (by omega) h.1, hcs_8 (hcs_up (by omega) (by omega) h.2.1), pks_sA (by omega) h.2.2⟩
theorem eqS_vlG {i : Nat} (h : eqS b S S1) : eqS b (vlG b hc c i S) (vlG b hc c i S1) := by
  rw [vlG, vlG, show iA S1 (b + 8) = iA S (b + 8) by rw [iA, h _ (by omega) (by omega)], show iA S1 (b + 2) = iA S (b + 2) by rw [iA, h _ (by omega) (by omega)]]
  split
  · split
    · split
      · exact h
      · exact eqS_sA h
    · exact h
  · exact h
theorem okB_sF {i : Nat} (ha : a = b) (hb : bkb b) (hz : okB E S b z t) : okB E (sF S a i v) b z t := by
  have bl := bkb_lt hb
  subst ha
  obtain ⟨h1, h3, h5, h7, h14, h16, h18, h20, h22, ht, hw⟩ := hz
  have e : ∀ p, p ≠ a → sF S a i v p = S p := fun p hp => by rw [sF, va_up, if_neg hp]
  refine ⟨?_, ?_, ?_, ?_, ?_, ?_, ?_, ?_, ?_, fun i hi => ?_, fun i hi => ?_⟩
  · rw [iF, e _ (by omega)]; exact h1
  · rw [iF, e _ (by omega)]; exact h3
  · rw [iF, e _ (by omega)]; exact h5
  · rw [iF, e _ (by omega)]; exact h7
  · rw [iF, e _ (by omega)]; exact h14
  · rw [iF, e _ (by omega)]; exact h16
  · rw [iF, e _ (by omega)]; exact h18
  · rw [iF, e _ (by omega)]; exact h20
  · rw [iF, e _ (by omega)]; exact h22
  · rw [iQ, e _ (by omega)]; exact ht i hi
  · have h9 := (ht i hi).2.1
    rw [iF, iA, e _ (by omega)]; exact hw i hi
theorem okH_sF {i : Nat} (hb : bkb b) (h : okH E S b z t hc pk) : okH E (sF S b i v) b z t hc pk :=
  ⟨okB_sF rfl hb h.1, fun i hi => by rw [iA_sF]; exact h.2.1 i hi, fun i hi => by rw [iA_sF]; exact h.2.2 i hi⟩
theorem okH_pdS (hb : bkb b) (h : okH E S b z t hc pk) : okH E (pdS b z t pk hc S) b z t hc pk := by
  refine okH_sF hb ?_
  refine rfor_keep (P := fun s : SS => okH E s b z t hc pk) (fun i s => okH_vlG hb) _ _ _ ?_
  exact rfor_keep (P := fun s : SS => okH E s b z t hc pk) (fun i s => okH_pdG hb) _ _ _ h
theorem B_passDay_ok (hE : okE E) (hb : bkb b) (hz : okH E S b z t hc pk) (h : eqS b S S1) : ∃ S2, eqS b (pdS b z t pk hc S) S2 ∧ ∀ d, mres cT 219 d 0 (ment 5 [.ref b]) [] (hs E S1) = some (none, hs E S2) := by
  have o0 := o_B hE hb
  have m0 : ∀ S, misc (hp E S b) 0 = true := fun S => misc_o o0
  have g7 := hz.1.2.2.2.1
  have g71 := (okH_eq hb h hz).1.2.2.2.1
  have f8 : iA S1 (b + 8) = iA S (b + 8) := by rw [iA, h _ (by omega) (by omega)]
  have f0 : iF S1 b 8 = iF S b 8 := by rw [iF, h _ (by omega) (by omega)]
  have hd : ∀ d, mres cT 209 d 0 (ment 3 [.ref b]) [] (hs E S1) = some (some (.int (tdS S b (z 7))), hs E S1) := fun d => by
    rw [B_hearingsToday_ok hE hb g71.1 g71.2, f8, f0]; rfl
  have fin : ∀ V V1 w2 w3 w4, okH E V b z t hc pk → eqS b V V1 → ∃ S2, eqS b (sF (rfor (vlG b hc (tdS S b (z 7))) 0 (z 7) V) b 8 (iF (rfor (vlG b hc (tdS S b (z 7))) 0 (z 7) V) b 8 + 1)) S2 ∧ ∀ d, mres cT 219 d 79 [.ref b, .int (tdS S b (z 7)), w2, w3, w4] [] (hs E V1) = some (none, hs E S2) := by
    intro V V1 w2 w3 w4 hV e
    have e2 : eqS b (rfor (vlG b hc (tdS S b (z 7))) 0 (z 7) V) (rfor (vlG b hc (tdS S b (z 7))) 0 (z 7) V1) := rfor_rel (R := eqS b) _ _ _ _ (fun j s s' _ _ h => eqS_vlG h) e
    have hV1 := okH_eq hb e hV
    have f1 : iF (rfor (vlG b hc (tdS S b (z 7))) 0 (z 7) V1) b 8 = iF (rfor (vlG b hc (tdS S b (z 7))) 0 (z 7) V) b 8 := by rw [iF, e2 _ (by omega) (by omega)]
    refine ⟨_, eqS_sF e2, fun d => ?_⟩
    simp only [r_al0 c_B_passDay_79, r_il1 c_B_passDay_80, r_cv2 c_B_passDay_81, r_al0 c_B_passDay_84, r_dupi c_B_passDay_85, r_dupr c_B_passDay_85, r_gfS0 c_B_passDay_86 o0 rfl, r_ci c_B_passDay_89, r_iadd c_B_passDay_90, r_pfS c_B_passDay_91 o0 rfl, r_vret c_B_passDay_94, ↓reduceIte, hs_h, Option.bind_some, mfix_i, mfix_r, mfix_n, mfix_a, Option.toList_some, Option.toList_none, List.cons_append, List.nil_append, List.singleton_append, mwt, Value.category, Nat.reduceAdd, Nat.reduceLeDiff, true_and, and_true, and_self, m0, B_voidLeft_ok hE hb hV1.1 hV1.2.1, f1]
  have lp : ∀ m p V V1 w3 w4, okH E V b z t hc pk → eqS b V V1 → p + m = 6 → ∃ W W1 v2 v3 v4, W = rfor (pdG b z t pk hc (tdS S b (z 7))) p m V ∧ okH E W b z t hc pk ∧ eqS b W W1 ∧ ∀ d, mres cT 219 d 7 [.ref b, .int (tdS S b (z 7)), .int (nI p), w3, w4] [] (hs E V1) = mres cT 219 d 79 [.ref b, .int (tdS S b (z 7)), v2, v3, v4] [] (hs E W1) := by
    intro m
    induction m with
    | zero =>
      intro p V V1 w3 w4 hV e hp
      have h1 : (6 : Int32) ≤ nI p := nI_le (a := 6) (by omega) (by omega)
      refine ⟨V, V1, .int (nI p), w3, w4, rfl, hV, e, fun d => ?_⟩
      by_cases q : tdS S b (z 7) = 0
      · simp only [r_il1 c_B_passDay_7, r_ifeq c_B_passDay_8, ↓reduceIte, hs_h, Option.bind_some, mfix_i, mfix_r, mfix_n, mfix_a, Option.toList_some, Option.toList_none, List.cons_append, List.nil_append, List.singleton_append, q, if_true]
      · simp only [r_il1 c_B_passDay_7, r_ifeq c_B_passDay_8, r_il2 c_B_passDay_11, r_ci c_B_passDay_12, r_icge c_B_passDay_14, ↓reduceIte, hs_h, Option.bind_some, mfix_i, mfix_r, mfix_n, mfix_a, Option.toList_some, Option.toList_none, List.cons_append, List.nil_append, List.singleton_append, q, if_false, h1, if_true]
    | succ m ih =>
      intro p V V1 w3 w4 hV e hp
      have h1 : ¬ (6 : Int32) ≤ nI p := nI_ge (b := 6) (by omega) (by omega)
      by_cases q : tdS S b (z 7) = 0
      · refine ⟨V, V1, .int (nI p), w3, w4, ?_, hV, e, fun d => ?_⟩
        · rw [q]
          exact (rfor_id (fun i => pdG_0) _ _).symm
        · simp only [r_il1 c_B_passDay_7, r_ifeq c_B_passDay_8, ↓reduceIte, hs_h, Option.bind_some, mfix_i, mfix_r, mfix_n, mfix_a, Option.toList_some, Option.toList_none, List.cons_append, List.nil_append, List.singleton_append, q, if_true]
      · have ih := fun V V1 w3 w4 hV e => ih (p + 1) V V1 w3 w4 hV e (by omega)
        obtain ⟨V2, e2, r2⟩ := B_sift_ok (c := tdS S b (z 7)) (pr := nI p) hE hb hV e
        have hV' : okH E (rfor (siG b z t pk hc (tdS S b (z 7)) (nI p)) 0 (z 7) (0, V)).2 b z t hc pk := rfor_keep (P := fun s : Int32 × SS => okH E s.2 b z t hc pk) (fun i s => okH_siG hb) _ _ _ hV
        have hW : okH E (pdG b z t pk hc (tdS S b (z 7)) p V) b z t hc pk := okH_pdG hb hV
        simp only [r_il1 c_B_passDay_7, r_ifeq c_B_passDay_8, r_il2 c_B_passDay_11, r_ci c_B_passDay_12, r_icge c_B_passDay_14, ↓reduceIte, hs_h, Option.bind_some, mfix_i, mfix_r, mfix_n, mfix_a, Option.toList_some, Option.toList_none, List.cons_append, List.nil_append, List.singleton_append, q, h1, if_false]
        rw [rfor]
        generalize hR : rfor (siG b z t pk hc (tdS S b (z 7)) (nI p)) 0 (z 7) (0, V) = R at e2 r2 hV'
        obtain ⟨l, U⟩ := R
        have hG : pdG b z t pk hc (tdS S b (z 7)) p V = lhS b z t hc p (l, U) := by rw [pdG, hR]
        rw [hG] at hW ⊢
        simp only at e2 r2 hV'
        have hV2 := okH_eq hb e2 hV'
        by_cases q1 : l = 0
        · have hG2 : lhS b z t hc p (l, U) = U := by rw [lhS, if_pos q1]
          rw [hG2] at hW ⊢
          obtain ⟨W, W1, v2, v3, v4, w0, w1, w2, w3⟩ := ih U V2 (.int l) w4 hW e2
          refine ⟨W, W1, v2, v3, v4, w0, w1, w2, fun d => ?_⟩
          simp only [r_al0 c_B_passDay_17, r_il1 c_B_passDay_18, r_il2 c_B_passDay_19, r_cv3 c_B_passDay_20, r_is3 c_B_passDay_23, r_il3 c_B_passDay_24, r_ifne c_B_passDay_25, r_goto c_B_passDay_28, r_al0 c_B_passDay_31, r_al0 c_B_passDay_32, r_il3 c_B_passDay_33, r_cv2 c_B_passDay_34, r_il2 c_B_passDay_37, r_al0 c_B_passDay_38, r_gfS0 c_B_passDay_39 o0 rfl, r_cv4 c_B_passDay_42, r_is4 c_B_passDay_45, r_il4 c_B_passDay_47, r_ci c_B_passDay_49, r_icne c_B_passDay_51, r_al0 c_B_passDay_54, r_il3 c_B_passDay_55, r_cv2 c_B_passDay_56, r_goto c_B_passDay_59, r_al0 c_B_passDay_62, r_il4 c_B_passDay_63, r_cv2 c_B_passDay_65, r_al0 c_B_passDay_68, r_il3 c_B_passDay_69, r_cv2 c_B_passDay_70, r_inc2 c_B_passDay_73, r_goto c_B_passDay_76, ↓reduceIte, hs_h, Option.bind_some, mfix_i, mfix_r, mfix_n, mfix_a, Option.toList_some, Option.toList_none, List.cons_append, List.nil_append, List.singleton_append, mwt, Value.category, Nat.reduceAdd, Nat.reduceLeDiff, true_and, and_true, and_self, m0, r2, nI_1]
          simp only [q1, ne_eq, not_true_eq_false, if_true, if_false]
          rw [← q1]
          exact w3 d
        · have g5 := hV2.1.2.2.1
          have g7' := hV2.1.2.2.2.1
          have k8 : iA V2 (b + 8) = iA U (b + 8) := by rw [iA, e2 _ (by omega) (by omega)]
          have k6 : iA V2 (b + 6) = iA U (b + 6) := by rw [iA, e2 _ (by omega) (by omega)]
          have k0 : iF V2 b 8 = iF U b 8 := by rw [iF, e2 _ (by omega) (by omega)]
          have rb : ∀ d, mres cT 178 d 0 (ment 12 [.ref b, .int (rfor (coG (iA U (b + 8)) l) 0 (z 7) 0), .int (nI p), .int (iF U b 8)]) [] (hs E V2) = some (some (.int (blS U b z l p)), hs E V2) := fun d => by
            rw [B_boardFor_ok hE hb g5.1 g5.2, k6]; rfl
          have rc : ∀ d, mres cT 212 d 0 (ment 4 [.ref b, .int l]) [] (hs E V2) = some (some (.int (rfor (coG (iA U (b + 8)) l) 0 (z 7) 0)), hs E V2) := fun d => by
            rw [B_casesOn_ok hE hb g7'.1 g7'.2, k8]
          have hbd : bdp (blS U b z l p) := boS_p hz.1.2.2.1.2
          by_cases q2 : blS U b z l p = -1000000005
          · have hG2 : lhS b z t hc p (l, U) = rfor (paG b z t hc l) 0 (z 7) U := by rw [lhS, if_neg q1, if_pos q2]
            rw [hG2] at hW ⊢
            obtain ⟨V3, e3, r3⟩ : ∃ S2, eqS b (rfor (paG b z t hc l) 0 (z 7) U) S2 ∧ ∀ d, mres cT 213 d 0 (ment 3 [.ref b, .int l]) [] (hs E V2) = some (none, hs E S2) := B_putAllOff_ok hE hb hV'.1 hV'.2.1 e2
            obtain ⟨W, W1, v2, v3, v4, w0, w1, w2, w3⟩ := ih _ V3 (.int l) (.int (-1000000005)) hW e3
            refine ⟨W, W1, v2, v3, v4, w0, w1, w2, fun d => ?_⟩
            simp only [r_al0 c_B_passDay_17, r_il1 c_B_passDay_18, r_il2 c_B_passDay_19, r_cv3 c_B_passDay_20, r_is3 c_B_passDay_23, r_il3 c_B_passDay_24, r_ifne c_B_passDay_25, r_goto c_B_passDay_28, r_al0 c_B_passDay_31, r_al0 c_B_passDay_32, r_il3 c_B_passDay_33, r_cv2 c_B_passDay_34, r_il2 c_B_passDay_37, r_al0 c_B_passDay_38, r_gfS0 c_B_passDay_39 o0 rfl, r_cv4 c_B_passDay_42, r_is4 c_B_passDay_45, r_il4 c_B_passDay_47, r_ci c_B_passDay_49, r_icne c_B_passDay_51, r_al0 c_B_passDay_54, r_il3 c_B_passDay_55, r_cv2 c_B_passDay_56, r_goto c_B_passDay_59, r_al0 c_B_passDay_62, r_il4 c_B_passDay_63, r_cv2 c_B_passDay_65, r_al0 c_B_passDay_68, r_il3 c_B_passDay_69, r_cv2 c_B_passDay_70, r_inc2 c_B_passDay_73, r_goto c_B_passDay_76, ↓reduceIte, hs_h, Option.bind_some, mfix_i, mfix_r, mfix_n, mfix_a, Option.toList_some, Option.toList_none, List.cons_append, List.nil_append, List.singleton_append, mwt, Value.category, Nat.reduceAdd, Nat.reduceLeDiff, true_and, and_true, and_self, m0, r2, q1, ne_eq, not_false_eq_true, if_true, if_false, rc, k0, rb, q2, not_true_eq_false, r3, nI_1, w3]
          · have hG2 : lhS b z t hc p (l, U) = rfor (haG b z t hc l) 0 (z 7) (tkT U b (blS U b z l p)) := by rw [lhS, if_neg q1, if_neg q2]
            rw [hG2] at hW ⊢
            have hT : okH E (tkT U b (blS U b z l p)) b z t hc pk := okH_tkT hb hV'
            have eT : eqS b (tkT U b (blS U b z l p)) (tkT V2 b (blS U b z l p)) := eqS_adT (eqS_adT (eqS_adT e2))
            obtain ⟨V3, e3, r3⟩ : ∃ S2, eqS b (rfor (haG b z t hc l) 0 (z 7) (tkT U b (blS U b z l p))) S2 ∧ ∀ d, mres cT 217 d 0 (ment 3 [.ref b, .int l]) [] (hs E (tkT V2 b (blS U b z l p))) = some (none, hs E S2) := B_hearAll_ok hE hb hT.1 hT.2.1 eT
            have rt : ∀ d, mres cT 215 d 0 (ment 2 [.ref b, .int (blS U b z l p)]) [] (hs E V2) = some (none, hs E (tkT V2 b (blS U b z l p))) := fun d => B_takeTurns_v hE hb hbd q2
            obtain ⟨W, W1, v2, v3, v4, w0, w1, w2, w3⟩ := ih _ V3 (.int l) (.int (blS U b z l p)) hW e3
            refine ⟨W, W1, v2, v3, v4, w0, w1, w2, fun d => ?_⟩
            simp only [r_al0 c_B_passDay_17, r_il1 c_B_passDay_18, r_il2 c_B_passDay_19, r_cv3 c_B_passDay_20, r_is3 c_B_passDay_23, r_il3 c_B_passDay_24, r_ifne c_B_passDay_25, r_goto c_B_passDay_28, r_al0 c_B_passDay_31, r_al0 c_B_passDay_32, r_il3 c_B_passDay_33, r_cv2 c_B_passDay_34, r_il2 c_B_passDay_37, r_al0 c_B_passDay_38, r_gfS0 c_B_passDay_39 o0 rfl, r_cv4 c_B_passDay_42, r_is4 c_B_passDay_45, r_il4 c_B_passDay_47, r_ci c_B_passDay_49, r_icne c_B_passDay_51, r_al0 c_B_passDay_54, r_il3 c_B_passDay_55, r_cv2 c_B_passDay_56, r_goto c_B_passDay_59, r_al0 c_B_passDay_62, r_il4 c_B_passDay_63, r_cv2 c_B_passDay_65, r_al0 c_B_passDay_68, r_il3 c_B_passDay_69, r_cv2 c_B_passDay_70, r_inc2 c_B_passDay_73, r_goto c_B_passDay_76, ↓reduceIte, hs_h, Option.bind_some, mfix_i, mfix_r, mfix_n, mfix_a, Option.toList_some, Option.toList_none, List.cons_append, List.nil_append, List.singleton_append, mwt, Value.category, Nat.reduceAdd, Nat.reduceLeDiff, true_and, and_true, and_self, m0, r2, q1, ne_eq, not_false_eq_true, if_true, if_false, rc, k0, rb, q2, rt, r3, nI_1, w3]
  obtain ⟨W, W1, v2, v3, v4, w0, w1, w2, w3⟩ := lp 6 0 S S1 (.retAddr 0) (.retAddr 0) hz h (by omega)
  obtain ⟨S2, e2, r2⟩ := fin W W1 v2 v3 v4 w1 w2
  subst w0
  refine ⟨S2, e2, fun d => ?_⟩
  simp only [ment, mfl, List.length, List.replicate, List.cons_append, List.nil_append, Nat.reduceAdd, Nat.reduceSub]
  simp only [r_al0 c_B_passDay_0, r_cv1 c_B_passDay_1, r_is1 c_B_passDay_4, r_ci c_B_passDay_5, r_is2 c_B_passDay_6, ↓reduceIte, hs_h, Option.bind_some, mfix_i, mfix_r, mfix_n, mfix_a, Option.toList_some, Option.toList_none, List.cons_append, List.nil_append, List.singleton_append, mwt, Value.category, Nat.reduceAdd, Nat.reduceLeDiff, true_and, and_true, and_self, m0, hd]
  rw [← nI_0, w3, r2]
end DAY
