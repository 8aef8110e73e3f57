/-! how the small machine's cells and values stand for the big one's -/
abbrev mG : Type := va_G × (Nat → ClassId) × Nat × (Nat → Nat) × Value × Nat × (Nat → Int32)
abbrev gD (G : mG) : va_G := G.1
abbrev gA (G : mG) : Nat → ClassId := G.2.1
abbrev gB (G : mG) : Nat := G.2.2.1
abbrev gX (G : mG) : Nat → Nat := G.2.2.2.1
abbrev gO (G : mG) : Value := G.2.2.2.2.1
abbrev gL (G : mG) : Nat := G.2.2.2.2.2.1
abbrev gS (G : mG) : Nat → Int32 := G.2.2.2.2.2.2
def gr (G : mG) (a : Nat) : Nat := if a < 1000000 then gB G + a else gX G a
def gv (G : mG) : Value → Value
  | .ref a => .ref (gr G a)
  | .retAddr _ => gO G
  | .int x => .int x
  | .long x => .long x
  | .float x => .float x
  | .double x => .double x
  | .null => .null
abbrev mQ : Type := (Nat → Int32) ⊕ (Nat → Int64) ⊕ (Nat → UInt32) ⊕ (Nat → UInt64) ⊕ (Nat → Option Nat)
def gq (G : mG) : mQ → mQ
  | .inl f => .inl f
  | .inr (.inl f) => .inr (.inl f)
  | .inr (.inr (.inl f)) => .inr (.inr (.inl f))
  | .inr (.inr (.inr (.inl f))) => .inr (.inr (.inr (.inl f)))
  | .inr (.inr (.inr (.inr f))) => .inr (.inr (.inr (.inr (fun j => (f j).map (gr G)))))
def ge (G : mG) : va_E → va_E
  | .inl (t, n, x) => .inl (gA G t, n, gq G x)
  | .inr (c, fs) => .inr (c, fs.map (gv G))
def mTy (t : Nat) : FieldType := match t with
  | 0 => .int
  | 1 => .byte
  | 2 => .long
  | 3 => .object "HearingBoards$Sheet"
  | 4 => .object "HearingBoards$Text"
  | _ => .object "java/lang/String"
def gTy (G : mG) : List (ClassId × FieldType) := [(gA G 0, mTy 0), (gA G 1, mTy 1), (gA G 2, mTy 2), (gA G 3, mTy 3), (gA G 4, mTy 4), (gA G 5, mTy 5)]
theorem gTy_at (G : mG) {t : Nat} (h : t < 6) : (gTy G)[t]? = some (gA G t, mTy t) := by
  match t, h with
  | 0, _ => rfl
  | 1, _ => rfl
  | 2, _ => rfl
  | 3, _ => rfl
  | 4, _ => rfl
  | 5, _ => rfl
def slen (i : Nat) : Nat := (mStr.getD i []).length
def sbyt (i j : Nat) : Int32 := (mStr.getD i []).getD j 0
def mabv (j : Nat) : Int32 := ([-1, 0, 1, 0, 0] : List Int32).getD j 0
def mx (L : Nat) (xs : Nat → Int32) (a : Nat) : va_E :=
  if a < 1000000 then .inr (999, []) else if a < 1000027 then .inr (100, [.ref (a + 1000000), .int 0])
  else if 2000000 ≤ a ∧ a < 2000027 then .inl (11, slen (a - 2000000), .inl (sbyt (a - 2000000)))
  else if a = 3000000 then .inl (10, L, .inl xs) else if a = 3000001 then .inl (10, 5, .inl mabv) else .inr (999, [])
def mokt (e : va_E) : Prop := match e with
  | .inl (t, _, _) => t < 6
  | .inr _ => True
/-- the heap -/
def hw (G : mG) (H : mH) (Hp : Heap) : Prop :=
  Hp.size = gB G + H.1 ∧ H.1 ≤ 1000000 ∧ (∀ a, a < H.1 → va_at (gD G) mCl (gB G + a, ge G (H.2.2 a)) Hp ∧ mokt (H.2.2 a)) ∧ ∀ a, H.1 ≤ a → H.2.2 a = mx (gL G) (gS G) a
def gAx (G : mG) : Nat → Prop := fun q => gB G ≤ q
/-- what was there before: the texts, the script, statics -/
def gx (G : mG) (U : State) (Hp : Heap) : Prop :=
  (∀ i, i < 27 → va_O "java/lang/String" (gX G (1000000 + i)) (gAx G) U Hp ∧ va_OF "java/lang/String" "coder" "B" (.int 0) (gX G (1000000 + i)) (gAx G) U Hp ∧ va_OF "java/lang/String" "value" "[B" (.ref (gX G (2000000 + i))) (gX G (1000000 + i)) (gAx G) U Hp ∧ va_T .byte (gX G (2000000 + i)) (slen i) (fun j => .int (sbyt i j)) (gAx G) U Hp) ∧
  va_T .int (gX G 3000000) (gL G) (fun j => .int (gS G j)) (gAx G) U Hp ∧ va_T .int (gX G 3000001) 5 (fun j => .int (mabv j)) (gAx G) U Hp ∧
  va_Z "java/lang/String" "COMPACT_STRINGS" "Z" (.int 1) (gAx G) U Hp ∧ va_Z "jdk/internal/util/Preconditions" "SIOOBE_FORMATTER" "Ljava/util/function/BiFunction;" (gO G) (gAx G) U Hp ∧ va_Z "HearingBoards" "ABOVE" "[I" (.ref (gX G 3000001)) (gAx G) U Hp
def gs (G : mG) (U : State) : Prop := ∀ i o k t, mSR[i]? = some (o, k, t) → vk_R o k t (gX G (1000000 + i)) U
def gn (U : State) : Prop := (∀ (i : Nat) (o : String) (k : Nat) (y : MethodName) (h : String), mNs[i]? = some (o, k, y, h) → va_Nw (.methodLinkNest o k y h) U) ∧ va_AO "HearingBoards$Sheet" U ∧ va_AO "HearingBoards$Text" U ∧ va_AO "java/lang/String" U
def gK (G : mG) (U : State) : Prop := va_K (gD G) mCl (gTy G) U ∧ gs G U ∧ (gO G = .null ∨ ∃ t, gO G = .ref t) ∧ gn U
theorem gx.moved {G : mG} {u U : State} {Hp : Heap} (hvm : u.vm.Alike U.vm) (h : gx G u Hp) : gx G U Hp :=
  ⟨fun i hi => ⟨va_O.moved hvm (h.1 i hi).1, va_OF.moved hvm (h.1 i hi).2.1, va_OF.moved hvm (h.1 i hi).2.2.1, va_T.moved hvm (h.1 i hi).2.2.2⟩, va_T.moved hvm h.2.1, va_T.moved hvm h.2.2.1, va_Z.moved hvm h.2.2.2.1, va_Z.moved hvm h.2.2.2.2.1, va_Z.moved hvm h.2.2.2.2.2⟩
theorem gx.kept {G : mG} {U : State} {H H1 : Heap} (h : gx G U H) (hq : ∀ a : Nat, a < H.size → ¬ gAx G a → H1[a]? = H[a]?) : gx G U H1 :=
  ⟨fun i hi => ⟨(h.1 i hi).1.kept hq, (h.1 i hi).2.1.kept hq, (h.1 i hi).2.2.1.kept hq, (h.1 i hi).2.2.2.kept hq⟩, h.2.1.kept hq, h.2.2.1.kept hq, h.2.2.2.1.kept hq, h.2.2.2.2.1.kept hq, h.2.2.2.2.2.kept hq⟩
theorem gK.same {G : mG} {u U : State} (hv : U.vm = u.vm) (h : gK G u) : gK G U := ⟨va_K.moved (by rw [hv]; exact Vm.Alike.refl _) h.1, fun i o k t hi => vk_R.same hv (h.2.1 i o k t hi), h.2.2.1, fun i o k y g hi => va_Nw.same rfl hv.symm (h.2.2.2.1 i o k y g hi), va_AO.moved (by rw [hv]; exact Vm.Alike.refl _) h.2.2.2.2.1, va_AO.moved (by rw [hv]; exact Vm.Alike.refl _) h.2.2.2.2.2.1, va_AO.moved (by rw [hv]; exact Vm.Alike.refl _) h.2.2.2.2.2.2⟩
theorem gK.warm {G : mG} {s U : State} (hW : s.WarmedH U.vm) (h : gK G s) : gK G U := ⟨va_K.moved hW.alike h.1, fun i o k t hi => vk_R.warm hW (h.2.1 i o k t hi), h.2.2.1, fun i o k y g hi => va_Nw.warmM hW (h.2.2.2.1 i o k y g hi), va_AO.moved hW.alike h.2.2.2.2.1, va_AO.moved hW.alike h.2.2.2.2.2.1, va_AO.moved hW.alike h.2.2.2.2.2.2⟩
/-- the frame's variables -/
def lr (G : mG) (ls : mL) (lsr : Array Slot) (nL : Nat) : Prop := lsr.size = nL ∧ ls.length = nL ∧ lv_wf lsr ∧ ∀ (i : Nat) (v : Value), ls[i]? = some v → v ≠ .retAddr 0 → lsr[i]? = some (.val (gv G v))
def prs (G : mG) (ls : mL) : List (Nat × Value) := (List.range ls.length).filterMap (fun i => match ls[i]? with
  | some v => if v = .retAddr 0 then none else some (i, gv G v)
  | none => none)
theorem prs_mem {G : mG} {ls : mL} {i : Nat} {v : Value} (h : ls[i]? = some v) (hv : v ≠ .retAddr 0) : (i, gv G v) ∈ prs G ls := by
  refine List.mem_filterMap.mpr ⟨i, List.mem_range.mpr (List.getElem?_eq_some_iff.mp h).1, ?_⟩
  simp [h, hv]
theorem prs_of {G : mG} {ls : mL} {q : Nat × Value} (h : q ∈ prs G ls) : ∃ v, ls[q.1]? = some v ∧ v ≠ .retAddr 0 ∧ q.2 = gv G v := by
  obtain ⟨i, -, hi⟩ := List.mem_filterMap.mp h
  cases hl : ls[i]? with
  | none => simp [hl] at hi
  | some v =>
    simp only [hl] at hi
    split at hi
    · cases hi
    · rename_i hv
      cases hi
      exact ⟨v, hl, hv, rfl⟩
theorem lr.has {G : mG} {ls : mL} {lsr : Array Slot} {nL : Nat} (h : lr G ls lsr nL) : lv_has lsr nL (prs G ls) := ⟨h.1, h.2.2.1, fun q hq => by
  obtain ⟨v, h1, h2, h3⟩ := prs_of hq
  rw [h3]
  exact h.2.2.2 q.1 v h1 h2⟩
theorem gv_cat {G : mG} (hO : gO G = .null ∨ ∃ t, gO G = .ref t) (v : Value) : (gv G v).category = v.category := by
  cases v <;> try rfl
  rcases hO with h | ⟨t, h⟩ <;> (show (gO G).category = _; rw [h]; rfl)
theorem mfix_1 {v : Value} (h : v.category = 1) : mfix v = v := by cases v <;> first | rfl | (simp [Value.category] at h)
theorem mfix_2 {v : Value} (h : v.category = 2) : mfix v = .retAddr 0 := by cases v <;> first | rfl | (simp [Value.category] at h)
theorem lr.store1 {G : mG} {ls ls1 : mL} {lsr lsr' : Array Slot} {nL i : Nat} {v : Value} (hO : gO G = .null ∨ ∃ t, gO G = .ref t) (h : lr G ls lsr nL) (hm : mst ls i v = some ls1) (h1 : lv_has lsr' nL ((i, gv G v) :: (prs G ls).filter (fun q => !(q.1 == i) && !(q.1 + 1 == i && q.2.category == 2)))) : lr G ls1 lsr' nL := by
  unfold mst at hm
  split at hm
  · rename_i hi
    cases hm
    refine ⟨h1.1, by simp [h.2.1], h1.2.1, fun j w hj hw => ?_⟩
    by_cases hji : j = i
    · subst hji
      rw [List.getElem?_set_self (by simpa using hi)] at hj
      cases hj
      exact h1.2.2 (j, gv G v) List.mem_cons_self
    · rw [List.getElem?_set_ne (Ne.symm hji), List.getElem?_modify] at hj
      cases ho : ls[j]? with
      | none => simp [ho] at hj
      | some u =>
        rw [ho] at hj
        have hu : w = u ∧ (j + 1 = i → u.category = 1) := by
          by_cases hj1 : i - 1 = j
          · simp only [Option.map_eq_map, Option.map_some, if_pos hj1, Option.some.injEq] at hj
            rcases lv_cat u with c | c
            · have : w = mfix u := hj.symm
              rw [mfix_1 c] at this
              exact ⟨this, fun _ => c⟩
            · have : w = mfix u := hj.symm
              rw [mfix_2 c] at this
              exact absurd this hw
          · simp only [Option.map_eq_map, Option.map_some, if_neg hj1, Option.some.injEq] at hj
            exact ⟨hj.symm, fun h => by omega⟩
        obtain ⟨rfl, hc⟩ := hu
        refine h1.2.2 (j, gv G w) (List.mem_cons_of_mem _ (List.mem_filter.mpr ⟨prs_mem ho hw, ?_⟩))
        simp only [Bool.and_eq_true, Bool.not_eq_true', beq_eq_false_iff_ne, ne_eq, Bool.and_eq_false_iff]
        refine ⟨hji, ?_⟩
        by_cases hj1 : j + 1 = i
        · right
          rw [gv_cat hO, hc hj1]
          decide
        · left; exact hj1
  · cases hm
theorem lr.store2 {G : mG} {ls ls1 : mL} {lsr lsr' : Array Slot} {nL i : Nat} {v : Value} (hO : gO G = .null ∨ ∃ t, gO G = .ref t) (h : lr G ls lsr nL) (hm : mst2 ls i v = some ls1) (h1 : lv_has lsr' nL ((i, gv G v) :: (prs G ls).filter (fun q => !(q.1 == i) && (!(q.1 == i + 1) && !(q.1 + 1 == i && q.2.category == 2))))) : lr G ls1 lsr' nL := by
  unfold mst2 at hm
  split at hm
  · rename_i hi
    cases hm
    refine ⟨h1.1, by simp [h.2.1], h1.2.1, fun j w hj hw => ?_⟩
    by_cases hji : j = i
    · subst hji
      rw [List.getElem?_set_ne (by omega), List.getElem?_set_self (by simp; omega)] at hj
      cases hj
      exact h1.2.2 (j, gv G v) List.mem_cons_self
    · by_cases hj2 : j = i + 1
      · subst hj2
        rw [List.getElem?_set_self (by simpa using hi)] at hj
        cases hj
        exact absurd rfl hw
      · rw [List.getElem?_set_ne (by omega), List.getElem?_set_ne (Ne.symm hji), List.getElem?_modify] at hj
        cases ho : ls[j]? with
        | none => simp [ho] at hj
        | some u =>
          rw [ho] at hj
          have hu : w = u ∧ (j + 1 = i → u.category = 1) := by
            by_cases hj1 : i - 1 = j
            · simp only [Option.map_eq_map, Option.map_some, if_pos hj1, Option.some.injEq] at hj
              rcases lv_cat u with c | c
              · have : w = mfix u := hj.symm
                rw [mfix_1 c] at this
                exact ⟨this, fun _ => c⟩
              · have : w = mfix u := hj.symm
                rw [mfix_2 c] at this
                exact absurd this hw
            · simp only [Option.map_eq_map, Option.map_some, if_neg hj1, Option.some.injEq] at hj
              exact ⟨hj.symm, fun h => by omega⟩
          obtain ⟨rfl, hc⟩ := hu
          refine h1.2.2 (j, gv G w) (List.mem_cons_of_mem _ (List.mem_filter.mpr ⟨prs_mem ho hw, ?_⟩))
          simp only [Bool.and_eq_true, Bool.not_eq_true', beq_eq_false_iff_ne, ne_eq, Bool.and_eq_false_iff]
          refine ⟨hji, hj2, ?_⟩
          by_cases hj1 : j + 1 = i
          · right
            rw [gv_cat hO, hc hj1]
            decide
          · left; exact hj1
  · cases hm
