/-! A small machine over the same bytecode: cells by small numbers, one frame a method, results by a limit. What it answers is carried over to the big one in the parts behind. -/
abbrev mL : Type := List Value
abbrev mH : Type := Nat × Nat × (Nat → va_E)
abbrev mC : Type := Nat × Bool × mL × List Value × Nat
abbrev mO : Type := (Nat × mL × List Value × mH) ⊕ (Option Value ⊕ mC)
abbrev mF : Type := mL → List Value → mH → Option mO
def mset (H : mH) (a : Nat) (e : va_E) : mH := (H.1, H.2.1, va_up H.2.2 a e)
def mnew (H : mH) (w : Nat) (e : va_E) : mH := (H.1 + 1, H.2.1 + w, va_up H.2.2 H.1 e)
def mwt : List Value → Nat
  | [] => 0
  | v :: l => v.category + mwt l
/-- what a frame holds at a method's entry -/
def mfl : List Value → mL
  | [] => []
  | .long x :: l => .long x :: .retAddr 0 :: mfl l
  | .double x :: l => .double x :: .retAddr 0 :: mfl l
  | v :: l => v :: mfl l
def ment (nL : Nat) (as : List Value) : mL := mfl as ++ List.replicate (nL - (mfl as).length) (.retAddr 0)
def mrun (T : Nat → Nat → mF) : Nat → Nat → Nat → Nat → mL → List Value → mH → Option (Option Value × mH)
  | 0, _, _, _, _, _, _ => none
  | f + 1, M, d, pc, ls, st, H =>
    match T M pc ls st H with
    | none => none
    | some (.inl (n, ls', st', H')) => mrun T f M d n ls' st' H'
    | some (.inr (.inl r)) => some (r, H)
    | some (.inr (.inr (N, b, le, rest, n))) =>
      match b, d with
      | true, 0 => none
      | true, d' + 1 =>
        match mrun T f N d' 0 le [] H with
        | none => none
        | some (r, H') => mrun T f M (d' + 1) n ls (r.toList ++ rest) H'
      | false, d' =>
        match mrun T f N d' 0 le [] H with
        | none => none
        | some (r, H') => mrun T f M d' n ls (r.toList ++ rest) H'
theorem mrun_mono {T : Nat → Nat → mF} : ∀ (f M d pc : Nat) (ls : mL) (st : List Value) (H : mH) (R : Option Value × mH), mrun T f M d pc ls st H = some R → mrun T (f + 1) M d pc ls st H = some R := by
  intro f
  induction f with
  | zero => intro M d pc ls st H R h; simp [mrun] at h
  | succ f ih =>
    intro M d pc ls st H R h
    rw [mrun] at h ⊢
    split at h
    · cases h
    · rename_i n ls' st' H' hT
      exact ih _ _ _ _ _ _ _ h
    · exact h
    · rename_i N b le rest n hT
      cases b with
      | true =>
        cases d with
        | zero => simp at h
        | succ d' =>
          simp only at h ⊢
          cases h1 : mrun T f N d' 0 le [] H with
          | none => rw [h1] at h; cases h
          | some q =>
            obtain ⟨r, H'⟩ := q
            rw [h1] at h
            rw [ih _ _ _ _ _ _ _ h1]
            exact ih _ _ _ _ _ _ _ h
      | false =>
        simp only at h ⊢
        cases h1 : mrun T f N d 0 le [] H with
        | none => rw [h1] at h; cases h
        | some q =>
          obtain ⟨r, H'⟩ := q
          rw [h1] at h
          rw [ih _ _ _ _ _ _ _ h1]
          exact ih _ _ _ _ _ _ _ h
theorem mrun_le {T : Nat → Nat → mF} {f g M d pc : Nat} {ls : mL} {st : List Value} {H : mH} {R : Option Value × mH} (hfg : f ≤ g) (h : mrun T f M d pc ls st H = some R) : mrun T g M d pc ls st H = some R := by
  induction hfg with
  | refl => exact h
  | step _ ih => exact mrun_mono _ _ _ _ _ _ _ _ ih
/-- what a run comes to, if it does -/
noncomputable def mres (T : Nat → Nat → mF) (M d pc : Nat) (ls : mL) (st : List Value) (H : mH) : Option (Option Value × mH) :=
  @dite _ (∃ (f : Nat) (R : Option Value × mH), mrun T f M d pc ls st H = some R) (Classical.propDecidable _) (fun h => some h.choose_spec.choose) (fun _ => none)
theorem mres_some {T : Nat → Nat → mF} {M d pc : Nat} {ls : mL} {st : List Value} {H : mH} {R : Option Value × mH} : mres T M d pc ls st H = some R ↔ ∃ f, mrun T f M d pc ls st H = some R := by
  unfold mres
  constructor
  · intro h
    split at h
    · rename_i hx
      cases h
      exact ⟨_, hx.choose_spec.choose_spec⟩
    · cases h
  · intro ⟨f, h⟩
    have hx : ∃ (f : Nat) (R : Option Value × mH), mrun T f M d pc ls st H = some R := ⟨f, R, h⟩
    rw [dif_pos hx]
    have h2 := hx.choose_spec.choose_spec
    have h3 := mrun_le (Nat.le_max_left f hx.choose) h
    have h4 := mrun_le (Nat.le_max_right f hx.choose) h2
    rw [h3] at h4
    rw [Option.some.inj h4]
theorem mres_ext {T : Nat → Nat → mF} {M d pc : Nat} {ls : mL} {st : List Value} {H : mH} {x : Option (Option Value × mH)} (h : ∀ R, (∃ f, mrun T f M d pc ls st H = some R) ↔ x = some R) : mres T M d pc ls st H = x := by
  cases hx : x with
  | none =>
    cases hm : mres T M d pc ls st H with
    | none => rfl
    | some R =>
      have := (h R).mp (mres_some.mp hm)
      rw [hx] at this
      cases this
  | some R => exact mres_some.mpr ((h R).mpr hx)
/-- one step -/
theorem mres_nx {T : Nat → Nat → mF} {M d pc n : Nat} {ls ls' : mL} {st st' : List Value} {H H' : mH} (h : T M pc ls st H = some (.inl (n, ls', st', H'))) : mres T M d pc ls st H = mres T M d n ls' st' H' := by
  refine mres_ext fun R => ?_
  rw [mres_some]
  constructor
  · intro ⟨f, hf⟩
    cases f with
    | zero => simp [mrun] at hf
    | succ f => rw [mrun, h] at hf; exact ⟨f, hf⟩
  · intro ⟨f, hf⟩
    exact ⟨f + 1, by rw [mrun, h]; exact hf⟩
theorem mres_rt {T : Nat → Nat → mF} {M d pc : Nat} {ls : mL} {st : List Value} {H : mH} {r : Option Value} (h : T M pc ls st H = some (.inr (.inl r))) : mres T M d pc ls st H = some (r, H) :=
  mres_some.mpr ⟨1, by rw [mrun, h]⟩
theorem mres_no {T : Nat → Nat → mF} {M d pc : Nat} {ls : mL} {st : List Value} {H : mH} (h : T M pc ls st H = none) : mres T M d pc ls st H = none := by
  refine mres_ext fun R => ?_
  constructor
  · intro ⟨f, hf⟩
    cases f with
    | zero => simp [mrun] at hf
    | succ f => rw [mrun, h] at hf; cases hf
  · intro h; cases h
/-- a call: what the callee comes to, then on -/
theorem mres_ca {T : Nat → Nat → mF} {M d pc N n : Nat} {ls le : mL} {st rest : List Value} {H : mH} (h : T M pc ls st H = some (.inr (.inr (N, false, le, rest, n)))) : mres T M d pc ls st H = (mres T N d 0 le [] H).bind (fun q => mres T M d n ls (q.1.toList ++ rest) q.2) := by
  refine mres_ext fun R => ?_
  rw [Option.bind_eq_some_iff]
  constructor
  · intro ⟨f, hf⟩
    cases f with
    | zero => simp [mrun] at hf
    | succ f =>
      rw [mrun, h] at hf
      simp only at hf
      cases h1 : mrun T f N d 0 le [] H with
      | none => rw [h1] at hf; cases hf
      | some q =>
        obtain ⟨r, H'⟩ := q
        rw [h1] at hf
        exact ⟨(r, H'), mres_some.mpr ⟨f, h1⟩, mres_some.mpr ⟨f, hf⟩⟩
  · intro ⟨⟨r, H'⟩, h1, h2⟩
    obtain ⟨f1, h1⟩ := mres_some.mp h1
    obtain ⟨f2, h2⟩ := mres_some.mp h2
    refine ⟨max f1 f2 + 1, ?_⟩
    rw [mrun, h]
    simp only
    rw [mrun_le (Nat.le_max_left f1 f2) h1]
    exact mrun_le (Nat.le_max_right f1 f2) h2
theorem mres_cr {T : Nat → Nat → mF} {M d pc N n : Nat} {ls le : mL} {st rest : List Value} {H : mH} (h : T M pc ls st H = some (.inr (.inr (N, true, le, rest, n)))) : mres T M (d + 1) pc ls st H = (mres T N d 0 le [] H).bind (fun q => mres T M (d + 1) n ls (q.1.toList ++ rest) q.2) := by
  refine mres_ext fun R => ?_
  rw [Option.bind_eq_some_iff]
  constructor
  · intro ⟨f, hf⟩
    cases f with
    | zero => simp [mrun] at hf
    | succ f =>
      rw [mrun, h] at hf
      simp only at hf
      cases h1 : mrun T f N d 0 le [] H with
      | none => rw [h1] at hf; cases hf
      | some q =>
        obtain ⟨r, H'⟩ := q
        rw [h1] at hf
        exact ⟨(r, H'), mres_some.mpr ⟨f, h1⟩, mres_some.mpr ⟨f, hf⟩⟩
  · intro ⟨⟨r, H'⟩, h1, h2⟩
    obtain ⟨f1, h1⟩ := mres_some.mp h1
    obtain ⟨f2, h2⟩ := mres_some.mp h2
    refine ⟨max f1 f2 + 1, ?_⟩
    rw [mrun, h]
    simp only
    rw [mrun_le (Nat.le_max_left f1 f2) h1]
    exact mrun_le (Nat.le_max_right f1 f2) h2
