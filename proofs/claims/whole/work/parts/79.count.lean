/-! days counted -/
section COUNT
variable {P Q : Nat → Bool} {n k a m D to : Nat} {C F T : Nat → Nat} {f g : Nat → Int32}
theorem rfor_last {α : Type} {g : Nat → α → α} : ∀ (m i : Nat) (s : α), rfor g i (m + 1) s = g (i + m) (rfor g i m s)
  | 0, _, _ => rfl
  | m + 1, i, s => by
    rw [rfor, rfor_last m (i + 1), rfor, show i + 1 + m = i + (m + 1) by omega]
def anB (p : Nat → Bool) : Nat → Bool
  | 0 => false
  | n + 1 => anB p n || p n
theorem anB_iff {p : Nat → Bool} : ∀ {n : Nat}, anB p n = true ↔ ∃ i, i < n ∧ p i = true
  | 0 => ⟨fun h => (by cases h), fun ⟨i, h, _⟩ => absurd h (Nat.not_lt_zero i)⟩
  | n + 1 => by
    rw [anB, Bool.or_eq_true, anB_iff]
    constructor
    · rintro (⟨i, h1, h2⟩ | h)
      · exact ⟨i, by omega, h2⟩
      · exact ⟨n, by omega, h⟩
    · rintro ⟨i, h1, h2⟩
      by_cases e : i = n
      · subst e; exact Or.inr h2
      · exact Or.inl ⟨i, by omega, h2⟩
def cN (P : Nat → Bool) : Nat → Nat → Nat
  | _, 0 => 0
  | a, m + 1 => (if P a = true then 1 else 0) + cN P (a + 1) m
theorem cN_add : ∀ (m a k : Nat), cN P a (m + k) = cN P a m + cN P (a + m) k
  | 0, a, k => by rw [Nat.zero_add, cN, Nat.zero_add, Nat.add_zero]
  | m + 1, a, k => by
    rw [show m + 1 + k = (m + k) + 1 by omega, cN, cN, cN_add m (a + 1) k, show a + 1 + m = a + (m + 1) by omega]
    omega
theorem cN_all : ∀ (m a : Nat), (∀ x, a ≤ x → x < a + m → P x = true) → cN P a m = m
  | 0, _, _ => rfl
  | m + 1, a, h => by
    rw [cN, if_pos (h a (by omega) (by omega)), cN_all m (a + 1) (fun x h1 h2 => h x (by omega) (by omega))]
    omega
theorem cN_no : ∀ (m a : Nat), (∀ x, a ≤ x → x < a + m → P x = false) → cN P a m = 0
  | 0, _, _ => rfl
  | m + 1, a, h => by
    rw [cN, if_neg (by rw [h a (by omega) (by omega)]; decide), cN_no m (a + 1) (fun x h1 h2 => h x (by omega) (by omega))]
theorem cN_cg : ∀ (m a : Nat), (∀ x, a ≤ x → x < a + m → P x = Q x) → cN P a m = cN Q a m
  | 0, _, _ => rfl
  | m + 1, a, h => by
    rw [cN, cN, h a (by omega) (by omega), cN_cg m (a + 1) (fun x h1 h2 => h x (by omega) (by omega))]
theorem cN_le : ∀ (m a : Nat), cN P a m ≤ m
  | 0, _ => Nat.le_refl 0
  | m + 1, a => by
    rw [cN]
    have := cN_le m (a + 1)
    split <;> omega
theorem cN_or : ∀ (m a : Nat), (∀ x, a ≤ x → x < a + m → ¬ (P x = true ∧ Q x = true)) → cN (fun x => P x || Q x) a m = cN P a m + cN Q a m
  | 0, _, _ => rfl
  | m + 1, a, h => by
    rw [cN, cN, cN, cN_or m (a + 1) (fun x h1 h2 => h x (by omega) (by omega))]
    have h0 := h a (by omega) (by omega)
    cases hp : P a <;> cases hq : Q a <;> simp [hp, hq] at h0 ⊢ <;> omega
theorem cN_mono : ∀ (m a : Nat), (∀ x, a ≤ x → x < a + m → P x = true → Q x = true) → cN P a m ≤ cN Q a m
  | 0, _, _ => Nat.le_refl 0
  | m + 1, a, h => by
    rw [cN, cN]
    have h1 := cN_mono m (a + 1) (fun x h1 h2 => h x (by omega) (by omega))
    have h2 := h a (by omega) (by omega)
    by_cases e : P a = true
    · rw [if_pos e, if_pos (h2 e)]; omega
    · rw [if_neg e]; omega
theorem cN_lt : ∀ (m a w : Nat), (∀ x, a ≤ x → x < a + m → P x = true → Q x = true) → a ≤ w → w < a + m → P w = false → Q w = true → cN P a m < cN Q a m
  | 0, _, _, _, h1, h2, _, _ => by omega
  | m + 1, a, w, h, h1, h2, h3, h4 => by
    rw [cN, cN]
    by_cases e : w = a
    · subst e
      have := cN_mono (P := P) (Q := Q) m (w + 1) (fun x h1 h2 => h x (by omega) (by omega))
      rw [if_neg (by rw [h3]; decide), if_pos h4]
      omega
    · have h5 := cN_lt m (a + 1) w (fun x h1 h2 => h x (by omega) (by omega)) (by omega) (by omega) h3 h4
      have h6 := h a (by omega) (by omega)
      by_cases e2 : P a = true
      · rw [if_pos e2, if_pos (h6 e2)]; omega
      · rw [if_neg e2]; omega
theorem cN_win : cN (fun x => decide (a ≤ x ∧ x < m) && Q x) 0 D = cN Q a (min m D - a) := by
  by_cases h : a ≤ min m D
  · rw [show D = a + ((min m D - a) + (D - min m D)) by omega, cN_add, cN_add, cN_no a 0 (fun x h1 h2 => by
      rw [decide_eq_false (by omega), Bool.false_and]), show min m (a + ((min m D - a) + (D - min m D))) - a = min m D - a by omega]
    rw [cN_no (D - min m D) _ (fun x h1 h2 => by rw [decide_eq_false (by omega), Bool.false_and]), cN_cg (Q := Q) (min m D - a) (0 + a) (fun x h1 h2 => by rw [decide_eq_true (by omega), Bool.true_and])]
    simp
  · rw [show min m D - a = 0 by omega, cN, cN_no D 0 (fun x h1 h2 => by rw [decide_eq_false (by omega), Bool.false_and])]
/-- whether a day lies in one of a case's rows -/
def inB (C F T : Nat → Nat) (n k x : Nat) : Bool := anB (fun i => decide (C i = k ∧ F i ≤ x ∧ x < T i)) n
theorem inB_iff {x : Nat} : inB C F T n k x = true ↔ ∃ i, i < n ∧ C i = k ∧ F i ≤ x ∧ x < T i := by
  rw [inB, anB_iff]
  constructor
  · rintro ⟨i, h1, h2⟩; exact ⟨i, h1, of_decide_eq_true h2⟩
  · rintro ⟨i, h1, h2⟩; exact ⟨i, h1, decide_eq_true h2⟩
theorem inB_no {x : Nat} : inB C F T n k x = false ↔ ∀ i, i < n → C i = k → F i ≤ x → T i ≤ x := by
  rw [← Bool.not_eq_true, inB_iff]
  constructor
  · intro h i h1 h2 h3
    exact Nat.le_of_not_lt fun h4 => h ⟨i, h1, h2, h3, h4⟩
  · rintro h ⟨i, h1, h2, h3, h4⟩
    have := h i h1 h2 h3
    omega
/-- rows of three: case, from, to -/
def tri (f : Nat → Int32) (n : Nat) (C F T : Nat → Nat) : Prop := ∀ i, i < n → f (i * 3) = nI (C i) ∧ f (i * 3 + 1) = nI (F i) ∧ f (i * 3 + 2) = nI (T i) ∧ C i < 2 ^ 31 ∧ F i < 2 ^ 31 ∧ T i < 2 ^ 31
theorem gp_inv (h3 : tri g n C F T) (hk : k < 2 ^ 31) {day : Nat} (hd : day < 2 ^ 31) (ht : to < 2 ^ 31) (hdt : day < to) : ∀ j, j ≤ n → ∃ e nx : Nat, rfor (gpG g (nI k) (nI day)) 0 j (nI day, nI to) = (nI e, nI nx) ∧ e < 2 ^ 31 ∧ day ≤ e ∧ (∀ i, i < j → C i = k → F i ≤ day → T i ≤ e) ∧ (e = day ∨ ∃ i, i < j ∧ C i = k ∧ F i ≤ day ∧ T i = e) ∧ day < nx ∧ nx ≤ to ∧ (∀ i, i < j → C i = k → day < F i → nx ≤ F i) ∧ (nx = to ∨ ∃ i, i < j ∧ C i = k ∧ day < F i ∧ F i = nx)
  | 0, _ => ⟨day, to, rfl, hd, Nat.le_refl _, fun i h => absurd h (Nat.not_lt_zero i), Or.inl rfl, hdt, Nat.le_refl _, fun i h => absurd h (Nat.not_lt_zero i), Or.inl rfl⟩
  | j + 1, hj => by
    obtain ⟨e, nx, p0, p1, p2, p3, p4, p5, p6, p7, p8⟩ := gp_inv h3 hk hd ht hdt j (by omega)
    obtain ⟨t0, t1, t2, t3, t4, t5⟩ := h3 j (by omega)
    rw [rfor_last, Nat.zero_add, p0, gpG, t0, t1, t2]
    have up3 : ∀ e', e ≤ e' → (C j = k → F j ≤ day → T j ≤ e') → ∀ i, i < j + 1 → C i = k → F i ≤ day → T i ≤ e' := fun e' h1 h2 i hi hc hf => by
      by_cases q : i = j
      · subst q; exact h2 hc hf
      · have := p3 i (by omega) hc hf; omega
    have up7 : ∀ x', x' ≤ nx → (C j = k → day < F j → x' ≤ F j) → ∀ i, i < j + 1 → C i = k → day < F i → x' ≤ F i := fun x' h1 h2 i hi hc hf => by
      by_cases q : i = j
      · subst q; exact h2 hc hf
      · have := p7 i (by omega) hc hf; omega
    have k4 : e = day ∨ ∃ i, i < j + 1 ∧ C i = k ∧ F i ≤ day ∧ T i = e := p4.imp id fun ⟨i, h1, h2⟩ => ⟨i, by omega, h2⟩
    have k8 : nx = to ∨ ∃ i, i < j + 1 ∧ C i = k ∧ day < F i ∧ F i = nx := p8.imp id fun ⟨i, h1, h2⟩ => ⟨i, by omega, h2⟩
    by_cases c1 : C j = k
    · rw [if_pos ((nI_eq t3 hk).mpr c1)]
      by_cases c2 : day < F j
      · rw [if_pos ((nI_ltI hd t4).mpr c2)]
        by_cases c3 : F j < nx
        · rw [if_pos ((nI_ltI t4 (by omega)).mpr c3)]
          exact ⟨e, F j, rfl, p1, p2, up3 e (Nat.le_refl _) (fun _ h => by omega), k4, c2, by omega, up7 (F j) (by omega) (fun _ _ => Nat.le_refl _), Or.inr ⟨j, by omega, c1, c2, rfl⟩⟩
        · rw [if_neg (fun h => c3 ((nI_ltI t4 (by omega)).mp h))]
          exact ⟨e, nx, rfl, p1, p2, up3 e (Nat.le_refl _) (fun _ h => by omega), k4, p5, p6, up7 nx (Nat.le_refl _) (fun _ _ => by omega), k8⟩
      · rw [if_neg (fun h => c2 ((nI_ltI hd t4).mp h))]
        by_cases c3 : e < T j
        · rw [if_pos ((nI_ltI p1 t5).mpr c3)]
          exact ⟨T j, nx, rfl, t5, by omega, up3 (T j) (by omega) (fun _ _ => Nat.le_refl _), Or.inr ⟨j, by omega, c1, by omega, rfl⟩, p5, p6, up7 nx (Nat.le_refl _) (fun _ h => by omega), k8⟩
        · rw [if_neg (fun h => c3 ((nI_ltI p1 t5).mp h))]
          exact ⟨e, nx, rfl, p1, p2, up3 e (Nat.le_refl _) (fun _ _ => by omega), k4, p5, p6, up7 nx (Nat.le_refl _) (fun _ h => by omega), k8⟩
    · rw [if_neg (fun h => c1 ((nI_eq t3 hk).mp h))]
      exact ⟨e, nx, rfl, p1, p2, up3 e (Nat.le_refl _) (fun h => absurd h c1), k4, p5, p6, up7 nx (Nat.le_refl _) (fun h => absurd h c1), k8⟩
/-- edges behind a day -/
def mu (C F T : Nat → Nat) (n k day : Nat) : Nat := cN (fun i => decide (C i = k ∧ day < F i)) 0 n + cN (fun i => decide (C i = k ∧ day < T i)) 0 n
theorem mu_le {day : Nat} : mu C F T n k day ≤ 2 * n := by
  have h1 := cN_le (P := fun i => decide (C i = k ∧ day < F i)) n 0
  have h2 := cN_le (P := fun i => decide (C i = k ∧ day < T i)) n 0
  rw [mu]; omega
theorem mu_F {day x i : Nat} (hx : day < x) (hi : i < n) (hc : C i = k) (hf : F i = x) : mu C F T n k x < mu C F T n k day := by
  have h1 := cN_lt (P := fun i => decide (C i = k ∧ x < F i)) (Q := fun i => decide (C i = k ∧ day < F i)) n 0 i (fun y _ _ h => decide_eq_true (by have := of_decide_eq_true h; omega)) (by omega) (by omega) (decide_eq_false (by omega)) (decide_eq_true ⟨hc, by omega⟩)
  have h2 := cN_mono (P := fun i => decide (C i = k ∧ x < T i)) (Q := fun i => decide (C i = k ∧ day < T i)) n 0 (fun y _ _ h => decide_eq_true (by have := of_decide_eq_true h; omega))
  rw [mu, mu]; omega
theorem mu_T {day x i : Nat} (hx : day < x) (hi : i < n) (hc : C i = k) (hf : T i = x) : mu C F T n k x < mu C F T n k day := by
  have h1 := cN_lt (P := fun i => decide (C i = k ∧ x < T i)) (Q := fun i => decide (C i = k ∧ day < T i)) n 0 i (fun y _ _ h => decide_eq_true (by have := of_decide_eq_true h; omega)) (by omega) (by omega) (decide_eq_false (by omega)) (decide_eq_true ⟨hc, by omega⟩)
  have h2 := cN_mono (P := fun i => decide (C i = k ∧ x < F i)) (Q := fun i => decide (C i = k ∧ day < F i)) n 0 (fun y _ _ h => decide_eq_true (by have := of_decide_eq_true h; omega))
  rw [mu, mu]; omega
theorem fd_main (h3 : tri g n C F T) (hk : k < 2 ^ 31) (ht : to < 2 ^ 31) : ∀ (fu fr day : Nat), day < 2 ^ 31 → (to ≤ day ∨ mu C F T n k day + 1 ≤ fu) → fdL g n (nI k) (nI to) fu (nI fr) (nI day) = nI (fr + cN (fun x => !inB C F T n k x) day (to - day))
  | 0, fr, day, hd, h => by
    have : to - day = 0 := by omega
    rw [fdL, this, cN, Nat.add_zero]
  | fu + 1, fr, day, hd, h => by
    rw [fdL]
    by_cases c0 : to ≤ day
    · rw [if_pos ((nI_leI ht hd).mpr c0), show to - day = 0 by omega, cN, Nat.add_zero]
    · rw [if_neg (fun h => c0 ((nI_leI ht hd).mp h))]
      obtain ⟨e, nx, p0, p1, p2, p3, p4, p5, p6, p7, p8⟩ := gp_inv h3 hk hd ht (by omega) n (Nat.le_refl n)
      rw [p0]
      by_cases c1 : e = day
      · rw [if_pos (by show nI e = nI day; rw [c1])]
        show fdL g n (nI k) (nI to) fu (nI fr + (nI nx - nI day)) (nI nx) = _
        rw [pk_sub (by omega), nI_add, fd_main h3 hk ht fu _ nx (by omega) ?_]
        · refine congrArg nI ?_
          rw [show to - day = (nx - day) + (to - nx) by omega, cN_add, cN_all (nx - day) day (fun x h1 h2 => ?_), show day + (nx - day) = nx by omega]
          · omega
          · rw [Bool.not_eq_true', inB_no]
            intro i hi hc hf
            by_cases hf2 : F i ≤ day
            · have := p3 i hi hc hf2; omega
            · have := p7 i hi hc (by omega); omega
        · rcases p8 with r | ⟨i, hi, hc, hf, r⟩
          · left; omega
          · right
            have := mu_F (T := T) p5 hi hc r
            omega
      · rw [if_neg (fun h => c1 ((nI_eq p1 hd).mp h))]
        show fdL g n (nI k) (nI to) fu (nI fr) (nI e) = _
        obtain ⟨i, hi, hc, hf, r⟩ := p4.resolve_left c1
        have hde : day < e := Nat.lt_of_le_of_ne p2 (fun h => c1 h.symm)
        have hmu := mu_T (F := F) hde hi hc r
        have hfu := h.resolve_left c0
        rw [fd_main h3 hk ht fu _ e p1 (Or.inr (Nat.le_of_lt_succ (Nat.lt_of_lt_of_le (Nat.succ_lt_succ hmu) hfu)))]
        refine congrArg nI ?_
        have cov : ∀ x, day ≤ x → x < e → (!inB C F T n k x) = false := fun x h1 h2 => by
          rw [Bool.not_eq_false', inB_iff]
          exact ⟨i, hi, hc, by omega, by omega⟩
        by_cases c2 : e ≤ to
        · rw [show to - day = (e - day) + (to - e) by omega, cN_add, cN_no (e - day) day (fun x h1 h2 => cov x h1 (by omega)), show day + (e - day) = e by omega]
          omega
        · rw [show to - e = 0 by omega, cN, cN_no (to - day) day (fun x h1 h2 => cov x h1 (by omega))]
/-- whether a day counts -/
def cnB (C F T : Nat → Nat) (n : Nat) (C' F' T' : Nat → Nat) (n' k x : Nat) : Bool := inB C F T n k x && !inB C' F' T' n' k x
theorem sv_main {C' F' T' : Nat → Nat} {n' : Nat} (h3 : tri f n C F T) (h4 : tri g n' C' F' T') (hn : n' ≤ 20) (hk : k < 2 ^ 31) (hD : D < 2 ^ 31) (hds : ∀ i j, i < j → j < n → C i = C j → T i ≤ F j) : svSum f g n n' (nI k) (nI D) = nI (cN (cnB C F T n C' F' T' n' k) 0 D) := by
  have key : ∀ j, j ≤ n → rfor (svG f g n' (nI k) (nI D)) 0 j 0 = nI (cN (cnB C F T j C' F' T' n' k) 0 D) := by
    intro j
    induction j with
    | zero =>
      intro _
      rw [cN_no D 0 (fun x _ _ => by rw [cnB, inB, anB, Bool.false_and])]
      rfl
    | succ j ih =>
      intro hj
      obtain ⟨t0, t1, t2, t3, t4, t5⟩ := h3 j (by omega)
      rw [rfor_last, Nat.zero_add, ih (by omega), svG, t0, t1, t2]
      by_cases c1 : C j = k
      · rw [if_pos ((nI_eq t3 hk).mpr c1)]
        have em : (if nI (T j) < nI D then nI (T j) else nI D) = nI (min (T j) D) := by
          by_cases c2 : T j < D
          · rw [if_pos ((nI_ltI t5 hD).mpr c2), show min (T j) D = T j by omega]
          · rw [if_neg (fun h => c2 ((nI_ltI t5 hD).mp h)), show min (T j) D = D by omega]
        have hm := mu_le (C := C') (F := F') (T := T') (n := n') (k := k) (day := F j)
        have hf := fd_main h4 hk (show min (T j) D < 2 ^ 31 by omega) 42 0 (F j) t4 (Or.inr (by omega))
        rw [nI_0] at hf
        rw [em, hf, nI_add, Nat.zero_add]
        refine congrArg nI ?_
        rw [← cN_win (Q := fun x => !inB C' F' T' n' k x), ← cN_or D 0 (fun x _ _ h => ?_)]
        · refine cN_cg D 0 fun x _ _ => ?_
          show _ = ((anB _ j || decide (C j = k ∧ F j ≤ x ∧ x < T j)) && _)
          rw [Bool.and_or_distrib_right]
          have : decide (F j ≤ x ∧ x < T j) = decide (C j = k ∧ F j ≤ x ∧ x < T j) := by
            rw [decide_eq_decide]; simp [c1]
          rw [this]; rfl
        · obtain ⟨h1, h2⟩ := h
          rw [cnB, Bool.and_eq_true, inB_iff] at h1
          obtain ⟨⟨i, i1, i2, i3, i4⟩, -⟩ := h1
          rw [Bool.and_eq_true] at h2
          have h5 := of_decide_eq_true h2.1
          have := hds i j i1 (by omega) (by omega)
          omega
      · rw [if_neg (fun h => c1 ((nI_eq t3 hk).mp h))]
        refine congrArg nI (cN_cg D 0 fun x _ _ => ?_)
        show _ = ((anB _ j || decide (C j = k ∧ F j ≤ x ∧ x < T j)) && _)
        rw [decide_eq_false (fun h => c1 h.1), Bool.or_false]
        rfl
  exact key n (Nat.le_refl n)
end COUNT
