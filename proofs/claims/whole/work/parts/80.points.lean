/-! days counted: the model's points -/
section POINTS
variable {n n' k a m D : Nat} {C F T C' F' T' : Nat → Nat} {f g p : Nat → Int32} {v : Int32}
def soS (p : Nat → Int32) (m : Nat) : Prop := ∀ i j, i < j → j < m → p i ≤ p j
theorem ins_ok : ∀ (k : Nat) (g : Nat → Int32), k ≤ m → (∀ i j, i < j → j ≤ m → i ≠ k → j ≠ k → g i ≤ g j) → (∀ j, k < j → j ≤ m → v ≤ g j) → soS (insP v k g) (m + 1) ∧ ∀ w, (∃ i, i < m + 1 ∧ insP v k g i = w) ↔ (w = v ∨ ∃ i, i < m + 1 ∧ i ≠ k ∧ g i = w)
  | 0, g, hk, h1, h2 => by
    rw [insP]
    refine ⟨fun i j hij hj => ?_, fun w => ⟨?_, ?_⟩⟩
    · by_cases e : i = 0
      · subst e
        rw [pk_us, pk_un (by omega)]
        exact h2 j hij (by omega)
      · rw [pk_un e, pk_un (by omega)]
        exact h1 i j hij (by omega) e (by omega)
    · rintro ⟨i, hi, e⟩
      by_cases c : i = 0
      · subst c; rw [pk_us] at e; exact Or.inl e.symm
      · rw [pk_un c] at e; exact Or.inr ⟨i, hi, c, e⟩
    · rintro (e | ⟨i, hi, c, e⟩)
      · exact ⟨0, by omega, by rw [pk_us, e]⟩
      · exact ⟨i, hi, by rw [pk_un c, e]⟩
  | k + 1, g, hk, h1, h2 => by
    rw [insP]
    by_cases q : v < g k
    · rw [if_pos q]
      obtain ⟨r1, r2⟩ := ins_ok k (upd g (k + 1) (g k)) (by omega) (fun i j hij hj hi hjk => by
        by_cases e : j = k + 1
        · subst e
          rw [pk_us, pk_un (by omega)]
          exact h1 i k (by omega) (by omega) (by omega) (by omega)
        · rw [pk_un e]
          by_cases e2 : i = k + 1
          · subst e2
            rw [pk_us]
            exact h1 k j (by omega) hj (by omega) e
          · rw [pk_un e2]
            exact h1 i j hij hj e2 e) (fun j hkj hj => by
        by_cases e : j = k + 1
        · subst e; rw [pk_us]; exact Int32.le_of_lt q
        · rw [pk_un e]; exact h2 j (by omega) hj)
      refine ⟨r1, fun w => (r2 w).trans ⟨?_, ?_⟩⟩
      · rintro (e | ⟨i, hi, c, e⟩)
        · exact Or.inl e
        · by_cases c2 : i = k + 1
          · subst c2; rw [pk_us] at e; exact Or.inr ⟨k, by omega, by omega, e⟩
          · rw [pk_un c2] at e; exact Or.inr ⟨i, hi, c2, e⟩
      · rintro (e | ⟨i, hi, c, e⟩)
        · exact Or.inl e
        · by_cases c2 : i = k
          · subst c2; exact Or.inr ⟨i + 1, by omega, by omega, by rw [pk_us, e]⟩
          · exact Or.inr ⟨i, hi, c2, by rw [pk_un c, e]⟩
    · rw [if_neg q]
      have q' : g k ≤ v := Int32.not_lt.mp q
      refine ⟨fun i j hij hj => ?_, fun w => ⟨?_, ?_⟩⟩
      · by_cases e : j = k + 1
        · subst e
          rw [pk_us, pk_un (by omega)]
          by_cases e2 : i = k
          · subst e2; exact q'
          · exact Int32.le_trans (h1 i k (by omega) (by omega) (by omega) (by omega)) q'
        · rw [pk_un e]
          by_cases e2 : i = k + 1
          · subst e2
            rw [pk_us]
            exact h2 j hij (by omega)
          · rw [pk_un e2]
            exact h1 i j hij (by omega) e2 e
      · rintro ⟨i, hi, e⟩
        by_cases c : i = k + 1
        · subst c; rw [pk_us] at e; exact Or.inl e.symm
        · rw [pk_un c] at e; exact Or.inr ⟨i, hi, c, e⟩
      · rintro (e | ⟨i, hi, c, e⟩)
        · exact ⟨k + 1, by omega, by rw [pk_us, e]⟩
        · exact ⟨i, hi, by rw [pk_un c, e]⟩
def pMem (s : (Nat → Int32) × Nat) (w : Nat) : Prop := ∃ i, i < s.2 ∧ s.1 i = nI w
def pOk (D : Nat) (s : (Nat → Int32) × Nat) : Prop := soS s.1 s.2 ∧ ∀ i, i < s.2 → ∃ w, w ≤ D ∧ s.1 i = nI w
theorem ptA_ok {s : (Nat → Int32) × Nat} {b : Nat} (hs : pOk D s) (hb : b < 2 ^ 31) (hD : D < 2 ^ 31) : pOk D (ptA s (nI b) (nI D)) ∧ pMem (ptA s (nI b) (nI D)) (min b D) ∧ ∀ w, pMem s w → pMem (ptA s (nI b) (nI D)) w := by
  have ev : (if nI D < nI b then nI D else nI b) = nI (min b D) := by
    by_cases c : D < b
    · rw [if_pos ((nI_ltI hD hb).mpr c), show min b D = D by omega]
    · rw [if_neg (fun h => c ((nI_ltI hD hb).mp h)), show min b D = b by omega]
  obtain ⟨r1, r2⟩ := ins_ok (v := nI (min b D)) (m := s.2) s.2 s.1 (Nat.le_refl _) (fun i j hij hj hi hjk => hs.1 i j hij (by omega)) (fun j h1 h2 => by omega)
  have e2 : ptA s (nI b) (nI D) = (insP (nI (min b D)) s.2 s.1, s.2 + 1) := by rw [ptA, ev]
  rw [e2]
  refine ⟨⟨r1, fun i hi => ?_⟩, ?_, ?_⟩
  · rcases (r2 _).mp ⟨i, hi, rfl⟩ with e | ⟨j, h1, h2, e⟩
    · exact ⟨min b D, by omega, e⟩
    · obtain ⟨w, w1, w2⟩ := hs.2 j (by omega)
      exact ⟨w, w1, by show insP _ _ _ i = _; rw [← e, w2]⟩
  · exact (r2 _).mpr (Or.inl rfl)
  · rintro w ⟨i, h1, h2⟩
    exact (r2 _).mpr (Or.inr ⟨i, by omega, by omega, h2⟩)
/-- the model's spans and gaps -/
def trS (f : Nat → Int32) (n : Nat) (C F T : Nat → Nat) : Prop := ∀ i, i < n → f (164 + 3 * i) = nI (C i) ∧ f (164 + 3 * i + 1) = nI (F i) ∧ f (164 + 3 * i + 2) = (if T i = 2147483647 then -1 else nI (T i)) ∧ C i < 2 ^ 31 ∧ F i < 2 ^ 31 ∧ T i < 2 ^ 31
def trG (f : Nat → Int32) (n : Nat) (C F T : Nat → Nat) : Prop := ∀ i, i < n → f (254 + 3 * i) = nI (C i) ∧ f (254 + 3 * i + 1) = nI (F i) ∧ f (254 + 3 * i + 2) = nI (T i) ∧ C i < 2 ^ 31 ∧ F i < 2 ^ 31 ∧ T i < 2 ^ 31
def b01 (x : Bool) : Int32 := if x = true then 1 else 0
theorem co_main (h3 : trS f n C F T) (h4 : trG f n' C' F' T') (hk : k < 2 ^ 31) {x : Nat} (hx : x < 2147483647) : coM f n n' (nI k) (nI x) = b01 (cnB C F T n C' F' T' n' k x) := by
  have k1 : ∀ j, j ≤ n → rfor (c1M f (nI k) (nI x)) 0 j 0 = b01 (inB C F T j k x) := by
    intro j
    induction j with
    | zero => intro _; rfl
    | succ j ih =>
      intro hj
      obtain ⟨t0, t1, t2, t3, t4, t5⟩ := h3 j (by omega)
      rw [rfor_last, Nat.zero_add, ih (by omega), c1M, t0, t1, t2]
      show _ = b01 (inB C F T j k x || decide (C j = k ∧ F j ≤ x ∧ x < T j))
      cases hb : inB C F T j k x with
      | true => rw [b01, if_pos rfl, if_neg (by decide)]; rfl
      | false =>
        rw [show b01 false = 0 from rfl, if_pos rfl, Bool.false_or]
        by_cases c1 : C j = k
        · rw [if_pos ((nI_eq t3 hk).mpr c1)]
          by_cases c2 : x < F j
          · rw [if_pos ((nI_ltI (by omega) t4).mpr c2), decide_eq_false (by omega)]; rfl
          · rw [if_neg (fun h => c2 ((nI_ltI (by omega) t4).mp h))]
            by_cases c3 : T j = 2147483647
            · rw [if_pos c3, if_pos (by decide), decide_eq_true (by omega)]; rfl
            · rw [if_neg c3, if_neg (nI_pos t5)]
              by_cases c4 : T j ≤ x
              · rw [if_pos ((nI_leI t5 (by omega)).mpr c4), decide_eq_false (by omega)]; rfl
              · rw [if_neg (fun h => c4 ((nI_leI t5 (by omega)).mp h)), decide_eq_true (by omega)]; rfl
        · rw [if_neg (fun h => c1 ((nI_eq t3 hk).mp h)), decide_eq_false (fun h => c1 h.1)]; rfl
  have k2 : ∀ j, j ≤ n' → rfor (c2M f (nI k) (nI x)) 0 j (b01 (inB C F T n k x)) = b01 (inB C F T n k x && !inB C' F' T' j k x) := by
    intro j
    induction j with
    | zero =>
      intro _
      show b01 _ = b01 (_ && !false)
      rw [Bool.not_false, Bool.and_true]
    | succ j ih =>
      intro hj
      obtain ⟨t0, t1, t2, t3, t4, t5⟩ := h4 j (by omega)
      rw [rfor_last, Nat.zero_add, ih (by omega), c2M, t0, t1, t2]
      show _ = b01 (inB C F T n k x && !(inB C' F' T' j k x || decide (C' j = k ∧ F' j ≤ x ∧ x < T' j)))
      cases hb : (inB C F T n k x && !inB C' F' T' j k x) with
      | false =>
        rw [show b01 false = 0 from rfl, if_pos rfl, Bool.not_or, ← Bool.and_assoc, hb, Bool.false_and]; rfl
      | true =>
        rw [show b01 true = 1 from rfl, if_neg (by decide), Bool.not_or, ← Bool.and_assoc, hb, Bool.true_and]
        by_cases c1 : C' j = k
        · rw [if_pos ((nI_eq t3 hk).mpr c1)]
          by_cases c2 : x < F' j
          · rw [if_pos ((nI_ltI (by omega) t4).mpr c2), decide_eq_false (by omega)]; rfl
          · rw [if_neg (fun h => c2 ((nI_ltI (by omega) t4).mp h))]
            by_cases c4 : x < T' j
            · rw [if_pos ((nI_ltI (by omega) t5).mpr c4), decide_eq_true (by omega)]; rfl
            · rw [if_neg (fun h => c4 ((nI_ltI (by omega) t5).mp h)), decide_eq_false (by omega)]; rfl
        · rw [if_neg (fun h => c1 ((nI_eq t3 hk).mp h)), decide_eq_false (fun h => c1 h.1)]; rfl
  rw [coM, k1 n (Nat.le_refl n), k2 n' (Nat.le_refl n')]
  rfl
theorem po_main (h3 : trS f n C F T) (h4 : trG f n' C' F' T') (hk : k < 2 ^ 31) (hD : D < 2147483647) (g : Nat → Int32) : pOk D (poM f n n' (nI k) (nI D) g) ∧ pMem (poM f n n' (nI k) (nI D) g) 0 ∧ pMem (poM f n n' (nI k) (nI D) g) D ∧ (∀ i, i < n → C i = k → pMem (poM f n n' (nI k) (nI D) g) (min (F i) D) ∧ (T i ≠ 2147483647 → pMem (poM f n n' (nI k) (nI D) g) (min (T i) D))) ∧ ∀ i, i < n' → C' i = k → pMem (poM f n n' (nI k) (nI D) g) (min (F' i) D) ∧ pMem (poM f n n' (nI k) (nI D) g) (min (T' i) D) := by
  have hD2 : D < 2 ^ 31 := by omega
  have s0 : pOk D (g, 0) := ⟨fun i j h1 h2 => absurd h2 (Nat.not_lt_zero j), fun i h => absurd h (Nat.not_lt_zero i)⟩
  obtain ⟨a1, a2, a3⟩ := ptA_ok (b := 0) s0 (by omega) hD2
  obtain ⟨b1, b2, b3⟩ := ptA_ok (b := D) a1 hD2 hD2
  have m0 := b3 _ a2
  rw [show min 0 D = 0 by omega] at m0
  rw [show min D D = D by omega] at b2
  rw [nI_0] at b1 b2 m0
  have k1 : ∀ j, j ≤ n → pOk D (rfor (spM f (nI k) (nI D)) 0 j (ptA (ptA (g, 0) 0 (nI D)) (nI D) (nI D))) ∧ (∀ w, pMem (ptA (ptA (g, 0) 0 (nI D)) (nI D) (nI D)) w → pMem (rfor (spM f (nI k) (nI D)) 0 j (ptA (ptA (g, 0) 0 (nI D)) (nI D) (nI D))) w) ∧ ∀ i, i < j → C i = k → pMem (rfor (spM f (nI k) (nI D)) 0 j (ptA (ptA (g, 0) 0 (nI D)) (nI D) (nI D))) (min (F i) D) ∧ (T i ≠ 2147483647 → pMem (rfor (spM f (nI k) (nI D)) 0 j (ptA (ptA (g, 0) 0 (nI D)) (nI D) (nI D))) (min (T i) D)) := by
    intro j
    induction j with
    | zero => intro _; exact ⟨b1, fun w h => h, fun i h => absurd h (Nat.not_lt_zero i)⟩
    | succ j ih =>
      intro hj
      obtain ⟨t0, t1, t2, t3, t4, t5⟩ := h3 j (by omega)
      obtain ⟨i1, i2, i3⟩ := ih (by omega)
      rw [rfor_last, Nat.zero_add]
      generalize rfor (spM f (nI k) (nI D)) 0 j (ptA (ptA (g, 0) 0 (nI D)) (nI D) (nI D)) = s at i1 i2 i3 ⊢
      rw [spM, t0, t1, t2]
      by_cases c1 : C j = k
      · rw [if_pos ((nI_eq t3 hk).mpr c1)]
        obtain ⟨u1, u2, u3⟩ := ptA_ok i1 t4 hD2
        by_cases c3 : T j = 2147483647
        · rw [if_pos c3, if_neg (by decide)]
          obtain ⟨w1, w2, w3⟩ := ptA_ok u1 hD2 hD2
          refine ⟨w1, fun w h => w3 w (u3 w (i2 w h)), fun i hi hc => ?_⟩
          by_cases e : i = j
          · subst e; exact ⟨w3 _ u2, fun h => absurd c3 h⟩
          · have := i3 i (by omega) hc
            exact ⟨w3 _ (u3 _ this.1), fun h => w3 _ (u3 _ (this.2 h))⟩
        · rw [if_neg c3, if_pos (nI_pos' t5)]
          obtain ⟨w1, w2, w3⟩ := ptA_ok u1 t5 hD2
          refine ⟨w1, fun w h => w3 w (u3 w (i2 w h)), fun i hi hc => ?_⟩
          by_cases e : i = j
          · subst e; exact ⟨w3 _ u2, fun _ => w2⟩
          · have := i3 i (by omega) hc
            exact ⟨w3 _ (u3 _ this.1), fun h => w3 _ (u3 _ (this.2 h))⟩
      · rw [if_neg (fun h => c1 ((nI_eq t3 hk).mp h))]
        refine ⟨i1, i2, fun i hi hc => ?_⟩
        exact i3 i (by by_cases e : i = j; (subst e; exact absurd hc c1); omega) hc
  obtain ⟨q1, q2, q3⟩ := k1 n (Nat.le_refl n)
  have k2 : ∀ j, j ≤ n' → pOk D (rfor (gaM f (nI k) (nI D)) 0 j (rfor (spM f (nI k) (nI D)) 0 n (ptA (ptA (g, 0) 0 (nI D)) (nI D) (nI D)))) ∧ (∀ w, pMem (rfor (spM f (nI k) (nI D)) 0 n (ptA (ptA (g, 0) 0 (nI D)) (nI D) (nI D))) w → pMem (rfor (gaM f (nI k) (nI D)) 0 j (rfor (spM f (nI k) (nI D)) 0 n (ptA (ptA (g, 0) 0 (nI D)) (nI D) (nI D)))) w) ∧ ∀ i, i < j → C' i = k → pMem (rfor (gaM f (nI k) (nI D)) 0 j (rfor (spM f (nI k) (nI D)) 0 n (ptA (ptA (g, 0) 0 (nI D)) (nI D) (nI D)))) (min (F' i) D) ∧ pMem (rfor (gaM f (nI k) (nI D)) 0 j (rfor (spM f (nI k) (nI D)) 0 n (ptA (ptA (g, 0) 0 (nI D)) (nI D) (nI D)))) (min (T' i) D) := by
    intro j
    induction j with
    | zero => intro _; exact ⟨q1, fun w h => h, fun i h => absurd h (Nat.not_lt_zero i)⟩
    | succ j ih =>
      intro hj
      obtain ⟨t0, t1, t2, t3, t4, t5⟩ := h4 j (by omega)
      obtain ⟨i1, i2, i3⟩ := ih (by omega)
      rw [rfor_last, Nat.zero_add]
      generalize rfor (gaM f (nI k) (nI D)) 0 j (rfor (spM f (nI k) (nI D)) 0 n (ptA (ptA (g, 0) 0 (nI D)) (nI D) (nI D))) = s at i1 i2 i3 ⊢
      rw [gaM, t0, t1, t2]
      by_cases c1 : C' j = k
      · rw [if_pos ((nI_eq t3 hk).mpr c1)]
        obtain ⟨u1, u2, u3⟩ := ptA_ok i1 t4 hD2
        obtain ⟨w1, w2, w3⟩ := ptA_ok u1 t5 hD2
        refine ⟨w1, fun w h => w3 w (u3 w (i2 w h)), fun i hi hc => ?_⟩
        by_cases e : i = j
        · subst e; exact ⟨w3 _ u2, w2⟩
        · have := i3 i (by omega) hc
          exact ⟨w3 _ (u3 _ this.1), w3 _ (u3 _ this.2)⟩
      · rw [if_neg (fun h => c1 ((nI_eq t3 hk).mp h))]
        refine ⟨i1, i2, fun i hi hc => ?_⟩
        exact i3 i (by by_cases e : i = j; (subst e; exact absurd hc c1); omega) hc
  obtain ⟨r1, r2, r3⟩ := k2 n' (Nat.le_refl n')
  exact ⟨r1, r2 _ (q2 _ m0), r2 _ (q2 _ b2), fun i hi hc => ⟨r2 _ (q3 i hi hc).1, fun h => r2 _ ((q3 i hi hc).2 h)⟩, r3⟩
theorem se_main (h3 : trS f n C F T) (h4 : trG f n' C' F' T') (hk : k < 2 ^ 31) (hD : D < 2147483647) : seM f n n' (nI k) (nI D) g = nI (cN (cnB C F T n C' F' T' n' k) 0 D) := by
  obtain ⟨p1, p2, p3, p4, p5⟩ := po_main h3 h4 hk hD g
  rw [seM]
  generalize poM f n n' (nI k) (nI D) g = s at p1 p2 p3 p4 p5 ⊢
  obtain ⟨p, M⟩ := s
  obtain ⟨so, sv⟩ := p1
  simp only at so sv
  show rfor (smM f n n' (nI k) p) 0 (M - 1) 0 = _
  have hM : 0 < M := by
    obtain ⟨i, hi, _⟩ := p2
    have : i < M := hi
    omega
  obtain ⟨P, hP⟩ : ∃ P : Nat → Nat, ∀ i, i < M → P i ≤ D ∧ p i = nI (P i) := ⟨fun i => (p i).toNatClampNeg, fun i hi => by
    obtain ⟨w, w1, w2⟩ := sv i hi
    show (p i).toNatClampNeg ≤ D ∧ p i = nI (p i).toNatClampNeg
    rw [w2, nI_clamp (by omega)]
    exact ⟨w1, rfl⟩⟩
  have le : ∀ i j, i ≤ j → j < M → P i ≤ P j := fun i j hij hj => by
    by_cases e : i = j
    · rw [e]; exact Nat.le_refl _
    · have := so i j (by omega) hj
      rw [(hP i (by omega)).2, (hP j hj).2] at this
      exact (nI_leI (by have := (hP i (by omega)).1; omega) (by have := (hP j hj).1; omega)).mp this
  have mem : ∀ w, w < 2 ^ 31 → pMem (p, M) w → ∃ i, i < M ∧ P i = w := fun w hw ⟨i, hi, e⟩ => ⟨i, hi, by
    have hi : i < M := hi
    have e : p i = nI w := e
    rw [(hP i hi).2] at e
    exact (nI_eq (by have := (hP i hi).1; omega) hw).mp e⟩
  have z0 : P 0 = 0 := by
    obtain ⟨i, hi, e⟩ := mem 0 (by omega) p2
    have := le 0 i (by omega) hi
    omega
  have zD : P (M - 1) = D := by
    obtain ⟨i, hi, e⟩ := mem D (by omega) p3
    have := le i (M - 1) (by omega) (by omega)
    have := (hP (M - 1) (by omega)).1
    omega
  have seg : ∀ j, j + 1 < M → ∀ b, b < 2 ^ 31 → pMem (p, M) (min b D) → ∀ x, P j ≤ x → x < P (j + 1) → (b ≤ x ↔ b ≤ P j) := by
    intro j hj b hb hm x h1 h2
    constructor
    · intro h
      obtain ⟨i, hi, e⟩ := mem _ (by omega) hm
      have := (hP (j + 1) hj).1
      by_cases c : i ≤ j
      · have := le i j c (by omega); omega
      · have := le (j + 1) i (by omega) hi; omega
    · intro h; omega
  have key : ∀ j, j < M → rfor (smM f n n' (nI k) p) 0 j 0 = nI (cN (cnB C F T n C' F' T' n' k) 0 (P j)) := by
    intro j
    induction j with
    | zero => intro _; rw [z0]; rfl
    | succ j ih =>
      intro hj
      have hj0 := hP j (by omega)
      have hj1 := hP (j + 1) hj
      have hle := le j (j + 1) (by omega) hj
      rw [rfor_last, Nat.zero_add, ih (by omega), smM, hj0.2, hj1.2]
      by_cases c : P (j + 1) ≤ P j
      · rw [if_pos ((nI_leI (by omega) (by omega)).mpr c), show P (j + 1) = P j by omega]
        exact Int32.add_zero _
      · rw [if_neg (fun h => c ((nI_leI (by omega) (by omega)).mp h)), co_main h3 h4 hk (by omega)]
        have const : ∀ x, P j ≤ x → x < P (j + 1) → cnB C F T n C' F' T' n' k x = cnB C F T n C' F' T' n' k (P j) := by
          intro x h1 h2
          rw [cnB, cnB]
          congr 1
          · rw [Bool.eq_iff_iff, inB_iff, inB_iff]
            constructor
            · rintro ⟨i, hi, hc, hf, ht⟩
              have := (seg j hj (F i) (by have := h3 i hi; omega) (p4 i hi hc).1 x h1 h2).mp hf
              exact ⟨i, hi, hc, this, by omega⟩
            · rintro ⟨i, hi, hc, hf, ht⟩
              refine ⟨i, hi, hc, by omega, ?_⟩
              by_cases e : T i = 2147483647
              · omega
              · have := seg j hj (T i) (by have := h3 i hi; omega) ((p4 i hi hc).2 e) x h1 h2
                omega
          · congr 1
            rw [Bool.eq_iff_iff, inB_iff, inB_iff]
            constructor
            · rintro ⟨i, hi, hc, hf, ht⟩
              have := (seg j hj (F' i) (by have := h4 i hi; omega) (p5 i hi hc).1 x h1 h2).mp hf
              exact ⟨i, hi, hc, this, by omega⟩
            · rintro ⟨i, hi, hc, hf, ht⟩
              have := seg j hj (T' i) (by have := h4 i hi; omega) (p5 i hi hc).2 x h1 h2
              exact ⟨i, hi, hc, by omega, by omega⟩
        have hsp := cN_add (P := cnB C F T n C' F' T' n' k) (P j) 0 (P (j + 1) - P j)
        rw [show P j + (P (j + 1) - P j) = P (j + 1) by omega, Nat.zero_add] at hsp
        rw [hsp, ← nI_add]
        cases hb : cnB C F T n C' F' T' n' k (P j) with
        | true =>
          rw [show b01 true = 1 from rfl, if_neg (by decide), cN_all (P (j + 1) - P j) (P j) (fun x h1 h2 => by rw [const x h1 (by omega), hb]), pk_sub hle]
        | false =>
          rw [show b01 false = 0 from rfl, if_pos rfl, cN_no (P (j + 1) - P j) (P j) (fun x h1 h2 => by rw [const x h1 (by omega), hb])]
          rfl
  rw [key (M - 1) (by omega), zD]
end POINTS
