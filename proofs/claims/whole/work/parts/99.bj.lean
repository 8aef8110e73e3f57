/-! draws, in numbers -/
section DRAWN
variable {E : EE} {R S S1 S2 U U2 V : SS} {b d k n m i j p td B a s q C X : Nat} {c v w x y : Int32}
/-- how many of the numbers from i on are not taken -/
def pcU (C : Nat) : Nat → Nat → Nat
  | _, 0 => 0
  | i, m + 1 => (if C.testBit i = true then 0 else 1) + pcU C (i + 1) m
/-- the one at a place of those that are not taken -/
def lfN (C : Nat) : Nat → Nat → Nat → Nat
  | i, 0, _ => i
  | i, m + 1, p => if C.testBit i = true then lfN C (i + 1) m p else if p = 0 then i else lfN C (i + 1) m (p - 1)
theorem lf_in : ∀ m i p, p < pcU C i m → i ≤ lfN C i m p ∧ lfN C i m p < i + m ∧ C.testBit (lfN C i m p) = false
  | 0, i, p, h => absurd h (Nat.not_lt_zero p)
  | m + 1, i, p, h => by
    rw [pcU] at h
    rw [lfN]
    by_cases e : C.testBit i = true
    · rw [if_pos e] at h ⊢
      obtain ⟨h1, h2, h3⟩ := lf_in m (i + 1) p (by omega)
      exact ⟨by omega, by omega, h3⟩
    · rw [if_neg e] at h ⊢
      by_cases e2 : p = 0
      · rw [if_pos e2]
        exact ⟨Nat.le_refl _, by omega, by simpa using e⟩
      · rw [if_neg e2]
        obtain ⟨h1, h2, h3⟩ := lf_in m (i + 1) (p - 1) (by omega)
        exact ⟨by omega, by omega, h3⟩
theorem tb_or : (C ||| 2 ^ q).testBit i = (C.testBit i || decide (q = i)) := by rw [Nat.testBit_or, Nat.testBit_two_pow]
theorem pc_out : ∀ m i, (q < i ∨ i + m ≤ q) → pcU (C ||| 2 ^ q) i m = pcU C i m
  | 0, _, _ => rfl
  | m + 1, i, h => by
    rw [pcU, pcU, pc_out m (i + 1) (by omega), tb_or, show decide (q = i) = false from decide_eq_false (by omega), Bool.or_false]
theorem pc_in (hq : C.testBit q = false) : ∀ m i, i ≤ q → q < i + m → pcU (C ||| 2 ^ q) i m + 1 = pcU C i m
  | 0, i, h1, h2 => by omega
  | m + 1, i, h1, h2 => by
    rw [pcU, pcU, tb_or]
    by_cases e : q = i
    · subst e
      rw [pc_out m (q + 1) (by omega), hq]
      simp
      omega
    · rw [show decide (q = i) = false from decide_eq_false e, Bool.or_false]
      have := pc_in hq m (i + 1) (by omega) (by omega)
      omega
theorem pc_sp : ∀ m i k, pcU C i (m + k) = pcU C i m + pcU C (i + m) k
  | 0, i, k => by rw [pcU, Nat.zero_add, Nat.zero_add, Nat.add_zero]
  | m + 1, i, k => by
    rw [show m + 1 + k = m + k + 1 by omega, pcU, pcU, pc_sp m (i + 1) k, show i + 1 + m = i + (m + 1) by omega]
    omega
theorem pc_hi (hC : C < 2 ^ n) : ∀ m i, n ≤ i → pcU C i m = m
  | 0, _, _ => rfl
  | m + 1, i, h => by
    rw [pcU, pc_hi hC m (i + 1) (by omega), Nat.testBit_lt_two_pow (Nat.lt_of_lt_of_le hC (Nat.pow_le_pow_right (by decide) h))]
    simp
    omega
theorem bc_all : ∀ C : Fin 512, bcS (nI C.1) = nI (9 - pcU C.1 0 9) := by decide +kernel
theorem pw_9 (hn : n ≤ 9) : 2 ^ n ≤ 512 := Nat.pow_le_pow_right (n := 2) (by decide) hn
theorem bc_k (hn : n ≤ 9) (hC : C < 2 ^ n) (hk : pcU C 0 n + k = n) : bcS (nI C) = nI k := by
  have h5 := pw_9 hn
  rw [bc_all ⟨C, by omega⟩]
  have h1 := pc_sp (C := C) n 0 (9 - n)
  rw [show n + (9 - n) = 9 by omega, Nat.zero_add, pc_hi hC (9 - n) n (Nat.le_refl n)] at h1
  show nI (9 - pcU C 0 9) = nI k
  congr 1
  omega
theorem nI_or (hC : C < 2 ^ 31) (hX : X < 2 ^ 31) : nI C ||| nI X = nI (C ||| X) := by
  have h := Nat.or_lt_two_pow hC hX
  refine bt_ext fun i _ => ?_
  rw [bt_or, bt_nI hC, bt_nI hX, bt_nI h, Nat.testBit_or]
theorem sh_n : ∀ i : Fin 31, (1 : Int32) <<< (nI i.1 &&& 31) = nI (2 ^ i.1) := by decide +kernel
theorem hs_n (hC : C < 2 ^ 31) (hi : i < 31) : nI C >>> (nI i &&& 31) &&& 1 = if C.testBit i = true then 1 else 0 := by rw [bt_has hi, bt_nI hC]
theorem d1_n (hC : C < 2 ^ 31) : ∀ m i p, i + m ≤ 31 → p < pcU C i m → d1F (nI C) i m (nI p) = nI (2 ^ lfN C i m p)
  | 0, i, p, _, h => absurd h (Nat.not_lt_zero p)
  | m + 1, i, p, hi, h => by
    rw [pcU] at h
    rw [d1F, lfN, hs_n hC (by omega)]
    by_cases e : C.testBit i = true
    · rw [if_pos e] at h ⊢
      rw [if_pos rfl, if_pos e]
      exact d1_n hC m (i + 1) p (by omega) (by omega)
    · rw [if_neg e] at h ⊢
      rw [if_neg (by decide), if_neg e]
      by_cases e2 : p = 0
      · subst e2
        rw [if_pos nI_0, if_pos rfl]
        exact sh_n ⟨i, by omega⟩
      · obtain ⟨p', rfl⟩ : ∃ p', p = p' + 1 := ⟨p - 1, by omega⟩
        have hp : p' + 1 < 2 ^ 31 := by
          have : ∀ m i, pcU C i m ≤ m := by
            intro m
            induction m with
            | zero => intro i; exact Nat.le_refl _
            | succ m ih => intro i; rw [pcU]; have := ih (i + 1); split <;> omega
          have := this m (i + 1)
          omega
        rw [if_neg (nI_ne0 (by omega) hp), if_neg e2, pk_m1, Nat.add_sub_cancel]
        exact d1_n hC m (i + 1) p' (by omega) (by omega)
def sxN (s : Nat) : Nat := (25173 * s + 13849) % 65536
theorem sx_lt : sxN s < 65536 := Nat.mod_lt _ (by decide)
theorem ds_n (hs : s < 65536) : dsS (nI s) = nI (sxN s) := by
  rw [dsS]
  show nI 25173 * nI s + nI 13849 - (nI 25173 * nI s + nI 13849) / nI 65536 * nI 65536 = _
  rw [pk_mul, nI_add, pk_rem (by omega) (by decide) (by decide), sxN]
/-- which one is drawn -/
def psN (n C s k : Nat) : Nat := lfN C 0 n (sxN s % (n - k))
def drG (n C k : Nat) (x : Nat × Nat) : Nat × Nat := (x.1 ||| 2 ^ psN n (C ||| x.1) x.2 k, sxN x.2)
def drI (n C k : Nat) (x : Nat × Nat) : Prop := C ||| x.1 < 2 ^ n ∧ pcU (C ||| x.1) 0 n + k = n ∧ x.2 < 65536
theorem ps_in (hk : k < n) (hC : pcU C 0 n + k = n) : psN n C s k < n ∧ C.testBit (psN n C s k) = false := by
  have h1 : sxN s % (n - k) < n - k := Nat.mod_lt _ (by omega)
  obtain ⟨a1, a2, a3⟩ := lf_in (C := C) n 0 (sxN s % (n - k)) (by omega)
  exact ⟨by rw [psN]; omega, a3⟩
theorem dr_inv {x : Nat × Nat} (hk : k < n) (h : drI n C k x) : drI n C (k + 1) (drG n C k x) := by
  obtain ⟨h1, h2, h3⟩ := h
  obtain ⟨p1, p2⟩ := ps_in (s := x.2) hk h2
  have e : C ||| (x.1 ||| 2 ^ psN n (C ||| x.1) x.2 k) = (C ||| x.1) ||| 2 ^ psN n (C ||| x.1) x.2 k := (Nat.or_assoc _ _ _).symm
  refine ⟨?_, ?_, sx_lt⟩
  · show C ||| (x.1 ||| 2 ^ psN n (C ||| x.1) x.2 k) < 2 ^ n
    rw [e]
    exact Nat.or_lt_two_pow h1 (Nat.pow_lt_pow_right (by decide) p1)
  · show pcU (C ||| (x.1 ||| 2 ^ psN n (C ||| x.1) x.2 k)) 0 n + (k + 1) = n
    rw [e]
    have := pc_in p2 n 0 (by omega) (by omega)
    omega
theorem do_n (hn : n ≤ 9) (hk : k < n) (hC : C < 2 ^ n) (h2 : pcU C 0 n + k = n) (hs : s < 65536) : doS n (nI s) (nI C) = nI (2 ^ psN n C s k) := by
  have h5 := pw_9 hn
  have hl : 0 < nI (n - k) := nI_lt (a := 0) (by omega) (by omega)
  rw [doS, bc_k hn hC h2, ds_n hs, pk_sub (by omega), dpS, if_pos hl, pk_rem (Nat.lt_trans sx_lt (by decide)) (by omega) (by omega)]
  have h1 : sxN s % (n - k) < n - k := Nat.mod_lt _ (by omega)
  exact d1_n (by omega) n 0 _ (by omega) (by omega)
theorem dt_n {x : Nat × Nat} (hn : n ≤ 9) (hk : k < n) (hC : C < 2 ^ 31) (hX : x.1 < 2 ^ n) (h : drI n C k x) : dtG n (nI C) i (nI x.1, nI x.2) = (nI (drG n C k x).1, nI (drG n C k x).2) ∧ (drG n C k x).1 < 2 ^ n := by
  obtain ⟨h1, h2, h3⟩ := h
  have h5 := pw_9 hn
  obtain ⟨p1, p2⟩ := ps_in (s := x.2) hk h2
  have hp : 2 ^ psN n (C ||| x.1) x.2 k < 2 ^ n := Nat.pow_lt_pow_right (by decide) p1
  refine ⟨?_, Nat.or_lt_two_pow hX hp⟩
  rw [dtG]
  simp only
  rw [nI_or hC (by omega), do_n hn hk h1 h2 h3, nI_or (by omega) (by omega), ds_n h3, drG]
theorem dt_r (hn : n ≤ 9) (hC : C < 2 ^ 31) : ∀ m k i (x : Nat × Nat), k + m ≤ n → x.1 < 2 ^ n → drI n C k x → rfor (dtG n (nI C)) i m (nI x.1, nI x.2) = (nI (rfor (drG n C) k m x).1, nI (rfor (drG n C) k m x).2) ∧ (rfor (drG n C) k m x).1 < 2 ^ n ∧ drI n C (k + m) (rfor (drG n C) k m x)
  | 0, k, i, x, _, hX, h => ⟨rfl, hX, h⟩
  | m + 1, k, i, x, hk, hX, h => by
    obtain ⟨e1, e2⟩ := dt_n (i := i) hn (by omega) hC hX h
    rw [rfor, rfor, e1, show k + (m + 1) = k + 1 + m by omega]
    exact dt_r hn hC m (k + 1) (i + 1) _ (by omega) e2 (dr_inv (by omega) h)
end DRAWN
