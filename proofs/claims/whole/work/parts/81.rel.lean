/-! the relation of the books and the model's numbers -/
section REL
variable {E : EE} {R S : SS} {b td n m k B : Nat} {z t hc pk : Nat → Nat} {f f' A A2 A8 : Nat → Int32}
def tC (A : Nat → Int32) (i : Nat) : Nat := (A (i * 3)).toNatClampNeg
def tF (A : Nat → Int32) (i : Nat) : Nat := (A (i * 3 + 1)).toNatClampNeg
def tT (A : Nat → Int32) (i : Nat) : Nat := (A (i * 3 + 2)).toNatClampNeg
def nvM (x : Int32) : Int32 := if x = 2147483647 then -1 else x
def gDou (dn df : Int32) (f : Nat → Int32) : Prop := ∃ n : Nat, n ≤ 20 ∧ dn = nI n ∧ f 11 = nI n ∧ df = rfor (fun i s => s + (if f (850 + 2 * i) = f (850 + 2 * i + 1) then 0 else 1)) 0 n 0
def gSee (x y : Int32) : Prop := x = y ∧ ∃ n : Nat, n < 65536 ∧ x = nI n
def k12 (A f : Nat → Int32) : Prop := ∀ q, q < 5 → 1 ≤ q → f (12 + q) = A q
def k20 (A : Nat → Int32) (n : Nat) (f : Nat → Int32) : Prop := ∀ i, i < n → (∀ c, c < 5 → f (20 + 6 * i + c) = A (i * 6 + c)) ∧ ∃ m : Nat, m < 256 ∧ A (i * 6 + 2) = nI m
def k92 (A : Nat → Int32) (n : Nat) (f : Nat → Int32) : Prop := ∀ i, i < n → (∀ c, c < 3 → f (92 + 3 * i + c) = A (i * 3 + c)) ∧ (A (i * 3 + 2) = 0 ∨ A (i * 3 + 2) = 1)
def gSpa (A : Nat → Int32) (n nc td : Nat) : Prop := tri A n (tC A) (tF A) (tT A) ∧ (∀ i, i < n → tC A i < nc ∧ tF A i ≤ td ∧ (tT A i ≤ td ∨ tT A i = 2147483647)) ∧ ∀ i j, i < j → j < n → tC A i = tC A j → tT A i ≤ tF A j
def gLat (A2 A : Nat → Int32) (nc n : Nat) (f : Nat → Int32) : Prop := ∀ i, i < nc → ∃ s, lsq A (nI i) n = some s ∧ f (20 + 6 * i + 5) = (if A (s * 3 + 2) = 2147483647 then nI s else -1) ∧ (A2 (i * 6 + 3) = 0 ∨ A (s * 3 + 2) ≠ 2147483647)
def k314 (A : Nat → Int32) (n td : Nat) (f : Nat → Int32) : Prop := ∀ i, i < n → f (314 + 4 * i) = A (i * 4) ∧ f (314 + 4 * i + 1) = A (i * 4 + 1) ∧ f (314 + 4 * i + 2) = A (i * 4 + 2) ∧ f (314 + 4 * i + 3) = nvM (A (i * 4 + 3)) ∧ (-99 ≤ (A (i * 4 + 1)).toInt ∧ (A (i * 4 + 1)).toInt ≤ 99) ∧ (∃ w : Nat, w ≤ td ∧ A (i * 4 + 2) = nI w) ∧ (A (i * 4 + 3) = 2147483647 ∨ ∃ w : Nat, w ≤ td ∧ A (i * 4 + 3) = nI w)
def k474 (A : Nat → Int32) (n : Nat) (f : Nat → Int32) : Prop := ∀ i, i < n → (∀ c, c < 4 → f (474 + 4 * i + c) = A (i * 4 + c)) ∧ ∃ a w : Nat, a ≤ 9999 ∧ w ≤ 3030 ∧ A (i * 4 + 2) = nI a ∧ A (i * 4 + 3) = nI w
def k634 (A : Nat → Int32) (n B : Nat) (f : Nat → Int32) : Prop := ∀ i, i < n → (∀ c, c < 4 → f (634 + 4 * i + c) = A (i * 4 + c)) ∧ ∃ w : Nat, w ≤ B ∧ A (i * 4 + 3) = nI w
def k670 (A : Nat → Int32) (n : Nat) (f : Nat → Int32) : Prop := ∀ i, i < n → ∀ c, c < 5 → f (670 + 6 * i + c) = A (i * 5 + c)
def gUnq (A : Nat → Int32) (n nc : Nat) (hc : Nat → Nat) : Prop := (∀ i, i < n → hc i < nc) ∧ ∀ i j, i < n → j < n → A (i * 5 + 2) = 0 → A (j * 5 + 2) = 0 → hc i = hc j → i = j
def gWas (A2 A : Nat → Int32) (n nc : Nat) (f : Nat → Int32) : Prop := (∀ i, i < n → A (i * 5 + 2) = 0 → f (670 + 6 * i + 5) = 0) ∧ ∀ k, k < nc → rfor (hoM f (nI k)) 0 n 0 = A2 (k * 6 + 5)
def k890 (A f : Nat → Int32) : Prop := ∀ i, i < 8 → ∀ c, c < 3 → f (890 + 3 * i + c) = A (i * 3 + c)
/-- the books at b and the model's numbers tell the same -/
def Rel (E : EE) (R : SS) (b : Nat) (z t hc pk : Nat → Nat) (td B : Nat) (f : Nat → Int32) : Prop := (okH E R b z t hc pk) ∧ (okM f z) ∧ (iF R b 8 = nI td ∧ td ≤ 3030 ∧ f 0 = nI td) ∧ (gSee (f 1) (iF R b 9)) ∧ (gDou (iF R b 10) (iF R b 11) f) ∧ (k12 (iA R (b + 12)) f) ∧ (k20 (iA R (b + 2)) (z 1) f) ∧ (k92 (iA R (b + 15)) (z 14) f) ∧ (trS f (z 16) (tC (iA R (b + 17))) (tF (iA R (b + 17))) (tT (iA R (b + 17)))) ∧ (gSpa (iA R (b + 17)) (z 16) (z 1) td) ∧ (gLat (iA R (b + 2)) (iA R (b + 17)) (z 1) (z 16) f) ∧ (trG f (z 18) (tC (iA R (b + 19))) (tF (iA R (b + 19))) (tT (iA R (b + 19))) ∧ tri (iA R (b + 19)) (z 18) (tC (iA R (b + 19))) (tF (iA R (b + 19))) (tT (iA R (b + 19)))) ∧ (k314 (iA R (b + 21)) (z 20) td f) ∧ (k474 (iA R (b + 4)) (z 3) f) ∧ (B ≤ 100000 ∧ k634 (iA R (b + 6)) (z 5) B f) ∧ (k670 (iA R (b + 8)) (z 7) f) ∧ (gUnq (iA R (b + 8)) (z 7) (z 1) hc) ∧ (gWas (iA R (b + 2)) (iA R (b + 8)) (z 7) (z 1) f) ∧ (k890 (iA R (b + 10)) f) ∧ (txR R (z 22) t f)
theorem rl_okh (h : Rel E R b z t hc pk td B f) : okH E R b z t hc pk := h.1
theorem rl_okm (h : Rel E R b z t hc pk td B f) : okM f z := h.2.1
theorem rl_tod (h : Rel E R b z t hc pk td B f) : iF R b 8 = nI td ∧ td ≤ 3030 ∧ f 0 = nI td := h.2.2.1
theorem rl_see (h : Rel E R b z t hc pk td B f) : gSee (f 1) (iF R b 9) := h.2.2.2.1
theorem rl_dou (h : Rel E R b z t hc pk td B f) : gDou (iF R b 10) (iF R b 11) f := h.2.2.2.2.1
theorem rl_put (h : Rel E R b z t hc pk td B f) : k12 (iA R (b + 12)) f := h.2.2.2.2.2.1
theorem rl_cas (h : Rel E R b z t hc pk td B f) : k20 (iA R (b + 2)) (z 1) f := h.2.2.2.2.2.2.1
theorem rl_sen (h : Rel E R b z t hc pk td B f) : k92 (iA R (b + 15)) (z 14) f := h.2.2.2.2.2.2.2.1
theorem rl_sps (h : Rel E R b z t hc pk td B f) : trS f (z 16) (tC (iA R (b + 17))) (tF (iA R (b + 17))) (tT (iA R (b + 17))) := h.2.2.2.2.2.2.2.2.1
theorem rl_spg (h : Rel E R b z t hc pk td B f) : gSpa (iA R (b + 17)) (z 16) (z 1) td := h.2.2.2.2.2.2.2.2.2.1
theorem rl_lat (h : Rel E R b z t hc pk td B f) : gLat (iA R (b + 2)) (iA R (b + 17)) (z 1) (z 16) f := h.2.2.2.2.2.2.2.2.2.2.1
theorem rl_gap (h : Rel E R b z t hc pk td B f) : trG f (z 18) (tC (iA R (b + 19))) (tF (iA R (b + 19))) (tT (iA R (b + 19))) ∧ tri (iA R (b + 19)) (z 18) (tC (iA R (b + 19))) (tF (iA R (b + 19))) (tT (iA R (b + 19))) := h.2.2.2.2.2.2.2.2.2.2.2.1
theorem rl_cre (h : Rel E R b z t hc pk td B f) : k314 (iA R (b + 21)) (z 20) td f := h.2.2.2.2.2.2.2.2.2.2.2.2.1
theorem rl_pap (h : Rel E R b z t hc pk td B f) : k474 (iA R (b + 4)) (z 3) f := h.2.2.2.2.2.2.2.2.2.2.2.2.2.1
theorem rl_mem (h : Rel E R b z t hc pk td B f) : B ≤ 100000 ∧ k634 (iA R (b + 6)) (z 5) B f := h.2.2.2.2.2.2.2.2.2.2.2.2.2.2.1
theorem rl_hea (h : Rel E R b z t hc pk td B f) : k670 (iA R (b + 8)) (z 7) f := h.2.2.2.2.2.2.2.2.2.2.2.2.2.2.2.1
theorem rl_unq (h : Rel E R b z t hc pk td B f) : gUnq (iA R (b + 8)) (z 7) (z 1) hc := h.2.2.2.2.2.2.2.2.2.2.2.2.2.2.2.2.1
theorem rl_was (h : Rel E R b z t hc pk td B f) : gWas (iA R (b + 2)) (iA R (b + 8)) (z 7) (z 1) f := h.2.2.2.2.2.2.2.2.2.2.2.2.2.2.2.2.2.1
theorem rl_tab (h : Rel E R b z t hc pk td B f) : k890 (iA R (b + 10)) f := h.2.2.2.2.2.2.2.2.2.2.2.2.2.2.2.2.2.2.1
theorem rl_txt (h : Rel E R b z t hc pk td B f) : txR R (z 22) t f := h.2.2.2.2.2.2.2.2.2.2.2.2.2.2.2.2.2.2.2
/-- sums over the same rows -/
theorem tt_eq (h : k92 A n f) {c : Int32} : ∀ j, j ≤ n → rfor (ttM f c) 0 j (0, 0) = rfor (ttG A c) 0 j (0, 0) ∧ 0 ≤ (rfor (ttG A c) 0 j (0, 0)).1
  | 0, _ => ⟨rfl, show (0 : Int32) ≤ 0 by decide⟩
  | j + 1, hj => by
    obtain ⟨e1, e2⟩ := tt_eq h j (by omega)
    obtain ⟨e3, e4⟩ := h j (by omega)
    have a0 : f (92 + 3 * j) = A (j * 3) := e3 0 (by omega)
    have a1 : f (92 + 3 * j + 1) = A (j * 3 + 1) := e3 1 (by omega)
    have a2 : f (92 + 3 * j + 2) = A (j * 3 + 2) := e3 2 (by omega)
    rw [rfor_last, rfor_last, Nat.zero_add, e1]
    generalize rfor (ttG A c) 0 j (0, 0) = s at e2 ⊢
    obtain ⟨x, y⟩ := s
    simp only at e2
    have q0 : ¬ x < 0 := Int32.not_lt.mpr e2
    rw [ttM, ttG, a0, a1, a2]
    by_cases c1 : A (j * 3) = c
    · rw [if_pos c1, if_pos c1]
      rcases e4 with e | e
      · have n1 : ¬ (0 : Int32) = 1 := by decide
        rw [e, if_pos rfl, if_neg n1, if_neg n1, Int32.add_zero]
        refine ⟨rfl, ?_⟩
        show 0 ≤ (if x < A (j * 3 + 1) then A (j * 3 + 1) else x)
        split
        · rename_i q; exact Int32.le_trans e2 (Int32.le_of_lt q)
        · exact e2
      · have n1 : ¬ (1 : Int32) = 0 := by decide
        rw [e, if_pos rfl, if_neg n1, if_pos rfl]
        simp only [q0, if_false]
        exact ⟨trivial, e2⟩
    · rw [if_neg c1, if_neg c1]
      exact ⟨rfl, e2⟩
theorem tt_sum (h : k92 A n f) {c : Int32} : (rfor (ttM f c) 0 n (0, 0)).1 + (rfor (ttM f c) 0 n (0, 0)).2 = ttSum A c n := by
  rw [(tt_eq h n (Nat.le_refl n)).1, ttSum]
theorem cr_sum (h : k314 A n td f) (ht : td < 2147483647) {c : Int32} {kd : Nat} (hk : kd < 2147483647) : rfor (crM f c (nI kd)) 0 n 0 = crSum A c (nI kd) n := by
  rw [crSum]
  refine rfor_congr n 0 0 fun i s _ hi => ?_
  obtain ⟨a0, a1, a2, a3, -, -, a6⟩ := h i (by omega)
  rw [crM, crG, a0, a1, a2, a3]
  by_cases c1 : A (i * 4) = c
  · rw [if_pos c1, if_pos c1]
    by_cases c2 : A (i * 4 + 2) ≤ nI kd
    · rw [if_neg (Int32.not_lt.mpr c2), if_pos c2]
      rcases a6 with e | ⟨w, hw, e⟩
      · have n1 : ¬ (2147483647 : Int32) ≤ nI kd := nI_ge (b := 2147483647) hk (by decide)
        have g1 : gvM (-1) (nI kd) = 0 := if_pos (by decide)
        rw [e, nvM, if_pos rfl, g1, if_pos rfl, if_neg n1]
      · have q : ¬ nI w = 2147483647 := fun h => by have := (nI_eq (b := 2147483647) (by omega) (by decide)).mp h; omega
        rw [e, nvM, if_neg q, gvM, if_neg (nI_pos (by omega))]
        by_cases c3 : nI w ≤ nI kd
        · rw [if_pos c3, if_neg (Int32.not_lt.mpr c3), if_neg (by decide), Int32.add_zero]
        · rw [if_neg c3, if_pos (Int32.not_le.mp c3), if_pos rfl]
    · rw [if_pos (Int32.not_le.mp c2), if_neg c2, Int32.add_zero]
  · rw [if_neg c1, if_neg c1, Int32.add_zero]
theorem so_eq (h : k670 A n f) {c : Int32} : ∀ m i, i + m ≤ n → (match soM f c i m with | none => -1000000005 | some j => nI j) = shF A c i m
  | 0, _, _ => rfl
  | m + 1, i, hi => by
    have a0 : f (670 + 6 * i) = A (i * 5) := h i (by omega) 0 (by omega)
    have a2 : f (670 + 6 * i + 2) = A (i * 5 + 2) := h i (by omega) 2 (by omega)
    rw [soM, shF, a0, a2]
    by_cases c1 : A (i * 5) = c
    · rw [if_pos c1, if_pos c1]
      by_cases c2 : A (i * 5 + 2) = 0
      · rw [if_pos c2, if_pos c2]
      · rw [if_neg c2, if_neg c2]
        exact so_eq h m (i + 1) (by omega)
    · rw [if_neg c1, if_neg c1]
      exact so_eq h m (i + 1) (by omega)
set_option maxRecDepth 100000 in
theorem bits8 : ∀ m : Nat, m < 256 → rfor (biM (nI m)) 0 16 0 = bcS (nI m) ∧ ∃ r : Nat, r < 9 ∧ bcS (nI m) = nI r := by
  intro m hm
  have key : ∀ m : Fin 256, rfor (biM (nI m.1)) 0 16 0 = bcS (nI m.1) ∧ bcS (nI m.1) = nI (bcS (nI m.1)).toNatClampNeg ∧ (bcS (nI m.1)).toNatClampNeg < 9 := by decide +kernel
  obtain ⟨k1, k2, k3⟩ := key ⟨m, hm⟩
  exact ⟨k1, _, k3, k2⟩
theorem rk_eq (h1 : k20 A n f) (h2 : k890 A2 f) {i w : Nat} (hi : i < n) (hw : w < 3) : ∃ r : Nat, r < 8 ∧ rfor (biM (f (20 + 6 * i + 2))) 0 16 0 - rfor (biM (f (20 + 6 * i + 2))) 0 16 0 / 8 * 8 = nI r ∧ rkM f r w = huS (rwAt 8 3 A2 (bcS (A (i * 6 + 2)) - bcS (A (i * 6 + 2)) / 8 * 8) (nI w)) (rwAt 8 3 A2 (bcS (A (i * 6 + 2)) - bcS (A (i * 6 + 2)) / 8 * 8) 1) := by
  obtain ⟨e1, m, hm, em⟩ := h1 i hi
  obtain ⟨b1, r, hr, b2⟩ := bits8 m hm
  have e2 : f (20 + 6 * i + 2) = nI m := by rw [e1 2 (by omega), em]
  have er : nI r - nI r / 8 * 8 = nI (r % 8) := pk_rem (d := 8) (by omega) (by decide) (by decide)
  refine ⟨r % 8, Nat.mod_lt _ (by decide), by rw [e2, b1, b2, er], ?_⟩
  have h8 : r % 8 < 8 := Nat.mod_lt _ (by decide)
  rw [em, b2, er, rwAt_n h8 hw (by decide), show (1 : Int32) = nI 1 from rfl, rwAt_n h8 (by decide) (by decide), rkM, huS, h2 (r % 8) h8 1 (by decide), h2 (r % 8) h8 w hw, Int32.mul_comm]
end REL
