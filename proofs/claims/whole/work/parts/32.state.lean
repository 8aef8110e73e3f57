/-! the state as numbers by cells: what each cell holds, and its shape -/
abbrev Cel : Type := (Nat → Int32) × (Nat → Int32) × (Nat → Int64) × (Nat → Option Nat)
abbrev SS : Type := Nat → Cel
/-- cells made, their slots, the script -/
abbrev EE : Type := Nat × Nat × Nat × (Nat → Int32)
abbrev iF (S : SS) (a k : Nat) : Int32 := (S a).1 k
abbrev iA (S : SS) (a : Nat) : Nat → Int32 := (S a).2.1
abbrev iL (S : SS) (a : Nat) : Nat → Int64 := (S a).2.2.1
abbrev iQ (S : SS) (a : Nat) : Nat → Option Nat := (S a).2.2.2
def sF (S : SS) (a k : Nat) (v : Int32) : SS := va_up S a (upd (S a).1 k v, (S a).2)
def sA (S : SS) (a : Nat) (g : Nat → Int32) : SS := va_up S a ((S a).1, g, (S a).2.2)
def sL (S : SS) (a : Nat) (g : Nat → Int64) : SS := va_up S a ((S a).1, (S a).2.1, g, (S a).2.2.2)
def sQ (S : SS) (a : Nat) (g : Nat → Option Nat) : SS := va_up S a ((S a).1, (S a).2.1, (S a).2.2.1, g)
def kval (c : Cel) (z k : Nat) : Value := match z with
  | 0 => .int (c.1 k)
  | 1 => .ref (c.1 k).toNatClampNeg
  | r + 2 => .ref r
/-- an object: its kind, and of each field 0: a number, 1: a text, r + 2: always the cell r -/
def shO (ci : Nat) (ks : List Nat) (c : Cel) : va_E := .inr (ci, ks.zipIdx.map (fun q => kval c q.1 q.2))
def shI (t len : Nat) (c : Cel) : va_E := .inl (t, len, .inl c.2.1)
def shL (len : Nat) (c : Cel) : va_E := .inl (2, len, .inr (.inl c.2.2.1))
def shQ (t len : Nat) (c : Cel) : va_E := .inl (t, len, .inr (.inr (.inr (.inr c.2.2.2))))
/-- rows of ints: how many at most, how wide -/
def shW (lim wid r : Nat) (c : Cel) : va_E := .inr (2, [.int (nI lim), .int (nI wid), .ref r, .int (c.1 3)])
/-- the cells of books that begin at b -/
def shB (b o : Nat) (c : Cel) : va_E := match o with
  | 0 => shO 0 [b + 3, b + 5, b + 7, b + 9, b + 11, b + 13, b + 15, b + 24, 0, 0, 0, 0] c
  | 1 => shW 12 6 (b + 2) c
  | 2 => shI 0 72 c
  | 3 => shW 40 4 (b + 4) c
  | 4 => shI 0 160 c
  | 5 => shW 9 4 (b + 6) c
  | 6 => shI 0 36 c
  | 7 => shW 30 5 (b + 8) c
  | 8 => shI 0 150 c
  | 9 => shW 8 3 (b + 10) c
  | 10 => shI 0 24 c
  | 11 => shW 5 1 (b + 12) c
  | 12 => shI 0 5 c
  | 13 => shO 8 [b + 16, b + 18, b + 20, b + 22] c
  | 14 => shW 24 3 (b + 15) c
  | 15 => shI 0 72 c
  | 16 => shW 30 3 (b + 17) c
  | 17 => shI 0 90 c
  | 18 => shW 20 3 (b + 19) c
  | 19 => shI 0 60 c
  | 20 => shW 40 4 (b + 21) c
  | 21 => shI 0 160 c
  | 22 => shO 1 [b + 25, 0, b + 26] c
  | 23 => shQ 4 16 c
  | 24 => shO 4 [b + 27, 0] c
  | _ => shI 0 96 c
/-- the cells behind the three books, up to the model's last -/
def shR (o : Nat) (c : Cel) : va_E := match o with
  | 0 => shO 5 [82, 0] c
  | 1 => shI 1 96 c
  | 2 => shO 7 [81, 84, 0, 0, 0, 0, 0, 0, 0] c
  | 3 => shI 0 96 c
  | 4 => shQ 3 4 c
  | 5 => shO 3 [87, 0, 0] c
  | 6 => shL 24 c
  | 7 => shO 3 [89, 0, 0] c
  | 8 => shL 24 c
  | 9 => shO 3 [91, 0, 0] c
  | 10 => shL 24 c
  | 11 => shO 3 [93, 0, 0] c
  | 12 => shL 24 c
  | 13 => shI 0 60 c
  | 14 => shO 10 [96, 97, 98, 0, 99, 0, 100, 0, 101, 102, 103, 104, 0, 0, 0, 0, 0, 0, 0, 1, 105, 0, 0, 106, 107, 108, 109, 110] c
  | 15 => shI 0 2578 c
  | 16 => shI 0 2578 c
  | 17 => shI 0 2578 c
  | 18 => shI 0 96 c
  | 19 => shI 0 60 c
  | 20 => shI 0 4 c
  | 21 => shI 0 4 c
  | 22 => shL 96 c
  | 23 => shI 0 102 c
  | 24 => shI 0 100 c
  | 25 => shQ 5 5 c
  | 26 => shQ 5 5 c
  | 27 => shI 0 100 c
  | 28 => shI 0 4 c
  | _ => shL 24 c
/-- texts: an object, then its row -/
def shT (q : Nat) (c : Cel) : va_E := if q % 2 = 1 then shO 6 [0, 0, 0, 0, q + 3] c else shI 0 (c.1 0).toNatClampNeg c
def shp (q : Nat) (c : Cel) : va_E :=
  if q = 0 then shO 9 [3, 29, 55, 0, 81, 83, 85, 94, 0] c
  else if q < 27 then shB 1 (q - 1) c else if q < 53 then shB 27 (q - 27) c else if q < 79 then shB 53 (q - 53) c
  else if q < 109 then shR (q - 79) c else shT q c
def hp (E : EE) (S : SS) (q : Nat) : va_E := if q < E.1 then shp q (S q) else mx E.2.2.1 E.2.2.2 q
def hs (E : EE) (S : SS) : mH := (E.1, E.2.1, hp E S)
def okE (E : EE) : Prop := 109 ≤ E.1 ∧ E.1 ≤ 1000 ∧ E.2.1 ≤ 1000000
def bkb (b : Nat) : Prop := b = 1 ∨ b = 27 ∨ b = 53
theorem hp_lo {E : EE} {S : SS} {q : Nat} (hE : okE E) (hq : q < 109) : hp E S q = shp q (S q) := by rw [hp, if_pos (Nat.lt_of_lt_of_le hq hE.1)]
theorem hp_b {E : EE} {S : SS} {b o : Nat} (hE : okE E) (hb : bkb b) (ho : o < 26) : hp E S (b + o) = shB b o (S (b + o)) := by
  rw [hp_lo hE (by rcases hb with rfl | rfl | rfl <;> omega), shp]
  rcases hb with rfl | rfl | rfl
  · rw [if_neg (by omega), if_pos (by omega), show 1 + o - 1 = o by omega]
  · rw [if_neg (by omega), if_neg (by omega), if_pos (by omega), show 27 + o - 27 = o by omega]
  · rw [if_neg (by omega), if_neg (by omega), if_neg (by omega), if_pos (by omega), show 53 + o - 53 = o by omega]
theorem hs_h {E : EE} {S : SS} : (hs E S).2.2 = hp E S := rfl
/-- a change of one cell, of the same shape -/
theorem hs_set {E : EE} {S : SS} {a : Nat} {c : Cel} {e : va_E} (ha : a < E.1) (he : e = hp E (va_up S a c) a) : mset (hs E S) a e = hs E (va_up S a c) := by
  refine Prod.ext rfl (Prod.ext rfl ?_)
  funext q
  show va_up (hp E S) a e q = hp E (va_up S a c) q
  by_cases hq : q = a
  · subst hq
    rw [va_up, if_pos rfl, he]
  · rw [va_up, if_neg hq, hp, hp, va_up, if_neg hq]
