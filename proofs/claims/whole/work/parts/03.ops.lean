/-! the instructions of the small machine, and what a run comes to behind each -/
def mfix : Value → Value
  | .long _ => .retAddr 0
  | .double _ => .retAddr 0
  | v => v
def mst (ls : mL) (i : Nat) (v : Value) : Option mL := if i < ls.length then some ((ls.modify (i - 1) mfix).set i v) else none
def mst2 (ls : mL) (i : Nat) (v : Value) : Option mL := if i + 1 < ls.length then some (((ls.modify (i - 1) mfix).set i v).set (i + 1) (.retAddr 0)) else none
def o_bad : mF := fun _ _ _ => none
def o_ci (n : Nat) (v : Int32) : mF := fun ls st H => some (.inl (n, ls, .int v :: st, H))
def o_cl (n : Nat) (v : Int64) : mF := fun ls st H => some (.inl (n, ls, .long v :: st, H))
def o_nul (n : Nat) : mF := fun ls st H => some (.inl (n, ls, .null :: st, H))
/-- a value that is known ahead: a text's cell, what nobody writes -/
def o_cv (n : Nat) (v : Value) : mF := fun ls st H => some (.inl (n, ls, v :: st, H))
def o_il (n i : Nat) : mF := fun ls st H => match ls[i]? with
  | some (.int x) => some (.inl (n, ls, .int x :: st, H))
  | _ => none
def o_ll (n i : Nat) : mF := fun ls st H => match ls[i]? with
  | some (.long x) => some (.inl (n, ls, .long x :: st, H))
  | _ => none
def o_al (n i : Nat) : mF := fun ls st H => match ls[i]? with
  | some (.ref x) => some (.inl (n, ls, .ref x :: st, H))
  | some .null => some (.inl (n, ls, .null :: st, H))
  | _ => none
def o_is (n i : Nat) : mF := fun ls st H => match st with
  | .int x :: st => match mst ls i (.int x) with
    | some ls => some (.inl (n, ls, st, H))
    | none => none
  | _ => none
def o_ls (n i : Nat) : mF := fun ls st H => match st with
  | .long x :: st => match mst2 ls i (.long x) with
    | some ls => some (.inl (n, ls, st, H))
    | none => none
  | _ => none
def o_as (n i : Nat) : mF := fun ls st H => match st with
  | .ref x :: st => match mst ls i (.ref x) with
    | some ls => some (.inl (n, ls, st, H))
    | none => none
  | .null :: st => match mst ls i .null with
    | some ls => some (.inl (n, ls, st, H))
    | none => none
  | _ => none
def o_inc (n i : Nat) (k : Int32) : mF := fun ls st H => match ls[i]? with
  | some (.int x) => match mst ls i (.int (x + k)) with
    | some ls => some (.inl (n, ls, st, H))
    | none => none
  | _ => none
def o_iadd (n : Nat) : mF := fun ls st H => match st with
  | .int y :: .int x :: st => some (.inl (n, ls, .int (x + y) :: st, H))
  | _ => none
def o_isub (n : Nat) : mF := fun ls st H => match st with
  | .int y :: .int x :: st => some (.inl (n, ls, .int (x - y) :: st, H))
  | _ => none
def o_imul (n : Nat) : mF := fun ls st H => match st with
  | .int y :: .int x :: st => some (.inl (n, ls, .int (x * y) :: st, H))
  | _ => none
def o_iand (n : Nat) : mF := fun ls st H => match st with
  | .int y :: .int x :: st => some (.inl (n, ls, .int (x &&& y) :: st, H))
  | _ => none
def o_ior (n : Nat) : mF := fun ls st H => match st with
  | .int y :: .int x :: st => some (.inl (n, ls, .int (x ||| y) :: st, H))
  | _ => none
def o_ixor (n : Nat) : mF := fun ls st H => match st with
  | .int y :: .int x :: st => some (.inl (n, ls, .int (x ^^^ y) :: st, H))
  | _ => none
def o_ishl (n : Nat) : mF := fun ls st H => match st with
  | .int y :: .int x :: st => some (.inl (n, ls, .int (x <<< (y &&& 31)) :: st, H))
  | _ => none
def o_ishr (n : Nat) : mF := fun ls st H => match st with
  | .int y :: .int x :: st => some (.inl (n, ls, .int (x >>> (y &&& 31)) :: st, H))
  | _ => none
def o_iushr (n : Nat) : mF := fun ls st H => match st with
  | .int y :: .int x :: st => some (.inl (n, ls, .int ((x.toUInt32 >>> (y.toUInt32 &&& Int32.toUInt32 31)).toInt32) :: st, H))
  | _ => none
def o_idiv (n : Nat) : mF := fun ls st H => match st with
  | .int y :: .int x :: st => if y = 0 then none else some (.inl (n, ls, .int (x / y) :: st, H))
  | _ => none
def o_irem (n : Nat) : mF := fun ls st H => match st with
  | .int y :: .int x :: st => if y = 0 then none else some (.inl (n, ls, .int (x - x / y * y) :: st, H))
  | _ => none
def o_ladd (n : Nat) : mF := fun ls st H => match st with
  | .long y :: .long x :: st => some (.inl (n, ls, .long (x + y) :: st, H))
  | _ => none
def o_lsub (n : Nat) : mF := fun ls st H => match st with
  | .long y :: .long x :: st => some (.inl (n, ls, .long (x - y) :: st, H))
  | _ => none
def o_lmul (n : Nat) : mF := fun ls st H => match st with
  | .long y :: .long x :: st => some (.inl (n, ls, .long (x * y) :: st, H))
  | _ => none
def o_lrem (n : Nat) : mF := fun ls st H => match st with
  | .long y :: .long x :: st => if y = 0 then none else some (.inl (n, ls, .long (x - x / y * y) :: st, H))
  | _ => none
def o_lcmp (n : Nat) : mF := fun ls st H => match st with
  | .long y :: .long x :: st => some (.inl (n, ls, .int (lg_cmp x y) :: st, H))
  | _ => none
def o_ineg (n : Nat) : mF := fun ls st H => match st with
  | .int x :: st => some (.inl (n, ls, .int (-x) :: st, H))
  | _ => none
def o_i2b (n : Nat) : mF := fun ls st H => match st with
  | .int x :: st => some (.inl (n, ls, .int (x.toInt8.toInt32) :: st, H))
  | _ => none
def o_i2s (n : Nat) : mF := fun ls st H => match st with
  | .int x :: st => some (.inl (n, ls, .int (x.toInt16.toInt32) :: st, H))
  | _ => none
def o_i2c (n : Nat) : mF := fun ls st H => match st with
  | .int x :: st => some (.inl (n, ls, .int ((x.toUInt32 % 65536).toInt32) :: st, H))
  | _ => none
def o_i2l (n : Nat) : mF := fun ls st H => match st with
  | .int x :: st => some (.inl (n, ls, .long x.toInt64 :: st, H))
  | _ => none
def o_l2i (n : Nat) : mF := fun ls st H => match st with
  | .long x :: st => some (.inl (n, ls, .int x.toInt32 :: st, H))
  | _ => none
def o_dup (n : Nat) : mF := fun ls st H => match st with
  | v :: st => if v.category = 1 then some (.inl (n, ls, v :: v :: st, H)) else none
  | _ => none
def o_pop (n : Nat) : mF := fun ls st H => match st with
  | v :: st => if v.category = 1 then some (.inl (n, ls, st, H)) else none
  | _ => none
def o_dup2 (n : Nat) : mF := fun ls st H => match st with
  | v :: w :: st => if v.category = 1 ∧ w.category = 1 then some (.inl (n, ls, v :: w :: v :: w :: st, H)) else none
  | _ => none
def o_goto (t : Nat) : mF := fun ls st H => some (.inl (t, ls, st, H))
def o_ifeq (n t : Nat) : mF := fun ls st H => match st with
  | .int x :: st => if x = 0 then some (.inl (t, ls, st, H)) else some (.inl (n, ls, st, H))
  | _ => none
def o_ifne (n t : Nat) : mF := fun ls st H => match st with
  | .int x :: st => if x = 0 then some (.inl (n, ls, st, H)) else some (.inl (t, ls, st, H))
  | _ => none
def o_iflt (n t : Nat) : mF := fun ls st H => match st with
  | .int x :: st => if x < 0 then some (.inl (t, ls, st, H)) else some (.inl (n, ls, st, H))
  | _ => none
def o_ifge (n t : Nat) : mF := fun ls st H => match st with
  | .int x :: st => if 0 ≤ x then some (.inl (t, ls, st, H)) else some (.inl (n, ls, st, H))
  | _ => none
def o_ifgt (n t : Nat) : mF := fun ls st H => match st with
  | .int x :: st => if 0 < x then some (.inl (t, ls, st, H)) else some (.inl (n, ls, st, H))
  | _ => none
def o_ifle (n t : Nat) : mF := fun ls st H => match st with
  | .int x :: st => if x ≤ 0 then some (.inl (t, ls, st, H)) else some (.inl (n, ls, st, H))
  | _ => none
def o_iceq (n t : Nat) : mF := fun ls st H => match st with
  | .int y :: .int x :: st => if x = y then some (.inl (t, ls, st, H)) else some (.inl (n, ls, st, H))
  | _ => none
def o_icne (n t : Nat) : mF := fun ls st H => match st with
  | .int y :: .int x :: st => if x = y then some (.inl (n, ls, st, H)) else some (.inl (t, ls, st, H))
  | _ => none
def o_iclt (n t : Nat) : mF := fun ls st H => match st with
  | .int y :: .int x :: st => if x < y then some (.inl (t, ls, st, H)) else some (.inl (n, ls, st, H))
  | _ => none
def o_icge (n t : Nat) : mF := fun ls st H => match st with
  | .int y :: .int x :: st => if y ≤ x then some (.inl (t, ls, st, H)) else some (.inl (n, ls, st, H))
  | _ => none
def o_icgt (n t : Nat) : mF := fun ls st H => match st with
  | .int y :: .int x :: st => if y < x then some (.inl (t, ls, st, H)) else some (.inl (n, ls, st, H))
  | _ => none
def o_icle (n t : Nat) : mF := fun ls st H => match st with
  | .int y :: .int x :: st => if x ≤ y then some (.inl (t, ls, st, H)) else some (.inl (n, ls, st, H))
  | _ => none
def o_ifnull (n t : Nat) : mF := fun ls st H => match st with
  | .null :: st => some (.inl (t, ls, st, H))
  | .ref _ :: st => some (.inl (n, ls, st, H))
  | _ => none
def o_ifnonnull (n t : Nat) : mF := fun ls st H => match st with
  | .null :: st => some (.inl (n, ls, st, H))
  | .ref _ :: st => some (.inl (t, ls, st, H))
  | _ => none
/-- a switch: the first row whose number it is, else the last -/
def mpick (x : Int32) (d : Nat) : List (Int32 × Nat) → Nat
  | [] => d
  | q :: l => if x = q.1 then q.2 else mpick x d l
def o_sw (d : Nat) (l : List (Int32 × Nat)) : mF := fun ls st H => match st with
  | .int x :: st => some (.inl (mpick x d l, ls, st, H))
  | _ => none
def o_vret : mF := fun _ st _ => match st with
  | [] => some (.inr (.inl none))
  | _ => none
def o_iret (ty : FieldType) : mF := fun _ st _ => match st with
  | [.int x] => if narrow ty (.int x) = .int x then some (.inr (.inl (some (.int x)))) else none
  | _ => none
def o_lret : mF := fun _ st _ => match st with
  | [.long x] => some (.inr (.inl (some (.long x))))
  | _ => none
def o_aret : mF := fun _ st _ => match st with
  | [.ref x] => some (.inr (.inl (some (.ref x))))
  | [.null] => some (.inr (.inl (some .null)))
  | _ => none
def mfld (e : va_E) (ci k : Nat) : Option Value := match e with
  | .inr (c, fs) => if c = ci then fs[k]? else none
  | _ => none
def o_gf (n ci k : Nat) : mF := fun ls st H => match st with
  | .ref a :: st => match mfld (H.2.2 a) ci k with
    | some v => some (.inl (n, ls, v :: st, H))
    | none => none
  | _ => none
/-- which values a field of a type takes: 0 an int, 1 a truth, 2 a reference -/
def mfit (t : Nat) (v : Value) : Bool := match t, v with
  | 0, .int _ => true
  | 1, .int x => x == 0 || x == 1
  | 2, .ref _ => true
  | 2, .null => true
  | _, _ => false
def mfset (e : va_E) (ci k : Nat) (v : Value) : Option va_E := match e with
  | .inr (c, fs) => if c = ci ∧ k < fs.length then some (.inr (c, fs.set k v)) else none
  | _ => none
def o_pf (n ci k t : Nat) : mF := fun ls st H => match st with
  | v :: .ref a :: st => match mfset (H.2.2 a) ci k v with
    | some e => if mfit t v = true then some (.inl (n, ls, st, mset H a e)) else none
    | none => none
  | _ => none
def mia (e : va_E) (t u : Nat) (i : Int32) : Option Int32 := match e with
  | .inl (c, len, .inl f) => if (c = t ∨ c = u) ∧ ¬ (i < 0 ∨ len ≤ i.toNatClampNeg) then some (f i.toNatClampNeg) else none
  | _ => none
def o_ial (n : Nat) : mF := fun ls st H => match st with
  | .int i :: .ref a :: st => match mia (H.2.2 a) 0 10 i with
    | some v => some (.inl (n, ls, .int v :: st, H))
    | none => none
  | _ => none
def o_bal (n : Nat) : mF := fun ls st H => match st with
  | .int i :: .ref a :: st => match mia (H.2.2 a) 1 11 i with
    | some v => some (.inl (n, ls, .int v :: st, H))
    | none => none
  | _ => none
def mla (e : va_E) (i : Int32) : Option Int64 := match e with
  | .inl (c, len, .inr (.inl f)) => if c = 2 ∧ ¬ (i < 0 ∨ len ≤ i.toNatClampNeg) then some (f i.toNatClampNeg) else none
  | _ => none
def o_lal (n : Nat) : mF := fun ls st H => match st with
  | .int i :: .ref a :: st => match mla (H.2.2 a) i with
    | some v => some (.inl (n, ls, .long v :: st, H))
    | none => none
  | _ => none
def mqa (e : va_E) (t : Nat) (i : Int32) : Option (Option Nat) := match e with
  | .inl (c, len, .inr (.inr (.inr (.inr f)))) => if c = t ∧ ¬ (i < 0 ∨ len ≤ i.toNatClampNeg) then some (f i.toNatClampNeg) else none
  | _ => none
def o_aal (n t : Nat) : mF := fun ls st H => match st with
  | .int i :: .ref a :: st => match mqa (H.2.2 a) t i with
    | some q => some (.inl (n, ls, va_rf q :: st, H))
    | none => none
  | _ => none
def mis (e : va_E) (t : Nat) (i x : Int32) : Option va_E := match e with
  | .inl (c, len, .inl f) => if c = t ∧ ¬ (i < 0 ∨ len ≤ i.toNatClampNeg) then some (.inl (c, len, .inl (upd f i.toNatClampNeg x))) else none
  | _ => none
def o_ias (n : Nat) : mF := fun ls st H => match st with
  | .int x :: .int i :: .ref a :: st => match mis (H.2.2 a) 0 i x with
    | some e => some (.inl (n, ls, st, mset H a e))
    | none => none
  | _ => none
def o_bas (n : Nat) : mF := fun ls st H => match st with
  | .int x :: .int i :: .ref a :: st => match mis (H.2.2 a) 1 i x.toInt8.toInt32 with
    | some e => some (.inl (n, ls, st, mset H a e))
    | none => none
  | _ => none
def mls (e : va_E) (i : Int32) (x : Int64) : Option va_E := match e with
  | .inl (c, len, .inr (.inl f)) => if c = 2 ∧ ¬ (i < 0 ∨ len ≤ i.toNatClampNeg) then some (.inl (c, len, .inr (.inl (vp_updL f i.toNatClampNeg x)))) else none
  | _ => none
def o_las (n : Nat) : mF := fun ls st H => match st with
  | .long x :: .int i :: .ref a :: st => match mls (H.2.2 a) i x with
    | some e => some (.inl (n, ls, st, mset H a e))
    | none => none
  | _ => none
def mqs (e : va_E) (t : Nat) (i : Int32) (q : Option Nat) : Option va_E := match e with
  | .inl (c, len, .inr (.inr (.inr (.inr f)))) => if c = t ∧ ¬ (i < 0 ∨ len ≤ i.toNatClampNeg) then some (.inl (c, len, .inr (.inr (.inr (.inr (va_up f i.toNatClampNeg q)))))) else none
  | _ => none
/-- whether a cell is an object of a kind -/
def misc (e : va_E) (ci : Nat) : Bool := match e with
  | .inr (c, _) => c == ci
  | _ => false
def o_aas (n t ci : Nat) : mF := fun ls st H => match st with
  | .ref v :: .int i :: .ref a :: st => match mqs (H.2.2 a) t i (some v) with
    | some e => if misc (H.2.2 v) ci = true then some (.inl (n, ls, st, mset H a e)) else none
    | none => none
  | .null :: .int i :: .ref a :: st => match mqs (H.2.2 a) t i none with
    | some e => some (.inl (n, ls, st, mset H a e))
    | none => none
  | _ => none
def mlen (e : va_E) : Option Nat := match e with
  | .inl (_, len, _) => some len
  | _ => none
def o_len (n : Nat) : mF := fun ls st H => match st with
  | .ref a :: st => match mlen (H.2.2 a) with
    | some len => some (.inl (n, ls, .int (nI len) :: st, H))
    | none => none
  | _ => none
def o_new (n ci w : Nat) (fs : List Value) : mF := fun ls st H => if H.1 < 1000000 then some (.inl (n, ls, .ref H.1 :: st, mnew H w (.inr (ci, fs)))) else none
def marr (t len : Nat) : va_E := if t = 2 then .inl (t, len, .inr (.inl (fun _ => 0))) else if 3 ≤ t then .inl (t, len, .inr (.inr (.inr (.inr (fun _ => none))))) else .inl (t, len, .inl (fun _ => 0))
def o_na (n t : Nat) : mF := fun ls st H => match st with
  | .int k :: st => if H.1 < 1000000 ∧ ¬ k < 0 ∧ k.toNatClampNeg ≤ 1000000 then some (.inl (n, ls, .ref H.1 :: st, mnew H k.toNatClampNeg (marr t k.toNatClampNeg))) else none
  | _ => none
def o_oin (n : Nat) : mF := fun ls st H => match st with
  | .ref _ :: st => if mwt st ≤ 8 then some (.inl (n, ls, st, H)) else none
  | _ => none
def mcpi (e1 e2 : va_E) (sp dp k : Int32) : Option va_E := match e1, e2 with
  | .inl (c, n0, .inl f), .inl (c', n1, .inl g) => if c = 0 ∧ c' = 0 ∧ ¬ sp < 0 ∧ ¬ dp < 0 ∧ ¬ k < 0 ∧ sp.toNatClampNeg + k.toNatClampNeg ≤ n0 ∧ dp.toNatClampNeg + k.toNatClampNeg ≤ n1 then some (.inl (c', n1, .inl (va_cpy f g sp.toNatClampNeg dp.toNatClampNeg k.toNatClampNeg))) else none
  | .inl (c, n0, .inr (.inl f)), .inl (c', n1, .inr (.inl g)) => if c = 2 ∧ c' = 2 ∧ ¬ sp < 0 ∧ ¬ dp < 0 ∧ ¬ k < 0 ∧ sp.toNatClampNeg + k.toNatClampNeg ≤ n0 ∧ dp.toNatClampNeg + k.toNatClampNeg ≤ n1 then some (.inl (c', n1, .inr (.inl (va_cpy f g sp.toNatClampNeg dp.toNatClampNeg k.toNatClampNeg)))) else none
  | _, _ => none
def o_cpy (n : Nat) : mF := fun ls st H => match st with
  | .int k :: .int dp :: .ref a :: .int sp :: .ref b :: st => match mcpi (H.2.2 b) (H.2.2 a) sp dp k with
    | some e => if mwt st ≤ 8 then some (.inl (n, ls, st, mset H a e)) else none
    | none => none
  | _ => none
/-- whether the first value is an object of the kind z -/
def mrcv (z : Option Nat) (as : List Value) (H : mH) : Bool := match z with
  | none => true
  | some ci => match as with
    | .ref a :: _ => misc (H.2.2 a) ci
    | _ => false
/-- a call of method N with k values off the stack, the deepest first; z: the kind of the first one, where it is an object that is asked -/
def o_ca (n N k nL : Nat) (b : Bool) (z : Option Nat) : mF := fun ls st H => if k ≤ st.length ∧ mwt (st.drop k) ≤ 8 ∧ mwt (st.take k) ≤ nL ∧ mrcv z (st.take k).reverse H = true then some (.inr (.inr (N, b, ment nL (st.take k).reverse, st.drop k, n))) else none
