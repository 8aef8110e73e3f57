/-! a point of a walk, said by the small machine's words -/
/-- what stands fixed in a method's frame -/
def fx (G : mG) (own nm : String) (cc : ByteArray) (nL : Nat) (ret : Option FieldType) (p : Program) (R : Room) (s : State) (m : MethodId) (args : Array Value) (meth : Method) (c : Code) : Prop :=
  p.tables.exec = Jvm.exec ∧ c.code = cc ∧ c.maxLocals = nL ∧ meth.sig.returnType = ret ∧ s.vm.findClass own = some m.cls ∧ (∀ w ∈ mTb, w.before args s = true) ∧ meth.locks = false ∧ gK G s ∧ gx G s s.heap ∧ gB G ≤ s.heap.size ∧ meth.name = nm ∧ R.locals = 64 * R.frames
def mW (G : mG) (nL : Nat) (p : Program) (l : Launch) (e : Env) (R : Room) (s : State) (m : MethodId) (args : Array Value) (below : List Frame) (meth : Method) (c : Code) (Qf : State → Prop) (n0 k0 : Nat) (pc : Nat) (ls : mL) (st : List Value) (H : mH) : Prop :=
  ∀ (Hp : Heap) (locs : List Loc) (lsr : Array Slot) (cells slots : Nat), hw G H Hp → va_S (gAx G) s.heap Hp locs → lr G ls lsr nL → H.1 = n0 + cells → H.2.1 = k0 + slots → W p l e R s m args below meth c Hp locs cells slots Qf (F0 m pc lsr (st.map (gv G)))
/-- which instruction ends a method with which answer -/
def mri (r : Option Value) (ins : Instr) (ret : Option FieldType) : Prop :=
  (r = none ∧ ins = .return_ ∧ ret = none) ∨ (∃ x ty, r = some (.int x) ∧ ins = .ireturn ∧ ret = some ty ∧ narrow ty (.int x) = .int x) ∨ (∃ x, r = some (.long x) ∧ ins = .lreturn ∧ ret = some .long) ∨ (∃ v rt, r = some v ∧ ins = .areturn ∧ ret = some rt ∧ ((∃ n, rt = .object n) ∨ ∃ t, rt = .array t) ∧ (v = .null ∨ ∃ a, v = .ref a))
def mR (G : mG) (cc : ByteArray) (ret : Option FieldType) (p : Program) (l : Launch) (e : Env) (R : Room) (s : State) (m : MethodId) (args : Array Value) (below : List Frame) (meth : Method) (c : Code) (Qf : State → Prop) (n0 k0 : Nat) (r : Option Value) (H : mH) : Prop :=
  ∀ (Hp : Heap) (locs : List Loc) (lsr : Array Slot) (cells slots pc : Nat) (ins : Instr), decode cc pc = .ok (ins, 1) → mri r ins ret → hw G H Hp → va_S (gAx G) s.heap Hp locs → H.1 = n0 + cells → H.2.1 = k0 + slots → W p l e R s m args below meth c Hp locs cells slots Qf (F0 m pc lsr ((r.map (gv G)).toList))
def pcx (G : mG) (as : List Value) (H : mH) : Array Value → State → Prop := fun v U => v = (as.map (gv G)).toArray ∧ hw G H U.heap ∧ gK G U ∧ gx G U U.heap ∧ gB G ≤ U.heap.size
def qcx (G : mG) (r : Option Value) (H : mH) : Array Value → State → Outcome → State → Prop := fun _ st o t => o = .returned (r.map (gv G)) ∧ hw G H t.heap ∧ st.heap.size ≤ t.heap.size ∧ ∀ q : Nat, q < st.heap.size → ¬ gAx G q → t.heap[q]? = st.heap[q]?
def mRm (N d mc ms : Nat) : Room := { frames := (mInf N).2.2.2.2 + 8 * d, cells := mc, slots := ms, locals := 64 * ((mInf N).2.2.2.2 + 8 * d) }
def mWs (N : Nat) : List Cond := .code (mInf N).1 (mInf N).2.1 (mInf N).2.2.1 (mInf N).2.2.2.1 :: mTb
/-- a method of that number meets its contract: from these cells to those -/
def mMet (G : mG) (l : Launch) (N d : Nat) (as : List Value) (H : mH) (r : Option Value) (H' : mH) : Prop :=
  Met l (mInf N).1 (mWs N) (mRm N d (H'.1 - H.1) (H'.2.1 - H.2.1)) (pcx G as H) (qcx G r H') (H'.1 - H.1) (H'.2.1 - H.2.1) (gAx G)
def okF (G : mG) (own nm : String) (cc : ByteArray) (nL : Nat) (ret : Option FieldType) (k : Nat) (pc : Nat) (F : mF) : Prop :=
  ∀ (p : Program) (l : Launch) (e : Env) (R : Room) (s : State) (m : MethodId) (args : Array Value) (below : List Frame) (meth : Method) (c : Code) (Qf : State → Prop) (n0 k0 d : Nat), fx G own nm cc nL ret p R s m args meth c → R.frames = k + 8 * d → ∀ (ls : mL) (st : List Value) (H : mH) (out : mO), F ls st H = some out →
    match out with
    | .inl (n, ls', st', H') => H'.1 ≤ n0 + R.cells → H'.2.1 ≤ k0 + R.slots → mW G nL p l e R s m args below meth c Qf n0 k0 n ls' st' H' → mW G nL p l e R s m args below meth c Qf n0 k0 pc ls st H
    | .inr (.inl r) => mR G cc ret p l e R s m args below meth c Qf n0 k0 r H → mW G nL p l e R s m args below meth c Qf n0 k0 pc ls st H
    | .inr (.inr (N, b, le, rest, n)) => N < 282 ∧ ∃ as : List Value, le = ment (mInf N).2.2.1 as ∧ mwt as ≤ (mInf N).2.2.1 ∧ ∀ (d' : Nat) (r : Option Value) (H' : mH), (b = true → d = d' + 1) → (b = false → d = d') → mMet G l N d' as H r H' → H.1 ≤ H'.1 → H.2.1 ≤ H'.2.1 → H'.1 ≤ n0 + R.cells → H'.2.1 ≤ k0 + R.slots → mW G nL p l e R s m args below meth c Qf n0 k0 n ls (r.toList ++ rest) H' → mW G nL p l e R s m args below meth c Qf n0 k0 pc ls st H
section OK
variable {G : mG} {own nm : String} {cc : ByteArray} {nL k pc : Nat} {ret : Option FieldType}
/-- an instruction that goes on, told by its row -/
theorem okF.nx {F : mF} (h : ∀ (p : Program) (l : Launch) (e : Env) (R : Room) (s : State) (m : MethodId) (args : Array Value) (below : List Frame) (meth : Method) (c : Code) (Qf : State → Prop) (n0 k0 d : Nat), fx G own nm cc nL ret p R s m args meth c → R.frames = k + 8 * d → ∀ (ls : mL) (st : List Value) (H : mH) (out : mO), F ls st H = some out → ∃ (n : Nat) (ls' : mL) (st' : List Value) (H' : mH), out = .inl (n, ls', st', H') ∧ (H'.1 ≤ n0 + R.cells → H'.2.1 ≤ k0 + R.slots → mW G nL p l e R s m args below meth c Qf n0 k0 n ls' st' H' → mW G nL p l e R s m args below meth c Qf n0 k0 pc ls st H)) : okF G own nm cc nL ret k pc F := by
  intro p l e R s m args below meth c Qf n0 k0 d hf hk ls st H out ho
  obtain ⟨n, ls', st', H', rfl, h1⟩ := h p l e R s m args below meth c Qf n0 k0 d hf hk ls st H out ho
  exact h1
theorem ok_bad : okF G own nm cc nL ret k pc o_bad := by
  intro p l e R s m args below meth c Qf n0 k0 d hf hk ls st H out ho
  cases ho
theorem ok_iconst {z : Int} {v : Int32} (hd : decode cc pc = .ok (.iconst z, 1)) (hv : Int32.ofInt z = v) : okF G own nm cc nL ret k pc (o_ci (pc + 1) v) := by
  refine okF.nx fun p l e R s m args below meth c Qf n0 k0 d hf hk ls st H out ho => ?_
  obtain ⟨hx, hb, -⟩ := hf
  cases ho
  refine ⟨_, _, _, _, rfl, fun _ _ kk Hp locs lsr cells slots h1 h2 h3 h4 h5 => ?_⟩
  exact lv_iconst hx hb hd hv (kk Hp locs lsr cells slots h1 h2 h3 h4 h5)
theorem ok_iadd (hd : decode cc pc = .ok (.iadd, 1)) : okF G own nm cc nL ret k pc (o_iadd (pc + 1)) := by
  refine okF.nx fun p l e R s m args below meth c Qf n0 k0 d hf hk ls st H out ho => ?_
  obtain ⟨hx, hb, -⟩ := hf
  unfold o_iadd at ho
  split at ho
  · rename_i y x st
    cases ho
    refine ⟨_, _, _, _, rfl, fun _ _ kk Hp locs lsr cells slots h1 h2 h3 h4 h5 => ?_⟩
    exact lv_iadd hx hb hd (kk Hp locs lsr cells slots h1 h2 h3 h4 h5)
  · cases ho
end OK
