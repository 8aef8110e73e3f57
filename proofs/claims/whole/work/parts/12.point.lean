/-! a point of a walk, said by the small machine's words -/
/-- what stands fixed in a method's frame -/
def fx (G : mG) (own nm : String) (cc : ByteArray) (nL : Nat) (ret : Option FieldType) (p : Program) (R : Room) (s : State) (m : MethodId) (args : Array Value) (meth : Method) (c : Code) : Prop :=
  p.tables.exec = Jvm.exec ∧ c.code = cc ∧ c.maxLocals = nL ∧ meth.sig.returnType = ret ∧ s.vm.findClass own = some m.cls ∧ (∀ w ∈ mTb, w.before args s = true) ∧ meth.locks = false ∧ gK G s ∧ gx G s s.heap ∧ gB G ≤ s.heap.size ∧ (nm = "<init>" → meth.name = nm) ∧ True
def mW (G : mG) (nL : Nat) (p : Program) (l : Launch) (e : Env) (R : Room) (s : State) (m : MethodId) (args : Array Value) (below : List Frame) (meth : Method) (c : Code) (Qf : State → Prop) (n0 k0 : Nat) (pc : Nat) (ls : mL) (st : List Value) (H : mH) : Prop :=
  ∀ (Hp : Heap) (locs : List Loc) (lsr : Array Slot) (cells slots : Nat), hw G H Hp → va_S (gAx G) s.heap Hp locs → lr G ls lsr nL → H.1 = n0 + cells → H.2.1 = k0 + slots → W p l e R s m args below meth c Hp locs cells slots Qf (F0 m pc lsr (st.map (gv G)))
/-- which instruction ends a method with which answer -/
def mri (r : Option Value) (ins : Instr) (ret : Option FieldType) : Prop :=
  (r = none ∧ ins = .return_ ∧ ret = none) ∨ (∃ x ty, r = some (.int x) ∧ ins = .ireturn ∧ ret = some ty ∧ narrow ty (.int x) = .int x) ∨ (∃ x, r = some (.long x) ∧ ins = .lreturn ∧ ret = some .long) ∨ (∃ v rt, r = some v ∧ ins = .areturn ∧ ret = some rt ∧ ((∃ n, rt = .object n) ∨ ∃ t, rt = .array t) ∧ (v = .null ∨ ∃ a, v = .ref a))
def mR (G : mG) (cc : ByteArray) (ret : Option FieldType) (p : Program) (l : Launch) (e : Env) (R : Room) (s : State) (m : MethodId) (args : Array Value) (below : List Frame) (meth : Method) (c : Code) (Qf : State → Prop) (n0 k0 : Nat) (r : Option Value) (H : mH) : Prop :=
  ∀ (Hp : Heap) (locs : List Loc) (lsr : Array Slot) (cells slots pc : Nat) (ins : Instr), decode cc pc = .ok (ins, 1) → mri r ins ret → hw G H Hp → va_S (gAx G) s.heap Hp locs → H.1 = n0 + cells → H.2.1 = k0 + slots → W p l e R s m args below meth c Hp locs cells slots Qf (F0 m pc lsr ((r.map (gv G)).toList))
def pcx (G : mG) (as : List Value) (H : mH) : Array Value → State → Prop := fun v U => v = (as.map (gv G)).toArray ∧ hw G H U.heap ∧ gK G U ∧ gx G U U.heap ∧ gB G ≤ U.heap.size
def qcx (G : mG) (r : Option Value) (H : mH) : Array Value → State → Outcome → State → Prop := fun _ st o t => o = .returned (r.map (gv G)) ∧ hw G H t.heap ∧ st.heap.size ≤ t.heap.size ∧ ∀ q : Nat, q < st.heap.size → ¬ gAx G q → t.heap[q]? = st.heap[q]?
def mRm (N d mc ms : Nat) : Room := { frames := (mInf N).2.2.2.2 + 8 * d, cells := mc, slots := ms, locals := 64 * ((mInf N).2.2.2.2 + 8 * d) }
def mWs (N : Nat) : List Cond := .code (mInf N).1 (mInf N).2.1 (mInf N).2.2.1 (mInf N).2.2.2.1 :: mTb
/-- a method of that number meets its contract: from these cells to those -/
def mMet (G : mG) (l : Launch) (N d : Nat) (as : List Value) (H : mH) (r : Option Value) (H' : mH) : Prop :=
  Met l (mInf N).1 (mWs N) (mRm N d (H'.1 - H.1) (H'.2.1 - H.2.1)) (pcx G as H) (qcx G r H') (H'.1 - H.1) (H'.2.1 - H.2.1) (gAx G)
def mono (F : mF) : Prop := (∀ (ls : mL) (st : List Value) (H : mH) (n : Nat) (ls' : mL) (st' : List Value) (H' : mH), F ls st H = some (.inl (n, ls', st', H')) → H.1 ≤ H'.1 ∧ H.2.1 ≤ H'.2.1) ∧ ∀ (ls : mL) (st : List Value) (H : mH) (N : Nat) (b : Bool) (le : mL) (rest : List Value) (n : Nat), F ls st H = some (.inr (.inr (N, b, le, rest, n))) → N < 282
theorem mn_bad  : mono o_bad := by
  constructor
  · intro ls st H m ls' st' H' h
    unfold o_bad at h
    repeat' split at h
    all_goals first | (cases h; done) | (cases h; first | exact ⟨Nat.le_refl _, Nat.le_refl _⟩ | exact ⟨Nat.le_succ _, Nat.le_add_right _ _⟩)
  · intro ls st H N b le rest m h
    unfold o_bad at h
    repeat' split at h
    all_goals (cases h; done)
theorem mn_ci {n : Nat} {v : Int32} : mono (o_ci n v) := by
  constructor
  · intro ls st H m ls' st' H' h
    unfold o_ci at h
    repeat' split at h
    all_goals first | (cases h; done) | (cases h; first | exact ⟨Nat.le_refl _, Nat.le_refl _⟩ | exact ⟨Nat.le_succ _, Nat.le_add_right _ _⟩)
  · intro ls st H N b le rest m h
    unfold o_ci at h
    repeat' split at h
    all_goals (cases h; done)
theorem mn_cl {n : Nat} {v : Int64} : mono (o_cl n v) := by
  constructor
  · intro ls st H m ls' st' H' h
    unfold o_cl at h
    repeat' split at h
    all_goals first | (cases h; done) | (cases h; first | exact ⟨Nat.le_refl _, Nat.le_refl _⟩ | exact ⟨Nat.le_succ _, Nat.le_add_right _ _⟩)
  · intro ls st H N b le rest m h
    unfold o_cl at h
    repeat' split at h
    all_goals (cases h; done)
theorem mn_nul {n : Nat} : mono (o_nul n) := by
  constructor
  · intro ls st H m ls' st' H' h
    unfold o_nul at h
    repeat' split at h
    all_goals first | (cases h; done) | (cases h; first | exact ⟨Nat.le_refl _, Nat.le_refl _⟩ | exact ⟨Nat.le_succ _, Nat.le_add_right _ _⟩)
  · intro ls st H N b le rest m h
    unfold o_nul at h
    repeat' split at h
    all_goals (cases h; done)
theorem mn_cv {n : Nat} {v : Value} : mono (o_cv n v) := by
  constructor
  · intro ls st H m ls' st' H' h
    unfold o_cv at h
    repeat' split at h
    all_goals first | (cases h; done) | (cases h; first | exact ⟨Nat.le_refl _, Nat.le_refl _⟩ | exact ⟨Nat.le_succ _, Nat.le_add_right _ _⟩)
  · intro ls st H N b le rest m h
    unfold o_cv at h
    repeat' split at h
    all_goals (cases h; done)
theorem mn_il {n i : Nat} : mono (o_il n i) := by
  constructor
  · intro ls st H m ls' st' H' h
    unfold o_il at h
    repeat' split at h
    all_goals first | (cases h; done) | (cases h; first | exact ⟨Nat.le_refl _, Nat.le_refl _⟩ | exact ⟨Nat.le_succ _, Nat.le_add_right _ _⟩)
  · intro ls st H N b le rest m h
    unfold o_il at h
    repeat' split at h
    all_goals (cases h; done)
theorem mn_ll {n i : Nat} : mono (o_ll n i) := by
  constructor
  · intro ls st H m ls' st' H' h
    unfold o_ll at h
    repeat' split at h
    all_goals first | (cases h; done) | (cases h; first | exact ⟨Nat.le_refl _, Nat.le_refl _⟩ | exact ⟨Nat.le_succ _, Nat.le_add_right _ _⟩)
  · intro ls st H N b le rest m h
    unfold o_ll at h
    repeat' split at h
    all_goals (cases h; done)
theorem mn_al {n i : Nat} : mono (o_al n i) := by
  constructor
  · intro ls st H m ls' st' H' h
    unfold o_al at h
    repeat' split at h
    all_goals first | (cases h; done) | (cases h; first | exact ⟨Nat.le_refl _, Nat.le_refl _⟩ | exact ⟨Nat.le_succ _, Nat.le_add_right _ _⟩)
  · intro ls st H N b le rest m h
    unfold o_al at h
    repeat' split at h
    all_goals (cases h; done)
theorem mn_is {n i : Nat} : mono (o_is n i) := by
  constructor
  · intro ls st H m ls' st' H' h
    unfold o_is at h
    repeat' split at h
    all_goals first | (cases h; done) | (cases h; first | exact ⟨Nat.le_refl _, Nat.le_refl _⟩ | exact ⟨Nat.le_succ _, Nat.le_add_right _ _⟩)
  · intro ls st H N b le rest m h
    unfold o_is at h
    repeat' split at h
    all_goals (cases h; done)
theorem mn_ls {n i : Nat} : mono (o_ls n i) := by
  constructor
  · intro ls st H m ls' st' H' h
    unfold o_ls at h
    repeat' split at h
    all_goals first | (cases h; done) | (cases h; first | exact ⟨Nat.le_refl _, Nat.le_refl _⟩ | exact ⟨Nat.le_succ _, Nat.le_add_right _ _⟩)
  · intro ls st H N b le rest m h
    unfold o_ls at h
    repeat' split at h
    all_goals (cases h; done)
theorem mn_as {n i : Nat} : mono (o_as n i) := by
  constructor
  · intro ls st H m ls' st' H' h
    unfold o_as at h
    repeat' split at h
    all_goals first | (cases h; done) | (cases h; first | exact ⟨Nat.le_refl _, Nat.le_refl _⟩ | exact ⟨Nat.le_succ _, Nat.le_add_right _ _⟩)
  · intro ls st H N b le rest m h
    unfold o_as at h
    repeat' split at h
    all_goals (cases h; done)
theorem mn_inc {n i : Nat} {k : Int32} : mono (o_inc n i k) := by
  constructor
  · intro ls st H m ls' st' H' h
    unfold o_inc at h
    repeat' split at h
    all_goals first | (cases h; done) | (cases h; first | exact ⟨Nat.le_refl _, Nat.le_refl _⟩ | exact ⟨Nat.le_succ _, Nat.le_add_right _ _⟩)
  · intro ls st H N b le rest m h
    unfold o_inc at h
    repeat' split at h
    all_goals (cases h; done)
theorem mn_iadd {n : Nat} : mono (o_iadd n) := by
  constructor
  · intro ls st H m ls' st' H' h
    unfold o_iadd at h
    repeat' split at h
    all_goals first | (cases h; done) | (cases h; first | exact ⟨Nat.le_refl _, Nat.le_refl _⟩ | exact ⟨Nat.le_succ _, Nat.le_add_right _ _⟩)
  · intro ls st H N b le rest m h
    unfold o_iadd at h
    repeat' split at h
    all_goals (cases h; done)
theorem mn_isub {n : Nat} : mono (o_isub n) := by
  constructor
  · intro ls st H m ls' st' H' h
    unfold o_isub at h
    repeat' split at h
    all_goals first | (cases h; done) | (cases h; first | exact ⟨Nat.le_refl _, Nat.le_refl _⟩ | exact ⟨Nat.le_succ _, Nat.le_add_right _ _⟩)
  · intro ls st H N b le rest m h
    unfold o_isub at h
    repeat' split at h
    all_goals (cases h; done)
theorem mn_imul {n : Nat} : mono (o_imul n) := by
  constructor
  · intro ls st H m ls' st' H' h
    unfold o_imul at h
    repeat' split at h
    all_goals first | (cases h; done) | (cases h; first | exact ⟨Nat.le_refl _, Nat.le_refl _⟩ | exact ⟨Nat.le_succ _, Nat.le_add_right _ _⟩)
  · intro ls st H N b le rest m h
    unfold o_imul at h
    repeat' split at h
    all_goals (cases h; done)
theorem mn_iand {n : Nat} : mono (o_iand n) := by
  constructor
  · intro ls st H m ls' st' H' h
    unfold o_iand at h
    repeat' split at h
    all_goals first | (cases h; done) | (cases h; first | exact ⟨Nat.le_refl _, Nat.le_refl _⟩ | exact ⟨Nat.le_succ _, Nat.le_add_right _ _⟩)
  · intro ls st H N b le rest m h
    unfold o_iand at h
    repeat' split at h
    all_goals (cases h; done)
theorem mn_ior {n : Nat} : mono (o_ior n) := by
  constructor
  · intro ls st H m ls' st' H' h
    unfold o_ior at h
    repeat' split at h
    all_goals first | (cases h; done) | (cases h; first | exact ⟨Nat.le_refl _, Nat.le_refl _⟩ | exact ⟨Nat.le_succ _, Nat.le_add_right _ _⟩)
  · intro ls st H N b le rest m h
    unfold o_ior at h
    repeat' split at h
    all_goals (cases h; done)
theorem mn_ixor {n : Nat} : mono (o_ixor n) := by
  constructor
  · intro ls st H m ls' st' H' h
    unfold o_ixor at h
    repeat' split at h
    all_goals first | (cases h; done) | (cases h; first | exact ⟨Nat.le_refl _, Nat.le_refl _⟩ | exact ⟨Nat.le_succ _, Nat.le_add_right _ _⟩)
  · intro ls st H N b le rest m h
    unfold o_ixor at h
    repeat' split at h
    all_goals (cases h; done)
theorem mn_ishl {n : Nat} : mono (o_ishl n) := by
  constructor
  · intro ls st H m ls' st' H' h
    unfold o_ishl at h
    repeat' split at h
    all_goals first | (cases h; done) | (cases h; first | exact ⟨Nat.le_refl _, Nat.le_refl _⟩ | exact ⟨Nat.le_succ _, Nat.le_add_right _ _⟩)
  · intro ls st H N b le rest m h
    unfold o_ishl at h
    repeat' split at h
    all_goals (cases h; done)
theorem mn_ishr {n : Nat} : mono (o_ishr n) := by
  constructor
  · intro ls st H m ls' st' H' h
    unfold o_ishr at h
    repeat' split at h
    all_goals first | (cases h; done) | (cases h; first | exact ⟨Nat.le_refl _, Nat.le_refl _⟩ | exact ⟨Nat.le_succ _, Nat.le_add_right _ _⟩)
  · intro ls st H N b le rest m h
    unfold o_ishr at h
    repeat' split at h
    all_goals (cases h; done)
theorem mn_iushr {n : Nat} : mono (o_iushr n) := by
  constructor
  · intro ls st H m ls' st' H' h
    unfold o_iushr at h
    repeat' split at h
    all_goals first | (cases h; done) | (cases h; first | exact ⟨Nat.le_refl _, Nat.le_refl _⟩ | exact ⟨Nat.le_succ _, Nat.le_add_right _ _⟩)
  · intro ls st H N b le rest m h
    unfold o_iushr at h
    repeat' split at h
    all_goals (cases h; done)
theorem mn_idiv {n : Nat} : mono (o_idiv n) := by
  constructor
  · intro ls st H m ls' st' H' h
    unfold o_idiv at h
    repeat' split at h
    all_goals first | (cases h; done) | (cases h; first | exact ⟨Nat.le_refl _, Nat.le_refl _⟩ | exact ⟨Nat.le_succ _, Nat.le_add_right _ _⟩)
  · intro ls st H N b le rest m h
    unfold o_idiv at h
    repeat' split at h
    all_goals (cases h; done)
theorem mn_irem {n : Nat} : mono (o_irem n) := by
  constructor
  · intro ls st H m ls' st' H' h
    unfold o_irem at h
    repeat' split at h
    all_goals first | (cases h; done) | (cases h; first | exact ⟨Nat.le_refl _, Nat.le_refl _⟩ | exact ⟨Nat.le_succ _, Nat.le_add_right _ _⟩)
  · intro ls st H N b le rest m h
    unfold o_irem at h
    repeat' split at h
    all_goals (cases h; done)
theorem mn_ladd {n : Nat} : mono (o_ladd n) := by
  constructor
  · intro ls st H m ls' st' H' h
    unfold o_ladd at h
    repeat' split at h
    all_goals first | (cases h; done) | (cases h; first | exact ⟨Nat.le_refl _, Nat.le_refl _⟩ | exact ⟨Nat.le_succ _, Nat.le_add_right _ _⟩)
  · intro ls st H N b le rest m h
    unfold o_ladd at h
    repeat' split at h
    all_goals (cases h; done)
theorem mn_lsub {n : Nat} : mono (o_lsub n) := by
  constructor
  · intro ls st H m ls' st' H' h
    unfold o_lsub at h
    repeat' split at h
    all_goals first | (cases h; done) | (cases h; first | exact ⟨Nat.le_refl _, Nat.le_refl _⟩ | exact ⟨Nat.le_succ _, Nat.le_add_right _ _⟩)
  · intro ls st H N b le rest m h
    unfold o_lsub at h
    repeat' split at h
    all_goals (cases h; done)
theorem mn_lmul {n : Nat} : mono (o_lmul n) := by
  constructor
  · intro ls st H m ls' st' H' h
    unfold o_lmul at h
    repeat' split at h
    all_goals first | (cases h; done) | (cases h; first | exact ⟨Nat.le_refl _, Nat.le_refl _⟩ | exact ⟨Nat.le_succ _, Nat.le_add_right _ _⟩)
  · intro ls st H N b le rest m h
    unfold o_lmul at h
    repeat' split at h
    all_goals (cases h; done)
theorem mn_lrem {n : Nat} : mono (o_lrem n) := by
  constructor
  · intro ls st H m ls' st' H' h
    unfold o_lrem at h
    repeat' split at h
    all_goals first | (cases h; done) | (cases h; first | exact ⟨Nat.le_refl _, Nat.le_refl _⟩ | exact ⟨Nat.le_succ _, Nat.le_add_right _ _⟩)
  · intro ls st H N b le rest m h
    unfold o_lrem at h
    repeat' split at h
    all_goals (cases h; done)
theorem mn_lcmp {n : Nat} : mono (o_lcmp n) := by
  constructor
  · intro ls st H m ls' st' H' h
    unfold o_lcmp at h
    repeat' split at h
    all_goals first | (cases h; done) | (cases h; first | exact ⟨Nat.le_refl _, Nat.le_refl _⟩ | exact ⟨Nat.le_succ _, Nat.le_add_right _ _⟩)
  · intro ls st H N b le rest m h
    unfold o_lcmp at h
    repeat' split at h
    all_goals (cases h; done)
theorem mn_ineg {n : Nat} : mono (o_ineg n) := by
  constructor
  · intro ls st H m ls' st' H' h
    unfold o_ineg at h
    repeat' split at h
    all_goals first | (cases h; done) | (cases h; first | exact ⟨Nat.le_refl _, Nat.le_refl _⟩ | exact ⟨Nat.le_succ _, Nat.le_add_right _ _⟩)
  · intro ls st H N b le rest m h
    unfold o_ineg at h
    repeat' split at h
    all_goals (cases h; done)
theorem mn_i2b {n : Nat} : mono (o_i2b n) := by
  constructor
  · intro ls st H m ls' st' H' h
    unfold o_i2b at h
    repeat' split at h
    all_goals first | (cases h; done) | (cases h; first | exact ⟨Nat.le_refl _, Nat.le_refl _⟩ | exact ⟨Nat.le_succ _, Nat.le_add_right _ _⟩)
  · intro ls st H N b le rest m h
    unfold o_i2b at h
    repeat' split at h
    all_goals (cases h; done)
theorem mn_i2s {n : Nat} : mono (o_i2s n) := by
  constructor
  · intro ls st H m ls' st' H' h
    unfold o_i2s at h
    repeat' split at h
    all_goals first | (cases h; done) | (cases h; first | exact ⟨Nat.le_refl _, Nat.le_refl _⟩ | exact ⟨Nat.le_succ _, Nat.le_add_right _ _⟩)
  · intro ls st H N b le rest m h
    unfold o_i2s at h
    repeat' split at h
    all_goals (cases h; done)
theorem mn_i2c {n : Nat} : mono (o_i2c n) := by
  constructor
  · intro ls st H m ls' st' H' h
    unfold o_i2c at h
    repeat' split at h
    all_goals first | (cases h; done) | (cases h; first | exact ⟨Nat.le_refl _, Nat.le_refl _⟩ | exact ⟨Nat.le_succ _, Nat.le_add_right _ _⟩)
  · intro ls st H N b le rest m h
    unfold o_i2c at h
    repeat' split at h
    all_goals (cases h; done)
theorem mn_i2l {n : Nat} : mono (o_i2l n) := by
  constructor
  · intro ls st H m ls' st' H' h
    unfold o_i2l at h
    repeat' split at h
    all_goals first | (cases h; done) | (cases h; first | exact ⟨Nat.le_refl _, Nat.le_refl _⟩ | exact ⟨Nat.le_succ _, Nat.le_add_right _ _⟩)
  · intro ls st H N b le rest m h
    unfold o_i2l at h
    repeat' split at h
    all_goals (cases h; done)
theorem mn_l2i {n : Nat} : mono (o_l2i n) := by
  constructor
  · intro ls st H m ls' st' H' h
    unfold o_l2i at h
    repeat' split at h
    all_goals first | (cases h; done) | (cases h; first | exact ⟨Nat.le_refl _, Nat.le_refl _⟩ | exact ⟨Nat.le_succ _, Nat.le_add_right _ _⟩)
  · intro ls st H N b le rest m h
    unfold o_l2i at h
    repeat' split at h
    all_goals (cases h; done)
theorem mn_dup {n : Nat} : mono (o_dup n) := by
  constructor
  · intro ls st H m ls' st' H' h
    unfold o_dup at h
    repeat' split at h
    all_goals first | (cases h; done) | (cases h; first | exact ⟨Nat.le_refl _, Nat.le_refl _⟩ | exact ⟨Nat.le_succ _, Nat.le_add_right _ _⟩)
  · intro ls st H N b le rest m h
    unfold o_dup at h
    repeat' split at h
    all_goals (cases h; done)
theorem mn_pop {n : Nat} : mono (o_pop n) := by
  constructor
  · intro ls st H m ls' st' H' h
    unfold o_pop at h
    repeat' split at h
    all_goals first | (cases h; done) | (cases h; first | exact ⟨Nat.le_refl _, Nat.le_refl _⟩ | exact ⟨Nat.le_succ _, Nat.le_add_right _ _⟩)
  · intro ls st H N b le rest m h
    unfold o_pop at h
    repeat' split at h
    all_goals (cases h; done)
theorem mn_dup2 {n : Nat} : mono (o_dup2 n) := by
  constructor
  · intro ls st H m ls' st' H' h
    unfold o_dup2 at h
    repeat' split at h
    all_goals first | (cases h; done) | (cases h; first | exact ⟨Nat.le_refl _, Nat.le_refl _⟩ | exact ⟨Nat.le_succ _, Nat.le_add_right _ _⟩)
  · intro ls st H N b le rest m h
    unfold o_dup2 at h
    repeat' split at h
    all_goals (cases h; done)
theorem mn_goto {t : Nat} : mono (o_goto t) := by
  constructor
  · intro ls st H m ls' st' H' h
    unfold o_goto at h
    repeat' split at h
    all_goals first | (cases h; done) | (cases h; first | exact ⟨Nat.le_refl _, Nat.le_refl _⟩ | exact ⟨Nat.le_succ _, Nat.le_add_right _ _⟩)
  · intro ls st H N b le rest m h
    unfold o_goto at h
    repeat' split at h
    all_goals (cases h; done)
theorem mn_ifeq {n t : Nat} : mono (o_ifeq n t) := by
  constructor
  · intro ls st H m ls' st' H' h
    unfold o_ifeq at h
    repeat' split at h
    all_goals first | (cases h; done) | (cases h; first | exact ⟨Nat.le_refl _, Nat.le_refl _⟩ | exact ⟨Nat.le_succ _, Nat.le_add_right _ _⟩)
  · intro ls st H N b le rest m h
    unfold o_ifeq at h
    repeat' split at h
    all_goals (cases h; done)
theorem mn_ifne {n t : Nat} : mono (o_ifne n t) := by
  constructor
  · intro ls st H m ls' st' H' h
    unfold o_ifne at h
    repeat' split at h
    all_goals first | (cases h; done) | (cases h; first | exact ⟨Nat.le_refl _, Nat.le_refl _⟩ | exact ⟨Nat.le_succ _, Nat.le_add_right _ _⟩)
  · intro ls st H N b le rest m h
    unfold o_ifne at h
    repeat' split at h
    all_goals (cases h; done)
theorem mn_iflt {n t : Nat} : mono (o_iflt n t) := by
  constructor
  · intro ls st H m ls' st' H' h
    unfold o_iflt at h
    repeat' split at h
    all_goals first | (cases h; done) | (cases h; first | exact ⟨Nat.le_refl _, Nat.le_refl _⟩ | exact ⟨Nat.le_succ _, Nat.le_add_right _ _⟩)
  · intro ls st H N b le rest m h
    unfold o_iflt at h
    repeat' split at h
    all_goals (cases h; done)
theorem mn_ifge {n t : Nat} : mono (o_ifge n t) := by
  constructor
  · intro ls st H m ls' st' H' h
    unfold o_ifge at h
    repeat' split at h
    all_goals first | (cases h; done) | (cases h; first | exact ⟨Nat.le_refl _, Nat.le_refl _⟩ | exact ⟨Nat.le_succ _, Nat.le_add_right _ _⟩)
  · intro ls st H N b le rest m h
    unfold o_ifge at h
    repeat' split at h
    all_goals (cases h; done)
theorem mn_ifgt {n t : Nat} : mono (o_ifgt n t) := by
  constructor
  · intro ls st H m ls' st' H' h
    unfold o_ifgt at h
    repeat' split at h
    all_goals first | (cases h; done) | (cases h; first | exact ⟨Nat.le_refl _, Nat.le_refl _⟩ | exact ⟨Nat.le_succ _, Nat.le_add_right _ _⟩)
  · intro ls st H N b le rest m h
    unfold o_ifgt at h
    repeat' split at h
    all_goals (cases h; done)
theorem mn_ifle {n t : Nat} : mono (o_ifle n t) := by
  constructor
  · intro ls st H m ls' st' H' h
    unfold o_ifle at h
    repeat' split at h
    all_goals first | (cases h; done) | (cases h; first | exact ⟨Nat.le_refl _, Nat.le_refl _⟩ | exact ⟨Nat.le_succ _, Nat.le_add_right _ _⟩)
  · intro ls st H N b le rest m h
    unfold o_ifle at h
    repeat' split at h
    all_goals (cases h; done)
theorem mn_iceq {n t : Nat} : mono (o_iceq n t) := by
  constructor
  · intro ls st H m ls' st' H' h
    unfold o_iceq at h
    repeat' split at h
    all_goals first | (cases h; done) | (cases h; first | exact ⟨Nat.le_refl _, Nat.le_refl _⟩ | exact ⟨Nat.le_succ _, Nat.le_add_right _ _⟩)
  · intro ls st H N b le rest m h
    unfold o_iceq at h
    repeat' split at h
    all_goals (cases h; done)
theorem mn_icne {n t : Nat} : mono (o_icne n t) := by
  constructor
  · intro ls st H m ls' st' H' h
    unfold o_icne at h
    repeat' split at h
    all_goals first | (cases h; done) | (cases h; first | exact ⟨Nat.le_refl _, Nat.le_refl _⟩ | exact ⟨Nat.le_succ _, Nat.le_add_right _ _⟩)
  · intro ls st H N b le rest m h
    unfold o_icne at h
    repeat' split at h
    all_goals (cases h; done)
theorem mn_iclt {n t : Nat} : mono (o_iclt n t) := by
  constructor
  · intro ls st H m ls' st' H' h
    unfold o_iclt at h
    repeat' split at h
    all_goals first | (cases h; done) | (cases h; first | exact ⟨Nat.le_refl _, Nat.le_refl _⟩ | exact ⟨Nat.le_succ _, Nat.le_add_right _ _⟩)
  · intro ls st H N b le rest m h
    unfold o_iclt at h
    repeat' split at h
    all_goals (cases h; done)
theorem mn_icge {n t : Nat} : mono (o_icge n t) := by
  constructor
  · intro ls st H m ls' st' H' h
    unfold o_icge at h
    repeat' split at h
    all_goals first | (cases h; done) | (cases h; first | exact ⟨Nat.le_refl _, Nat.le_refl _⟩ | exact ⟨Nat.le_succ _, Nat.le_add_right _ _⟩)
  · intro ls st H N b le rest m h
    unfold o_icge at h
    repeat' split at h
    all_goals (cases h; done)
theorem mn_icgt {n t : Nat} : mono (o_icgt n t) := by
  constructor
  · intro ls st H m ls' st' H' h
    unfold o_icgt at h
    repeat' split at h
    all_goals first | (cases h; done) | (cases h; first | exact ⟨Nat.le_refl _, Nat.le_refl _⟩ | exact ⟨Nat.le_succ _, Nat.le_add_right _ _⟩)
  · intro ls st H N b le rest m h
    unfold o_icgt at h
    repeat' split at h
    all_goals (cases h; done)
theorem mn_icle {n t : Nat} : mono (o_icle n t) := by
  constructor
  · intro ls st H m ls' st' H' h
    unfold o_icle at h
    repeat' split at h
    all_goals first | (cases h; done) | (cases h; first | exact ⟨Nat.le_refl _, Nat.le_refl _⟩ | exact ⟨Nat.le_succ _, Nat.le_add_right _ _⟩)
  · intro ls st H N b le rest m h
    unfold o_icle at h
    repeat' split at h
    all_goals (cases h; done)
theorem mn_ifnull {n t : Nat} : mono (o_ifnull n t) := by
  constructor
  · intro ls st H m ls' st' H' h
    unfold o_ifnull at h
    repeat' split at h
    all_goals first | (cases h; done) | (cases h; first | exact ⟨Nat.le_refl _, Nat.le_refl _⟩ | exact ⟨Nat.le_succ _, Nat.le_add_right _ _⟩)
  · intro ls st H N b le rest m h
    unfold o_ifnull at h
    repeat' split at h
    all_goals (cases h; done)
theorem mn_ifnonnull {n t : Nat} : mono (o_ifnonnull n t) := by
  constructor
  · intro ls st H m ls' st' H' h
    unfold o_ifnonnull at h
    repeat' split at h
    all_goals first | (cases h; done) | (cases h; first | exact ⟨Nat.le_refl _, Nat.le_refl _⟩ | exact ⟨Nat.le_succ _, Nat.le_add_right _ _⟩)
  · intro ls st H N b le rest m h
    unfold o_ifnonnull at h
    repeat' split at h
    all_goals (cases h; done)
theorem mn_sw {d : Nat} {l : List (Int32 × Nat)} : mono (o_sw d l) := by
  constructor
  · intro ls st H m ls' st' H' h
    unfold o_sw at h
    repeat' split at h
    all_goals first | (cases h; done) | (cases h; first | exact ⟨Nat.le_refl _, Nat.le_refl _⟩ | exact ⟨Nat.le_succ _, Nat.le_add_right _ _⟩)
  · intro ls st H N b le rest m h
    unfold o_sw at h
    repeat' split at h
    all_goals (cases h; done)
theorem mn_vret  : mono o_vret := by
  constructor
  · intro ls st H m ls' st' H' h
    unfold o_vret at h
    repeat' split at h
    all_goals first | (cases h; done) | (cases h; first | exact ⟨Nat.le_refl _, Nat.le_refl _⟩ | exact ⟨Nat.le_succ _, Nat.le_add_right _ _⟩)
  · intro ls st H N b le rest m h
    unfold o_vret at h
    repeat' split at h
    all_goals (cases h; done)
theorem mn_iret {ty : FieldType} : mono (o_iret ty) := by
  constructor
  · intro ls st H m ls' st' H' h
    unfold o_iret at h
    repeat' split at h
    all_goals first | (cases h; done) | (cases h; first | exact ⟨Nat.le_refl _, Nat.le_refl _⟩ | exact ⟨Nat.le_succ _, Nat.le_add_right _ _⟩)
  · intro ls st H N b le rest m h
    unfold o_iret at h
    repeat' split at h
    all_goals (cases h; done)
theorem mn_lret  : mono o_lret := by
  constructor
  · intro ls st H m ls' st' H' h
    unfold o_lret at h
    repeat' split at h
    all_goals first | (cases h; done) | (cases h; first | exact ⟨Nat.le_refl _, Nat.le_refl _⟩ | exact ⟨Nat.le_succ _, Nat.le_add_right _ _⟩)
  · intro ls st H N b le rest m h
    unfold o_lret at h
    repeat' split at h
    all_goals (cases h; done)
theorem mn_aret  : mono o_aret := by
  constructor
  · intro ls st H m ls' st' H' h
    unfold o_aret at h
    repeat' split at h
    all_goals first | (cases h; done) | (cases h; first | exact ⟨Nat.le_refl _, Nat.le_refl _⟩ | exact ⟨Nat.le_succ _, Nat.le_add_right _ _⟩)
  · intro ls st H N b le rest m h
    unfold o_aret at h
    repeat' split at h
    all_goals (cases h; done)
theorem mn_gf {n ci k : Nat} : mono (o_gf n ci k) := by
  constructor
  · intro ls st H m ls' st' H' h
    unfold o_gf at h
    repeat' split at h
    all_goals first | (cases h; done) | (cases h; first | exact ⟨Nat.le_refl _, Nat.le_refl _⟩ | exact ⟨Nat.le_succ _, Nat.le_add_right _ _⟩)
  · intro ls st H N b le rest m h
    unfold o_gf at h
    repeat' split at h
    all_goals (cases h; done)
theorem mn_pf {n ci k t : Nat} : mono (o_pf n ci k t) := by
  constructor
  · intro ls st H m ls' st' H' h
    unfold o_pf at h
    repeat' split at h
    all_goals first | (cases h; done) | (cases h; first | exact ⟨Nat.le_refl _, Nat.le_refl _⟩ | exact ⟨Nat.le_succ _, Nat.le_add_right _ _⟩)
  · intro ls st H N b le rest m h
    unfold o_pf at h
    repeat' split at h
    all_goals (cases h; done)
theorem mn_ial {n : Nat} : mono (o_ial n) := by
  constructor
  · intro ls st H m ls' st' H' h
    unfold o_ial at h
    repeat' split at h
    all_goals first | (cases h; done) | (cases h; first | exact ⟨Nat.le_refl _, Nat.le_refl _⟩ | exact ⟨Nat.le_succ _, Nat.le_add_right _ _⟩)
  · intro ls st H N b le rest m h
    unfold o_ial at h
    repeat' split at h
    all_goals (cases h; done)
theorem mn_bal {n : Nat} : mono (o_bal n) := by
  constructor
  · intro ls st H m ls' st' H' h
    unfold o_bal at h
    repeat' split at h
    all_goals first | (cases h; done) | (cases h; first | exact ⟨Nat.le_refl _, Nat.le_refl _⟩ | exact ⟨Nat.le_succ _, Nat.le_add_right _ _⟩)
  · intro ls st H N b le rest m h
    unfold o_bal at h
    repeat' split at h
    all_goals (cases h; done)
theorem mn_lal {n : Nat} : mono (o_lal n) := by
  constructor
  · intro ls st H m ls' st' H' h
    unfold o_lal at h
    repeat' split at h
    all_goals first | (cases h; done) | (cases h; first | exact ⟨Nat.le_refl _, Nat.le_refl _⟩ | exact ⟨Nat.le_succ _, Nat.le_add_right _ _⟩)
  · intro ls st H N b le rest m h
    unfold o_lal at h
    repeat' split at h
    all_goals (cases h; done)
theorem mn_aal {n t : Nat} : mono (o_aal n t) := by
  constructor
  · intro ls st H m ls' st' H' h
    unfold o_aal at h
    repeat' split at h
    all_goals first | (cases h; done) | (cases h; first | exact ⟨Nat.le_refl _, Nat.le_refl _⟩ | exact ⟨Nat.le_succ _, Nat.le_add_right _ _⟩)
  · intro ls st H N b le rest m h
    unfold o_aal at h
    repeat' split at h
    all_goals (cases h; done)
theorem mn_ias {n : Nat} : mono (o_ias n) := by
  constructor
  · intro ls st H m ls' st' H' h
    unfold o_ias at h
    repeat' split at h
    all_goals first | (cases h; done) | (cases h; first | exact ⟨Nat.le_refl _, Nat.le_refl _⟩ | exact ⟨Nat.le_succ _, Nat.le_add_right _ _⟩)
  · intro ls st H N b le rest m h
    unfold o_ias at h
    repeat' split at h
    all_goals (cases h; done)
theorem mn_bas {n : Nat} : mono (o_bas n) := by
  constructor
  · intro ls st H m ls' st' H' h
    unfold o_bas at h
    repeat' split at h
    all_goals first | (cases h; done) | (cases h; first | exact ⟨Nat.le_refl _, Nat.le_refl _⟩ | exact ⟨Nat.le_succ _, Nat.le_add_right _ _⟩)
  · intro ls st H N b le rest m h
    unfold o_bas at h
    repeat' split at h
    all_goals (cases h; done)
theorem mn_las {n : Nat} : mono (o_las n) := by
  constructor
  · intro ls st H m ls' st' H' h
    unfold o_las at h
    repeat' split at h
    all_goals first | (cases h; done) | (cases h; first | exact ⟨Nat.le_refl _, Nat.le_refl _⟩ | exact ⟨Nat.le_succ _, Nat.le_add_right _ _⟩)
  · intro ls st H N b le rest m h
    unfold o_las at h
    repeat' split at h
    all_goals (cases h; done)
theorem mn_aas {n t ci : Nat} : mono (o_aas n t ci) := by
  constructor
  · intro ls st H m ls' st' H' h
    unfold o_aas at h
    repeat' split at h
    all_goals first | (cases h; done) | (cases h; first | exact ⟨Nat.le_refl _, Nat.le_refl _⟩ | exact ⟨Nat.le_succ _, Nat.le_add_right _ _⟩)
  · intro ls st H N b le rest m h
    unfold o_aas at h
    repeat' split at h
    all_goals (cases h; done)
theorem mn_len {n : Nat} : mono (o_len n) := by
  constructor
  · intro ls st H m ls' st' H' h
    unfold o_len at h
    repeat' split at h
    all_goals first | (cases h; done) | (cases h; first | exact ⟨Nat.le_refl _, Nat.le_refl _⟩ | exact ⟨Nat.le_succ _, Nat.le_add_right _ _⟩)
  · intro ls st H N b le rest m h
    unfold o_len at h
    repeat' split at h
    all_goals (cases h; done)
theorem mn_new {n ci w : Nat} {fs : List Value} : mono (o_new n ci w fs) := by
  constructor
  · intro ls st H m ls' st' H' h
    unfold o_new at h
    repeat' split at h
    all_goals first | (cases h; done) | (cases h; first | exact ⟨Nat.le_refl _, Nat.le_refl _⟩ | exact ⟨Nat.le_succ _, Nat.le_add_right _ _⟩)
  · intro ls st H N b le rest m h
    unfold o_new at h
    repeat' split at h
    all_goals (cases h; done)
theorem mn_na {n t : Nat} : mono (o_na n t) := by
  constructor
  · intro ls st H m ls' st' H' h
    unfold o_na at h
    repeat' split at h
    all_goals first | (cases h; done) | (cases h; first | exact ⟨Nat.le_refl _, Nat.le_refl _⟩ | exact ⟨Nat.le_succ _, Nat.le_add_right _ _⟩)
  · intro ls st H N b le rest m h
    unfold o_na at h
    repeat' split at h
    all_goals (cases h; done)
theorem mn_oin {n : Nat} : mono (o_oin n) := by
  constructor
  · intro ls st H m ls' st' H' h
    unfold o_oin at h
    repeat' split at h
    all_goals first | (cases h; done) | (cases h; first | exact ⟨Nat.le_refl _, Nat.le_refl _⟩ | exact ⟨Nat.le_succ _, Nat.le_add_right _ _⟩)
  · intro ls st H N b le rest m h
    unfold o_oin at h
    repeat' split at h
    all_goals (cases h; done)
theorem mn_cpy {n : Nat} : mono (o_cpy n) := by
  constructor
  · intro ls st H m ls' st' H' h
    unfold o_cpy at h
    repeat' split at h
    all_goals first | (cases h; done) | (cases h; first | exact ⟨Nat.le_refl _, Nat.le_refl _⟩ | exact ⟨Nat.le_succ _, Nat.le_add_right _ _⟩)
  · intro ls st H N b le rest m h
    unfold o_cpy at h
    repeat' split at h
    all_goals (cases h; done)
theorem mn_ca {n N k nL : Nat} {b : Bool} {z : Option Nat} (hN : N < 282) : mono (o_ca n N k nL b z) := by
  constructor
  · intro ls st H m ls' st' H' h
    unfold o_ca at h
    split at h <;> (cases h; done)
  · intro ls st H N b le rest m h
    unfold o_ca at h
    split at h
    · cases h; exact hN
    · cases h
def okF (G : mG) (own nm : String) (cc : ByteArray) (nL : Nat) (ret : Option FieldType) (k : Nat) (pc : Nat) (F : mF) : Prop :=
  mono F ∧ ∀ (p : Program) (l : Launch) (e : Env) (R : Room) (s : State) (m : MethodId) (args : Array Value) (below : List Frame) (meth : Method) (c : Code) (Qf : State → Prop) (n0 k0 d : Nat), fx G own nm cc nL ret p R s m args meth c → (k + 8 * d ≤ R.frames ∧ 64 * (k + 8 * d) ≤ R.locals) → ∀ (ls : mL) (st : List Value) (H : mH) (out : mO), F ls st H = some out →
    match out with
    | .inl (n, ls', st', H') => H'.1 ≤ n0 + R.cells → H'.2.1 ≤ k0 + R.slots → mW G nL p l e R s m args below meth c Qf n0 k0 n ls' st' H' → mW G nL p l e R s m args below meth c Qf n0 k0 pc ls st H
    | .inr (.inl r) => mR G cc ret p l e R s m args below meth c Qf n0 k0 r H → mW G nL p l e R s m args below meth c Qf n0 k0 pc ls st H
    | .inr (.inr (N, b, le, rest, n)) => N < 282 ∧ ∃ as : List Value, le = ment (mInf N).2.2.1 as ∧ mwt as ≤ (mInf N).2.2.1 ∧ ∀ (d' : Nat) (r : Option Value) (H' : mH), (b = true → d = d' + 1) → (b = false → d = d') → mMet G l N d' as H r H' → H.1 ≤ H'.1 → H.2.1 ≤ H'.2.1 → H'.1 ≤ n0 + R.cells → H'.2.1 ≤ k0 + R.slots → mW G nL p l e R s m args below meth c Qf n0 k0 n ls (r.toList ++ rest) H' → mW G nL p l e R s m args below meth c Qf n0 k0 pc ls st H
section OK
variable {G : mG} {own nm : String} {cc : ByteArray} {nL k pc : Nat} {ret : Option FieldType}
/-- an instruction that goes on, told by its row -/
theorem okF.nx {F : mF} (hmn : mono F) (h : ∀ (p : Program) (l : Launch) (e : Env) (R : Room) (s : State) (m : MethodId) (args : Array Value) (below : List Frame) (meth : Method) (c : Code) (Qf : State → Prop) (n0 k0 d : Nat), fx G own nm cc nL ret p R s m args meth c → (k + 8 * d ≤ R.frames ∧ 64 * (k + 8 * d) ≤ R.locals) → ∀ (ls : mL) (st : List Value) (H : mH) (out : mO), F ls st H = some out → ∃ (n : Nat) (ls' : mL) (st' : List Value) (H' : mH), out = .inl (n, ls', st', H') ∧ (H'.1 ≤ n0 + R.cells → H'.2.1 ≤ k0 + R.slots → mW G nL p l e R s m args below meth c Qf n0 k0 n ls' st' H' → mW G nL p l e R s m args below meth c Qf n0 k0 pc ls st H)) : okF G own nm cc nL ret k pc F := by
  refine ⟨hmn, ?_⟩
  intro p l e R s m args below meth c Qf n0 k0 d hf hk ls st H out ho
  obtain ⟨n, ls', st', H', rfl, h1⟩ := h p l e R s m args below meth c Qf n0 k0 d hf hk ls st H out ho
  exact h1
theorem ok_bad : okF G own nm cc nL ret k pc o_bad := by
  refine ⟨mn_bad, ?_⟩
  intro p l e R s m args below meth c Qf n0 k0 d hf hk ls st H out ho
  cases ho
theorem ok_iconst {z : Int} {v : Int32} (hd : decode cc pc = .ok (.iconst z, 1)) (hv : Int32.ofInt z = v) : okF G own nm cc nL ret k pc (o_ci (pc + 1) v) := by
  refine okF.nx mn_ci fun p l e R s m args below meth c Qf n0 k0 d hf hk ls st H out ho => ?_
  obtain ⟨hx, hb, -⟩ := hf
  cases ho
  refine ⟨_, _, _, _, rfl, fun _ _ kk Hp locs lsr cells slots h1 h2 h3 h4 h5 => ?_⟩
  exact lv_iconst hx hb hd hv (kk Hp locs lsr cells slots h1 h2 h3 h4 h5)
theorem ok_iadd (hd : decode cc pc = .ok (.iadd, 1)) : okF G own nm cc nL ret k pc (o_iadd (pc + 1)) := by
  refine okF.nx mn_iadd fun p l e R s m args below meth c Qf n0 k0 d hf hk ls st H out ho => ?_
  obtain ⟨hx, hb, -⟩ := hf
  unfold o_iadd at ho
  split at ho
  · rename_i y x st
    cases ho
    refine ⟨_, _, _, _, rfl, fun _ _ kk Hp locs lsr cells slots h1 h2 h3 h4 h5 => ?_⟩
    exact lv_iadd hx hb hd (kk Hp locs lsr cells slots h1 h2 h3 h4 h5)
  · cases ho
end OK
