/-! THE CLAIM OUT OF ONE WALK OF THE LAW'S BODY. Your part is whole_start (and what it stands on); all else here is the same for every law, but numbers. -/
def R_law : String := "HearingBoardsLaw"
def lw_P (b : Addr) (xs : List Int32) (args : Array Value) (s : State) : Prop := args = #[.ref b] ∧ s.IntsAt b xs ∧ xs.length ≤ 448 ∧ (Jvm.Cond.and given_1 narrow_1).before args s = true
def lw_Q (_ : Array Value) (s : State) (o : Outcome) (t : State) : Prop := o = .returned (some (.int 1)) ∧ Framed s o t [] 600000 7302250
def lw_Z (below : List Frame) (a : Array Value) (s : State) : State → Prop := fun t => ∃ o, t.status = .running ∧ Ended t below o ∧ lw_Q a s o t
/-- the law's own end, with 1 on the stack, nothing written that was there before, its room as the claim has it -/
theorem lw_ret {p : Program} {l : Launch} {e : Env} {s : State} {m : MethodId} {below : List Frame} {meth : Method} {c : Code} {b : Nat} (hx : p.tables.exec = Jvm.exec) (hb : c.code = code) (hr : meth.sig.returnType = ret) (hlocks : meth.locks = false) {pc : Nat} {H : Heap} {ls : Array Slot} (hdg : decode code pc = .ok (.ireturn, 1)) : W p l e room_1 s m #[Value.ref b] below meth c H [] 600000 7302250 (lw_Z below #[Value.ref b] s) (F0 m pc ls [.int 1]) := by
  intro T hT X
  obtain ⟨fs, hret, hrun, hended, hW, hframe⟩ := X.leave (v := some (.int 1)) (hlocks := hlocks) (fun h => by rw [hr] at h; cases h)
  have hmeth' : T.vm.method? m = some meth := X.method'
  refine ⟨T.setFrames fs, ?_, .returned (some (.int 1)), hrun, hended, rfl, ⟨_, rfl⟩, hW, hframe⟩
  jvm_step X.here [X.here.top, hx, hb, hdg, hmeth', hr, ret, narrow_b1]
  (try refine ⟨rfl, ?_⟩); (try refine ⟨rfl, ?_⟩)
  first | (intro acts; rw [hret _ acts rfl rfl rfl]) | rw [hret _ _ rfl rfl rfl]
  exact Steps.refl _
/-- what holds at the law's entry: the machine, the code, the tables' words (any of lw_tbl by 'hts w (by decide +kernel)'), the script of L ints xs at the cell b, what the Statement gives of the start (any of its parts by flat_of_before) -/
def lw_At (p : Program) (s : State) (m : MethodId) (meth : Method) (c : Code) (b L : Nat) (xs : Nat → Int32) : Prop :=
  p.tables.exec = Jvm.exec ∧ c.code = code ∧ meth.sig.returnType = ret ∧ c.maxLocals = 4 ∧ s.vm.findClass R_law = some m.cls ∧ (∀ w ∈ lw_tbl, w.before #[Value.ref b] s = true) ∧ va_X b L xs s s.heap ∧ b < s.heap.size ∧ meth.locks = false ∧ (Jvm.Cond.and given_1 narrow_1).before #[Value.ref b] s = true
abbrev nwf : List Cond := flatC (Jvm.Cond.and given_1 narrow_1)
def tmS (i : Nat) : Term := .string (mSR.getD i ("", 0, "")).1 (mSR.getD i ("", 0, "")).2.1
theorem str_of {args : Array Value} {s : State} {tm : Term} {len : Nat} {byt : Nat → Int32} {A : Nat → Prop} (hN : len < 2 ^ 31) (hex : (Cond.exactly tm "java/lang/String").before args s = true) (hco : (Cond.eq (.field tm "java/lang/String" "coder" "B") (.int 0)).before args s = true)
    (har : (Cond.arrayOf (.field tm "java/lang/String" "value" "[B") .byte).before args s = true) (hle : (Cond.eq (.length (.field tm "java/lang/String" "value" "[B")) (.int (Int32.ofNat len))).before args s = true)
    (hel : ∀ j : Nat, j < len → (Cond.eq (.elem (.field tm "java/lang/String" "value" "[B") (.int (Int32.ofNat j))) (.int (byt j))).before args s = true) (hA : ∀ a : Nat, a < s.heap.size → ¬ A a) :
    ∃ q : Nat × Nat, tm.eval args s none [] s = some (.ref q.1) ∧ va_O "java/lang/String" q.1 A s s.heap ∧ va_OF "java/lang/String" "coder" "B" (.int 0) q.1 A s s.heap ∧ va_OF "java/lang/String" "value" "[B" (.ref q.2) q.1 A s s.heap ∧ va_T .byte q.2 len (fun j => .int (byt j)) A s s.heap := by
  obtain ⟨a, c, cA, kA, q1, q2, q3, q4, q5, q6, -⟩ := Cond.exactly_spec (args := args) (first := s) (o := none) (s := s) (idx := []) (t := tm) (cls := "java/lang/String") hex
  obtain ⟨t, ht, hT⟩ := va_Tof (f := fun j => .int (byt j)) (A := A) hN har (va_eqt hle) (fun j hj => va_eqt (hel j hj)) hA
  exact ⟨(a, t), q1, ⟨cA, q3, q5, by rw [q6]; exact q2, hA a (Array.getElem?_eq_some_iff.mp q3).1⟩, vk_OFof q1 (va_eqt hco) hA, vk_OFof q1 ht hA, hT⟩
set_option maxRecDepth 100000 in
theorem nw_ex : (List.range 27).all (fun i => decide (Cond.exactly (tmS i) "java/lang/String" ∈ nwf)) = true := by decide +kernel
set_option maxRecDepth 100000 in
theorem nw_co : (List.range 27).all (fun i => decide (Cond.eq (.field (tmS i) "java/lang/String" "coder" "B") (.int 0) ∈ nwf)) = true := by decide +kernel
set_option maxRecDepth 100000 in
theorem nw_ar : (List.range 27).all (fun i => decide (Cond.arrayOf (.field (tmS i) "java/lang/String" "value" "[B") .byte ∈ nwf)) = true := by decide +kernel
set_option maxRecDepth 100000 in
theorem nw_le : (List.range 27).all (fun i => decide (Cond.eq (.length (.field (tmS i) "java/lang/String" "value" "[B")) (.int (Int32.ofNat (slen i))) ∈ nwf)) = true := by decide +kernel
set_option maxRecDepth 100000 in
theorem nw_el : (List.range 27).all (fun i => (List.range (slen i)).all (fun j => decide (Cond.eq (.elem (.field (tmS i) "java/lang/String" "value" "[B") (.int (Int32.ofNat j))) (.int (sbyt i j)) ∈ nwf))) = true := by decide +kernel
theorem slen_lt : (List.range 27).all (fun i => decide (slen i < 2 ^ 31)) = true := by decide +kernel
set_option maxRecDepth 100000 in
theorem sr_in : (List.range 27).all (fun i => decide (Cond.stringRef (mSR.getD i ("", 0, "")).1 (mSR.getD i ("", 0, "")).2.1 (mSR.getD i ("", 0, "")).2.2 ∈ lw_tbl)) = true := by decide +kernel
set_option maxRecDepth 100000 in
theorem ns_in : (List.range 8).all (fun i => match mNs[i]? with | some (o, k, y, h) => decide (Cond.methodLinkNest o k y h ∈ lw_tbl) | none => false) = true := by decide +kernel
theorem arr_of {args : Array Value} {s : State} {ty : FieldType} (h : (Cond.arrayClass ty).before args s = true) (hr : ∀ (c : ClassId), s.vm.findClass ("[" ++ ty.toString) = some c → va_RA s c ty) : ∃ c : ClassId, ArrOfT s c ty ∧ va_RA s c ty := by
  obtain ⟨c, k, comp, h1, h2, h3⟩ := Cond.arrayClass_spec (args := args) (first := s) (o := none) (s := s) (idx := []) h
  exact ⟨c, fun n z => ⟨fun k h => (by cases h), k, h2, comp, h3⟩, hr c h1⟩
theorem arr_ofO {args : Array Value} {s : State} {C : String} (h : (Cond.arrayOver (.object C)).before args s = true) : ∃ c : ClassId, ArrOfT s c (.object C) ∧ va_RA s c (.object C) := by
  obtain ⟨comp, c, k, h1, h2, h3, h4, h5⟩ := Cond.arrayOver_spec (args := args) (first := s) (o := none) (s := s) (idx := []) h
  exact ⟨c, fun n z => ⟨fun k h => (by cases h), k, h3, comp, h4⟩, k, comp, h3, h4, h1, h5⟩
/-- what the law comes to in the small machine, for every script -/
def LawGoes : Prop := ∀ (L : Nat) (xs : Nat → Int32), L ≤ 448 → ∃ H' : mH, mres cT 281 160 0 (ment 4 [.ref 3000000]) [] (0, 0, mx L xs) = some (some (.int 1), H') ∧ H'.1 ≤ 600000 ∧ H'.2.1 ≤ 7302250
set_option maxRecDepth 100000 in
set_option maxHeartbeats 4000000 in
theorem world_of {s : State} {b L : Nat} {xs : Nat → Int32} (hts : ∀ w ∈ lw_tbl, w.before #[Value.ref b] s = true) (hX : va_X b L xs s s.heap) (hbl : b < s.heap.size) (hgv : (Jvm.Cond.and given_1 narrow_1).before #[Value.ref b] s = true) : ∃ G : mG, gB G = s.heap.size ∧ gL G = L ∧ gS G = xs ∧ gX G 3000000 = b ∧ gK G s ∧ gx G s s.heap := by
  have hn := flat_of_before _ hgv
  have hA : ∀ a : Nat, a < s.heap.size → ¬ (fun q : Nat => s.heap.size ≤ q) a := fun a h => Nat.not_le.mpr h
  obtain ⟨c0, i0, hk0⟩ := u_known (C := RX0) (T := TX0) (N := 12) (n := 12) hts (fun w h => mtb_in w (inX0 w h)) (hts _ (mtb_in _ wi_B))
  obtain ⟨c1, i1, hk1⟩ := u_known (C := RX1) (T := TX1) (N := 3) (n := 3) hts (fun w h => mtb_in w (inX1 w h)) (hts _ (mtb_in _ wi_L))
  obtain ⟨c2, i2, hk2⟩ := u_known (C := RX2) (T := TX2) (N := 4) (n := 4) hts (fun w h => mtb_in w (inX2 w h)) (hts _ (mtb_in _ wi_R))
  obtain ⟨c3, i3, hk3⟩ := u_known (C := RX3) (T := TX3) (N := 3) (n := 3) hts (fun w h => mtb_in w (inX3 w h)) (hts _ (mtb_in _ wi_S))
  obtain ⟨c4, i4, hk4⟩ := u_known (C := RX4) (T := TX4) (N := 2) (n := 2) hts (fun w h => mtb_in w (inX4 w h)) (hts _ (mtb_in _ wi_K))
  obtain ⟨c5, i5, hk5⟩ := u_known (C := RX5) (T := TX5) (N := 2) (n := 2) hts (fun w h => mtb_in w (inX5 w h)) (hts _ (mtb_in _ wi_P))
  obtain ⟨c6, i6, hk6⟩ := u_known (C := RX6) (T := TX6) (N := 5) (n := 5) hts (fun w h => mtb_in w (inX6 w h)) (hts _ (mtb_in _ wi_T))
  obtain ⟨c7, i7, hk7⟩ := u_known (C := RX7) (T := TX7) (N := 9) (n := 9) hts (fun w h => mtb_in w (inX7 w h)) (hts _ (mtb_in _ wi_D))
  obtain ⟨c8, i8, hk8⟩ := u_known (C := RX8) (T := TX8) (N := 4) (n := 4) hts (fun w h => mtb_in w (inX8 w h)) (hts _ (mtb_in _ wi_I))
  obtain ⟨c9, i9, hk9⟩ := u_known (C := RX9) (T := TX9) (N := 9) (n := 9) hts (fun w h => mtb_in w (inX9 w h)) (hts _ (mtb_in _ wi_X))
  obtain ⟨c10, i10, hk10⟩ := u_known (C := RX10) (T := TX10) (N := 28) (n := 28) hts (fun w h => mtb_in w (inX10 w h)) (hts _ (mtb_in _ wi_M))
  obtain ⟨dC, dI, hKc⟩ : ∃ (dC : Nat → ClassId) (dI : Nat → Nat → Nat), ∀ (k : Nat) (q : vw_C), mCl[k]? = some q → u_Kn s q.1 q.2.1 q.2.2 (dC k) (dI k) := by
    refine ⟨fun k => if k = 0 then c0 else if k = 1 then c1 else if k = 2 then c2 else if k = 3 then c3 else if k = 4 then c4 else if k = 5 then c5 else if k = 6 then c6 else if k = 7 then c7 else if k = 8 then c8 else if k = 9 then c9 else c10, fun k => if k = 0 then i0 else if k = 1 then i1 else if k = 2 then i2 else if k = 3 then i3 else if k = 4 then i4 else if k = 5 then i5 else if k = 6 then i6 else if k = 7 then i7 else if k = 8 then i8 else if k = 9 then i9 else i10, ?_⟩
    intro k q hq
    match k, hq with
    | 0, hq => cases hq; exact hk0
    | 1, hq => cases hq; exact hk1
    | 2, hq => cases hq; exact hk2
    | 3, hq => cases hq; exact hk3
    | 4, hq => cases hq; exact hk4
    | 5, hq => cases hq; exact hk5
    | 6, hq => cases hq; exact hk6
    | 7, hq => cases hq; exact hk7
    | 8, hq => cases hq; exact hk8
    | 9, hq => cases hq; exact hk9
    | 10, hq => cases hq; exact hk10
    | k + 11, hq => simp [mCl] at hq
  obtain ⟨a0, ha0⟩ := arr_of (hts _ (mtb_in _ wa_int)) (fun _ h => h)
  obtain ⟨a1, ha1⟩ := arr_of (hts _ (mtb_in _ wa_byte)) (fun _ h => h)
  obtain ⟨a2, ha2⟩ := arr_of (hts _ (mtb_in _ wa_long)) (fun _ h => h)
  obtain ⟨a3, ha3⟩ := arr_ofO (C := "HearingBoards$Sheet") (hts _ (List.mem_of_getElem? (i := 296) (by decide +kernel)))
  obtain ⟨a4, ha4⟩ := arr_ofO (C := "HearingBoards$Text") (hts _ (List.mem_of_getElem? (i := 173) (by decide +kernel)))
  obtain ⟨a5, ha5⟩ := arr_ofO (C := "java/lang/String") (hts _ (List.mem_of_getElem? (i := 1171) (by decide +kernel)))
  have hS : ∀ i : Nat, ∃ q : Nat × Nat, i < 27 → (tmS i).eval #[Value.ref b] s none [] s = some (.ref q.1) ∧ va_O "java/lang/String" q.1 (fun q : Nat => s.heap.size ≤ q) s s.heap ∧ va_OF "java/lang/String" "coder" "B" (.int 0) q.1 (fun q : Nat => s.heap.size ≤ q) s s.heap ∧ va_OF "java/lang/String" "value" "[B" (.ref q.2) q.1 (fun q : Nat => s.heap.size ≤ q) s s.heap ∧ va_T .byte q.2 (slen i) (fun j => .int (sbyt i j)) (fun q : Nat => s.heap.size ≤ q) s s.heap := by
    intro i
    by_cases hi : i < 27
    · have hr := List.mem_range.mpr hi
      obtain ⟨q, hq⟩ := str_of (args := #[Value.ref b]) (s := s) (tm := tmS i) (len := slen i) (byt := sbyt i) (A := fun q : Nat => s.heap.size ≤ q) (of_decide_eq_true (List.all_eq_true.mp slen_lt i hr)) (hn _ (of_decide_eq_true (List.all_eq_true.mp nw_ex i hr))) (hn _ (of_decide_eq_true (List.all_eq_true.mp nw_co i hr))) (hn _ (of_decide_eq_true (List.all_eq_true.mp nw_ar i hr))) (hn _ (of_decide_eq_true (List.all_eq_true.mp nw_le i hr))) (fun j hj => hn _ (of_decide_eq_true (List.all_eq_true.mp (List.all_eq_true.mp nw_el i hr) j (List.mem_range.mpr hj)))) hA
      exact ⟨q, fun _ => hq⟩
    · exact ⟨(0, 0), fun h => absurd h hi⟩
  obtain ⟨ad, had⟩ := Classical.axiomOfChoice hS
  obtain ⟨t, ht, hT⟩ := va_Tof (args := #[Value.ref b]) (s := s) (tm := .static "HearingBoards" "ABOVE" "[I") (ty := .int) (N := 5) (f := fun j => .int (mabv j)) (A := fun q : Nat => s.heap.size ≤ q) (by decide) (hn _ (by decide +kernel)) (va_eqt (hn _ (by decide +kernel))) (fun j hj => va_eqt (hn _ (by
    match j, hj with
    | 0, _ => decide +kernel
    | 1, _ => decide +kernel
    | 2, _ => decide +kernel
    | 3, _ => decide +kernel
    | 4, _ => decide +kernel))) hA
  have hz1 := va_Zref (A := fun q : Nat => s.heap.size ≤ q) (hts (.laysStatic "HearingBoards" "ABOVE" "[I") (by decide +kernel)) (hts (.initialized "HearingBoards") (by decide +kernel)) ht hA
  have hz2 := va_Zof (A := fun q : Nat => s.heap.size ≤ q) (hts (.laysStatic "java/lang/String" "COMPACT_STRINGS" "Z") (by decide +kernel)) (hts (.initialized "java/lang/String") (by decide +kernel)) (va_eqi (z := 1) (hn _ (by decide +kernel))) hA
  have hz3 := va_Zqof (A := fun q : Nat => s.heap.size ≤ q) (hts (.laysStatic "jdk/internal/util/Preconditions" "SIOOBE_FORMATTER" "Ljava/util/function/BiFunction;") (by decide +kernel)) (hts (.initialized "jdk/internal/util/Preconditions") (by decide +kernel)) (hn _ (by decide +kernel)) hA
  obtain ⟨sio, hsio, hz3⟩ : ∃ sio : Value, (sio = .null ∨ ∃ t, sio = .ref t) ∧ va_Z "jdk/internal/util/Preconditions" "SIOOBE_FORMATTER" "Ljava/util/function/BiFunction;" sio (fun q : Nat => s.heap.size ≤ q) s s.heap := by
    rcases hz3 with h | ⟨t, h⟩
    · exact ⟨.null, Or.inl rfl, h⟩
    · exact ⟨.ref t, Or.inr ⟨t, rfl⟩, h⟩
  obtain ⟨scr, x1, x2, x3, x4, x5⟩ := hX
  refine ⟨((dC, dI), fun k => if k = 0 then a0 else if k = 1 then a1 else if k = 2 then a2 else if k = 3 then a3 else if k = 4 then a4 else a5, s.heap.size, fun a => if a < 2000000 then (ad (a - 1000000)).1 else if a < 3000000 then (ad (a - 2000000)).2 else if a = 3000000 then b else t, sio, L, xs), rfl, rfl, rfl, by simp [gX], ⟨⟨hKc, ?_⟩, ?_, hsio, ?_, ?_, ?_, ?_⟩, ?_, ?_, ?_, hz2, hz3, ?_⟩
  · intro k q hq
    match k, hq with
    | 0, hq => cases hq; exact ha0
    | 1, hq => cases hq; exact ha1
    | 2, hq => cases hq; exact ha2
    | 3, hq => cases hq; exact ha3
    | 4, hq => cases hq; exact ha4
    | 5, hq => cases hq; exact ha5
    | k + 6, hq => simp [gTy] at hq
  · intro i o k tx hi
    have hi27 : i < 27 := by have := (List.getElem?_eq_some_iff.mp hi).1; simpa [mSR] using this
    have hg : mSR.getD i ("", 0, "") = (o, k, tx) := by rw [List.getD_eq_getElem?_getD, hi]; rfl
    have h1 := hts _ (of_decide_eq_true (List.all_eq_true.mp sr_in i (List.mem_range.mpr hi27)))
    have h2 := (had i hi27).1
    rw [tmS] at h2
    rw [hg] at h1 h2
    have h3 := vk_R.of h1 h2
    show vk_R o k tx (if 1000000 + i < 2000000 then _ else _) s
    rw [if_pos (by omega), show 1000000 + i - 1000000 = i by omega]
    refine vk_R.of (A := #[]) ?_ ?_ <;> first | exact h3.1 | exact h3.2
  · intro i o k y h hi
    have hi8 : i < 8 := by have := (List.getElem?_eq_some_iff.mp hi).1; simpa [mNs] using this
    have h1 := List.all_eq_true.mp ns_in i (List.mem_range.mpr hi8)
    rw [hi] at h1
    exact va_Nw.of rfl (hts _ (of_decide_eq_true h1))
  · exact va_AO.of (hts _ (List.mem_of_getElem? (i := 296) (by decide +kernel)))
  · exact va_AO.of (hts _ (List.mem_of_getElem? (i := 173) (by decide +kernel)))
  · exact va_AO.of (hts _ (List.mem_of_getElem? (i := 1171) (by decide +kernel)))
  · intro i hi
    have h := had i hi
    have e1 : (if 1000000 + i < 2000000 then (ad (1000000 + i - 1000000)).1 else if 1000000 + i < 3000000 then (ad (1000000 + i - 2000000)).2 else if 1000000 + i = 3000000 then b else t) = (ad i).1 := by rw [if_pos (by omega), show 1000000 + i - 1000000 = i by omega]
    have e2 : (if 2000000 + i < 2000000 then (ad (2000000 + i - 1000000)).1 else if 2000000 + i < 3000000 then (ad (2000000 + i - 2000000)).2 else if 2000000 + i = 3000000 then b else t) = (ad i).2 := by rw [if_neg (by omega), if_pos (by omega), show 2000000 + i - 2000000 = i by omega]
    simp only [gX, gAx, gB]
    rw [e1, e2]
    exact ⟨h.2.1, h.2.2.1, h.2.2.2.1, h.2.2.2.2⟩
  · exact ⟨scr, x1, x2, x3, Nat.le_of_eq x4.symm, by rw [x4], x5, Nat.not_le.mpr hbl⟩
  · exact hT
  · exact hz1
theorem law_inf : mInf 281 = (x, code, 4, some .boolean, 11) := rfl
set_option maxHeartbeats 4000000 in
theorem whole_start (HG : LawGoes) {p : Program} {e : Env} {s : State} {m : MethodId} {below : List Frame} {meth : Method} {c : Code} (l : Launch) (hflags : l.flags = flags0) {b L : Nat} {xs : Nat → Int32} (hL : L ≤ 448) (C0 : lw_At p s m meth c b L xs) : W p l e room_1 s m #[Value.ref b] below meth c s.heap [] 0 0 (lw_Z below #[Value.ref b] s) (entryFrame m ([Value.ref b] : List Value).toArray 4) := by
  obtain ⟨hx, hb, hr, hml, hown, hts, hX, hbl, hlocks, hgv⟩ := C0
  obtain ⟨G, hB, hGL, hGS, hGb, hK, hgx⟩ := world_of hts hX hbl hgv
  obtain ⟨H', hrun, hc1, hc2⟩ := HG L xs hL
  obtain ⟨f, hf⟩ := mres_some.mp hrun
  rw [lg_entry_eq]
  have hb3 : ([Value.ref b] : List Value) = [Value.ref 3000000].map (gv G) := by
    show _ = [Value.ref (gr G 3000000)]
    rw [gr, if_neg (by omega), hGb]
  have key := snd_run (G := G) (l := l) f 281 160 0 _ _ _ _ _ (by decide) hf p e room_1 s m #[Value.ref b] below meth c (lw_Z below #[Value.ref b] s) 0 0
  rw [law_inf] at key
  have key2 := key ⟨hx, hb, hml, hr, hown, fun w hw => hts w (mtb_in w hw), hlocks, hK, hgx, by rw [hB]; exact Nat.le_refl _, (fun h => absurd (show x.name = "<init>" from h) (by decide)), trivial⟩ ⟨Nat.le_of_ble_eq_true rfl, Nat.le_of_ble_eq_true rfl⟩ (by show _ ≤ 0 + 600000; omega) (by show _ ≤ 0 + 7302250; omega) ?_ s.heap [] _ 0 0 ?_ va_S.rf (lr_ent hK.2.2.1 (by decide)) rfl rfl
  · rw [← hb3] at key2
    exact key2
  · intro Hp locs lsr cells slots pc ins hd hri g1 g2 g3 g4
    have hins : ins = .ireturn := by
      rcases hri with ⟨h, -⟩ | ⟨x, ty, h, h2, -⟩ | ⟨x, h, -⟩ | ⟨v, rt, h, -, -, -, hv⟩
      · cases h
      · exact h2
      · cases h
      · cases h
        rcases hv with h | ⟨a, h⟩ <;> cases h
    subst hins
    refine va_forget (fun q hq => by have := g2.2.2 q hq; rw [gAx, hB] at this; exact this) ?_
    refine W.widen (k := 600000) (n := 7302250) (by omega) (by omega) ?_
    exact lw_ret hx hb hr hlocks hd
  · refine ⟨by rw [hB]; rfl, Nat.zero_le _, fun a h => absurd h (Nat.not_lt_zero a), fun a _ => ?_⟩
    rw [hGL, hGS]

