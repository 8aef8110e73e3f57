/-! references into arrays, new cells, texts, statics, copies -/
section OKC
variable {G : mG} {own nm : String} {cc : ByteArray} {nL k pc : Nat} {ret : Option FieldType}
theorem mqs_of {e e1 : va_E} {t : Nat} {i : Int32} {q : Option Nat} (h : mqs e t i q = some e1) : ∃ len f, e = .inl (t, len, .inr (.inr (.inr (.inr f)))) ∧ ¬ (i < 0 ∨ len ≤ i.toNatClampNeg) ∧ e1 = .inl (t, len, .inr (.inr (.inr (.inr (va_up f i.toNatClampNeg q))))) := by
  unfold mqs at h
  split at h
  · split at h
    · rename_i hc
      cases h
      obtain ⟨rfl, hc⟩ := hc
      exact ⟨_, _, rfl, hc, rfl⟩
    · cases h
  · cases h
theorem misc_of {e : va_E} {ci : Nat} (h : misc e ci = true) : ∃ fs, e = .inr (ci, fs) := by
  unfold misc at h
  split at h
  · rename_i c fs
    have hc : c = ci := by simpa using h
    subst hc
    exact ⟨_, rfl⟩
  · cases h
theorem upd_arrq (cA : ClassId) (n j : Nat) (f : Nat → Option Nat) (q : Option Nat) : (arrV cA n (fun j => va_rf ((f j).map (gr G)))).setSlot j (va_rf (q.map (gr G))) = arrV cA n (fun z => va_rf ((va_up f j q z).map (gr G))) := by
  rw [arrV_store]
  congr 1
  funext z
  by_cases hq : z = j
  · subst hq; simp [updV, va_up]
  · simp [updV, va_up, hq]
/-- where the object v lies, and that it may lie in a row of its class -/
def mSt (G : mG) (t ci : Nat) : Prop := ∀ (s : State) (H : mH) (Hp : Heap) (locs : List Loc) (v : Nat), gK G s → gx G s s.heap → hw G H Hp → va_S (gAx G) s.heap Hp locs → misc (H.2.2 v) ci = true → ∃ (cv : Cell) (kv kA kcomp : Class) (comp : ClassId) (ty : FieldType), Hp[gr G v]? = some cv ∧ (∀ q, cv.vm ≠ .statics q) ∧ s.vm.classes[cv.cls]? = some kv ∧ s.vm.assignable cv.cls comp = true ∧ s.vm.classes[gA G t]? = some kA ∧ kA.kind = .array comp ty ∧ ty.isReference = true ∧ s.vm.classes[comp]? = some kcomp
theorem mSt_own {t ci : Nat} {r : vw_C} (ht : t < 6) (hc : mCl[ci]? = some r) (hci : ci < 99) (hty : mTy t = .object r.1) : mSt G t ci := by
  intro s H Hp locs v hK hX h1 h2 hm
  obtain ⟨fs, he⟩ := misc_of hm
  obtain ⟨ha, ha2⟩ := hw_own h1 he hci
  have hat := (h1.2.2.1 v ha).1
  rw [he] at hat
  obtain ⟨r', g1, cell, q1, q2, q3, q4⟩ := hat
  have hr : r' = r := Option.some.inj (g1.symm.trans hc)
  subst hr
  have hcls := (hK.1.1 ci _ hc).2
  have hRA := (hK.1.2 t _ (gTy_at G ht)).2
  rw [hty] at hRA
  obtain ⟨kA, comp, k1, k2, k3, -⟩ := hRA
  have hcomp : comp = (gD G).1 ci := Option.some.inj (k3.symm.trans hcls.1)
  subst hcomp
  obtain ⟨kC, hkC, hk⟩ := hcls.2
  exact ⟨cell, kC, kA, kC, _, _, by rw [gr_own ha2]; exact q1, (fun q h => by rw [q3] at h; cases h), by rw [q2]; exact hkC, by rw [q2]; exact va_assign hcls, k1, k2, rfl, hkC⟩
theorem mx_str {L : Nat} {xs : Nat → Int32} {a : Nat} {fs : List Value} (h : mx L xs a = .inr (100, fs)) : ∃ i, i < 27 ∧ a = 1000000 + i ∧ fs = [.ref (2000000 + i), .int 0] := by
  unfold mx at h
  split at h
  · cases h
  · split at h
    · rename_i h0 ha
      refine ⟨a - 1000000, by omega, by omega, ?_⟩
      have := (Prod.mk.inj (Sum.inr.inj h)).2
      have e1 : a + 1000000 = 2000000 + (a - 1000000) := by omega
      rw [← this, e1]
    · repeat' split at h
      all_goals cases h
theorem hw_str {H : mH} {Hp : Heap} {a : Nat} {fs : List Value} (h : hw G H Hp) (he : H.2.2 a = .inr (100, fs)) : ∃ i, i < 27 ∧ a = 1000000 + i ∧ fs = [.ref (2000000 + i), .int 0] := by
  by_cases ha : a < H.1
  · have hat := (h.2.2.1 a ha).1
    rw [he] at hat
    obtain ⟨r, g1, -⟩ := hat
    cases g1
  · have h1 := h.2.2.2 a (Nat.not_lt.mp ha)
    rw [he] at h1
    exact mx_str h1.symm
theorem mSt_str : mSt G 5 100 := by
  intro s H Hp locs v hK hX h1 h2 hm
  obtain ⟨fs, he⟩ := misc_of hm
  obtain ⟨i, hi, rfl, -⟩ := hw_str h1 he
  have hX1 := hX.kept h2.2.1
  obtain ⟨cell, c1, c2, c3, -⟩ := (hX1.1 i hi).1
  have hRA := (hK.1.2 5 _ (gTy_at G (by omega))).2
  obtain ⟨kA, comp, k1, k2, k3, -⟩ := hRA
  have hcomp : comp = cell.cls := Option.some.inj (k3.symm.trans c3)
  subst hcomp
  obtain ⟨kE, hkE, -⟩ := Vm.findClass_spec k3
  exact ⟨cell, kE, kA, kE, _, _, by rw [gr, if_neg (by omega)]; exact c1, (fun q h => by rw [h] at c2; cases c2), hkE, va_asg _ _, k1, k2, rfl, hkE⟩
theorem ok_aastore {t ci : Nat} {C : String} (hd : decode cc pc = .ok (.aastore, 1)) (ht : t < 6) (hty : mTy t = .object C) (hS : mSt G t ci) : okF G own nm cc nL ret k pc (o_aas (pc + 1) t ci) := by
  refine okF.nx mn_aas fun p l e R s m args below meth c Qf n0 k0 d hf _ ls st H out ho => ?_
  obtain ⟨hx, hb, hml, hr, hown, hts, hlocks, hK, hX, hB, hnm, hR⟩ := hf
  unfold o_aas at ho
  split at ho
  · rename_i v i a st
    split at ho
    · rename_i e1 hm
      split at ho
      · rename_i hv
        cases ho
        refine ⟨_, _, _, _, rfl, fun _ _ kk Hp locs lsr cells slots h1 h2 h3 h4 h5 => ?_⟩
        obtain ⟨len, f, he, hi, rfl⟩ := mqs_of hm
        obtain ⟨ha, ha2⟩ := hw_ownA h1 he (by omega)
        obtain ⟨hc, -⟩ := ge_arr h1 he ha
        obtain ⟨cv, kv, kA, kcomp, comp, ty, v1, v2, v3, v4, v5, v6, v7, v8⟩ := hS s H Hp locs v hK hX h1 h2 hv
        have hlt : i.toNatClampNeg < len := Nat.not_le.mp fun q => hi (Or.inr q)
        show W p l e R s m args below meth c Hp locs cells slots Qf (F0 m pc lsr (.ref (gr G v) :: .int i :: .ref (gr G a) :: st.map (gv G)))
        rw [gr_own ha2]
        refine W.aast hx hb hc (fun q h => by cases h) (fun h => by cases h) v5 v6 v7 v8 ⟨fun q => hi (Or.inl q), by show _ < (arrV _ _ _).slots.size; rw [arrV_size]; exact hlt⟩ v1 v2 v3 v4 rfl rfl hd fun H1 e1 z oq => ?_
        refine kk H1 _ lsr cells slots (hw_set h1 ha ?_ ht z oq) (S_put h2 z oq) h3 h4 h5
        show H1[gB G + a]? = some (arrV (gA G t) len (fun z => va_rf ((va_up f i.toNatClampNeg (some v) z).map (gr G))))
        rw [e1]
        exact congrArg some (upd_arrq _ _ _ _ (some v))
      · cases ho
    · cases ho
  · rename_i i a st
    split at ho
    · rename_i e1 hm
      cases ho
      refine ⟨_, _, _, _, rfl, fun _ _ kk Hp locs lsr cells slots h1 h2 h3 h4 h5 => ?_⟩
      obtain ⟨len, f, he, hi, rfl⟩ := mqs_of hm
      obtain ⟨ha, ha2⟩ := hw_ownA h1 he (by omega)
      obtain ⟨hc, -⟩ := ge_arr h1 he ha
      show W p l e R s m args below meth c Hp locs cells slots Qf (F0 m pc lsr (.null :: .int i :: .ref (gr G a) :: st.map (gv G)))
      rw [gr_own ha2]
      refine va_WaastN (C := C) hx hb hc (by rw [← hty]; exact (hK.1.2 t _ (gTy_at G ht)).1 len (fun j => va_rf ((f j).map (gr G)))) (fun q => by cases q) (by show ¬ (i < 0 ∨ (arrV _ _ _).slots.size ≤ _); rw [arrV_size]; exact hi) rfl rfl hd fun H1 e1 z oq => ?_
      refine kk H1 _ lsr cells slots (hw_set h1 ha ?_ ht z oq) (S_put h2 z oq) h3 h4 h5
      show H1[gB G + a]? = some (arrV (gA G t) len (fun z => va_rf ((va_up f i.toNatClampNeg none z).map (gr G))))
      rw [e1]
      exact congrArg some (upd_arrq _ _ _ _ none)
    · cases ho
  · cases ho
theorem ok_new {C : String} {T : u_T} {ty0 : Nat → FieldType} {N ci idx : Nat} {fs : List Value} (hd : decode cc pc = .ok (.new idx, 3)) (hc : mCl[ci]? = some (C, T, N)) (hin : ∀ w ∈ u_ws C T N, w ∈ mTb) (hty : ∀ j, j < N → parseFieldDescriptor (T j).2.2.1 = some (ty0 j)) (hw1 : Cond.classLink own idx C ∈ mTb) (hw2 : Cond.instantiable C N ∈ mTb) (hw3 : Cond.initialized C ∈ mTb) (hfs : ∀ j, j < N → defaultValue (ty0 j) = vp_V fs j) (hfg : fs.map (gv G) = fs) : okF G own nm cc nL ret k pc (o_new (pc + 3) ci N fs) := by
  refine okF.nx mn_new fun p l e R s m args below meth c Qf n0 k0 d hf _ ls st H out ho => ?_
  obtain ⟨hx, hb, hml, hr, hown, hts, hlocks, hK, hX, hB, hnm, hR⟩ := hf
  unfold o_new at ho
  split at ho
  · rename_i hn
    cases ho
    refine ⟨_, _, _, _, rfl, fun g1 g2 kk Hp locs lsr cells slots h1 h2 h3 h4 h5 => ?_⟩
    have g1' : H.1 + 1 ≤ n0 + R.cells := g1
    have g2' : H.2.1 + N ≤ k0 + R.slots := g2
    have hKn := hK.1.1 ci _ hc
    refine W.newcK hx hb hown (hts _ hw1) (hts _ hw2) (hts _ hw3) rfl hd (by omega) (by omega) hKn.2.1 rfl fun H1 kC hkC e1 z1 o1 => ?_
    have kk2 := kk H1 locs lsr (cells + 1) (slots + N) (hw_push h1 hn ?_ trivial z1 o1) (S_new h2 z1 o1) h3 (by show H.1 + 1 = _; omega) (by show H.2.1 + N = _; omega)
    · rw [List.map_cons] at kk2
      have e2 : gv G (.ref H.1) = .ref Hp.size := by show Value.ref (gr G H.1) = _; rw [gr_own hn, h1.1]
      rw [e2] at kk2
      exact kk2
    · refine ⟨_, hc, ?_⟩
      show t_OB _ _ _ _ _ (vp_V (fs.map (gv G)))
      rw [hfg, ← h1.1]
      exact (u_born ty0 hts hin hKn hkC e1 hty).to hfs
  · cases ho
theorem ok_newarray {t : Nat} {atype : ArrayType} {x : mQ} (hd : decode cc pc = .ok (.newarray atype, 2)) (ht : t < 6) (hw : Cond.arrayClass (newarray.typeOf atype) ∈ mTb) (hcb : componentBytes (newarray.typeOf atype) ≤ 8) (hty : mTy t = newarray.typeOf atype) (hRA : ∀ (U : State) (cA : ClassId), va_RA U cA (mTy t) → U.vm.findClass ("[" ++ (newarray.typeOf atype).toString) = some cA) (hx : ∀ n, marr t n = .inl (t, n, x)) (hv : ∀ n, vp_cell (gA G t) (n, gq G x) = arrV (gA G t) n (fun _ => defaultValue (newarray.typeOf atype))) : okF G own nm cc nL ret k pc (o_na (pc + 2) t) := by
  have hmx := hx
  refine okF.nx mn_na fun p l e R s m args below meth c Qf n0 k0 d hf _ ls st H out ho => ?_
  obtain ⟨hx, hb, hml, hr, hown, hts, hlocks, hK, hX, hB, hnm, hR⟩ := hf
  unfold o_na at ho
  split at ho
  · rename_i q st
    split at ho
    · rename_i hn
      obtain ⟨hn, hq, hq2⟩ := hn
      cases ho
      refine ⟨_, _, _, _, rfl, fun g1 g2 kk Hp locs lsr cells slots h1 h2 h3 h4 h5 => ?_⟩
      have g1' : H.1 + 1 ≤ n0 + R.cells := g1
      have g2' : H.2.1 + q.toNatClampNeg ≤ k0 + R.slots := g2
      refine va_newaK hx hb (hts _ hw) rfl hd rfl hq rfl ?_ (by omega) (by omega) rfl fun H1 cA e1 z1 o1 hAr hNm => ?_
      · exact Nat.le_trans (Nat.mul_le_mul hq2 hcb) (by omega)
      · have hcA : cA = gA G t := Option.some.inj (hNm.symm.trans (hRA s _ (hK.1.2 t _ (gTy_at G ht)).2))
        subst hcA
        have kk2 := kk H1 locs lsr (cells + 1) (slots + q.toNatClampNeg) (hw_push h1 hn ?_ ?_ z1 o1) (S_new h2 z1 o1) h3 (by show H.1 + 1 = _; omega) (by show H.2.1 + q.toNatClampNeg = _; omega)
        · rw [List.map_cons] at kk2
          have e2 : gv G (.ref H.1) = .ref Hp.size := by show Value.ref (gr G H.1) = _; rw [gr_own hn, h1.1]
          rw [e2] at kk2
          exact kk2
        · rw [hmx]
          show H1[gB G + H.1]? = some (vp_cell (gA G t) (q.toNatClampNeg, gq G x))
          rw [hv, ← h1.1]
          exact e1
        · rw [hmx]; exact ht
    · cases ho
  · cases ho
theorem ok_anewarray {t idx : Nat} {C : String} (hd : decode cc pc = .ok (.anewarray idx, 3)) (ht : t < 6) (ht3 : 3 ≤ t) (hty : mTy t = .object C) (hw : Cond.classLink own idx C ∈ mTb) (hAO : ∀ U, gn U → va_AO C U) : okF G own nm cc nL ret k pc (o_na (pc + 3) t) := by
  refine okF.nx mn_na fun p l e R s m args below meth c Qf n0 k0 d hf _ ls st H out ho => ?_
  obtain ⟨hx, hb, hml, hr, hown, hts, hlocks, hK, hX, hB, hnm, hR⟩ := hf
  unfold o_na at ho
  split at ho
  · rename_i q st
    split at ho
    · rename_i hn
      obtain ⟨hn, hq, hq2⟩ := hn
      cases ho
      refine ⟨_, _, _, _, rfl, fun g1 g2 kk Hp locs lsr cells slots h1 h2 h3 h4 h5 => ?_⟩
      have g1' : H.1 + 1 ≤ n0 + R.cells := g1
      have g2' : H.2.1 + q.toNatClampNeg ≤ k0 + R.slots := g2
      refine W.anew hx hb hown (hts _ hw) (va_AO.use (hAO s hK.2.2.2)) rfl hd rfl hq (by omega) (by omega) (by omega) fun cA kA comp f1 f2 f3 f4 => ?_
      have hRA := (hK.1.2 t _ (gTy_at G ht)).2
      rw [hty] at hRA
      obtain ⟨kA', comp', r1, r2, r3, r4⟩ := hRA
      have hcA : cA = gA G t := Option.some.inj (f1.symm.trans r4)
      subst hcA
      generalize hH1 : Hp.push ({ cls := gA G t, slots := Array.replicate q.toNatClampNeg .null, vm := .none } : Cell) = H1
      have z1 : H1.size = Hp.size + 1 := by rw [← hH1, Array.size_push]
      have e1 : H1[Hp.size]? = some (arrV (gA G t) q.toNatClampNeg (fun _ => .null)) := by rw [← hH1, Array.getElem?_push_size, ← arrV_new]
      have o1 : ∀ q : Nat, q < Hp.size → H1[q]? = Hp[q]? := fun q hq => by rw [← hH1, Array.getElem?_push, if_neg (Nat.ne_of_lt hq)]
      have hm : marr t q.toNatClampNeg = .inl (t, q.toNatClampNeg, .inr (.inr (.inr (.inr (fun _ => none))))) := by rw [marr, if_neg (by omega), if_pos ht3]
      have kk2 := kk H1 locs lsr (cells + 1) (slots + q.toNatClampNeg) (hw_push h1 hn ?_ ?_ z1 o1) (S_new h2 z1 o1) h3 (by show H.1 + 1 = _; omega) (by show H.2.1 + q.toNatClampNeg = _; omega)
      · rw [List.map_cons] at kk2
        have e2 : gv G (.ref H.1) = .ref Hp.size := by show Value.ref (gr G H.1) = _; rw [gr_own hn, h1.1]
        rw [e2] at kk2
        exact kk2
      · rw [hm, ← h1.1]
        exact e1
      · rw [hm]; exact ht
    · cases ho
  · cases ho
theorem mwt_sum (hO : gO G = .null ∨ ∃ t, gO G = .ref t) (st : List Value) : ((st.map (gv G)).map fun v => v.category).sum = mwt st := by
  induction st with
  | nil => rfl
  | cons v l ih => rw [List.map_cons, List.map_cons, List.sum_cons, ih, gv_cat hO]; rfl
theorem ok_objInit {idx : Nat} (hd : decode cc pc = .ok (.invokespecial idx, 3)) (hk1 : 1 ≤ k) (hw1 : Cond.methodLink own idx Lib.objectInit ∈ mTb) (hw2 : Cond.instanceMethod Lib.objectInit ∈ mTb) (hw3 : Cond.code Lib.objectInit ⟨#[0xb1]⟩ 1 none ∈ mTb) : okF G own nm cc nL ret k pc (o_oin (pc + 3)) := by
  refine okF.nx mn_oin fun p l e R s m args below meth c Qf n0 k0 d hf hfr ls st H out ho => ?_
  obtain ⟨hx, hb, hml, hr, hown, hts, hlocks, hK, hX, hB, hnm, hR⟩ := hf
  unfold o_oin at ho
  split at ho
  · rename_i a st
    split at ho
    · rename_i hwt
      cases ho
      refine ⟨_, _, _, _, rfl, fun _ _ kk Hp locs lsr cells slots h1 h2 h3 h4 h5 => ?_⟩
      refine W.objInit hx hb hown (hts _ hw1) (hts _ hw2) (hts _ hw3) rfl (by rw [hml]; exact h3.1) rfl hd (by omega) ?_ (kk Hp locs lsr cells slots h1 h2 h3 h4 h5)
      show 2 * 0 + _ + 12 ≤ _
      rw [mwt_sum hK.2.2.1]
      omega
    · cases ho
  · cases ho
theorem ok_ldcS {i idx : Nat} {tx : String} (hd : decode cc pc = .ok (.ldc idx, 2)) (hs : mSR[i]? = some (own, idx, tx)) : okF G own nm cc nL ret k pc (o_cv (pc + 2) (.ref (1000000 + i))) := by
  refine okF.nx mn_cv fun p l e R s m args below meth c Qf n0 k0 d hf _ ls st H out ho => ?_
  obtain ⟨hx, hb, hml, hr, hown, hts, hlocks, hK, hX, hB, hnm, hR⟩ := hf
  cases ho
  refine ⟨_, _, _, _, rfl, fun _ _ kk Hp locs lsr cells slots h1 h2 h3 h4 h5 => ?_⟩
  refine va_ldcS hx hb hown (hK.2.1 i own idx tx hs) hd ?_
  have kk2 := kk Hp locs lsr cells slots h1 h2 h3 h4 h5
  rw [List.map_cons] at kk2
  have e2 : gv G (.ref (1000000 + i)) = .ref (gX G (1000000 + i)) := by show Value.ref (gr G _) = _; rw [gr, if_neg (by omega)]
  rw [e2] at kk2
  exact kk2
theorem ok_getstatic {idx : Nat} {C n ds : String} {v : Value} (hd : decode cc pc = .ok (.getstatic idx, 3)) (hw : Cond.fieldLink own idx C n ds ∈ mTb) (hZ : ∀ s, gx G s s.heap → va_Z C n ds (gv G v) (gAx G) s s.heap) : okF G own nm cc nL ret k pc (o_cv (pc + 3) v) := by
  refine okF.nx mn_cv fun p l e R s m args below meth c Qf n0 k0 d hf _ ls st H out ho => ?_
  obtain ⟨hx, hb, hml, hr, hown, hts, hlocks, hK, hX, hB, hnm, hR⟩ := hf
  cases ho
  refine ⟨_, _, _, _, rfl, fun _ _ kk Hp locs lsr cells slots h1 h2 h3 h4 h5 => ?_⟩
  exact va_gets hx hb (hZ s hX) h2 hown (hts _ hw) (fun _ h => h) hd (kk Hp locs lsr cells slots h1 h2 h3 h4 h5)
theorem gZ_compact (s : State) (h : gx G s s.heap) : va_Z "java/lang/String" "COMPACT_STRINGS" "Z" (gv G (.int 1)) (gAx G) s s.heap := h.2.2.2.1
theorem gZ_sio (s : State) (h : gx G s s.heap) : va_Z "jdk/internal/util/Preconditions" "SIOOBE_FORMATTER" "Ljava/util/function/BiFunction;" (gv G (.retAddr 1)) (gAx G) s s.heap := h.2.2.2.2.1
theorem gZ_above (s : State) (h : gx G s s.heap) : va_Z "HearingBoards" "ABOVE" "[I" (gv G (.ref 3000001)) (gAx G) s s.heap := by
  have e2 : gv G (.ref 3000001) = .ref (gX G 3000001) := by show Value.ref (gr G _) = _; rw [gr, if_neg (by omega)]
  rw [e2]
  exact h.2.2.2.2.2
theorem ok_getS {kf idx : Nat} {n ds : String} (hd : decode cc pc = .ok (.getfield idx, 3)) (hw : Cond.fieldLink own idx "java/lang/String" n ds ∈ mTb) (hkf : (kf = 0 ∧ n = "value" ∧ ds = "[B") ∨ (kf = 1 ∧ n = "coder" ∧ ds = "B")) : okF G own nm cc nL ret k pc (o_gf (pc + 3) 100 kf) := by
  refine okF.nx mn_gf fun p l e R s m args below meth c Qf n0 k0 d hf _ ls st H out ho => ?_
  obtain ⟨hx, hb, hml, hr, hown, hts, hlocks, hK, hX, hB, hnm, hR⟩ := hf
  unfold o_gf at ho
  split at ho
  · rename_i a st
    split at ho
    · rename_i v hm
      cases ho
      refine ⟨_, _, _, _, rfl, fun _ _ kk Hp locs lsr cells slots h1 h2 h3 h4 h5 => ?_⟩
      obtain ⟨fs, he, hv⟩ := mfld_of hm
      obtain ⟨i, hi, rfl, rfl⟩ := hw_str h1 he
      have kk2 := kk Hp locs lsr cells slots h1 h2 h3 h4 h5
      show W p l e R s m args below meth c Hp locs cells slots Qf (F0 m pc lsr (.ref (gr G (1000000 + i)) :: st.map (gv G)))
      rw [gr, if_neg (by omega)]
      rcases hkf with ⟨rfl, rfl, rfl⟩ | ⟨rfl, rfl, rfl⟩
      · have hv' : v = .ref (2000000 + i) := (Option.some.inj hv).symm
        subst hv'
        have e2 : gv G (.ref (2000000 + i)) = .ref (gX G (2000000 + i)) := by show Value.ref (gr G _) = _; rw [gr, if_neg (by omega)]
        rw [List.map_cons, e2] at kk2
        exact vk_getf hx hb (hX.1 i hi).2.2.1 h2 hown (hts _ hw) (fun _ h => h) hd kk2
      · have hv' : v = .int 0 := (Option.some.inj hv).symm
        subst hv'
        exact vk_getf hx hb (hX.1 i hi).2.1 h2 hown (hts _ hw) (fun _ h => h) hd kk2
    · cases ho
  · cases ho
end OKC
