/-! copies and calls -/
section OKK
variable {G : mG} {own nm : String} {cc : ByteArray} {nL k pc : Nat} {ret : Option FieldType}
theorem mcpi_of {e1 e2 e : va_E} {sp dp q : Int32} (h : mcpi e1 e2 sp dp q = some e) : (∃ n0 n1 f g, e1 = .inl (0, n0, .inl f) ∧ e2 = .inl (0, n1, .inl g) ∧ ¬ sp < 0 ∧ ¬ dp < 0 ∧ ¬ q < 0 ∧ sp.toNatClampNeg + q.toNatClampNeg ≤ n0 ∧ dp.toNatClampNeg + q.toNatClampNeg ≤ n1 ∧ e = .inl (0, n1, .inl (va_cpy f g sp.toNatClampNeg dp.toNatClampNeg q.toNatClampNeg))) ∨ (∃ n0 n1 f g, e1 = .inl (2, n0, .inr (.inl f)) ∧ e2 = .inl (2, n1, .inr (.inl g)) ∧ ¬ sp < 0 ∧ ¬ dp < 0 ∧ ¬ q < 0 ∧ sp.toNatClampNeg + q.toNatClampNeg ≤ n0 ∧ dp.toNatClampNeg + q.toNatClampNeg ≤ n1 ∧ e = .inl (2, n1, .inr (.inl (va_cpy f g sp.toNatClampNeg dp.toNatClampNeg q.toNatClampNeg)))) := by
  unfold mcpi at h
  split at h
  · split at h
    · rename_i hc
      cases h
      obtain ⟨rfl, rfl, hc⟩ := hc
      exact Or.inl ⟨_, _, _, _, rfl, rfl, hc.1, hc.2.1, hc.2.2.1, hc.2.2.2.1, hc.2.2.2.2, rfl⟩
    · cases h
  · split at h
    · rename_i hc
      cases h
      obtain ⟨rfl, rfl, hc⟩ := hc
      exact Or.inr ⟨_, _, _, _, rfl, rfl, hc.1, hc.2.1, hc.2.2.1, hc.2.2.2.1, hc.2.2.2.2, rfl⟩
    · cases h
  · cases h
theorem nn32 (z : Int32) (hz : ¬ z < 0) : z.toInt = (z.toNatClampNeg : Int) := by
  have hz0 : (0 : Int) ≤ z.toInt := by
    have := Int32.not_lt.mp hz
    simpa using Int32.le_iff_toInt_le.mp this
  show z.toInt = ((z.toInt.toNat : Nat) : Int)
  omega
/-- a copy of whole numbers between two cells of one kind -/
theorem W_copy {α : Type} {p : Program} {l : Launch} {e : Env} {R : Room} {s : State} {m : MethodId} {args : Array Value} {below : List Frame} {meth : Method} {c : Code} {Hp : Heap} {locs : List Loc} {cells slots : Nat} {Q : State → Prop} {lsr : Array Slot} {rest : List Value} (mk : α → Value) (cat : ∀ z, mk z ≠ .null ∧ ∀ q, mk z ≠ .ref q) (hexec : p.tables.exec = Jvm.exec) (hb : c.code = cc) (hml : c.maxLocals = lsr.size) {idx : Nat} (hown : s.vm.findClass own = some m.cls) (hlink : (Cond.methodLink own idx arraycopyName).before args s = true) (hnat : (Cond.native arraycopyName).before args s = true) (hstat : (Cond.static arraycopyName).before args s = true) (hini : (Cond.initialized "java/lang/System").before args s = true)
    {a b n0 n1 : Nat} {cA : ClassId} {f g : Nat → α} {ty : FieldType} (hc0 : Hp[b]? = some (arrV cA n0 (fun j => mk (f j)))) (hc1 : Hp[a]? = some (arrV cA n1 (fun j => mk (g j)))) (hA : ArrOfT s cA ty) (hprim : refKind ty = false)
    {sp dp n : Int32} (h1 : ¬ sp < 0) (h2 : ¬ dp < 0) (h3 : ¬ n < 0) (h4 : sp.toNatClampNeg + n.toNatClampNeg ≤ n0) (h5 : dp.toNatClampNeg + n.toNatClampNeg ≤ n1) (hfit : ∀ z, fits ty (mk z) = true)
    (hframes : 1 ≤ R.frames) (hlocals : (rest.map fun v => v.category).sum + (nativeFrameWords "java/lang/System" "arraycopy" 5 + 11) ≤ R.locals) (hdg : decode cc pc = .ok (.invokestatic idx, 3))
    (kk : ∀ (H1 : Heap) (locs1 : List Loc), H1[a]? = some (arrV cA n1 (fun j => mk (va_cpy f g sp.toNatClampNeg dp.toNatClampNeg n.toNatClampNeg j))) → H1.size = Hp.size → (∀ q : Nat, q ≠ a → H1[q]? = Hp[q]?) → (∀ q ∈ locs1, q ∈ locs ∨ q.base = a) → W p l e R s m args below meth c H1 locs1 cells slots Q (F0 m (pc + 3) lsr rest)) : W p l e R s m args below meth c Hp locs cells slots Q (F0 m pc lsr (.int n :: .int dp :: .ref a :: .int sp :: .ref b :: rest)) := by
  intro T hT X
  obtain ⟨-, k0, hk0, cm0, hkk0⟩ := hA n0 (fun j => mk (f j))
  obtain ⟨-, k1, hk1, cm1, hkk1⟩ := hA n1 (fun j => mk (g j))
  obtain ⟨vm', X', step⟩ := X.arraycopy hexec hown hlink hnat hstat hini (src := b) (dst := a) (cs := arrV cA n0 (fun j => mk (f j))) (cd := arrV cA n1 (fun j => mk (g j))) (srcPos := sp) (destPos := dp) (n := n) (by rw [hT]; exact hc0) (by rw [hT]; exact hc1)
    (fun _ h => by cases h) (fun _ h => by cases h) (fun h => by cases h) (fun h => by cases h) hk0 hk1 hkk0 hkk1 (by simp [hprim]) h1 h2 h3
    (by rw [nn32 sp h1, nn32 n h3, arrV_size]; omega)
    (by rw [nn32 dp h2, nn32 n h3, arrV_size]; omega)
    (fun vm₁ _ i hi => by
      have e : (arrV cA n0 (fun j => mk (f j))).slots.getD (sp.toNatClampNeg + i) .null = mk (f (sp.toNatClampNeg + i)) := by
        rw [Array.getD_eq_getD_getElem?, arrV_read _ _ (by omega)]
        rfl
      rw [e]
      refine ⟨hfit _, ?_⟩
      have := cat (f (sp.toNatClampNeg + i))
      generalize mk (f (sp.toNatClampNeg + i)) = z at this
      cases z <;> first | trivial | exact absurd rfl this.1 | exact absurd rfl (this.2 _))
    (g := F0 m pc lsr (.int n :: .int dp :: .ref a :: .int sp :: .ref b :: rest)) rfl (by rw [hml]) (rest := rest) rfl (by rw [hb]; exact hdg) hframes (by show 2 * 0 + _ + _ ≤ _; omega)
  have e1 : copied (arrV cA n0 (fun j => mk (f j))) (arrV cA n1 (fun j => mk (g j))) sp dp n = arrV cA n1 (fun j => mk (va_cpy f g sp.toNatClampNeg dp.toNatClampNeg n.toNatClampNeg j)) := va_copied mk cA cA f g h4
  rw [e1] at X' step
  have hl : a < Hp.size := (Array.getElem?_eq_some_iff.mp hc1).1
  have hheap : ((T.setVm vm').setCell a (arrV cA n1 (fun j => mk (va_cpy f g sp.toNatClampNeg dp.toNatClampNeg n.toNatClampNeg j)))).heap = Hp.setIfInBounds a (arrV cA n1 (fun j => mk (va_cpy f g sp.toNatClampNeg dp.toNatClampNeg n.toNatClampNeg j))) := by rw [← hT]; rfl
  obtain ⟨t, a1, b1⟩ := kk _ _ (by simp [Array.getElem?_setIfInBounds, hl]) (by simp) (fun q hq => by simp [Array.getElem?_setIfInBounds, Ne.symm hq]) (fun q hq => by
      rcases List.mem_append.mp hq with h | h
      · exact Or.inl h
      · obtain ⟨z, -, hz⟩ := List.mem_map.mp h
        right
        rw [← hz]) _ hheap X'
  exact ⟨t, step t a1, b1⟩
theorem S_cpy {s : State} {Hp H1 : Heap} {locs locs1 : List Loc} {a : Nat} (h : va_S (gAx G) s.heap Hp locs) (hz : H1.size = Hp.size) (oq : ∀ q : Nat, q ≠ gB G + a → H1[q]? = Hp[q]?) (hl : ∀ q ∈ locs1, q ∈ locs ∨ q.base = gB G + a) : va_S (gAx G) s.heap H1 locs1 := by
  refine ⟨by rw [hz]; exact h.1, fun q h1 h2 => ?_, fun q hq => ?_⟩
  · rw [oq q (fun e => h2 (by rw [e]; exact Nat.le_add_right _ _))]
    exact h.2.1 q h1 h2
  · rcases hl q hq with g | g
    · exact h.2.2 q g
    · show gB G ≤ q.base
      rw [g]
      exact Nat.le_add_right _ _
theorem ok_cpy {idx : Nat} (hd : decode cc pc = .ok (.invokestatic idx, 3)) (hk1 : 1 ≤ k) (hw1 : Cond.methodLink own idx arraycopyName ∈ mTb) (hw2 : Cond.native arraycopyName ∈ mTb) (hw3 : Cond.static arraycopyName ∈ mTb) (hw4 : Cond.initialized "java/lang/System" ∈ mTb) : okF G own nm cc nL ret k pc (o_cpy (pc + 3)) := by
  refine okF.nx mn_cpy fun p l e R s m args below meth c Qf n0 k0 d hf hfr ls st H out ho => ?_
  obtain ⟨hx, hb, hml, hr, hown, hts, hlocks, hK, hX, hB, hnm, hR⟩ := hf
  unfold o_cpy at ho
  split at ho
  · rename_i q dp a sp b st
    split at ho
    · rename_i e1 hm
      split at ho
      · rename_i hwt
        cases ho
        refine ⟨_, _, _, _, rfl, fun _ _ kk Hp locs lsr cells slots h1 h2 h3 h4 h5 => ?_⟩
        have hloc : ((st.map (gv G)).map fun v => v.category).sum + (nativeFrameWords "java/lang/System" "arraycopy" 5 + 11) ≤ R.locals := by
          rw [mwt_sum hK.2.2.1, show nativeFrameWords "java/lang/System" "arraycopy" 5 = 7 by decide]
          omega
        show W p l e R s m args below meth c Hp locs cells slots Qf (F0 m pc lsr (.int q :: .int dp :: .ref (gr G a) :: .int sp :: .ref (gr G b) :: st.map (gv G)))
        rcases mcpi_of hm with ⟨n0', n1, f, g, he1, he2, c1, c2, c3, c4, c5, rfl⟩ | ⟨n0', n1, f, g, he1, he2, c1, c2, c3, c4, c5, rfl⟩
        · obtain ⟨hb1, hb2⟩ := hw_ownA h1 he1 (by omega)
          obtain ⟨ha1, ha2⟩ := hw_ownA h1 he2 (by omega)
          rw [gr_own ha2, gr_own hb2]
          refine W_copy (α := Int32) (fun z => .int z) (fun z => ⟨(by simp), (by simp)⟩) hx hb (hml.trans h3.1.symm) hown (hts _ hw1) (hts _ hw2) (hts _ hw3) (hts _ hw4) (ge_arr h1 he1 hb1).1 (ge_arr h1 he2 ha1).1 (hK.1.2 0 _ (gTy_at G (by omega))).1 rfl c1 c2 c3 c4 c5 (fun z => rfl) (by omega) hloc hd fun H1 locs1 e1 z oq hl => ?_
          exact kk H1 locs1 lsr cells slots (hw_set h1 ha1 e1 (by show (0 : Nat) < 6; omega) z oq) (S_cpy h2 z oq hl) h3 h4 h5
        · obtain ⟨hb1, hb2⟩ := hw_ownA h1 he1 (by omega)
          obtain ⟨ha1, ha2⟩ := hw_ownA h1 he2 (by omega)
          rw [gr_own ha2, gr_own hb2]
          refine W_copy (α := Int64) (fun z => .long z) (fun z => ⟨(by simp), (by simp)⟩) hx hb (hml.trans h3.1.symm) hown (hts _ hw1) (hts _ hw2) (hts _ hw3) (hts _ hw4) (ge_arr h1 he1 hb1).1 (ge_arr h1 he2 ha1).1 (hK.1.2 2 _ (gTy_at G (by omega))).1 rfl c1 c2 c3 c4 c5 (fun z => rfl) (by omega) hloc hd fun H1 locs1 e1 z oq hl => ?_
          exact kk H1 locs1 lsr cells slots (hw_set h1 ha1 e1 (by show (2 : Nat) < 6; omega) z oq) (S_cpy h2 z oq hl) h3 h4 h5
      · cases ho
    · cases ho
  · cases ho
end OKK
