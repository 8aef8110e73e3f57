/-! arrays, new cells, texts -/
section OKA
variable {G : mG} {own nm : String} {cc : ByteArray} {nL k pc : Nat} {ret : Option FieldType}
theorem ge_arr {H : mH} {Hp : Heap} {a t n : Nat} {x : mQ} (h : hw G H Hp) (he : H.2.2 a = .inl (t, n, x)) (ha : a < H.1) : Hp[gB G + a]? = some (vp_cell (gA G t) (n, gq G x)) ∧ t < 6 := by
  obtain ⟨h1, h2⟩ := h.2.2.1 a ha
  rw [he] at h1 h2
  exact ⟨h1, h2⟩
theorem mx_big {L : Nat} {xs : Nat → Int32} {a t n : Nat} {x : mQ} (h : mx L xs a = .inl (t, n, x)) : (t = 11 ∧ ∃ i, i < 27 ∧ a = 2000000 + i ∧ n = slen i ∧ x = .inl (sbyt i)) ∨ (t = 10 ∧ a = 3000000 ∧ n = L ∧ x = .inl xs) ∨ (t = 10 ∧ a = 3000001 ∧ n = 5 ∧ x = .inl mabv) := by
  unfold mx at h
  split at h
  · cases h
  · split at h
    · cases h
    · split at h
      · rename_i ha
        have h1 := Prod.mk.inj (Sum.inl.inj h)
        have h2 := Prod.mk.inj h1.2
        exact Or.inl ⟨h1.1.symm, a - 2000000, by omega, by omega, h2.1.symm, h2.2.symm⟩
      · split at h
        · rename_i ha
          have h1 := Prod.mk.inj (Sum.inl.inj h)
          have h2 := Prod.mk.inj h1.2
          exact Or.inr (Or.inl ⟨h1.1.symm, ha, h2.1.symm, h2.2.symm⟩)
        · split at h
          · rename_i ha
            have h1 := Prod.mk.inj (Sum.inl.inj h)
            have h2 := Prod.mk.inj h1.2
            exact Or.inr (Or.inr ⟨h1.1.symm, ha, h2.1.symm, h2.2.symm⟩)
          · cases h
/-- what stands of an array of ints or bytes, ours or not -/
theorem av_i {s : State} {H : mH} {Hp : Heap} {locs : List Loc} {a t n : Nat} {f : Nat → Int32} (hK : gK G s) (hX : gx G s s.heap) (h1 : hw G H Hp) (h2 : va_S (gAx G) s.heap Hp locs) (he : H.2.2 a = .inl (t, n, .inl f)) (ty : FieldType) (ht : ((t = 0 ∨ t = 10) ∧ ty = .int) ∨ ((t = 1 ∨ t = 11) ∧ ty = .byte)) :
    ∃ cell : Cell, Hp[gr G a]? = some cell ∧ s.isArrayOf cell ty ∧ cell.vm ≠ .unknown ∧ n ≤ cell.slots.size ∧ cell.slots.size.toInt32 = nI n ∧ ∀ j, j < n → cell.slots[j]? = some (.int (f j)) := by
  by_cases ha : a < H.1
  · obtain ⟨hc, ht6⟩ := ge_arr h1 he ha
    rw [gr_own (Nat.lt_of_lt_of_le ha h1.2.1)]
    have hty : ty = mTy t := by
      rcases ht with ⟨h | h, rfl⟩ | ⟨h | h, rfl⟩
      · subst h; rfl
      · omega
      · subst h; rfl
      · omega
    refine ⟨_, hc, ?_, (fun q => by cases q), ?_, ?_, ?_⟩
    · rw [hty]; exact (hK.1.2 t _ (gTy_at G ht6)).1 n (fun j => .int (f j))
    · show n ≤ (arrV _ _ _).slots.size; rw [arrV_size]; exact Nat.le_refl n
    · show (arrV _ _ _).slots.size.toInt32 = _; rw [arrV_size]; rfl
    · intro j hj; exact arrV_read _ _ hj
  · have hm := h1.2.2.2 a (Nat.not_lt.mp ha)
    rw [he] at hm
    have hX1 := hX.kept h2.2.1
    rcases mx_big hm.symm with ⟨rfl, i, hi, rfl, rfl, hf⟩ | ⟨rfl, rfl, rfl, hf⟩ | ⟨rfl, rfl, rfl, hf⟩
    · have hty : ty = .byte := by rcases ht with ⟨h | h, _⟩ | ⟨_, h⟩ <;> first | omega | exact h
      subst hty
      cases hf
      obtain ⟨cell, c1, c2, c3, c4, c5, c6, -⟩ := (hX1.1 i hi).2.2.2
      exact ⟨cell, by rw [gr, if_neg (by omega)]; exact c1, c2, c3, c4, c5, c6⟩
    · have hty : ty = .int := by rcases ht with ⟨_, h⟩ | ⟨h | h, _⟩ <;> first | omega | exact h
      subst hty
      cases hf
      obtain ⟨cell, c1, c2, c3, c4, c5, c6, -⟩ := hX1.2.1
      exact ⟨cell, by rw [gr, if_neg (by omega)]; exact c1, c2, c3, c4, c5, c6⟩
    · have hty : ty = .int := by rcases ht with ⟨_, h⟩ | ⟨h | h, _⟩ <;> first | omega | exact h
      subst hty
      cases hf
      obtain ⟨cell, c1, c2, c3, c4, c5, c6, -⟩ := hX1.2.2.1
      exact ⟨cell, by rw [gr, if_neg (by omega)]; exact c1, c2, c3, c4, c5, c6⟩
theorem mia_of {e : va_E} {t u : Nat} {i v : Int32} (h : mia e t u i = some v) : ∃ c len f, e = .inl (c, len, .inl f) ∧ (c = t ∨ c = u) ∧ ¬ (i < 0 ∨ len ≤ i.toNatClampNeg) ∧ v = f i.toNatClampNeg := by
  unfold mia at h
  split at h
  · split at h
    · rename_i hc
      cases h
      exact ⟨_, _, _, rfl, hc.1, hc.2, rfl⟩
    · cases h
  · cases h
theorem ok_iaload (hd : decode cc pc = .ok (.iaload, 1)) : okF G own nm cc nL ret k pc (o_ial (pc + 1)) := by
  refine okF.nx mn_ial fun p l e R s m args below meth c Qf n0 k0 d hf _ ls st H out ho => ?_
  obtain ⟨hx, hb, hml, hr, hown, hts, hlocks, hK, hX, hB, hnm, hR⟩ := hf
  unfold o_ial at ho
  split at ho
  · rename_i i a st
    split at ho
    · rename_i v hm
      cases ho
      refine ⟨_, _, _, _, rfl, fun _ _ kk Hp locs lsr cells slots h1 h2 h3 h4 h5 => ?_⟩
      obtain ⟨t, len, f, he, ht, hi, rfl⟩ := mia_of hm
      obtain ⟨cell, c1, c2, c3, c4, c5, c6⟩ := av_i hK hX h1 h2 he .int (Or.inl ⟨ht, rfl⟩)
      have hlt : i.toNatClampNeg < len := Nat.not_le.mp fun q => hi (Or.inr q)
      exact W.iald hx hb c1 c2 c3 (fun q => q.elim (fun z => hi (Or.inl z)) (fun z => by omega)) (c6 _ hlt) rfl rfl hd (kk Hp locs lsr cells slots h1 h2 h3 h4 h5)
    · cases ho
  · cases ho
theorem ok_baload (hd : decode cc pc = .ok (.baload, 1)) : okF G own nm cc nL ret k pc (o_bal (pc + 1)) := by
  refine okF.nx mn_bal fun p l e R s m args below meth c Qf n0 k0 d hf _ ls st H out ho => ?_
  obtain ⟨hx, hb, hml, hr, hown, hts, hlocks, hK, hX, hB, hnm, hR⟩ := hf
  unfold o_bal at ho
  split at ho
  · rename_i i a st
    split at ho
    · rename_i v hm
      cases ho
      refine ⟨_, _, _, _, rfl, fun _ _ kk Hp locs lsr cells slots h1 h2 h3 h4 h5 => ?_⟩
      obtain ⟨t, len, f, he, ht, hi, rfl⟩ := mia_of hm
      obtain ⟨cell, c1, c2, c3, c4, c5, c6⟩ := av_i hK hX h1 h2 he .byte (Or.inr ⟨ht, rfl⟩)
      have hlt : i.toNatClampNeg < len := Nat.not_le.mp fun q => hi (Or.inr q)
      exact W.bald hx hb c1 c2 c3 (fun q => q.elim (fun z => hi (Or.inl z)) (fun z => by omega)) (c6 _ hlt) rfl rfl hd (kk Hp locs lsr cells slots h1 h2 h3 h4 h5)
    · cases ho
  · cases ho
theorem mla_of {e : va_E} {i : Int32} {v : Int64} (h : mla e i = some v) : ∃ len f, e = .inl (2, len, .inr (.inl f)) ∧ ¬ (i < 0 ∨ len ≤ i.toNatClampNeg) ∧ v = f i.toNatClampNeg := by
  unfold mla at h
  split at h
  · split at h
    · rename_i hc
      cases h
      obtain ⟨rfl, hc⟩ := hc
      exact ⟨_, _, rfl, hc, rfl⟩
    · cases h
  · cases h
theorem ok_laload (hd : decode cc pc = .ok (.laload, 1)) : okF G own nm cc nL ret k pc (o_lal (pc + 1)) := by
  refine okF.nx mn_lal fun p l e R s m args below meth c Qf n0 k0 d hf _ ls st H out ho => ?_
  obtain ⟨hx, hb, hml, hr, hown, hts, hlocks, hK, hX, hB, hnm, hR⟩ := hf
  unfold o_lal at ho
  split at ho
  · rename_i i a st
    split at ho
    · rename_i v hm
      cases ho
      refine ⟨_, _, _, _, rfl, fun _ _ kk Hp locs lsr cells slots h1 h2 h3 h4 h5 => ?_⟩
      obtain ⟨len, f, he, hi, rfl⟩ := mla_of hm
      obtain ⟨ha, ha2⟩ := hw_ownA h1 he (by omega)
      obtain ⟨hc, -⟩ := ge_arr h1 he ha
      have hlt : i.toNatClampNeg < len := Nat.not_le.mp fun q => hi (Or.inr q)
      show W p l e R s m args below meth c Hp locs cells slots Qf (F0 m pc lsr (.int i :: .ref (gr G a) :: st.map (gv G)))
      rw [gr_own ha2]
      exact W.lald hx hb hc ((hK.1.2 2 _ (gTy_at G (by omega))).1 len (fun j => .long (f j))) (fun q => by cases q) (by show ¬ (i < 0 ∨ (arrV _ _ _).slots.size ≤ _); rw [arrV_size]; exact hi) (by show (arrV _ _ _).slots[_]? = _; rw [arrV_read _ _ hlt]; rfl) rfl rfl hd (kk Hp locs lsr cells slots h1 h2 h3 h4 h5)
    · cases ho
  · cases ho
theorem mqa_of {e : va_E} {t : Nat} {i : Int32} {v : Option Nat} (h : mqa e t i = some v) : ∃ len f, e = .inl (t, len, .inr (.inr (.inr (.inr f)))) ∧ ¬ (i < 0 ∨ len ≤ i.toNatClampNeg) ∧ v = f i.toNatClampNeg := by
  unfold mqa at h
  split at h
  · split at h
    · rename_i hc
      cases h
      obtain ⟨rfl, hc⟩ := hc
      exact ⟨_, _, rfl, hc, rfl⟩
    · cases h
  · cases h
theorem gv_rf (q : Option Nat) : gv G (va_rf q) = va_rf (q.map (gr G)) := by cases q <;> rfl
theorem ok_aaload {t : Nat} {C : String} (hd : decode cc pc = .ok (.aaload, 1)) (ht : t < 6) (hC : mTy t = .object C) : okF G own nm cc nL ret k pc (o_aal (pc + 1) t) := by
  refine okF.nx mn_aal fun p l e R s m args below meth c Qf n0 k0 d hf _ ls st H out ho => ?_
  obtain ⟨hx, hb, hml, hr, hown, hts, hlocks, hK, hX, hB, hnm, hR⟩ := hf
  unfold o_aal at ho
  split at ho
  · rename_i i a st
    split at ho
    · rename_i v hm
      cases ho
      refine ⟨_, _, _, _, rfl, fun _ _ kk Hp locs lsr cells slots h1 h2 h3 h4 h5 => ?_⟩
      obtain ⟨len, f, he, hi, rfl⟩ := mqa_of hm
      obtain ⟨ha, ha2⟩ := hw_ownA h1 he (by omega)
      obtain ⟨hc, -⟩ := ge_arr h1 he ha
      have hlt : i.toNatClampNeg < len := Nat.not_le.mp fun q => hi (Or.inr q)
      show W p l e R s m args below meth c Hp locs cells slots Qf (F0 m pc lsr (.int i :: .ref (gr G a) :: st.map (gv G)))
      rw [gr_own ha2]
      have kk2 := kk Hp locs lsr cells slots h1 h2 h3 h4 h5
      rw [List.map_cons, gv_rf] at kk2
      exact W.aald (ty := .object C) hx hb hc (by rw [← hC]; exact (hK.1.2 t _ (gTy_at G ht)).1 len (fun j => va_rf ((f j).map (gr G)))) rfl (fun q => by cases q) (by show ¬ (i < 0 ∨ (arrV _ _ _).slots.size ≤ _); rw [arrV_size]; exact hi) (by show (arrV _ _ _).slots[_]? = _; rw [arrV_read _ _ hlt]) rfl rfl hd kk2
    · cases ho
  · cases ho
theorem mis_of {e e1 : va_E} {t : Nat} {i x : Int32} (h : mis e t i x = some e1) : ∃ len f, e = .inl (t, len, .inl f) ∧ ¬ (i < 0 ∨ len ≤ i.toNatClampNeg) ∧ e1 = .inl (t, len, .inl (upd f i.toNatClampNeg x)) := by
  unfold mis at h
  split at h
  · split at h
    · rename_i hc
      cases h
      obtain ⟨rfl, hc⟩ := hc
      exact ⟨_, _, rfl, hc, rfl⟩
    · cases h
  · cases h
theorem upd_arr (cA : ClassId) (n j : Nat) (f : Nat → Int32) (x : Int32) : (arrV cA n (fun j => .int (f j))).setSlot j (.int x) = arrV cA n (fun q => .int (upd f j x q)) := by
  rw [arrV_store]
  congr 1
  funext q
  by_cases hq : q = j
  · subst hq; simp [updV, upd]
  · simp [updV, upd, hq]
theorem ok_iastore (hd : decode cc pc = .ok (.iastore, 1)) : okF G own nm cc nL ret k pc (o_ias (pc + 1)) := by
  refine okF.nx mn_ias fun p l e R s m args below meth c Qf n0 k0 d hf _ ls st H out ho => ?_
  obtain ⟨hx, hb, hml, hr, hown, hts, hlocks, hK, hX, hB, hnm, hR⟩ := hf
  unfold o_ias at ho
  split at ho
  · rename_i x i a st
    split at ho
    · rename_i v hm
      cases ho
      refine ⟨_, _, _, _, rfl, fun _ _ kk Hp locs lsr cells slots h1 h2 h3 h4 h5 => ?_⟩
      obtain ⟨len, f, he, hi, rfl⟩ := mis_of hm
      obtain ⟨ha, ha2⟩ := hw_ownA h1 he (by omega)
      obtain ⟨hc, -⟩ := ge_arr h1 he ha
      show W p l e R s m args below meth c Hp locs cells slots Qf (F0 m pc lsr (.int x :: .int i :: .ref (gr G a) :: st.map (gv G)))
      rw [gr_own ha2]
      refine W.iast hx hb hc ((hK.1.2 0 _ (gTy_at G (by omega))).1 len (fun j => .int (f j))) (fun q => by cases q) (by show ¬ (i < 0 ∨ (arrV _ _ _).slots.size ≤ _); rw [arrV_size]; exact hi) rfl rfl hd fun H1 e1 z oq => ?_
      refine kk H1 _ lsr cells slots (hw_set h1 ha ?_ (by show (0 : Nat) < 6; omega) z oq) (S_put h2 z oq) h3 h4 h5
      show H1[gB G + a]? = some (arrV (gA G 0) len (fun q => .int (upd f i.toNatClampNeg x q)))
      rw [e1]
      exact congrArg some (upd_arr _ _ _ _ _)
    · cases ho
  · cases ho
theorem nar_byte (x : Int32) : narrow .byte (.int x) = .int x.toInt8.toInt32 := rfl
theorem ok_bastore (hd : decode cc pc = .ok (.bastore, 1)) : okF G own nm cc nL ret k pc (o_bas (pc + 1)) := by
  refine okF.nx mn_bas fun p l e R s m args below meth c Qf n0 k0 d hf _ ls st H out ho => ?_
  obtain ⟨hx, hb, hml, hr, hown, hts, hlocks, hK, hX, hB, hnm, hR⟩ := hf
  unfold o_bas at ho
  split at ho
  · rename_i x i a st
    split at ho
    · rename_i v hm
      cases ho
      refine ⟨_, _, _, _, rfl, fun _ _ kk Hp locs lsr cells slots h1 h2 h3 h4 h5 => ?_⟩
      obtain ⟨len, f, he, hi, rfl⟩ := mis_of hm
      obtain ⟨ha, ha2⟩ := hw_ownA h1 he (by omega)
      obtain ⟨hc, -⟩ := ge_arr h1 he ha
      show W p l e R s m args below meth c Hp locs cells slots Qf (F0 m pc lsr (.int x :: .int i :: .ref (gr G a) :: st.map (gv G)))
      rw [gr_own ha2]
      refine W.bast hx hb hc ((hK.1.2 1 _ (gTy_at G (by omega))).1 len (fun j => .int (f j))) (fun q => by cases q) (by show ¬ (i < 0 ∨ (arrV _ _ _).slots.size ≤ _); rw [arrV_size]; exact hi) rfl rfl hd fun H1 e1 z oq => ?_
      refine kk H1 _ lsr cells slots (hw_set h1 ha ?_ (by show (1 : Nat) < 6; omega) z oq) (S_put h2 z oq) h3 h4 h5
      show H1[gB G + a]? = some (arrV (gA G 1) len (fun q => .int (upd f i.toNatClampNeg x.toInt8.toInt32 q)))
      rw [e1, nar_byte]
      exact congrArg some (upd_arr _ _ _ _ _)
    · cases ho
  · cases ho
theorem mls_of {e e1 : va_E} {i : Int32} {x : Int64} (h : mls e i x = some e1) : ∃ len f, e = .inl (2, len, .inr (.inl f)) ∧ ¬ (i < 0 ∨ len ≤ i.toNatClampNeg) ∧ e1 = .inl (2, len, .inr (.inl (vp_updL f i.toNatClampNeg x))) := by
  unfold mls at h
  split at h
  · split at h
    · rename_i hc
      cases h
      obtain ⟨rfl, hc⟩ := hc
      exact ⟨_, _, rfl, hc, rfl⟩
    · cases h
  · cases h
theorem ok_lastore (hd : decode cc pc = .ok (.lastore, 1)) : okF G own nm cc nL ret k pc (o_las (pc + 1)) := by
  refine okF.nx mn_las fun p l e R s m args below meth c Qf n0 k0 d hf _ ls st H out ho => ?_
  obtain ⟨hx, hb, hml, hr, hown, hts, hlocks, hK, hX, hB, hnm, hR⟩ := hf
  unfold o_las at ho
  split at ho
  · rename_i x i a st
    split at ho
    · rename_i v hm
      cases ho
      refine ⟨_, _, _, _, rfl, fun _ _ kk Hp locs lsr cells slots h1 h2 h3 h4 h5 => ?_⟩
      obtain ⟨len, f, he, hi, rfl⟩ := mls_of hm
      obtain ⟨ha, ha2⟩ := hw_ownA h1 he (by omega)
      obtain ⟨hc, -⟩ := ge_arr h1 he ha
      show W p l e R s m args below meth c Hp locs cells slots Qf (F0 m pc lsr (.long x :: .int i :: .ref (gr G a) :: st.map (gv G)))
      rw [gr_own ha2]
      refine W.last hx hb hc ((hK.1.2 2 _ (gTy_at G (by omega))).1 len (fun j => .long (f j))) (fun q => by cases q) (by show ¬ (i < 0 ∨ (arrV _ _ _).slots.size ≤ _); rw [arrV_size]; exact hi) rfl rfl hd fun H1 e1 z oq => ?_
      refine kk H1 _ lsr cells slots (hw_set h1 ha ?_ (by show (2 : Nat) < 6; omega) z oq) (S_put h2 z oq) h3 h4 h5
      show H1[gB G + a]? = some (arrV (gA G 2) len (fun q => .long (vp_updL f i.toNatClampNeg x q)))
      rw [e1]
      show some ((arrV (gA G 2) len (fun q => .long (f q))).setSlot i.toNatClampNeg (.long x)) = _
      rw [arrV_store]
      refine congrArg (fun z => some (arrV (gA G 2) len z)) ?_
      funext q
      by_cases hq : q = i.toNatClampNeg
      · subst hq; simp [updV, vp_updL]
      · simp [updV, vp_updL, hq]
    · cases ho
  · cases ho
theorem mlen_of {e : va_E} {len : Nat} (h : mlen e = some len) : ∃ t x, e = .inl (t, len, x) := by
  unfold mlen at h
  split at h
  · cases h; exact ⟨_, _, rfl⟩
  · cases h
theorem ok_arraylength (hd : decode cc pc = .ok (.arraylength, 1)) : okF G own nm cc nL ret k pc (o_len (pc + 1)) := by
  refine okF.nx mn_len fun p l e R s m args below meth c Qf n0 k0 d hf _ ls st H out ho => ?_
  obtain ⟨hx, hb, hml, hr, hown, hts, hlocks, hK, hX, hB, hnm, hR⟩ := hf
  unfold o_len at ho
  split at ho
  · rename_i a st
    split at ho
    · rename_i len hm
      cases ho
      refine ⟨_, _, _, _, rfl, fun _ _ kk Hp locs lsr cells slots h1 h2 h3 h4 h5 => ?_⟩
      obtain ⟨t, x, he⟩ := mlen_of hm
      by_cases ha : a < H.1
      · obtain ⟨hc, ht6⟩ := ge_arr h1 he ha
        show W p l e R s m args below meth c Hp locs cells slots Qf (F0 m pc lsr (.ref (gr G a) :: st.map (gv G)))
        rw [gr_own (Nat.lt_of_lt_of_le ha h1.2.1)]
        have hv : ∃ z, vp_cell (gA G t) (len, gq G x) = arrV (gA G t) len z := by
          rcases x with f | f | f | f | f
          · exact ⟨fun j => .int (f j), rfl⟩
          · exact ⟨fun j => .long (f j), rfl⟩
          · exact ⟨fun j => .float (f j), rfl⟩
          · exact ⟨fun j => .double (f j), rfl⟩
          · exact ⟨fun j => va_rf ((f j).map (gr G)), rfl⟩
        obtain ⟨z, hz⟩ := hv
        rw [hz] at hc
        exact W.alen (n := nI len) hx hb hc ((hK.1.2 t _ (gTy_at G ht6)).1 len z) (by rw [arrV_size]; rfl) rfl rfl hd (kk Hp locs lsr cells slots h1 h2 h3 h4 h5)
      · have hm2 := h1.2.2.2 a (Nat.not_lt.mp ha)
        rw [he] at hm2
        have hf : ∃ f ty, x = .inl f ∧ (((t = 0 ∨ t = 10) ∧ ty = FieldType.int) ∨ ((t = 1 ∨ t = 11) ∧ ty = FieldType.byte)) := by
          rcases mx_big hm2.symm with ⟨rfl, i, hi, rfl, rfl, hf⟩ | ⟨rfl, rfl, rfl, hf⟩ | ⟨rfl, rfl, rfl, hf⟩
          · exact ⟨_, .byte, hf, Or.inr ⟨Or.inr rfl, rfl⟩⟩
          · exact ⟨_, .int, hf, Or.inl ⟨Or.inr rfl, rfl⟩⟩
          · exact ⟨_, .int, hf, Or.inl ⟨Or.inr rfl, rfl⟩⟩
        obtain ⟨f, ty, rfl, hty⟩ := hf
        obtain ⟨cell, c1, c2, c3, c4, c5, c6⟩ := av_i hK hX h1 h2 he ty hty
        exact W.alen hx hb c1 c2 c5 rfl rfl hd (kk Hp locs lsr cells slots h1 h2 h3 h4 h5)
    · cases ho
  · cases ho
end OKA
