/-! the instructions that read and write cells -/
section OKH
variable {G : mG} {own nm : String} {cc : ByteArray} {nL k pc : Nat} {ret : Option FieldType}
theorem mx_low {L : Nat} {xs : Nat → Int32} {a : Nat} (h : a < 1000000) : mx L xs a = .inr (999, []) := by simp [mx, h]
/-- a cell of one of our classes is ours -/
theorem hw_own {H : mH} {Hp : Heap} {a ci : Nat} {fs : List Value} (h : hw G H Hp) (he : H.2.2 a = .inr (ci, fs)) (hc : ci < 99) : a < H.1 ∧ a < 1000000 := by
  by_cases ha : a < H.1
  · exact ⟨ha, Nat.lt_of_lt_of_le ha h.2.1⟩
  · exfalso
    have h1 := h.2.2.2 a (Nat.not_lt.mp ha)
    rw [he] at h1
    unfold mx at h1
    repeat' split at h1
    all_goals first | (cases h1; omega) | cases h1
def mtag (e : va_E) : Nat := match e with
  | .inl (t, _, _) => t
  | .inr _ => 1000
theorem hw_ownA {H : mH} {Hp : Heap} {a t n : Nat} {x : mQ} (h : hw G H Hp) (he : H.2.2 a = .inl (t, n, x)) (ht : t < 10) : a < H.1 ∧ a < 1000000 := by
  by_cases ha : a < H.1
  · exact ⟨ha, Nat.lt_of_lt_of_le ha h.2.1⟩
  · exfalso
    have h1 := h.2.2.2 a (Nat.not_lt.mp ha)
    rw [he] at h1
    have h2 := congrArg mtag h1
    have h3 : mtag (mx (gL G) (gS G) a) = 10 ∨ mtag (mx (gL G) (gS G) a) = 11 ∨ mtag (mx (gL G) (gS G) a) = 1000 := by
      unfold mx
      repeat' split
      all_goals simp [mtag]
    have h4 : mtag (.inl (t, n, x)) = t := rfl
    omega
theorem gr_own {a : Nat} (h : a < 1000000) : gr G a = gB G + a := by simp [gr, h]
theorem hw_set {H : mH} {Hp H1 : Heap} {a : Nat} {e : va_E} (h : hw G H Hp) (ha : a < H.1) (he : va_at (gD G) mCl (gB G + a, ge G e) H1) (ht : mokt e) (hz : H1.size = Hp.size) (oq : ∀ q : Nat, q ≠ gB G + a → H1[q]? = Hp[q]?) : hw G (mset H a e) H1 := by
  refine ⟨hz.trans h.1, h.2.1, fun b hb => ?_, fun b hb => ?_⟩
  · show va_at _ _ (gB G + b, ge G (va_up H.2.2 a e b)) H1 ∧ mokt (va_up H.2.2 a e b)
    by_cases hba : b = a
    · subst hba
      rw [va_up, if_pos rfl]
      exact ⟨he, ht⟩
    · rw [va_up, if_neg hba]
      obtain ⟨h1, h2⟩ := h.2.2.1 b hb
      exact ⟨h1.kept (oq _ (by show gB G + b ≠ _; omega)), h2⟩
  · show va_up H.2.2 a e b = _
    have hb' : H.1 ≤ b := hb
    rw [va_up, if_neg (by omega)]
    exact h.2.2.2 b hb
theorem hw_push {H : mH} {Hp H1 : Heap} {w : Nat} {e : va_E} (h : hw G H Hp) (hn : H.1 < 1000000) (he : va_at (gD G) mCl (gB G + H.1, ge G e) H1) (ht : mokt e) (hz : H1.size = Hp.size + 1) (oq : ∀ q : Nat, q < Hp.size → H1[q]? = Hp[q]?) : hw G (mnew H w e) H1 := by
  refine ⟨by show _ = gB G + (H.1 + 1); rw [hz, h.1]; omega, by show H.1 + 1 ≤ _; omega, fun b hb => ?_, fun b hb => ?_⟩
  · show va_at _ _ (gB G + b, ge G (va_up H.2.2 H.1 e b)) H1 ∧ mokt (va_up H.2.2 H.1 e b)
    have hb' : b < H.1 + 1 := hb
    by_cases hba : b = H.1
    · subst hba
      rw [va_up, if_pos rfl]
      exact ⟨he, ht⟩
    · rw [va_up, if_neg hba]
      obtain ⟨h1, h2⟩ := h.2.2.1 b (by omega)
      exact ⟨h1.kept (oq _ (by show gB G + b < _; rw [h.1]; omega)), h2⟩
  · show va_up H.2.2 H.1 e b = _
    have hb' : H.1 + 1 ≤ b := hb
    rw [va_up, if_neg (by omega)]
    exact h.2.2.2 b (by omega)
theorem S_put {s : State} {Hp H1 : Heap} {locs : List Loc} {a j : Nat} (h : va_S (gAx G) s.heap Hp locs) (hz : H1.size = Hp.size) (oq : ∀ q : Nat, q ≠ gB G + a → H1[q]? = Hp[q]?) : va_S (gAx G) s.heap H1 (locs ++ [⟨gB G + a, j⟩]) :=
  h.put hz oq (show gB G ≤ gB G + a from Nat.le_add_right _ _)
theorem S_new {s : State} {Hp H1 : Heap} {locs : List Loc} (h : va_S (gAx G) s.heap Hp locs) (hz : H1.size = Hp.size + 1) (oq : ∀ q : Nat, q < Hp.size → H1[q]? = Hp[q]?) : va_S (gAx G) s.heap H1 locs :=
  ⟨by have := h.1; omega, fun q h1 h2 => (oq q (Nat.lt_of_lt_of_le h1 h.1)).trans (h.2.1 q h1 h2), h.2.2⟩
theorem mfld_of {e : va_E} {ci kf : Nat} {v : Value} (h : mfld e ci kf = some v) : ∃ fs, e = .inr (ci, fs) ∧ fs[kf]? = some v := by
  unfold mfld at h
  split at h
  · rename_i c fs
    split at h
    · rename_i hc
      subst hc
      exact ⟨fs, rfl, h⟩
    · cases h
  · cases h
theorem ok_getfield {C : String} {T : u_T} {N ci kf idx : Nat} (hd : decode cc pc = .ok (.getfield idx, 3)) (hc : mCl[ci]? = some (C, T, N)) (hci : ci < 99) (hin : ∀ w ∈ u_ws C T N, w ∈ mTb) (hk : kf < N) (hw : Cond.fieldLink own idx (T kf).1 (T kf).2.1 (T kf).2.2.1 ∈ mTb) : okF G own nm cc nL ret k pc (o_gf (pc + 3) ci kf) := by
  refine okF.nx mn_gf fun p l e R s m args below meth c Qf n0 k0 d hf _ ls st H out ho => ?_
  obtain ⟨hx, hb, hml, hr, hown, hts, hlocks, hK, hX, hB, hnm, hR⟩ := hf
  unfold o_gf at ho
  split at ho
  · rename_i a st
    split at ho
    · rename_i v hm
      cases ho
      refine ⟨_, _, _, _, rfl, fun _ _ kk Hp locs lsr cells slots h1 h2 h3 h4 h5 => ?_⟩
      obtain ⟨fs, he, hv⟩ := mfld_of hm
      obtain ⟨ha, ha2⟩ := hw_own h1 he hci
      have hat := (h1.2.2.1 a ha).1
      rw [he] at hat
      obtain ⟨r, g1, cell, q1, q2, q3, q4⟩ := hat
      have hr : r = (C, T, N) := Option.some.inj (g1.symm.trans hc)
      subst hr
      obtain ⟨hS, hfc, kC, hkC, hkind⟩ := hK.1.1 ci _ hc
      obtain ⟨cf, kf', fi, f, hi, hsl⟩ := hS kf hk
      show W p l e R s m args below meth c Hp locs cells slots Qf (F0 m pc lsr (.ref (gr G a) :: st.map (gv G)))
      rw [gr_own ha2]
      refine W.getf hx hb hown (hts _ hw) hi (u_facts hfc hkC (u_lays hts hin hk) hi).1 q1 (by rw [q3]; exact fun h => by cases h) (v := gv G v) ?_ rfl rfl hd (kk Hp locs lsr cells slots h1 h2 h3 h4 h5)
      rw [hsl, q4 kf hk]
      simp [vp_V, hv]
    · cases ho
  · cases ho
theorem mfset_of {e e1 : va_E} {ci kf : Nat} {v : Value} (h : mfset e ci kf v = some e1) : ∃ fs, e = .inr (ci, fs) ∧ kf < fs.length ∧ e1 = .inr (ci, fs.set kf v) := by
  unfold mfset at h
  split at h
  · rename_i c fs
    split at h
    · rename_i hc
      obtain ⟨rfl, hl⟩ := hc
      cases h
      exact ⟨fs, rfl, hl, rfl⟩
    · cases h
  · cases h
theorem mfit_0 {v : Value} (h : mfit 0 v = true) : narrow .int (gv G v) = gv G v ∧ fits .int (gv G v) = true := by
  cases v <;> first | exact ⟨rfl, rfl⟩ | cases h
theorem mfit_1 {v : Value} (h : mfit 1 v = true) : narrow .boolean (gv G v) = gv G v ∧ fits .boolean (gv G v) = true := by
  cases v with
  | int x =>
    simp only [mfit, Bool.or_eq_true, beq_iff_eq] at h
    rcases h with rfl | rfl
    · exact (show narrow .boolean (.int 0) = .int 0 ∧ fits .boolean (.int 0) = true by decide)
    · exact (show narrow .boolean (.int 1) = .int 1 ∧ fits .boolean (.int 1) = true by decide)
  | _ => cases h
theorem mfit_2 {v : Value} {ty : FieldType} (hty : (∃ n, ty = .object n) ∨ ∃ t, ty = .array t) (h : mfit 2 v = true) : narrow ty (gv G v) = gv G v ∧ fits ty (gv G v) = true := by
  rcases hty with ⟨n, rfl⟩ | ⟨n, rfl⟩ <;> cases v <;> first | exact ⟨rfl, rfl⟩ | cases h
theorem ok_putfield {C : String} {T : u_T} {ty0 : Nat → FieldType} {N ci kf idx t : Nat} (hd : decode cc pc = .ok (.putfield idx, 3)) (hc : mCl[ci]? = some (C, T, N)) (hci : ci < 99) (hin : ∀ w ∈ u_ws C T N, w ∈ mTb) (hty : ∀ j, j < N → parseFieldDescriptor (T j).2.2.1 = some (ty0 j)) (hnmT : ∀ a, a < N → ∀ b, b < N → a ≠ b → (T a).2.1 ≠ (T b).2.1) (hk : kf < N) (hw : Cond.fieldLink own idx (T kf).1 (T kf).2.1 (T kf).2.2.1 ∈ mTb)
    (hfin : (T kf).2.2.2 = false ∨ ((T kf).2.2.2 = true ∧ nm = "<init>" ∧ (T kf).1 = own)) (hfit : ∀ v, mfit t v = true → narrow (ty0 kf) (gv G v) = gv G v ∧ fits (ty0 kf) (gv G v) = true) : okF G own nm cc nL ret k pc (o_pf (pc + 3) ci kf t) := by
  refine okF.nx mn_pf fun p l e R s m args below meth c Qf n0 k0 d hf _ ls st H out ho => ?_
  obtain ⟨hx, hb, hml, hr, hown, hts, hlocks, hK, hX, hB, hnm, hR⟩ := hf
  unfold o_pf at ho
  split at ho
  · rename_i v a st
    split at ho
    · rename_i e1 hm
      split at ho
      · rename_i hv
        cases ho
        refine ⟨_, _, _, _, rfl, fun _ _ kk Hp locs lsr cells slots h1 h2 h3 h4 h5 => ?_⟩
        obtain ⟨fs, he, hl, rfl⟩ := mfset_of hm
        obtain ⟨ha, ha2⟩ := hw_own h1 he hci
        have hat := (h1.2.2.1 a ha).1
        rw [he] at hat
        have hap := va_apart (own := own) hts hin ty0 hty hnmT hK.1 hc
        obtain ⟨r, g1, cell, q1, q2, q3, q4⟩ := hat
        have hr : r = (C, T, N) := Option.some.inj (g1.symm.trans hc)
        subst hr
        obtain ⟨hS, hfc, kC, hkC, hkind⟩ := hK.1.1 ci _ hc
        obtain ⟨cf, kf', fi, f, hi, hsl⟩ := hS kf hk
        have hst := (u_facts hfc hkC (u_lays hts hin hk) hi).1
        obtain ⟨hn1, hn2⟩ := hfit v hv
        show W p l e R s m args below meth c Hp locs cells slots Qf (F0 m pc lsr (gv G v :: .ref (gr G a) :: st.map (gv G)))
        rw [gr_own ha2]
        have fin : ∀ H' : Heap, H'[gB G + a]? = some (cell.setSlot f.slot (gv G v)) → H'.size = Hp.size → (∀ q, q ≠ gB G + a → H'[q]? = Hp[q]?) → W p l e R s m args below meth c H' (locs ++ [⟨gB G + a, f.slot⟩]) cells slots Qf (F0 m (pc + 3) lsr (st.map (gv G))) := by
          intro H' e1 e2 e3
          refine kk H' _ lsr cells slots (hw_set h1 ha ?_ trivial e2 e3) (S_put h2 e2 e3) h3 h4 h5
          refine ⟨_, hc, ?_⟩
          rw [hsl] at e1
          show t_OB _ _ _ _ _ (vp_V ((fs.set kf v).map (gv G)))
          refine t_OB.to (V := updV (vp_V (fs.map (gv G))) kf (gv G v)) ⟨_, e1, q2, q3, t_set q4 hap hk (gv G v)⟩ (fun j _ => ?_)
          rw [List.map_set]
          exact vp_updV_set (by simpa using hl) (gv G v) j
        rcases hfin with hfin | ⟨hfin, hin2, hdecl⟩
        · have hlay := hts _ (hin _ (u_in_lay hk))
          unfold u_lay at hlay
          rw [if_neg (by rw [hfin]; decide)] at hlay
          have h6 := u_store hfc hkC hkind hlay hi (hty kf hk) hn1 hn2
          exact W.putK hx hb (f := f) ⟨hown, hts _ hw, ⟨_, _, _, hi⟩, hst⟩ (by rw [q2]; exact h6) q1 q3 (by rw [hsl]; exact k2_hasslot (q4 kf hk)) rfl rfl hd fin
        · have hlay := hts _ (hin _ (u_in_lay hk))
          unfold u_lay at hlay
          rw [if_pos hfin] at hlay
          have hcf : m.cls = cf := by
            obtain ⟨_, _, c', _, _, _, -, -, hf', -, -, -, hown2, -⟩ := Cond.laysFinal_spec hlay
            have e1 : c' = cf := by have := hi.symm.trans hf'; simp at this; exact this.1.symm
            rw [hdecl] at hown2
            rw [← e1]; exact Option.some.inj (hown.symm.trans hown2)
          have h6 := u_fits hfc hkC hkind (Or.inr hlay) hi (hty kf hk) hn1 hn2
          exact W.putFinK hx hb hown (hts _ hw) hi hst hcf ((hnm hin2).trans hin2) (by rw [q2]; exact h6) q1 q3 (by rw [hsl]; exact k2_hasslot (q4 kf hk)) rfl rfl hd fin
      · cases ho
    · cases ho
  · cases ho
end OKH
