/-! what the small machine comes to, the big one comes to -/
theorem args_ent {G : mG} (hO : gO G = .null ∨ ∃ t, gO G = .ref t) : ∀ (as : List Value) (o j : Nat) (v : Value), (mfl as)[j]? = some v → v ≠ .retAddr 0 → (o + j, gv G v) ∈ lv_args o (as.map (gv G))
  | [], _, _, _, h, _ => by simp [mfl] at h
  | a :: as, o, j, v, h, hv => by
    have ih := args_ent hO as
    have two : a.category = 2 → mfl (a :: as) = a :: .retAddr 0 :: mfl as := by intro hc; cases a <;> first | rfl | (simp [Value.category] at hc)
    have one : a.category = 1 → mfl (a :: as) = a :: mfl as := by intro hc; cases a <;> first | rfl | (simp [Value.category] at hc)
    rw [List.map_cons, lv_args, gv_cat hO]
    rcases lv_cat a with hc | hc
    · rw [one hc] at h
      rw [if_neg (by omega)]
      cases j with
      | zero =>
        cases h
        exact List.mem_cons_self
      | succ j =>
        have := ih (o + 1) j v (by simpa using h) hv
        rw [show o + 1 + j = o + (j + 1) by omega] at this
        exact List.mem_cons_of_mem _ this
    · rw [two hc] at h
      rw [if_pos hc]
      match j, h with
      | 0, h =>
        cases h
        exact List.mem_cons_self
      | 1, h =>
        cases h
        exact absurd rfl hv
      | j + 2, h =>
        have := ih (o + 2) j v (by simpa using h) hv
        rw [show o + 2 + j = o + (j + 2) by omega] at this
        exact List.mem_cons_of_mem _ this
theorem mfl_len : ∀ as : List Value, (mfl as).length = mwt as
  | [] => rfl
  | a :: as => by
    have ih := mfl_len as
    cases a <;> simp only [mfl, mwt, Value.category, List.length_cons, ih] <;> omega
theorem sl_len {G : mG} (hO : gO G = .null ∨ ∃ t, gO G = .ref t) : ∀ as : List Value, (lg_sl (as.map (gv G))).length = mwt as
  | [] => rfl
  | a :: as => by
    have ih := sl_len hO as
    rw [List.map_cons, lg_sl, List.flatMap_cons, List.length_append]
    have e : (List.flatMap (fun (v : Value) => if v.category = 2 then [Slot.val v, Slot.second] else [Slot.val v]) (as.map (gv G))).length = mwt as := ih
    rw [e, gv_cat hO, mwt]
    rcases lv_cat a with hc | hc
    · rw [if_neg (by omega), hc]; rfl
    · rw [if_pos hc, hc]; rfl
theorem lr_ent {G : mG} (hO : gO G = .null ∨ ∃ t, gO G = .ref t) {as : List Value} {nL : Nat} (h : mwt as ≤ nL) : lr G (ment nL as) ((lg_sl (as.map (gv G)) ++ List.replicate (nL - (lg_sl (as.map (gv G))).length) Slot.unset).toArray) nL := by
  have he := lv_entry (as.map (gv G)) (n := nL) (by rw [sl_len hO]; exact h)
  refine ⟨he.1, ?_, he.2.1, fun j v hj hv => ?_⟩
  · rw [ment, List.length_append, List.length_replicate, mfl_len]; omega
  · rw [ment] at hj
    by_cases hl : j < (mfl as).length
    · rw [List.getElem?_append_left hl] at hj
      have := args_ent hO as 0 j v hj hv
      rw [Nat.zero_add] at this
      exact he.2.2 _ this
    · rw [List.getElem?_append_right (by omega)] at hj
      have := List.mem_of_getElem? hj
      exact absurd (List.eq_of_mem_replicate this) hv
set_option maxRecDepth 20000 in
theorem plain_all : (List.range 282).all (fun N => plainFor (mInf N).1) = true := by decide +kernel
/-- a method whose body goes through meets its contract -/
theorem met_of {G : mG} {l : Launch} {N d : Nat} {as : List Value} {H H' : mH} {r : Option Value} (hN : N < 282) (hwt : mwt as ≤ (mInf N).2.2.1)
    (go : ∀ (p : Program) (e : Env) (R : Room) (s : State) (m : MethodId) (args : Array Value) (below : List Frame) (meth : Method) (c : Code) (Qf : State → Prop) (n0 k0 : Nat), fx G (mInf N).1.cls (mInf N).1.name (mInf N).2.1 (mInf N).2.2.1 (mInf N).2.2.2.1 p R s m args meth c → ((mInf N).2.2.2.2 + 8 * d ≤ R.frames ∧ 64 * ((mInf N).2.2.2.2 + 8 * d) ≤ R.locals) → H'.1 ≤ n0 + R.cells → H'.2.1 ≤ k0 + R.slots → mR G (mInf N).2.1 (mInf N).2.2.2.1 p l e R s m args below meth c Qf n0 k0 r H' → mW G (mInf N).2.2.1 p l e R s m args below meth c Qf n0 k0 0 (ment (mInf N).2.2.1 as) [] H) (hle : H.1 ≤ H'.1) (hle2 : H.2.1 ≤ H'.2.1) : mMet G l N d as H r H' := by
  refine va_MetF (cc := (mInf N).2.1) (maxL := (mInf N).2.2.1) (ret := (mInf N).2.2.2.1) (List.all_eq_true.mp plain_all N (List.mem_range.mpr hN)) rfl ?_
  intro p e s m args below meth c s₁ B hml hv
  obtain ⟨rfl, h1, hK, hX, hB⟩ := hv
  rw [lg_entry_eq]
  have hts := atoms_spec (ws := mWs N) B.pre
  have hlocks := B.notSynchronized
  have hx := B.exec
  have hb := B.bytes
  refine go p e _ s m _ below meth c _ H.1 H.2.1 ⟨B.exec, B.bytes, hml, B.returns, findClass_of_methodNamed B.named, fun w hw => hts w (List.mem_cons_of_mem _ hw), B.notSynchronized, hK, hX, hB, (fun _ => (name_of_methodNamed B.named B.method).1), trivial⟩ ⟨Nat.le_refl _, Nat.le_refl _⟩ ?_ ?_ ?_ s.heap [] _ 0 0 h1 va_S.rf (lr_ent hK.2.2.1 hwt) (by omega) (by omega)
  · show H'.1 ≤ H.1 + (H'.1 - H.1); omega
  · show H'.2.1 ≤ H.2.1 + (H'.2.1 - H.2.1); omega
  · intro Hp locs lsr cells slots pc ins hd hri g1 g2 g3 g4
    have hc : H'.1 - H.1 = cells := by omega
    have hs : H'.2.1 - H.2.1 = slots := by omega
    rw [hc, hs]
    have hq : ∀ t : State, t.heap = Hp → s.WarmedH t.vm → qcx G r H' (as.map (gv G)).toArray s (.returned (r.map (gv G))) t := fun t ht _ => ⟨rfl, by rw [ht]; exact g1, by rw [ht]; exact g2.1, fun q q1 q2 => by rw [ht]; exact g2.2.1 q q1 q2⟩
    rcases hri with ⟨rfl, rfl, hr⟩ | ⟨x, ty, rfl, rfl, hr, hn⟩ | ⟨x, rfl, rfl, hr⟩ | ⟨v, rt, rfl, rfl, hr, hrt, hv⟩
    · exact W.vret hx hb (B.returns.trans hr) hq g2.2.2 hd
    · exact W.zret hx hb (B.returns.trans hr) hn hq g2.2.2 hd
    · exact W.lret hx hb (B.returns.trans hr) hq g2.2.2 hd
    · refine W.aret hx hb (B.returns.trans hr) hrt ?_ hq g2.2.2 hd
      rcases hv with rfl | ⟨a, rfl⟩
      · exact Or.inl rfl
      · exact Or.inr ⟨_, rfl⟩
def g00 : mG := ((fun _ => 0, fun _ _ => 0), fun _ => 0, 0, fun _ => 0, .null, 0, fun _ => 0)
theorem grows : ∀ (f M d pc : Nat) (ls : mL) (st : List Value) (H : mH) (r : Option Value) (H' : mH), M < 282 → mrun cT f M d pc ls st H = some (r, H') → H.1 ≤ H'.1 ∧ H.2.1 ≤ H'.2.1 := by
  intro f
  induction f with
  | zero => intro M d pc ls st H r H' _ h; simp [mrun] at h
  | succ f ih =>
    intro M d pc ls st H r H' hM h
    have hok := (all_ok (G := g00) hM pc).1
    rw [mrun] at h
    split at h
    · cases h
    · rename_i n ls' st' H1 hT
      have h1 := hok.1 _ _ _ _ _ _ _ hT
      have h2 := ih _ _ _ _ _ _ _ _ hM h
      omega
    · cases h; exact ⟨Nat.le_refl _, Nat.le_refl _⟩
    · rename_i N b le rest n hT
      have hN := hok.2 _ _ _ _ _ _ _ _ hT
      cases b with
      | true =>
        cases d with
        | zero => simp at h
        | succ d' =>
          simp only at h
          cases h1 : mrun cT f N d' 0 le [] H with
          | none => rw [h1] at h; cases h
          | some q =>
            obtain ⟨r1, H1⟩ := q
            rw [h1] at h
            have g1 := ih _ _ _ _ _ _ _ _ hN h1
            have g2 := ih _ _ _ _ _ _ _ _ hM h
            omega
      | false =>
        simp only at h
        cases h1 : mrun cT f N d 0 le [] H with
        | none => rw [h1] at h; cases h
        | some q =>
          obtain ⟨r1, H1⟩ := q
          rw [h1] at h
          have g1 := ih _ _ _ _ _ _ _ _ hN h1
          have g2 := ih _ _ _ _ _ _ _ _ hM h
          omega
theorem snd_run {G : mG} {l : Launch} : ∀ (f M d pc : Nat) (ls : mL) (st : List Value) (H : mH) (r : Option Value) (H' : mH), M < 282 → mrun cT f M d pc ls st H = some (r, H') →
    ∀ (p : Program) (e : Env) (R : Room) (s : State) (m : MethodId) (args : Array Value) (below : List Frame) (meth : Method) (c : Code) (Qf : State → Prop) (n0 k0 : Nat), fx G (mInf M).1.cls (mInf M).1.name (mInf M).2.1 (mInf M).2.2.1 (mInf M).2.2.2.1 p R s m args meth c → ((mInf M).2.2.2.2 + 8 * d ≤ R.frames ∧ 64 * ((mInf M).2.2.2.2 + 8 * d) ≤ R.locals) → H'.1 ≤ n0 + R.cells → H'.2.1 ≤ k0 + R.slots → mR G (mInf M).2.1 (mInf M).2.2.2.1 p l e R s m args below meth c Qf n0 k0 r H' → mW G (mInf M).2.2.1 p l e R s m args below meth c Qf n0 k0 pc ls st H := by
  intro f
  induction f with
  | zero => intro M d pc ls st H r H' _ h; simp [mrun] at h
  | succ f ih =>
    intro M d pc ls st H r H' hM h p e R s m args below meth c Qf n0 k0 hf hk hc hs hR
    have hok := (all_ok (G := G) hM pc).2 p l e R s m args below meth c Qf n0 k0 d hf hk ls st H
    rw [mrun] at h
    cases hT : cT M pc ls st H with
    | none => rw [hT] at h; cases h
    | some out =>
      rw [hT] at h
      have hok := hok out hT
      match out, h, hok with
      | .inl (n, ls', st', H1), h, hok =>
        have hg := grows _ _ _ _ _ _ _ _ _ hM h
        exact hok (by omega) (by omega) (ih _ _ _ _ _ _ _ _ hM h p e R s m args below meth c Qf n0 k0 hf hk hc hs hR)
      | .inr (.inl r'), h, hok =>
        cases h
        exact hok hR
      | .inr (.inr (N, b, le, rest, n)), h, hok =>
        obtain ⟨hN, as, hle, hwt, hok⟩ := hok
        have key : ∀ d', (b = true → d = d' + 1) → (b = false → d = d') → ∀ r1 H1, mrun cT f N d' 0 le [] H = some (r1, H1) → mrun cT f M d n ls (r1.toList ++ rest) H1 = some (r, H') → mW G (mInf M).2.2.1 p l e R s m args below meth c Qf n0 k0 pc ls st H := by
          intro d' hb1 hb2 r1 H1 hc1 hc2
          have g1 := grows _ _ _ _ _ _ _ _ _ hN hc1
          have g2 := grows _ _ _ _ _ _ _ _ _ hM hc2
          refine hok d' r1 H1 hb1 hb2 (met_of hN hwt ?_ g1.1 g1.2) g1.1 g1.2 (by omega) (by omega) (ih _ _ _ _ _ _ _ _ hM hc2 p e R s m args below meth c Qf n0 k0 hf hk hc hs hR)
          intro p e R s m args below meth c Qf n0 k0 hf hk hc hs hR
          rw [← hle]
          exact ih _ _ _ _ _ _ _ _ hN hc1 p e R s m args below meth c Qf n0 k0 hf hk hc hs hR
        cases b with
        | true =>
          cases d with
          | zero => simp at h
          | succ d' =>
            simp only at h
            cases h1 : mrun cT f N d' 0 le [] H with
            | none => rw [h1] at h; cases h
            | some q =>
              obtain ⟨r1, H1⟩ := q
              rw [h1] at h
              exact key d' (fun _ => rfl) (fun hb => by cases hb) r1 H1 h1 h
        | false =>
          simp only at h
          cases h1 : mrun cT f N d 0 le [] H with
          | none => rw [h1] at h; cases h
          | some q =>
            obtain ⟨r1, H1⟩ := q
            rw [h1] at h
            exact key d (fun hb => by cases hb) (fun _ => rfl) r1 H1 h1 h
