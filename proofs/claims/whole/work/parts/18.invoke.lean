/-! calls -/
section OKI
variable {G : mG} {own nm : String} {cc : ByteArray} {nL k pc : Nat} {ret : Option FieldType}
theorem mwt_app (a b : List Value) : mwt (a ++ b) = mwt a + mwt b := by
  induction a with
  | nil => simp [mwt]
  | cons v l ih => simp only [List.cons_append, mwt, ih]; omega
theorem mwt_rev (a : List Value) : mwt a.reverse = mwt a := by
  induction a with
  | nil => rfl
  | cons v l ih => rw [List.reverse_cons, mwt_app, ih]; simp only [mwt]; omega
theorem pcx_blind {as : List Value} {H : mH} : FrameBlind (pcx G as H) := fun a U g mk q => ⟨q.1, q.2.1, gK.same (u := U) (U := U.calling g mk a) rfl q.2.2.1, gx.moved (u := U) (U := U.calling g mk a) (Vm.Alike.refl U.vm) q.2.2.2.1, q.2.2.2.2⟩
theorem mWs_good {N n : Nat} (h : mKw N n) : GoodIn mTb (mWs N) := by
  intro w hw
  rcases List.mem_cons.mp hw with rfl | hw
  · exact mtb_good _ h.1
  · exact mtb_good w hw
section
variable {p : Program} {l : Launch} {e : Env} {R : Room} {s : State} {m : MethodId} {args : Array Value} {below : List Frame} {meth : Method} {c : Code} {Qf : State → Prop} {n0 k0 d : Nat} {ls : mL} {st : List Value} {H : mH}
theorem call_go {mc ms n : Nat} {Hp : Heap} {locs : List Loc} {cells slots : Nat} {lsr : Array Slot} {st0 : List Value} {rest : List Value} {r : Option Value} {H' : mH} {v : Array Value} (hmc : mc = H'.1 - H.1) (hms : ms = H'.2.1 - H.2.1) (hr : va_Run p l e R s m args below meth c Hp locs cells slots mc ms (F0 m pc lsr st0) (rest.map (gv G)) (qcx G r H' v) (gAx G)) (hn : n = pc + 3) (hle : H.1 ≤ H'.1) (hle2 : H.2.1 ≤ H'.2.1) (kk : mW G nL p l e R s m args below meth c Qf n0 k0 n ls (r.toList ++ rest) H') (h2 : va_S (gAx G) s.heap Hp locs) (h3 : lr G ls lsr nL) (h4 : H.1 = n0 + cells) (h5 : H.2.1 = k0 + slots) : W p l e R s m args below meth c Hp locs cells slots Qf (F0 m pc lsr st0) := by
  intro T hT X
  obtain ⟨v, st₀, t, T', L, h0, X', hL, e1, e2, ⟨hq1, hq2, hq3, hq4⟩, stp⟩ := hr T hT X
  have hv : v = r.map (gv G) := Outcome.returned.inj hq1
  subst hv
  subst hn
  rw [h0] at hq3 hq4
  have kk2 := kk T'.heap (locs ++ L) lsr (cells + mc) (slots + ms) (by rw [e1]; exact hq2) ⟨Nat.le_trans h2.1 (by rw [e1]; exact hq3), fun q g1 g2 => by rw [e1, hq4 q (Nat.lt_of_lt_of_le g1 h2.1) g2]; exact h2.2.1 q g1 g2, fun q hq => by
      rcases List.mem_append.mp hq with g | g
      · exact h2.2.2 q g
      · exact hL q g⟩ h3 (by omega) (by omega)
  have es : (r.toList ++ rest).map (gv G) = (r.map (gv G)).toList ++ rest.map (gv G) := by cases r <;> rfl
  rw [es] at kk2
  obtain ⟨t2, a1, b1⟩ := kk2 T' rfl X'
  exact ⟨t2, stp t2 a1, b1⟩
end
/-- what stands of an object that is asked -/
def mRc (G : mG) (C : String) (ci : Nat) : Prop := ∀ (s : State) (H : mH) (Hp : Heap) (locs : List Loc) (a : Nat), gK G s → gx G s s.heap → hw G H Hp → va_S (gAx G) s.heap Hp locs → misc (H.2.2 a) ci = true → ∃ cellB : Cell, Hp[gr G a]? = some cellB ∧ cellB.vm.isStatics = false ∧ s.vm.findClass C = some cellB.cls
theorem mRc_own {ci : Nat} {r : vw_C} (hc : mCl[ci]? = some r) (hci : ci < 99) : mRc G r.1 ci := by
  intro s H Hp locs v hK hX h1 h2 hm
  obtain ⟨fs, he⟩ := misc_of hm
  obtain ⟨ha, ha2⟩ := hw_own h1 he hci
  have hat := (h1.2.2.1 v ha).1
  rw [he] at hat
  obtain ⟨r', g1, cell, q1, q2, q3, q4⟩ := hat
  have hr : r' = r := Option.some.inj (g1.symm.trans hc)
  subst hr
  exact ⟨cell, by rw [gr_own ha2]; exact q1, by rw [q3]; rfl, by rw [q2]; exact (hK.1.1 ci _ hc).2.1⟩
theorem mRc_str : mRc G "java/lang/String" 100 := by
  intro s H Hp locs v hK hX h1 h2 hm
  obtain ⟨fs, he⟩ := misc_of hm
  obtain ⟨i, hi, rfl, -⟩ := hw_str h1 he
  obtain ⟨cell, c1, c2, c3, -⟩ := ((hX.kept h2.2.1).1 i hi).1
  exact ⟨cell, by rw [gr, if_neg (by omega)]; exact c1, c2, c3⟩
theorem o_ca_of {n N ka nL' : Nat} {b : Bool} {z : Option Nat} {ls : mL} {st : List Value} {H : mH} {out : mO} (h : o_ca n N ka nL' b z ls st H = some out) : ka ≤ st.length ∧ mwt (st.drop ka) ≤ 8 ∧ mwt (st.take ka) ≤ nL' ∧ mrcv z (st.take ka).reverse H = true ∧ out = .inr (.inr (N, b, ment nL' (st.take ka).reverse, st.drop ka, n)) := by
  unfold o_ca at h
  split at h
  · rename_i hc
    cases h
    exact ⟨hc.1, hc.2.1, hc.2.2.1, hc.2.2.2, rfl⟩
  · cases h
theorem rm_ok {N d d' k : Nat} {b : Bool} {R : Room} (hfr : k + 8 * d ≤ R.frames ∧ 64 * (k + 8 * d) ≤ R.locals) (hrk : (mInf N).2.2.2.2 + 1 ≤ k + (if b = true then 8 else 0)) (hmx : (mInf N).2.2.1 ≤ 45) (hb1 : b = true → d = d' + 1) (hb2 : b = false → d = d') (mc ms : Nat) : (mRm N d' mc ms).frames + 1 ≤ R.frames ∧ 8 + ((mInf N).2.2.1 + 11) + (mRm N d' mc ms).locals ≤ R.locals := by
  show (mInf N).2.2.2.2 + 8 * d' + 1 ≤ _ ∧ 8 + ((mInf N).2.2.1 + 11) + 64 * ((mInf N).2.2.2.2 + 8 * d') ≤ _
  cases b with
  | true =>
    have := hb1 rfl
    simp only [if_true] at hrk
    constructor <;> omega
  | false =>
    have := hb2 rfl
    simp only [if_false, Bool.false_eq_true] at hrk
    constructor <;> omega
theorem ok_static {N idx ka : Nat} {b : Bool} (hN : N < 282) (hd : decode cc pc = .ok (.invokestatic idx, 3)) (hkw : mKw N ka) (hrk : (mInf N).2.2.2.2 + 1 ≤ k + (if b = true then 8 else 0)) (hl : Cond.methodLink own idx (mInf N).1 ∈ mTb) (hst : Cond.static (mInf N).1 ∈ mTb) : okF G own nm cc nL ret k pc (o_ca (pc + 3) N ka (mInf N).2.2.1 b none) := by
  refine ⟨mn_ca hN, ?_⟩
  intro p l e R s m args below meth c Qf n0 k0 d hf hfr ls st H out ho
  obtain ⟨g1, g2, g3, -, rfl⟩ := o_ca_of ho
  obtain ⟨hx, hb, hml, hr, hown, hts, hlocks, hK, hX, hB, hnm, hR⟩ := hf
  refine ⟨hN, (st.take ka).reverse, rfl, by rw [mwt_rev]; exact g3, fun d' r H' hb1 hb2 hM hle hle2 hc1 hc2 kk Hp locs lsr cells slots h1 h2 h3 h4 h5 => ?_⟩
  refine call_go rfl rfl (va_runS (As := (st.take ka).reverse.map (gv G)) (rest := (st.drop ka).map (gv G)) (Ts := mTb) ⟨hx, hb, hml, hown, hts⟩ hM ⟨callB_of ka hts (mWs_good hkw) rfl rfl rfl (hts _ hkw.2.1) (hts _ hl) ⟨hkw.2.2.1, hkw.2.2.2.1, hkw.2.2.2.2.1⟩ (rm_ok hfr hrk hkw.2.2.2.2.2 hb1 hb2 _ _), hts _ hst⟩ ⟨pcx_blind, fun U hU hW => ⟨rfl, by rw [hU]; exact h1, hK.warm hW, by rw [hU]; exact (hX.moved hW.alike).kept h2.2.1, by rw [hU]; exact Nat.le_trans hB h2.1⟩⟩ rfl (by simp [g1]) h3.1 ?_ (lv_room (by rw [mwt_sum hK.2.2.1]; exact g2)) hd ⟨by omega, by omega⟩) rfl hle hle2 kk h2 h3 h4 h5
  show st.map (gv G) = _
  rw [List.map_reverse, List.reverse_reverse, ← List.map_append, List.take_append_drop]
theorem mrcv_of {st : List Value} {ka ci : Nat} {H : mH} (h : mrcv (some ci) (st.take (ka + 1)).reverse H = true) (hl : ka + 1 ≤ st.length) : ∃ a as, (st.take (ka + 1)).reverse = .ref a :: as ∧ misc (H.2.2 a) ci = true ∧ as.length = ka := by
  unfold mrcv at h
  split at h
  · rename_i hz
    cases hz
  · rename_i ci' hz
    cases hz
    split at h
    · rename_i a as he
      refine ⟨a, as, he, h, ?_⟩
      have := congrArg List.length he
      simp at this
      omega
    · cases h
theorem stk_of {st as : List Value} {ka : Nat} {a : Value} (h : (st.take (ka + 1)).reverse = a :: as) : st.map (gv G) = (as.map (gv G)).reverse ++ gv G a :: (st.drop (ka + 1)).map (gv G) := by
  have h1 : st.take (ka + 1) = as.reverse ++ [a] := by
    have := congrArg List.reverse h
    simpa using this
  conv => lhs; rw [← List.take_append_drop (ka + 1) st, h1]
  simp
theorem ok_virtual {N idx ka ci : Nat} {b : Bool} {C : String} (hN : N < 282) (hd : decode cc pc = .ok (.invokevirtual idx, 3)) (hkw : mKw N ka) (hrk : (mInf N).2.2.2.2 + 1 ≤ k + (if b = true then 8 else 0)) (hl : Cond.methodLink own idx (mInf N).1 ∈ mTb) (hi : Cond.instanceMethod (mInf N).1 ∈ mTb) (hs : Cond.selects C (mInf N).1 (mInf N).1 ∈ mTb) (hC : mRc G C ci) : okF G own nm cc nL ret k pc (o_ca (pc + 3) N (ka + 1) (mInf N).2.2.1 b (some ci)) := by
  refine ⟨mn_ca hN, ?_⟩
  intro p l e R s m args below meth c Qf n0 k0 d hf hfr ls st H out ho
  obtain ⟨g1, g2, g3, g4, rfl⟩ := o_ca_of ho
  obtain ⟨a, as, ha, hm, hla⟩ := mrcv_of g4 g1
  obtain ⟨hx, hb, hml, hr, hown, hts, hlocks, hK, hX, hB, hnm, hR⟩ := hf
  refine ⟨hN, (st.take (ka + 1)).reverse, rfl, by rw [mwt_rev]; exact g3, fun d' r H' hb1 hb2 hM hle hle2 hc1 hc2 kk Hp locs lsr cells slots h1 h2 h3 h4 h5 => ?_⟩
  refine call_go rfl rfl (va_runV (b := gr G a) (As := as.map (gv G)) (rest := (st.drop (ka + 1)).map (gv G)) (Ts := mTb) ⟨hx, hb, hml, hown, hts⟩ hM ⟨callB_of ka hts (mWs_good hkw) rfl rfl rfl (hts _ hkw.2.1) (hts _ hl) ⟨hkw.2.2.1, hkw.2.2.2.1, hkw.2.2.2.2.1⟩ (rm_ok hfr hrk hkw.2.2.2.2.2 hb1 hb2 _ _), hts _ hi, hts _ hs⟩ ⟨pcx_blind, hC s H Hp locs a hK hX h1 h2 hm, fun U hU hW => ⟨by rw [ha]; rfl, by rw [hU]; exact h1, hK.warm hW, by rw [hU]; exact (hX.moved hW.alike).kept h2.2.1, by rw [hU]; exact Nat.le_trans hB h2.1⟩⟩ rfl (by simp [hla]) h3.1 (stk_of ha) (lv_room (by rw [mwt_sum hK.2.2.1]; exact g2)) hd ⟨by omega, by omega⟩) rfl hle hle2 kk h2 h3 h4 h5
/-- a maker is called on a cell, whichever -/
theorem ok_init {N idx ka ci : Nat} (hN : N < 282) (hd : decode cc pc = .ok (.invokespecial idx, 3)) (hkw : mKw N ka) (hrk : (mInf N).2.2.2.2 + 1 ≤ k) (hl : Cond.methodLink own idx (mInf N).1 ∈ mTb) (hi : Cond.instanceMethod (mInf N).1 ∈ mTb) (hnm : (mInf N).1.name = "<init>") (hret : (mInf N).2.2.2.1 = none) : okF G own nm cc nL ret k pc (o_ca (pc + 3) N (ka + 1) (mInf N).2.2.1 false (some ci)) := by
  refine ⟨mn_ca hN, ?_⟩
  intro p l e R s m args below meth c Qf n0 k0 d hf hfr ls st H out ho
  obtain ⟨g1, g2, g3, g4, rfl⟩ := o_ca_of ho
  obtain ⟨a, as, ha, hm, hla⟩ := mrcv_of g4 g1
  obtain ⟨hx, hb, hml, hr, hown, hts, hlocks, hK, hX, hB, hnm2, hR⟩ := hf
  refine ⟨hN, (st.take (ka + 1)).reverse, rfl, by rw [mwt_rev]; exact g3, fun d' r H' hb1 hb2 hM hle hle2 hc1 hc2 kk Hp locs lsr cells slots h1 h2 h3 h4 h5 => ?_⟩
  have hcb := callB_of (R := R) (rm := mRm N d' (H'.1 - H.1) (H'.2.1 - H.2.1)) (own := own) (index := idx) ka hts (mWs_good hkw) rfl rfl rfl (hts _ hkw.2.1) (hts _ hl) ⟨hkw.2.2.1, hkw.2.2.2.1, hkw.2.2.2.2.1⟩ (rm_ok (b := false) hfr (by simpa using hrk) hkw.2.2.2.2.2 hb1 hb2 _ _)
  rw [hret] at hcb
  refine call_go rfl rfl (va_runI (b := gr G a) (As := as.map (gv G)) (rest := (st.drop (ka + 1)).map (gv G)) (Ts := mTb) ⟨hx, hb, hml, hown, hts⟩ hM ⟨hcb, hnm, hts _ hi⟩ ⟨pcx_blind, fun U hU hW => ⟨by rw [ha]; rfl, by rw [hU]; exact h1, hK.warm hW, by rw [hU]; exact (hX.moved hW.alike).kept h2.2.1, by rw [hU]; exact Nat.le_trans hB h2.1⟩⟩ rfl (by simp [hla]) h3.1 (stk_of ha) (lv_room (by rw [mwt_sum hK.2.2.1]; exact g2)) hd ⟨by omega, by omega⟩) rfl hle hle2 kk h2 h3 h4 h5
theorem ok_initN {N idx ka ci i : Nat} {host : String} (hN : N < 282) (hd : decode cc pc = .ok (.invokespecial idx, 3)) (hkw : mKw N ka) (hrk : (mInf N).2.2.2.2 + 1 ≤ k) (hl : mNs[i]? = some (own, idx, (mInf N).1, host)) (hi : Cond.instanceMethod (mInf N).1 ∈ mTb) (hnm : (mInf N).1.name = "<init>") (hret : (mInf N).2.2.2.1 = none) : okF G own nm cc nL ret k pc (o_ca (pc + 3) N (ka + 1) (mInf N).2.2.1 false (some ci)) := by
  refine ⟨mn_ca hN, ?_⟩
  intro p l e R s m args below meth c Qf n0 k0 d hf hfr ls st H out ho
  obtain ⟨g1, g2, g3, g4, rfl⟩ := o_ca_of ho
  obtain ⟨a, as, ha, hm, hla⟩ := mrcv_of g4 g1
  obtain ⟨hx, hb, hml, hr, hown, hts, hlocks, hK, hX, hB, hnm2, hR⟩ := hf
  refine ⟨hN, (st.take (ka + 1)).reverse, rfl, by rw [mwt_rev]; exact g3, fun d' r H' hb1 hb2 hM hle hle2 hc1 hc2 kk Hp locs lsr cells slots h1 h2 h3 h4 h5 => ?_⟩
  have hcb := va_cnB (R := R) (rm := mRm N d' (H'.1 - H.1) (H'.2.1 - H.2.1)) (own := own) (index := idx) (host := host) ka hts (mWs_good hkw) rfl rfl rfl (hK.2.2.2.1 i own idx (mInf N).1 host hl) (hts _ hkw.2.1) ⟨hkw.2.2.1, hkw.2.2.2.1, hkw.2.2.2.2.1⟩ (rm_ok (b := false) hfr (by simpa using hrk) hkw.2.2.2.2.2 hb1 hb2 _ _)
  rw [hret] at hcb
  refine call_go rfl rfl (va_runIN (b := gr G a) (As := as.map (gv G)) (rest := (st.drop (ka + 1)).map (gv G)) (Ts := mTb) ⟨hx, hb, hml, hown, hts⟩ hM ⟨hcb, hnm, hts _ hi⟩ ⟨pcx_blind, fun U hU hW => ⟨by rw [ha]; rfl, by rw [hU]; exact h1, hK.warm hW, by rw [hU]; exact (hX.moved hW.alike).kept h2.2.1, by rw [hU]; exact Nat.le_trans hB h2.1⟩⟩ rfl (by simp [hla]) h3.1 (stk_of ha) (lv_room (by rw [mwt_sum hK.2.2.1]; exact g2)) hd ⟨by omega, by omega⟩) rfl hle hle2 kk h2 h3 h4 h5
theorem ok_staticN {N idx ka i : Nat} {b : Bool} {host : String} (hN : N < 282) (hd : decode cc pc = .ok (.invokestatic idx, 3)) (hkw : mKw N ka) (hrk : (mInf N).2.2.2.2 + 1 ≤ k + (if b = true then 8 else 0)) (hl : mNs[i]? = some (own, idx, (mInf N).1, host)) (hst : Cond.static (mInf N).1 ∈ mTb) : okF G own nm cc nL ret k pc (o_ca (pc + 3) N ka (mInf N).2.2.1 b none) := by
  refine ⟨mn_ca hN, ?_⟩
  intro p l e R s m args below meth c Qf n0 k0 d hf hfr ls st H out ho
  obtain ⟨g1, g2, g3, -, rfl⟩ := o_ca_of ho
  obtain ⟨hx, hb, hml, hr, hown, hts, hlocks, hK, hX, hB, hnm, hR⟩ := hf
  refine ⟨hN, (st.take ka).reverse, rfl, by rw [mwt_rev]; exact g3, fun d' r H' hb1 hb2 hM hle hle2 hc1 hc2 kk Hp locs lsr cells slots h1 h2 h3 h4 h5 => ?_⟩
  refine call_go rfl rfl (va_runSN (As := (st.take ka).reverse.map (gv G)) (rest := (st.drop ka).map (gv G)) (Ts := mTb) ⟨hx, hb, hml, hown, hts⟩ hM ⟨va_cnB (host := host) ka hts (mWs_good hkw) rfl rfl rfl (hK.2.2.2.1 i own idx (mInf N).1 host hl) (hts _ hkw.2.1) ⟨hkw.2.2.1, hkw.2.2.2.1, hkw.2.2.2.2.1⟩ (rm_ok hfr hrk hkw.2.2.2.2.2 hb1 hb2 _ _), hts _ hst, trivial⟩ ⟨pcx_blind, fun U hU hW => ⟨rfl, by rw [hU]; exact h1, hK.warm hW, by rw [hU]; exact (hX.moved hW.alike).kept h2.2.1, by rw [hU]; exact Nat.le_trans hB h2.1⟩⟩ rfl (by simp [g1]) h3.1 ?_ (lv_room (by rw [mwt_sum hK.2.2.1]; exact g2)) hd ⟨by omega, by omega⟩) rfl hle hle2 kk h2 h3 h4 h5
  show st.map (gv G) = _
  rw [List.map_reverse, List.reverse_reverse, ← List.map_append, List.take_append_drop]
end OKI
