/-! cells made one behind the other; how constructors go -/
def ly (h : Nat → va_E) (n : Nat) (es : List va_E) : Nat → va_E := fun q => if n ≤ q then (match es[q - n]? with | some e => e | none => h q) else h q
def lh (h : Nat → va_E) (b s : Nat) (es : List va_E) : mH := (b + es.length, s, ly h b es)
section LAYH
variable {h : Nat → va_E} {n q b s w : Nat} {es fs r : List va_E} {e o : va_E}
theorem ly_lo (hq : q < n) : ly h n es q = h q := by rw [ly, if_neg (by omega)]
theorem ly_hi (hq : n + es.length ≤ q) : ly h n es q = h q := by
  rw [ly, if_pos (by omega), List.getElem?_eq_none (by omega)]
theorem ly_in {i : Nat} (hi : es[i]? = some e) : ly h n es (n + i) = e := by
  rw [ly, if_pos (by omega), show n + i - n = i by omega, hi]
theorem ly_new : va_up (ly h n es) (n + es.length) e = ly h n (es ++ [e]) := by
  funext q
  by_cases c : q = n + es.length
  · subst c
    rw [va_up, if_pos rfl, ly_in (i := es.length) (e := e) (by simp)]
  · rw [va_up, if_neg c]
    by_cases c2 : n ≤ q
    · rw [ly, ly, if_pos c2, if_pos c2]
      by_cases c3 : q - n < es.length
      · rw [List.getElem?_append_left c3]
      · rw [List.getElem?_eq_none (by omega), List.getElem?_eq_none (by simp; omega)]
    · rw [ly_lo (by omega), ly_lo (by omega)]
theorem ly_set0 : va_up (ly h n (o :: r)) n e = ly h n (e :: r) := by
  funext q
  by_cases c : q = n
  · subst c
    rw [va_up, if_pos rfl]
    have := ly_in (h := h) (n := q) (es := e :: r) (i := 0) (e := e) rfl
    exact this.symm
  · rw [va_up, if_neg c]
    by_cases c2 : n ≤ q
    · rw [ly, ly, if_pos c2, if_pos c2, show q - n = (q - n - 1) + 1 by omega, List.getElem?_cons_succ, List.getElem?_cons_succ]
    · rw [ly_lo (by omega), ly_lo (by omega)]
theorem ly_glue : ly (ly h n fs) (n + fs.length) es = ly h n (fs ++ es) := by
  funext q
  by_cases c : q < n + fs.length
  · rw [ly_lo c]
    by_cases c2 : n ≤ q
    · rw [ly, ly, if_pos c2, if_pos c2, List.getElem?_append_left (by omega)]
    · rw [ly_lo (by omega), ly_lo (by omega)]
  · by_cases c3 : q < n + fs.length + es.length
    · have hi : q - (n + fs.length) < es.length := by omega
      have e1 := ly_in (h := ly h n fs) (n := n + fs.length) (es := es) (i := q - (n + fs.length)) (e := es[q - (n + fs.length)]) (List.getElem?_eq_getElem hi)
      have e2 := ly_in (h := h) (n := n) (es := fs ++ es) (i := q - n) (e := es[q - (n + fs.length)]) (by rw [List.getElem?_append_right (by omega), show q - n - fs.length = q - (n + fs.length) by omega, List.getElem?_eq_getElem hi])
      rw [show n + fs.length + (q - (n + fs.length)) = q by omega] at e1
      rw [show n + (q - n) = q by omega] at e2
      rw [e1, e2]
    · rw [ly_hi (by omega), ly_hi (by omega), ly_hi (by rw [List.length_append]; omega)]
theorem lh_new : mnew (lh h b s es) w e = lh h b (s + w) (es ++ [e]) := by
  refine Prod.ext ?_ (Prod.ext rfl ly_new)
  show b + es.length + 1 = b + (es ++ [e]).length
  rw [List.length_append]; rfl
theorem lh_0 : (lh h b s (o :: r)).2.2 b = o := ly_in (i := 0) rfl
theorem lh_set : mset (lh h b s (o :: r)) b e = lh h b s (e :: r) := Prod.ext rfl (Prod.ext rfl ly_set0)
theorem lh_glue : lh (ly h b fs) (b + fs.length) s es = lh h b s (fs ++ es) := by
  refine Prod.ext ?_ (Prod.ext rfl ly_glue)
  show b + fs.length + es.length = b + (fs ++ es).length
  rw [List.length_append]; omega
theorem lh_n : (lh h b s (o :: r)).1 = b + 1 + r.length := by
  show b + (r.length + 1) = _
  omega
theorem lh_z : (lh h b s ((o :: r) ++ [e])).2.2 (b + 1 + r.length) = e := by
  have := ly_in (h := h) (n := b) (es := (o :: r) ++ [e]) (i := r.length + 1) (e := e) (by simp)
  rw [show b + (r.length + 1) = b + 1 + r.length by omega] at this
  exact this
theorem lh_g1 : lh h b s ((o :: r) ++ es) = lh (ly h b (o :: r)) (b + 1 + r.length) s es := by
  rw [← lh_glue]
  show lh (ly h b (o :: r)) (b + (r.length + 1)) s es = _
  rw [show b + (r.length + 1) = b + 1 + r.length by omega]
end LAYH
section SEGS
variable {Tb : Nat → Nat → mF} {M d N nL b s p0 p1 p2 p3 p4 p5 p6 p7 ci cj k w c : Nat} {ls : mL} {st : List Value} {h : Nat → va_E} {r : List va_E} {fs gs : List Value} {sub : Nat → List va_E} {x y : Int32} {v : Value}
theorem g_pf (h4 : Tb M p4 = o_pf p5 cj k 2) (hk : k < gs.length) {u : Nat} : mres Tb M d p4 ls [.ref u, .ref b] (lh h b s (.inr (cj, gs) :: r)) = mres Tb M d p5 ls [] (lh h b s (.inr (cj, gs.set k (.ref u)) :: r)) := by
  rw [r_pf h4 rfl, lh_0, mfset_at hk, Option.bind_some, lh_set]
theorem g_pfi (h4 : Tb M p4 = o_pf p5 cj k 0) (hk : k < gs.length) : mres Tb M d p4 ls [.int x, .ref b] (lh h b s (.inr (cj, gs) :: r)) = mres Tb M d p5 ls [] (lh h b s (.inr (cj, gs.set k (.int x)) :: r)) := by
  rw [r_pf h4 rfl, lh_0, mfset_at hk, Option.bind_some, lh_set]
/-- a part made by its own constructor and kept in a field -/
theorem g_obj (h0 : Tb M p0 = o_al p1 0) (h1 : Tb M p1 = o_new p2 ci w fs) (h2 : Tb M p2 = o_dup p3) (h3 : Tb M p3 = o_ca p4 N 1 nL false (some ci)) (h4 : Tb M p4 = o_pf p5 cj k 2) {B : Nat} (hB : B ≤ 1000000) (hn : 1 ≤ nL) (hk : k < gs.length) (hb : b + 1 + r.length < B)
    (hc : ∀ h b s, b < B → mres Tb N d 0 (ment nL [.ref b]) [] (lh h b s [.inr (ci, fs)]) = some (none, lh h b (s + c) (sub b))) :
    mres Tb M d p0 (.ref b :: ls) [] (lh h b s (.inr (cj, gs) :: r)) = mres Tb M d p5 (.ref b :: ls) [] (lh h b (s + w + c) (.inr (cj, gs.set k (.ref (b + 1 + r.length))) :: (r ++ sub (b + 1 + r.length)))) := by
  rw [r_al0 h0, r_new h1 (by rw [lh_n]; omega), lh_new, lh_n, r_dupr h2, r_cv1 h3 ⟨by simpa [mwt, Value.category] using hn, by simp [mwt, Value.category]⟩ (by rw [lh_z]; simp [misc]), lh_g1, hc _ _ _ hb, Option.bind_some, ← lh_g1]
  exact g_pf h4 hk
/-- a row of cells made and kept in a field -/
theorem g_arr {t K : Nat} (h0 : Tb M p0 = o_al p1 0) (h1 : Tb M p1 = o_ci p2 x) (h2 : Tb M p2 = o_na p3 t) (h3 : Tb M p3 = o_pf p4 cj k 2) (hx : ¬ x < 0 ∧ x.toNatClampNeg = K) (hK : K ≤ 1000000) (hk : k < gs.length) (hb : b + 1 + r.length < 1000000) :
    mres Tb M d p0 (.ref b :: ls) [] (lh h b s (.inr (cj, gs) :: r)) = mres Tb M d p4 (.ref b :: ls) [] (lh h b (s + K) (.inr (cj, gs.set k (.ref (b + 1 + r.length))) :: (r ++ [marr t K]))) := by
  rw [r_al0 h0, r_ci h1, r_na h2 ⟨by rw [lh_n]; omega, hx.1, by rw [hx.2]; exact hK⟩, hx.2, lh_new, lh_n]
  exact g_pf h3 hk
def rwL (lim wid u : Nat) : List va_E := [.inr (2, [.int (nI lim), .int (nI wid), .ref (u + 1), .int 0]), .inl (0, lim * wid, .inl (fun _ => 0))]
theorem R_init_ok {lim wid : Nat} (h1 : 0 < lim * wid) (h2 : lim * wid < 10000) (hb : b < 100000) : mres cT 1 d 0 (ment 3 [.ref b, .int (nI lim), .int (nI wid)]) [] (lh h b s [.inr (2, [.int 0, .int 0, .null, .int 0])]) = some (none, lh h b (s + lim * wid) (rwL lim wid b)) := by
  have e1 : (if (0 : Int32) < nI (lim * wid) then nI (lim * wid) else 0) = nI (lim * wid) := if_pos (nI_lt (a := 0) h1 (by omega))
  have e2 : (nI (lim * wid)).toNatClampNeg = lim * wid := nI_clamp (by omega)
  simp only [ment, mfl, List.length, List.replicate, List.cons_append, List.nil_append, Nat.reduceAdd, Nat.reduceSub]
  rw [r_al0 c_R_init_0, r_oin c_R_init_1 (by decide), r_al0 c_R_init_4, r_il1 c_R_init_5, g_pfi c_R_init_6 (by simp), r_al0 c_R_init_9, r_il2 c_R_init_10, g_pfi c_R_init_11 (by simp), r_al0 c_R_init_14, r_ci c_R_init_15, r_il1 c_R_init_16, r_il2 c_R_init_17, r_imul c_R_init_18, r_ca2 c_R_init_19 ⟨by simp [mwt, Value.category], by simp [mwt, Value.category]⟩, JM_max_ok, Option.bind_some, pk_mul, e1]
  show mres cT 1 d 22 _ [.int (nI (lim * wid)), .ref b] _ = _
  rw [r_na c_R_init_22 ⟨by rw [lh_n]; simp; omega, nI_pos (by omega), by rw [e2]; omega⟩, e2, lh_new, lh_n]
  show mres cT 1 d 24 _ [.ref (b + 1), .ref b] (lh h b (s + lim * wid) (.inr (2, [.int (nI lim), .int (nI wid), .null, .int 0]) :: [marr 0 (lim * wid)])) = _
  rw [g_pf c_R_init_24 (by simp), r_vret c_R_init_27]
  rfl
/-- rows made and kept in a field -/
theorem g_row {lim wid : Nat} (h0 : cT M p0 = o_al p1 0) (h1 : cT M p1 = o_new p2 2 4 [.int 0, .int 0, .null, .int 0]) (h2 : cT M p2 = o_dup p3) (h3 : cT M p3 = o_ci p4 x) (h4 : cT M p4 = o_ci p5 y) (h5 : cT M p5 = o_ca p6 1 3 3 false (some 2)) (h6 : cT M p6 = o_pf p7 cj k 2) (hx : x = nI lim) (hy : y = nI wid) (hl : 0 < lim * wid) (hl2 : lim * wid < 10000) (hk : k < gs.length) (hb : b + 1 + r.length < 100000) :
    mres cT M d p0 (.ref b :: ls) [] (lh h b s (.inr (cj, gs) :: r)) = mres cT M d p7 (.ref b :: ls) [] (lh h b (s + 4 + lim * wid) (.inr (cj, gs.set k (.ref (b + 1 + r.length))) :: (r ++ rwL lim wid (b + 1 + r.length)))) := by
  rw [r_al0 h0, r_new h1 (by rw [lh_n]; omega), lh_new, lh_n, r_dupr h2, r_ci h3, r_ci h4, r_cv3 h5 ⟨by simp [mwt, Value.category], by simp [mwt, Value.category]⟩ (by rw [lh_z]; simp [misc]), lh_g1, hx, hy, R_init_ok hl hl2 hb, Option.bind_some, ← lh_g1]
  exact g_pf h6 hk
end SEGS
