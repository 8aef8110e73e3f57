/-! the model's constructor -/
section MINIT
variable {d b s N : Nat} {h hh : Nat → va_E} {r q es : List va_E} {gs ob : List Value} {e : va_E}
theorem ly_seti {n i : Nat} (hi : i < es.length) : va_up (ly h n es) (n + i) e = ly h n (es.set i e) := by
  funext q
  by_cases c : q = n + i
  · subst c
    rw [va_up, if_pos rfl, ly_in (i := i) (e := e) (by rw [List.getElem?_set_self hi])]
  · rw [va_up, if_neg c]
    by_cases c2 : n ≤ q
    · rw [ly, ly, if_pos c2, if_pos c2, List.getElem?_set_ne (by omega)]
    · rw [ly_lo (by omega), ly_lo (by omega)]
theorem g_ky {M p0 p1 p2 p3 p4 a i v c0 : Nat} {x : Int32} {ls : mL} {f : Nat → Option Nat} (h0 : cT M p0 = o_dup p1) (h1 : cT M p1 = o_ci p2 x) (h2 : cT M p2 = o_cv p3 (.ref v)) (h3 : cT M p3 = o_aas p4 5 100) (hx : x = nI i) (hi : i < 5) (hv : misc (h v) 100 = true) (hav : a + 1 ≤ v) :
    mres cT M d p0 ls [.ref a, .ref c0] (lh h a s [.inl (5, 5, .inr (.inr (.inr (.inr f))))]) = mres cT M d p4 ls [.ref a, .ref c0] (lh h a s [.inl (5, 5, .inr (.inr (.inr (.inr (va_up f i (some v))))))]) := by
  have em : misc ((lh h a s [.inl (5, 5, .inr (.inr (.inr (.inr f))))]).2.2 v) 100 = true := by
    show misc (ly h a [.inl (5, 5, .inr (.inr (.inr (.inr f))))] v) 100 = true
    rw [ly_hi (by simp; omega)]; exact hv
  have eq : mqs (.inl (5, 5, .inr (.inr (.inr (.inr f))))) 5 (nI i) (some v) = some (.inl (5, 5, .inr (.inr (.inr (.inr (va_up f i (some v))))))) := by
    rw [mqs, if_pos ⟨rfl, nI_in hi (by omega)⟩, nI_clamp (by omega)]
  rw [r_dupr h0, r_ci h1, r_cv h2, r_aas h3 em, lh_0, hx, eq, Option.bind_some, lh_set]
def s104 : Nat → Option Nat := va_up (va_up (va_up (va_up (va_up (fun _ => none) 0 (some 1000016)) 1 (some 1000017)) 2 (some 1000018)) 3 (some 1000019)) 4 (some 1000020)
def s105 : Nat → Option Nat := va_up (va_up (va_up (va_up (va_up (fun _ => none) 0 (some 1000021)) 1 (some 1000022)) 2 (some 1000023)) 3 (some 1000024)) 4 (some 1000025)
def s99 : Nat → Int32 := rfor (fun j g => upd g j (-1)) 0 4 (fun _ => 0)
def moB : List Value := [.ref 94, .ref 95, .ref 96, .int 0, .ref 97, .int 0, .ref 98, .int 0, .ref 99, .ref 100, .ref 101, .ref 102, .int 0, .int 0, .int 0, .int 0, .int 0, .int 0, .int 0, .ref 1000015, .ref 103, .int 0, .int 0, .ref 104, .ref 105, .ref 106, .ref 107, .ref 108]
def mm0 : List va_E := [.inr (10, moB), marr 0 2578, marr 0 2578, marr 0 2578, marr 0 96, marr 0 60, marr 0 4, marr 0 4, marr 2 96, marr 0 102, marr 0 100, .inl (5, 5, .inr (.inr (.inr (.inr s104)))), .inl (5, 5, .inr (.inr (.inr (.inr s105)))), marr 0 100, marr 0 4, marr 2 24]
def mmL : List va_E := [.inr (10, moB), marr 0 2578, marr 0 2578, marr 0 2578, marr 0 96, marr 0 60, .inl (0, 4, .inl s99), marr 0 4, marr 2 96, marr 0 102, marr 0 100, .inl (5, 5, .inr (.inr (.inr (.inr s104)))), .inl (5, 5, .inr (.inr (.inr (.inr s105)))), marr 0 100, marr 0 4, marr 2 24]
theorem M_init_lp (ho : ob[8]? = some (.ref 99)) : ∀ m k g (hh : Nat → va_E), hh 93 = .inr (10, ob) → hh 99 = .inl (0, 4, .inl g) → k + m = 4 → mres cT 10 d 182 [.ref 93, .int (nI k)] [] (N, s, hh) = some (none, (N, s, va_up hh 99 (.inl (0, 4, .inl (rfor (fun j g => upd g j (-1)) k m g))))) := by
  intro m
  induction m with
  | zero =>
    intro k g hh h1 h2 hk
    have e : k = 4 := by omega
    subst e
    have a1 : (4 : Int32) ≤ nI 4 := by decide
    rw [r_il1 c_M_init_182, r_ci c_M_init_183, r_icge c_M_init_184, if_pos a1, r_vret c_M_init_200, rfor]
    have e : va_up hh 99 (.inl (0, 4, .inl g)) = hh := by
      funext q
      by_cases c : q = 99
      · subst c; rw [va_up, if_pos rfl, h2]
      · rw [va_up, if_neg c]
    rw [e]
  | succ m ih =>
    intro k g hh h1 h2 hk
    have a1 : ¬ (4 : Int32) ≤ nI k := nI_ge (b := 4) (by omega) (by omega)
    have em : mis (.inl (0, 4, .inl g)) 0 (nI k) (-1) = some (.inl (0, 4, .inl (upd g k (-1)))) := mis_n rfl (by omega) (by omega)
    have eg : mfld (.inr (10, ob)) 10 8 = some (.ref 99) := by rw [mfld, if_pos rfl, ho]
    rw [r_il1 c_M_init_182, r_ci c_M_init_183, r_icge c_M_init_184, if_neg a1, r_al0 c_M_init_187, r_gf c_M_init_188]
    show ((mfld (hh 93) 10 8).bind _) = _
    rw [h1, eg, Option.bind_some, r_il1 c_M_init_191, r_ci c_M_init_192, r_ias c_M_init_193]
    show ((mis (hh 99) 0 (nI k) (-1)).bind _) = _
    rw [h2, em, Option.bind_some, r_inc1 c_M_init_194, r_goto c_M_init_197, nI_1, mfix_r]
    have := ih (k + 1) (upd g k (-1)) (va_up hh 99 (.inl (0, 4, .inl (upd g k (-1))))) (by rw [va_up, if_neg (by omega)]; exact h1) (by rw [va_up, if_pos rfl]) (by omega)
    refine this.trans ?_
    rw [rfor]
    have e : ∀ e' : va_E, va_up (va_up hh 99 (.inl (0, 4, .inl (upd g k (-1))))) 99 e' = va_up hh 99 e' := fun e' => by
      funext q
      by_cases c : q = 99
      · subst c; rw [va_up, if_pos rfl, va_up, if_pos rfl]
      · rw [va_up, if_neg c, va_up, if_neg c, va_up, if_neg c]
    rw [e]
theorem M_init_ok (hv : ∀ v, 1000000 ≤ v → v < 1000027 → misc (h v) 100 = true) : mres cT 10 d 0 (ment 2 [.ref 93]) [] (lh h 93 s [.inr (10, [.null, .null, .null, .int 0, .null, .int 0, .null, .int 0, .null, .null, .null, .null, .int 0, .int 0, .int 0, .int 0, .int 0, .int 0, .int 0, .null, .null, .int 0, .int 0, .null, .null, .null, .null, .null])]) = some (none, lh h 93 (s + 8334) mmL) := by
  have ez : ¬ (5 : Int32) < 0 ∧ (5 : Int32).toNatClampNeg = 5 := by decide
  simp only [ment, mfl, List.length, List.replicate, List.cons_append, List.nil_append, Nat.reduceAdd, Nat.reduceSub]
  rw [r_al0 c_M_init_0, r_oin c_M_init_1 (by decide),
    g_arr (K := 2578) c_M_init_4 c_M_init_5 c_M_init_8 c_M_init_10 (by decide) (by decide) (by simp) (by simp),
    g_arr (K := 2578) c_M_init_13 c_M_init_14 c_M_init_17 c_M_init_19 (by decide) (by decide) (by simp) (by simp),
    g_arr (K := 2578) c_M_init_22 c_M_init_23 c_M_init_26 c_M_init_28 (by decide) (by decide) (by simp) (by simp),
    g_arr (K := 96) c_M_init_31 c_M_init_32 c_M_init_34 c_M_init_36 (by decide) (by decide) (by simp) (by simp),
    g_arr (K := 60) c_M_init_39 c_M_init_40 c_M_init_42 c_M_init_44 (by decide) (by decide) (by simp) (by simp),
    g_arr (K := 4) c_M_init_47 c_M_init_48 c_M_init_49 c_M_init_51 (by decide) (by decide) (by simp) (by simp),
    g_arr (K := 4) c_M_init_54 c_M_init_55 c_M_init_56 c_M_init_58 (by decide) (by decide) (by simp) (by simp),
    g_arr (K := 96) c_M_init_61 c_M_init_62 c_M_init_64 c_M_init_66 (by decide) (by decide) (by simp) (by simp),
    g_arr (K := 102) c_M_init_69 c_M_init_70 c_M_init_72 c_M_init_74 (by decide) (by decide) (by simp) (by simp),
    r_al0 c_M_init_77, r_cv c_M_init_78, g_pf c_M_init_80 (by simp),
    g_arr (K := 100) c_M_init_83 c_M_init_84 c_M_init_86 c_M_init_88 (by decide) (by decide) (by simp) (by simp)]
  show mres cT 10 d 91 [.ref 93, .retAddr 0] [] (lh h 93 (s + 2578 + 2578 + 2578 + 96 + 60 + 4 + 4 + 96 + 102 + 100) (.inr (10, [.ref 94, .ref 95, .ref 96, .int 0, .ref 97, .int 0, .ref 98, .int 0, .ref 99, .ref 100, .ref 101, .ref 102, .int 0, .int 0, .int 0, .int 0, .int 0, .int 0, .int 0, .ref 1000015, .ref 103, .int 0, .int 0, .null, .null, .null, .null, .null]) :: [marr 0 2578, marr 0 2578, marr 0 2578, marr 0 96, marr 0 60, marr 0 4, marr 0 4, marr 2 96, marr 0 102, marr 0 100])) = _
  have hv1 : ∀ o r v, r.length < 100 → 1000000 ≤ v → v < 1000027 → misc (ly h 93 (o :: r) v) 100 = true := fun o r v h1 h2 h3 => by
    rw [ly_hi (by rw [List.length_cons]; omega)]; exact hv v h2 h3
  rw [r_al0 c_M_init_91, r_ci c_M_init_92, r_na c_M_init_93 ⟨by rw [lh_n]; simp, ez.1, by rw [ez.2]; decide⟩, ez.2, lh_new, lh_n, lh_g1]
  show mres cT 10 d 96 [.ref 93, .retAddr 0] [.ref 104, .ref 93] (lh _ 104 _ [.inl (5, 5, .inr (.inr (.inr (.inr (fun _ => none)))))]) = _
  rw [g_ky (i := 0) c_M_init_96 c_M_init_97 c_M_init_98 c_M_init_100 rfl (by decide) (hv1 _ _ _ (by simp) (by decide) (by decide)) (by decide),
    g_ky (i := 1) c_M_init_101 c_M_init_102 c_M_init_103 c_M_init_105 rfl (by decide) (hv1 _ _ _ (by simp) (by decide) (by decide)) (by decide),
    g_ky (i := 2) c_M_init_106 c_M_init_107 c_M_init_108 c_M_init_110 rfl (by decide) (hv1 _ _ _ (by simp) (by decide) (by decide)) (by decide),
    g_ky (i := 3) c_M_init_111 c_M_init_112 c_M_init_113 c_M_init_115 rfl (by decide) (hv1 _ _ _ (by simp) (by decide) (by decide)) (by decide),
    g_ky (i := 4) c_M_init_116 c_M_init_117 c_M_init_118 c_M_init_120 rfl (by decide) (hv1 _ _ _ (by simp) (by decide) (by decide)) (by decide)]
  have g1 : ∀ (o : va_E) (s : Nat) (e : va_E), lh (ly h 93 (o :: [marr 0 2578, marr 0 2578, marr 0 2578, marr 0 96, marr 0 60, marr 0 4, marr 0 4, marr 2 96, marr 0 102, marr 0 100])) 104 s [e] = lh h 93 s (o :: ([marr 0 2578, marr 0 2578, marr 0 2578, marr 0 96, marr 0 60, marr 0 4, marr 0 4, marr 2 96, marr 0 102, marr 0 100] ++ [e])) := fun o s e => lh_g1.symm
  rw [g1, g_pf c_M_init_121 (by simp)]
  show mres cT 10 d 124 [.ref 93, .retAddr 0] [] (lh h 93 (s + 2578 + 2578 + 2578 + 96 + 60 + 4 + 4 + 96 + 102 + 100 + 5) (.inr (10, [.ref 94, .ref 95, .ref 96, .int 0, .ref 97, .int 0, .ref 98, .int 0, .ref 99, .ref 100, .ref 101, .ref 102, .int 0, .int 0, .int 0, .int 0, .int 0, .int 0, .int 0, .ref 1000015, .ref 103, .int 0, .int 0, .ref 104, .null, .null, .null, .null]) :: [marr 0 2578, marr 0 2578, marr 0 2578, marr 0 96, marr 0 60, marr 0 4, marr 0 4, marr 2 96, marr 0 102, marr 0 100, .inl (5, 5, .inr (.inr (.inr (.inr s104))))])) = _
  rw [r_al0 c_M_init_124, r_ci c_M_init_125, r_na c_M_init_126 ⟨by rw [lh_n]; simp, ez.1, by rw [ez.2]; decide⟩, ez.2, lh_new, lh_n, lh_g1]
  show mres cT 10 d 129 [.ref 93, .retAddr 0] [.ref 105, .ref 93] (lh _ 105 _ [.inl (5, 5, .inr (.inr (.inr (.inr (fun _ => none)))))]) = _
  rw [g_ky (i := 0) c_M_init_129 c_M_init_130 c_M_init_131 c_M_init_133 rfl (by decide) (hv1 _ _ _ (by simp) (by decide) (by decide)) (by decide),
    g_ky (i := 1) c_M_init_134 c_M_init_135 c_M_init_136 c_M_init_138 rfl (by decide) (hv1 _ _ _ (by simp) (by decide) (by decide)) (by decide),
    g_ky (i := 2) c_M_init_139 c_M_init_140 c_M_init_141 c_M_init_143 rfl (by decide) (hv1 _ _ _ (by simp) (by decide) (by decide)) (by decide),
    g_ky (i := 3) c_M_init_144 c_M_init_145 c_M_init_146 c_M_init_148 rfl (by decide) (hv1 _ _ _ (by simp) (by decide) (by decide)) (by decide),
    g_ky (i := 4) c_M_init_149 c_M_init_150 c_M_init_151 c_M_init_153 rfl (by decide) (hv1 _ _ _ (by simp) (by decide) (by decide)) (by decide)]
  have g2 : ∀ (o : va_E) (s : Nat) (e : va_E), lh (ly h 93 (o :: [marr 0 2578, marr 0 2578, marr 0 2578, marr 0 96, marr 0 60, marr 0 4, marr 0 4, marr 2 96, marr 0 102, marr 0 100, .inl (5, 5, .inr (.inr (.inr (.inr s104))))])) 105 s [e] = lh h 93 s (o :: ([marr 0 2578, marr 0 2578, marr 0 2578, marr 0 96, marr 0 60, marr 0 4, marr 0 4, marr 2 96, marr 0 102, marr 0 100, .inl (5, 5, .inr (.inr (.inr (.inr s104))))] ++ [e])) := fun o s e => lh_g1.symm
  rw [g2, g_pf c_M_init_154 (by simp),
    g_arr (K := 100) c_M_init_157 c_M_init_158 c_M_init_160 c_M_init_162 (by decide) (by decide) (by simp) (by simp),
    g_arr (K := 4) c_M_init_165 c_M_init_166 c_M_init_167 c_M_init_169 (by decide) (by decide) (by simp) (by simp),
    g_arr (K := 24) c_M_init_172 c_M_init_173 c_M_init_175 c_M_init_177 (by decide) (by decide) (by simp) (by simp), r_ci c_M_init_180, r_is1 c_M_init_181]
  show mres cT 10 d 182 [.ref 93, .int (nI 0)] [] (109, s + 2578 + 2578 + 2578 + 96 + 60 + 4 + 4 + 96 + 102 + 100 + 5 + 5 + 100 + 4 + 24, ly h 93 mm0) = _
  rw [M_init_lp (ob := moB) rfl 4 0 (fun _ => 0) (ly h 93 mm0) (ly_in (i := 0) rfl) (ly_in (n := 93) (i := 6) rfl) rfl, ly_seti (n := 93) (i := 6) (by decide)]
  have e : s + 2578 + 2578 + 2578 + 96 + 60 + 4 + 4 + 96 + 102 + 100 + 5 + 5 + 100 + 4 + 24 = s + 8334 := by omega
  rw [e]
  rfl
end MINIT
