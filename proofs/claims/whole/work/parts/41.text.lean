/-! texts: what one is worth -/
section TXT
variable {E : EE} {S : SS} {d b q len : Nat} {x0 x1 x2 x3 : Int32}
def nmS (j a b c d : Int32) : Int32 := if j = 0 then a else if j = 1 then b else if j = 2 then c else d
theorem T_named_ok {H : mH} {j : Int32} : mres cT 80 d 0 (ment 5 [.int j, .int x0, .int x1, .int x2, .int x3]) [] H = some (some (.int (nmS j x0 x1 x2 x3)), H) := by
  simp only [ment, mfl, List.length, List.replicate, List.cons_append, List.nil_append, Nat.reduceAdd, Nat.reduceSub]
  simp only [r_il0 c_T_named_0, r_sw c_T_named_1, ↓reduceIte, hs_h, Option.bind_some, mfix_i, mfix_r, mfix_n, mfix_a, Option.toList_some, Option.toList_none, List.cons_append, List.nil_append, List.singleton_append, mpick, nmS]
  by_cases h0 : j = 0
  · simp only [h0, if_true, r_il1 c_T_named_28, r_iret c_T_named_29, r_il2 c_T_named_30, r_iret c_T_named_31, r_il3 c_T_named_32, r_iret c_T_named_33, r_il4 c_T_named_34, r_iret c_T_named_36]
  by_cases h1 : j = 1
  · simp only [h0, h1, one_nz, if_true, if_false, r_il1 c_T_named_28, r_iret c_T_named_29, r_il2 c_T_named_30, r_iret c_T_named_31, r_il3 c_T_named_32, r_iret c_T_named_33, r_il4 c_T_named_34, r_iret c_T_named_36]
  by_cases h2 : j = 2
  · simp only [h0, h1, h2, if_true, if_false, show ((2 : Int32) = 0) = False from eq_false (by decide), show ((2 : Int32) = 1) = False from eq_false (by decide), r_il1 c_T_named_28, r_iret c_T_named_29, r_il2 c_T_named_30, r_iret c_T_named_31, r_il3 c_T_named_32, r_iret c_T_named_33, r_il4 c_T_named_34, r_iret c_T_named_36]
  · simp only [h0, h1, h2, if_false, r_il1 c_T_named_28, r_iret c_T_named_29, r_il2 c_T_named_30, r_iret c_T_named_31, r_il3 c_T_named_32, r_iret c_T_named_33, r_il4 c_T_named_34, r_iret c_T_named_36]
def jnS (l s r : Int32) : Int32 :=
  if s = 38 then (if l = 0 then 0 else if r = 0 then 0 else 1) else if s = 42 then l * r else if s = 43 then l + r else if s = 45 then l - r else if s = 47 then (if r = 0 then 0 else l / r)
  else if s = 60 then (if r ≤ l then 0 else 1) else if s = 61 then (if l = r then 1 else 0) else if s = 62 then (if l ≤ r then 0 else 1) else if s = 124 then (if l = 0 then (if r = 0 then 0 else 1) else 1) else 0
theorem ite_mres {M pc t : Nat} {ls : mL} {st : List Value} {H : mH} {p : Prop} {hp : Decidable p} : mres cT M d (@ite _ p hp pc t) ls st H = @ite _ p hp (mres cT M d pc ls st H) (mres cT M d t ls st H) := by
  split <;> rfl
theorem ite_out {H : mH} {x y : Int32} {p : Prop} {hp : Decidable p} : @ite _ p hp (some (some (Value.int x), H)) (some (some (Value.int y), H)) = some (some (Value.int (@ite _ p hp x y)), H) := by
  split <;> rfl
theorem T_joined_ok {H : mH} {l s r : Int32} : mres cT 82 d 0 (ment 3 [.int l, .int s, .int r]) [] H = some (some (.int (jnS l s r)), H) := by
  have hd : ∀ st : mL, (if r = 0 then mres cT 82 d 92 [.int l, .int s, .int r] [] H else mres cT 82 d 96 [.int l, .int s, .int r] [] H) = some (some (.int (if r = 0 then 0 else l / r)), H) := by
    intro _
    by_cases h : r = 0
    · simp only [h, if_true, r_ci c_T_joined_92, r_goto c_T_joined_93, r_iret c_T_joined_99]
    · simp only [h, if_false, r_il0 c_T_joined_96, r_il2 c_T_joined_97, r_idiv c_T_joined_98 h, r_iret c_T_joined_99]
  have hd := hd []
  simp only [ment, mfl, List.length, List.replicate, List.cons_append, List.nil_append, Nat.reduceAdd, Nat.reduceSub]
  simp only [r_il1 c_T_joined_0, r_sw c_T_joined_1, ↓reduceIte, hs_h, Option.bind_some, mfix_i, mfix_r, mfix_n, mfix_a, Option.toList_some, Option.toList_none, List.cons_append, List.nil_append, List.singleton_append, mpick, ite_mres]
  simp only [r_il0 c_T_joined_84, r_il2 c_T_joined_85, r_imul c_T_joined_86, r_iret c_T_joined_87, r_il2 c_T_joined_88, r_ifne c_T_joined_89, hd, r_il0 c_T_joined_100, r_il2 c_T_joined_101, r_iadd c_T_joined_102, r_iret c_T_joined_103, r_il0 c_T_joined_104, r_il2 c_T_joined_105, r_isub c_T_joined_106, r_iret c_T_joined_107, r_il0 c_T_joined_108, r_il2 c_T_joined_109, r_icge c_T_joined_110, r_ci c_T_joined_113, r_goto c_T_joined_114, r_ci c_T_joined_117, r_iret c_T_joined_118, r_il0 c_T_joined_119, r_il2 c_T_joined_120, r_icne c_T_joined_121, r_ci c_T_joined_124, r_goto c_T_joined_125, r_ci c_T_joined_128, r_iret c_T_joined_129, r_il0 c_T_joined_130, r_il2 c_T_joined_131, r_icle c_T_joined_132, r_ci c_T_joined_135, r_goto c_T_joined_136, r_ci c_T_joined_139, r_iret c_T_joined_140, r_il0 c_T_joined_141, r_ifeq c_T_joined_142, r_il2 c_T_joined_145, r_ifeq c_T_joined_146, r_ci c_T_joined_149, r_goto c_T_joined_150, r_ci c_T_joined_153, r_iret c_T_joined_154, r_il0 c_T_joined_155, r_ifne c_T_joined_156, r_il2 c_T_joined_159, r_ifeq c_T_joined_160, r_ci c_T_joined_163, r_goto c_T_joined_164, r_ci c_T_joined_167, r_iret c_T_joined_168, r_ci c_T_joined_169, r_iret c_T_joined_170, ite_out, jnS]
end TXT
