/-! each simple instruction of the small machine is the big one's -/
section OK1
variable {G : mG} {own nm : String} {cc : ByteArray} {nL k pc : Nat} {ret : Option FieldType}
theorem mst_lt {ls ls1 : mL} {i : Nat} {v : Value} (h : mst ls i v = some ls1) : i < ls.length := by
  unfold mst at h
  split at h
  · assumption
  · cases h
theorem mst2_lt {ls ls1 : mL} {i : Nat} {v : Value} (h : mst2 ls i v = some ls1) : i + 1 < ls.length := by
  unfold mst2 at h
  split at h
  · assumption
  · cases h
theorem ok_bipush {z : Int} {v : Int32} (hd : decode cc pc = .ok (.bipush z, 2)) (hv : (Int8.ofInt z).toInt32 = v) : okF G own nm cc nL ret k pc (o_ci (pc + 2) v) := by
  refine okF.nx mn_ci fun p l e R s m args below meth c Qf n0 k0 d hf hk ls st H out ho => ?_
  obtain ⟨hx, hb, hml, hr, hown, hts, hlocks, hK, hX, hB, hnm, hR⟩ := hf
  cases ho
  refine ⟨_, _, _, _, rfl, fun _ _ kk Hp locs lsr cells slots h1 h2 h3 h4 h5 => ?_⟩
  exact lv_bipush hx hb hd hv (kk Hp locs lsr cells slots h1 h2 h3 h4 h5)
theorem ok_sipush {z : Int} {v : Int32} (hd : decode cc pc = .ok (.sipush z, 3)) (hv : (Int16.ofInt z).toInt32 = v) : okF G own nm cc nL ret k pc (o_ci (pc + 3) v) := by
  refine okF.nx mn_ci fun p l e R s m args below meth c Qf n0 k0 d hf hk ls st H out ho => ?_
  obtain ⟨hx, hb, hml, hr, hown, hts, hlocks, hK, hX, hB, hnm, hR⟩ := hf
  cases ho
  refine ⟨_, _, _, _, rfl, fun _ _ kk Hp locs lsr cells slots h1 h2 h3 h4 h5 => ?_⟩
  exact lv_sipush hx hb hd hv (kk Hp locs lsr cells slots h1 h2 h3 h4 h5)
theorem ok_lconst {z : Fin 2} {v : Int64} (hd : decode cc pc = .ok (.lconst z, 1)) (hv : Int64.ofNat (z : Nat) = v) : okF G own nm cc nL ret k pc (o_cl (pc + 1) v) := by
  refine okF.nx mn_cl fun p l e R s m args below meth c Qf n0 k0 d hf hk ls st H out ho => ?_
  obtain ⟨hx, hb, hml, hr, hown, hts, hlocks, hK, hX, hB, hnm, hR⟩ := hf
  cases ho
  refine ⟨_, _, _, _, rfl, fun _ _ kk Hp locs lsr cells slots h1 h2 h3 h4 h5 => ?_⟩
  exact lv_lconst hx hb hd hv (kk Hp locs lsr cells slots h1 h2 h3 h4 h5)
theorem ok_ldc {i : Nat} {v : Int32} (hd : decode cc pc = .ok (.ldc i, 2)) (hw : Cond.constant own i v ∈ mTb) : okF G own nm cc nL ret k pc (o_ci (pc + 2) v) := by
  refine okF.nx mn_ci fun p l e R s m args below meth c Qf n0 k0 d hf hk ls st H out ho => ?_
  obtain ⟨hx, hb, hml, hr, hown, hts, hlocks, hK, hX, hB, hnm, hR⟩ := hf
  cases ho
  refine ⟨_, _, _, _, rfl, fun _ _ kk Hp locs lsr cells slots h1 h2 h3 h4 h5 => ?_⟩
  exact lv_ldc hx hb hown (hts _ hw) hd (kk Hp locs lsr cells slots h1 h2 h3 h4 h5)
theorem ok_ldcw {i : Nat} {v : Int32} (hd : decode cc pc = .ok (.ldc_w i, 3)) (hw : Cond.constant own i v ∈ mTb) : okF G own nm cc nL ret k pc (o_ci (pc + 3) v) := by
  refine okF.nx mn_ci fun p l e R s m args below meth c Qf n0 k0 d hf hk ls st H out ho => ?_
  obtain ⟨hx, hb, hml, hr, hown, hts, hlocks, hK, hX, hB, hnm, hR⟩ := hf
  cases ho
  refine ⟨_, _, _, _, rfl, fun _ _ kk Hp locs lsr cells slots h1 h2 h3 h4 h5 => ?_⟩
  exact lv_ldcw hx hb hown (hts _ hw) hd (kk Hp locs lsr cells slots h1 h2 h3 h4 h5)
theorem ok_ldc2 {i : Nat} {v : Int64} (hd : decode cc pc = .ok (.ldc2_w i, 3)) (hw : Cond.constantLong own i v ∈ mTb) : okF G own nm cc nL ret k pc (o_cl (pc + 3) v) := by
  refine okF.nx mn_cl fun p l e R s m args below meth c Qf n0 k0 d hf hk ls st H out ho => ?_
  obtain ⟨hx, hb, hml, hr, hown, hts, hlocks, hK, hX, hB, hnm, hR⟩ := hf
  cases ho
  refine ⟨_, _, _, _, rfl, fun _ _ kk Hp locs lsr cells slots h1 h2 h3 h4 h5 => ?_⟩
  exact lv_ldc2 hx hb hown (hts _ hw) hd (kk Hp locs lsr cells slots h1 h2 h3 h4 h5)
theorem ok_null (hd : decode cc pc = .ok (.aconst_null, 1)) : okF G own nm cc nL ret k pc (o_nul (pc + 1)) := by
  refine okF.nx mn_nul fun p l e R s m args below meth c Qf n0 k0 d hf hk ls st H out ho => ?_
  obtain ⟨hx, hb, hml, hr, hown, hts, hlocks, hK, hX, hB, hnm, hR⟩ := hf
  cases ho
  refine ⟨_, _, _, _, rfl, fun _ _ kk Hp locs lsr cells slots h1 h2 h3 h4 h5 => ?_⟩
  exact lv_null hx hb hd (kk Hp locs lsr cells slots h1 h2 h3 h4 h5)
theorem ok_goto {off : Int} {t : Nat} (hd : decode cc pc = .ok (.goto off, 3)) (ht : (pc : Int) + off = (t : Int)) : okF G own nm cc nL ret k pc (o_goto t) := by
  refine okF.nx mn_goto fun p l e R s m args below meth c Qf n0 k0 d hf hk ls st H out ho => ?_
  obtain ⟨hx, hb, hml, hr, hown, hts, hlocks, hK, hX, hB, hnm, hR⟩ := hf
  cases ho
  refine ⟨_, _, _, _, rfl, fun _ _ kk Hp locs lsr cells slots h1 h2 h3 h4 h5 => ?_⟩
  exact lv_goto hx hb hd ht (kk Hp locs lsr cells slots h1 h2 h3 h4 h5)
theorem ok_iload_n {kn : Fin 4} {i : Nat} (hd : decode cc pc = .ok (.iload_n kn, 1)) (hi : (kn : Nat) = i) : okF G own nm cc nL ret k pc (o_il (pc + 1) i) := by
  refine okF.nx mn_il fun p l e R s m args below meth c Qf n0 k0 d hf hk ls st H out ho => ?_
  obtain ⟨hx, hb, hml, hr, hown, hts, hlocks, hK, hX, hB, hnm, hR⟩ := hf
  unfold o_il at ho
  split at ho
  · rename_i x hl
    cases ho
    refine ⟨_, _, _, _, rfl, fun _ _ kk Hp locs lsr cells slots h1 h2 h3 h4 h5 => ?_⟩
    exact lv_iload_n hx hb hd hi (h3.2.2.2 i _ hl (by simp)) (kk Hp locs lsr cells slots h1 h2 h3 h4 h5)
  · cases ho
theorem ok_iload {i : Nat} (hd : decode cc pc = .ok (.iload i, 2)) : okF G own nm cc nL ret k pc (o_il (pc + 2) i) := by
  refine okF.nx mn_il fun p l e R s m args below meth c Qf n0 k0 d hf hk ls st H out ho => ?_
  obtain ⟨hx, hb, hml, hr, hown, hts, hlocks, hK, hX, hB, hnm, hR⟩ := hf
  unfold o_il at ho
  split at ho
  · rename_i x hl
    cases ho
    refine ⟨_, _, _, _, rfl, fun _ _ kk Hp locs lsr cells slots h1 h2 h3 h4 h5 => ?_⟩
    exact lv_iload hx hb hd (h3.2.2.2 i _ hl (by simp)) (kk Hp locs lsr cells slots h1 h2 h3 h4 h5)
  · cases ho
theorem ok_lload_n {kn : Fin 4} {i : Nat} (hd : decode cc pc = .ok (.lload_n kn, 1)) (hi : (kn : Nat) = i) : okF G own nm cc nL ret k pc (o_ll (pc + 1) i) := by
  refine okF.nx mn_ll fun p l e R s m args below meth c Qf n0 k0 d hf hk ls st H out ho => ?_
  obtain ⟨hx, hb, hml, hr, hown, hts, hlocks, hK, hX, hB, hnm, hR⟩ := hf
  unfold o_ll at ho
  split at ho
  · rename_i x hl
    cases ho
    refine ⟨_, _, _, _, rfl, fun _ _ kk Hp locs lsr cells slots h1 h2 h3 h4 h5 => ?_⟩
    exact lv_lload_n hx hb hd hi (h3.2.2.2 i _ hl (by simp)) (kk Hp locs lsr cells slots h1 h2 h3 h4 h5)
  · cases ho
theorem ok_lload {i : Nat} (hd : decode cc pc = .ok (.lload i, 2)) : okF G own nm cc nL ret k pc (o_ll (pc + 2) i) := by
  refine okF.nx mn_ll fun p l e R s m args below meth c Qf n0 k0 d hf hk ls st H out ho => ?_
  obtain ⟨hx, hb, hml, hr, hown, hts, hlocks, hK, hX, hB, hnm, hR⟩ := hf
  unfold o_ll at ho
  split at ho
  · rename_i x hl
    cases ho
    refine ⟨_, _, _, _, rfl, fun _ _ kk Hp locs lsr cells slots h1 h2 h3 h4 h5 => ?_⟩
    exact lv_lload hx hb hd (h3.2.2.2 i _ hl (by simp)) (kk Hp locs lsr cells slots h1 h2 h3 h4 h5)
  · cases ho
theorem ok_aload_n {kn : Fin 4} {i : Nat} (hd : decode cc pc = .ok (.aload_n kn, 1)) (hi : (kn : Nat) = i) : okF G own nm cc nL ret k pc (o_al (pc + 1) i) := by
  refine okF.nx mn_al fun p l e R s m args below meth c Qf n0 k0 d hf hk ls st H out ho => ?_
  obtain ⟨hx, hb, hml, hr, hown, hts, hlocks, hK, hX, hB, hnm, hR⟩ := hf
  unfold o_al at ho
  split at ho
  · rename_i x hl
    cases ho
    refine ⟨_, _, _, _, rfl, fun _ _ kk Hp locs lsr cells slots h1 h2 h3 h4 h5 => ?_⟩
    exact lv_aload_n hx hb hd hi (h3.2.2.2 i _ hl (by simp)) (kk Hp locs lsr cells slots h1 h2 h3 h4 h5)
  · rename_i hl
    cases ho
    refine ⟨_, _, _, _, rfl, fun _ _ kk Hp locs lsr cells slots h1 h2 h3 h4 h5 => ?_⟩
    exact lv_aload_nN hx hb hd hi (h3.2.2.2 i _ hl (by simp)) (kk Hp locs lsr cells slots h1 h2 h3 h4 h5)
  · cases ho
theorem ok_istore_n {kn : Fin 4} {i : Nat} (hd : decode cc pc = .ok (.istore_n kn, 1)) (hi : (kn : Nat) = i) : okF G own nm cc nL ret k pc (o_is (pc + 1) i) := by
  refine okF.nx mn_is fun p l e R s m args below meth c Qf n0 k0 d hf hk ls st H out ho => ?_
  obtain ⟨hx, hb, hml, hr, hown, hts, hlocks, hK, hX, hB, hnm, hR⟩ := hf
  unfold o_is at ho
  split at ho
  · rename_i x st
    split at ho
    · rename_i ls1 hm
      cases ho
      refine ⟨_, _, _, _, rfl, fun _ _ kk Hp locs lsr cells slots h1 h2 h3 h4 h5 => ?_⟩
      exact lv_istore_n hx hb hd hi h3.has (by rw [← h3.2.1]; exact mst_lt hm) rfl (fun ls2 hl2 => kk Hp locs ls2 cells slots h1 h2 (h3.store1 hK.2.2.1 hm hl2) h4 h5)
    · cases ho
  · cases ho
theorem ok_lstore_n {kn : Fin 4} {i : Nat} (hd : decode cc pc = .ok (.lstore_n kn, 1)) (hi : (kn : Nat) = i) : okF G own nm cc nL ret k pc (o_ls (pc + 1) i) := by
  refine okF.nx mn_ls fun p l e R s m args below meth c Qf n0 k0 d hf hk ls st H out ho => ?_
  obtain ⟨hx, hb, hml, hr, hown, hts, hlocks, hK, hX, hB, hnm, hR⟩ := hf
  unfold o_ls at ho
  split at ho
  · rename_i x st
    split at ho
    · rename_i ls1 hm
      cases ho
      refine ⟨_, _, _, _, rfl, fun _ _ kk Hp locs lsr cells slots h1 h2 h3 h4 h5 => ?_⟩
      exact lv_lstore_n hx hb hd hi h3.has (by rw [← h3.2.1]; exact mst2_lt hm) rfl (fun ls2 hl2 => kk Hp locs ls2 cells slots h1 h2 (h3.store2 hK.2.2.1 hm hl2) h4 h5)
    · cases ho
  · cases ho
theorem ok_astore_n {kn : Fin 4} {i : Nat} (hd : decode cc pc = .ok (.astore_n kn, 1)) (hi : (kn : Nat) = i) : okF G own nm cc nL ret k pc (o_as (pc + 1) i) := by
  refine okF.nx mn_as fun p l e R s m args below meth c Qf n0 k0 d hf hk ls st H out ho => ?_
  obtain ⟨hx, hb, hml, hr, hown, hts, hlocks, hK, hX, hB, hnm, hR⟩ := hf
  unfold o_as at ho
  split at ho
  · rename_i x st
    split at ho
    · rename_i ls1 hm
      cases ho
      refine ⟨_, _, _, _, rfl, fun _ _ kk Hp locs lsr cells slots h1 h2 h3 h4 h5 => ?_⟩
      exact lv_astore_n hx hb hd hi h3.has (by rw [← h3.2.1]; exact mst_lt hm) rfl (fun ls2 hl2 => kk Hp locs ls2 cells slots h1 h2 (h3.store1 hK.2.2.1 hm hl2) h4 h5)
    · cases ho
  · rename_i st
    split at ho
    · rename_i ls1 hm
      cases ho
      refine ⟨_, _, _, _, rfl, fun _ _ kk Hp locs lsr cells slots h1 h2 h3 h4 h5 => ?_⟩
      exact lv_astore_nN hx hb hd hi h3.has (by rw [← h3.2.1]; exact mst_lt hm) rfl (fun ls2 hl2 => kk Hp locs ls2 cells slots h1 h2 (h3.store1 hK.2.2.1 hm hl2) h4 h5)
    · cases ho
  · cases ho
theorem ok_aload {i : Nat} (hd : decode cc pc = .ok (.aload i, 2)) : okF G own nm cc nL ret k pc (o_al (pc + 2) i) := by
  refine okF.nx mn_al fun p l e R s m args below meth c Qf n0 k0 d hf hk ls st H out ho => ?_
  obtain ⟨hx, hb, hml, hr, hown, hts, hlocks, hK, hX, hB, hnm, hR⟩ := hf
  unfold o_al at ho
  split at ho
  · rename_i x hl
    cases ho
    refine ⟨_, _, _, _, rfl, fun _ _ kk Hp locs lsr cells slots h1 h2 h3 h4 h5 => ?_⟩
    exact lv_aload hx hb hd (h3.2.2.2 i _ hl (by simp)) (kk Hp locs lsr cells slots h1 h2 h3 h4 h5)
  · rename_i hl
    cases ho
    refine ⟨_, _, _, _, rfl, fun _ _ kk Hp locs lsr cells slots h1 h2 h3 h4 h5 => ?_⟩
    exact lv_aloadN hx hb hd (h3.2.2.2 i _ hl (by simp)) (kk Hp locs lsr cells slots h1 h2 h3 h4 h5)
  · cases ho
theorem ok_istore {i : Nat} (hd : decode cc pc = .ok (.istore i, 2)) : okF G own nm cc nL ret k pc (o_is (pc + 2) i) := by
  refine okF.nx mn_is fun p l e R s m args below meth c Qf n0 k0 d hf hk ls st H out ho => ?_
  obtain ⟨hx, hb, hml, hr, hown, hts, hlocks, hK, hX, hB, hnm, hR⟩ := hf
  unfold o_is at ho
  split at ho
  · rename_i x st
    split at ho
    · rename_i ls1 hm
      cases ho
      refine ⟨_, _, _, _, rfl, fun _ _ kk Hp locs lsr cells slots h1 h2 h3 h4 h5 => ?_⟩
      exact lv_istore hx hb hd h3.has (by rw [← h3.2.1]; exact mst_lt hm) rfl (fun ls2 hl2 => kk Hp locs ls2 cells slots h1 h2 (h3.store1 hK.2.2.1 hm hl2) h4 h5)
    · cases ho
  · cases ho
theorem ok_lstore {i : Nat} (hd : decode cc pc = .ok (.lstore i, 2)) : okF G own nm cc nL ret k pc (o_ls (pc + 2) i) := by
  refine okF.nx mn_ls fun p l e R s m args below meth c Qf n0 k0 d hf hk ls st H out ho => ?_
  obtain ⟨hx, hb, hml, hr, hown, hts, hlocks, hK, hX, hB, hnm, hR⟩ := hf
  unfold o_ls at ho
  split at ho
  · rename_i x st
    split at ho
    · rename_i ls1 hm
      cases ho
      refine ⟨_, _, _, _, rfl, fun _ _ kk Hp locs lsr cells slots h1 h2 h3 h4 h5 => ?_⟩
      exact lv_lstore hx hb hd h3.has (by rw [← h3.2.1]; exact mst2_lt hm) rfl (fun ls2 hl2 => kk Hp locs ls2 cells slots h1 h2 (h3.store2 hK.2.2.1 hm hl2) h4 h5)
    · cases ho
  · cases ho
theorem ok_astore {i : Nat} (hd : decode cc pc = .ok (.astore i, 2)) : okF G own nm cc nL ret k pc (o_as (pc + 2) i) := by
  refine okF.nx mn_as fun p l e R s m args below meth c Qf n0 k0 d hf hk ls st H out ho => ?_
  obtain ⟨hx, hb, hml, hr, hown, hts, hlocks, hK, hX, hB, hnm, hR⟩ := hf
  unfold o_as at ho
  split at ho
  · rename_i x st
    split at ho
    · rename_i ls1 hm
      cases ho
      refine ⟨_, _, _, _, rfl, fun _ _ kk Hp locs lsr cells slots h1 h2 h3 h4 h5 => ?_⟩
      exact lv_astore hx hb hd h3.has (by rw [← h3.2.1]; exact mst_lt hm) rfl (fun ls2 hl2 => kk Hp locs ls2 cells slots h1 h2 (h3.store1 hK.2.2.1 hm hl2) h4 h5)
    · cases ho
  · rename_i st
    split at ho
    · rename_i ls1 hm
      cases ho
      refine ⟨_, _, _, _, rfl, fun _ _ kk Hp locs lsr cells slots h1 h2 h3 h4 h5 => ?_⟩
      exact lv_astoreN hx hb hd h3.has (by rw [← h3.2.1]; exact mst_lt hm) rfl (fun ls2 hl2 => kk Hp locs ls2 cells slots h1 h2 (h3.store1 hK.2.2.1 hm hl2) h4 h5)
    · cases ho
  · cases ho
theorem ok_iinc {i : Nat} {z : Int} {v : Int32} (hd : decode cc pc = .ok (.iinc i z, 3)) (hv : Int32.ofInt z = v) : okF G own nm cc nL ret k pc (o_inc (pc + 3) i v) := by
  refine okF.nx mn_inc fun p l e R s m args below meth c Qf n0 k0 d hf hk ls st H out ho => ?_
  obtain ⟨hx, hb, hml, hr, hown, hts, hlocks, hK, hX, hB, hnm, hR⟩ := hf
  unfold o_inc at ho
  split at ho
  · rename_i x hl
    split at ho
    · rename_i ls1 hm
      cases ho
      refine ⟨_, _, _, _, rfl, fun _ _ kk Hp locs lsr cells slots h1 h2 h3 h4 h5 => ?_⟩
      obtain ⟨q, hq⟩ := List.getElem?_of_mem (prs_mem (G := G) hl (by simp))
      exact lv_iinc hx hb hd h3.has hq (by rw [hv]) (by rw [← h3.2.1]; exact mst_lt hm) rfl (fun ls2 hl2 => kk Hp locs ls2 cells slots h1 h2 (h3.store1 hK.2.2.1 hm hl2) h4 h5)
    · cases ho
  · cases ho
theorem ok_isub (hd : decode cc pc = .ok (.isub, 1)) : okF G own nm cc nL ret k pc (o_isub (pc + 1)) := by
  refine okF.nx mn_isub fun p l e R s m args below meth c Qf n0 k0 d hf hk ls st H out ho => ?_
  obtain ⟨hx, hb, hml, hr, hown, hts, hlocks, hK, hX, hB, hnm, hR⟩ := hf
  unfold o_isub at ho
  split at ho
  · rename_i y x st
    cases ho
    refine ⟨_, _, _, _, rfl, fun _ _ kk Hp locs lsr cells slots h1 h2 h3 h4 h5 => ?_⟩
    exact lv_isub hx hb hd (kk Hp locs lsr cells slots h1 h2 h3 h4 h5)
  · cases ho
theorem ok_imul (hd : decode cc pc = .ok (.imul, 1)) : okF G own nm cc nL ret k pc (o_imul (pc + 1)) := by
  refine okF.nx mn_imul fun p l e R s m args below meth c Qf n0 k0 d hf hk ls st H out ho => ?_
  obtain ⟨hx, hb, hml, hr, hown, hts, hlocks, hK, hX, hB, hnm, hR⟩ := hf
  unfold o_imul at ho
  split at ho
  · rename_i y x st
    cases ho
    refine ⟨_, _, _, _, rfl, fun _ _ kk Hp locs lsr cells slots h1 h2 h3 h4 h5 => ?_⟩
    exact lv_imul hx hb hd (kk Hp locs lsr cells slots h1 h2 h3 h4 h5)
  · cases ho
theorem ok_iand (hd : decode cc pc = .ok (.iand, 1)) : okF G own nm cc nL ret k pc (o_iand (pc + 1)) := by
  refine okF.nx mn_iand fun p l e R s m args below meth c Qf n0 k0 d hf hk ls st H out ho => ?_
  obtain ⟨hx, hb, hml, hr, hown, hts, hlocks, hK, hX, hB, hnm, hR⟩ := hf
  unfold o_iand at ho
  split at ho
  · rename_i y x st
    cases ho
    refine ⟨_, _, _, _, rfl, fun _ _ kk Hp locs lsr cells slots h1 h2 h3 h4 h5 => ?_⟩
    exact lv_iand hx hb hd (kk Hp locs lsr cells slots h1 h2 h3 h4 h5)
  · cases ho
theorem ok_ior (hd : decode cc pc = .ok (.ior, 1)) : okF G own nm cc nL ret k pc (o_ior (pc + 1)) := by
  refine okF.nx mn_ior fun p l e R s m args below meth c Qf n0 k0 d hf hk ls st H out ho => ?_
  obtain ⟨hx, hb, hml, hr, hown, hts, hlocks, hK, hX, hB, hnm, hR⟩ := hf
  unfold o_ior at ho
  split at ho
  · rename_i y x st
    cases ho
    refine ⟨_, _, _, _, rfl, fun _ _ kk Hp locs lsr cells slots h1 h2 h3 h4 h5 => ?_⟩
    exact lv_ior hx hb hd (kk Hp locs lsr cells slots h1 h2 h3 h4 h5)
  · cases ho
theorem ok_ixor (hd : decode cc pc = .ok (.ixor, 1)) : okF G own nm cc nL ret k pc (o_ixor (pc + 1)) := by
  refine okF.nx mn_ixor fun p l e R s m args below meth c Qf n0 k0 d hf hk ls st H out ho => ?_
  obtain ⟨hx, hb, hml, hr, hown, hts, hlocks, hK, hX, hB, hnm, hR⟩ := hf
  unfold o_ixor at ho
  split at ho
  · rename_i y x st
    cases ho
    refine ⟨_, _, _, _, rfl, fun _ _ kk Hp locs lsr cells slots h1 h2 h3 h4 h5 => ?_⟩
    exact lv_ixor hx hb hd (kk Hp locs lsr cells slots h1 h2 h3 h4 h5)
  · cases ho
theorem ok_ishl (hd : decode cc pc = .ok (.ishl, 1)) : okF G own nm cc nL ret k pc (o_ishl (pc + 1)) := by
  refine okF.nx mn_ishl fun p l e R s m args below meth c Qf n0 k0 d hf hk ls st H out ho => ?_
  obtain ⟨hx, hb, hml, hr, hown, hts, hlocks, hK, hX, hB, hnm, hR⟩ := hf
  unfold o_ishl at ho
  split at ho
  · rename_i y x st
    cases ho
    refine ⟨_, _, _, _, rfl, fun _ _ kk Hp locs lsr cells slots h1 h2 h3 h4 h5 => ?_⟩
    exact lv_ishl hx hb hd (kk Hp locs lsr cells slots h1 h2 h3 h4 h5)
  · cases ho
theorem ok_ishr (hd : decode cc pc = .ok (.ishr, 1)) : okF G own nm cc nL ret k pc (o_ishr (pc + 1)) := by
  refine okF.nx mn_ishr fun p l e R s m args below meth c Qf n0 k0 d hf hk ls st H out ho => ?_
  obtain ⟨hx, hb, hml, hr, hown, hts, hlocks, hK, hX, hB, hnm, hR⟩ := hf
  unfold o_ishr at ho
  split at ho
  · rename_i y x st
    cases ho
    refine ⟨_, _, _, _, rfl, fun _ _ kk Hp locs lsr cells slots h1 h2 h3 h4 h5 => ?_⟩
    exact lv_ishr hx hb hd (kk Hp locs lsr cells slots h1 h2 h3 h4 h5)
  · cases ho
theorem ok_iushr (hd : decode cc pc = .ok (.iushr, 1)) : okF G own nm cc nL ret k pc (o_iushr (pc + 1)) := by
  refine okF.nx mn_iushr fun p l e R s m args below meth c Qf n0 k0 d hf hk ls st H out ho => ?_
  obtain ⟨hx, hb, hml, hr, hown, hts, hlocks, hK, hX, hB, hnm, hR⟩ := hf
  unfold o_iushr at ho
  split at ho
  · rename_i y x st
    cases ho
    refine ⟨_, _, _, _, rfl, fun _ _ kk Hp locs lsr cells slots h1 h2 h3 h4 h5 => ?_⟩
    exact lv_iushr hx hb hd rfl (kk Hp locs lsr cells slots h1 h2 h3 h4 h5)
  · cases ho
theorem ok_idiv (hd : decode cc pc = .ok (.idiv, 1)) : okF G own nm cc nL ret k pc (o_idiv (pc + 1)) := by
  refine okF.nx mn_idiv fun p l e R s m args below meth c Qf n0 k0 d hf hk ls st H out ho => ?_
  obtain ⟨hx, hb, hml, hr, hown, hts, hlocks, hK, hX, hB, hnm, hR⟩ := hf
  unfold o_idiv at ho
  split at ho
  · rename_i y x st
    split at ho
    · cases ho
    · rename_i hy
      cases ho
      refine ⟨_, _, _, _, rfl, fun _ _ kk Hp locs lsr cells slots h1 h2 h3 h4 h5 => ?_⟩
      exact lv_idiv hx hb hd hy (kk Hp locs lsr cells slots h1 h2 h3 h4 h5)
  · cases ho
theorem ok_irem (hd : decode cc pc = .ok (.irem, 1)) : okF G own nm cc nL ret k pc (o_irem (pc + 1)) := by
  refine okF.nx mn_irem fun p l e R s m args below meth c Qf n0 k0 d hf hk ls st H out ho => ?_
  obtain ⟨hx, hb, hml, hr, hown, hts, hlocks, hK, hX, hB, hnm, hR⟩ := hf
  unfold o_irem at ho
  split at ho
  · rename_i y x st
    split at ho
    · cases ho
    · rename_i hy
      cases ho
      refine ⟨_, _, _, _, rfl, fun _ _ kk Hp locs lsr cells slots h1 h2 h3 h4 h5 => ?_⟩
      exact lv_irem hx hb hd hy (kk Hp locs lsr cells slots h1 h2 h3 h4 h5)
  · cases ho
theorem ok_ladd (hd : decode cc pc = .ok (.ladd, 1)) : okF G own nm cc nL ret k pc (o_ladd (pc + 1)) := by
  refine okF.nx mn_ladd fun p l e R s m args below meth c Qf n0 k0 d hf hk ls st H out ho => ?_
  obtain ⟨hx, hb, hml, hr, hown, hts, hlocks, hK, hX, hB, hnm, hR⟩ := hf
  unfold o_ladd at ho
  split at ho
  · rename_i y x st
    cases ho
    refine ⟨_, _, _, _, rfl, fun _ _ kk Hp locs lsr cells slots h1 h2 h3 h4 h5 => ?_⟩
    exact lv_ladd hx hb hd (kk Hp locs lsr cells slots h1 h2 h3 h4 h5)
  · cases ho
theorem ok_lsub (hd : decode cc pc = .ok (.lsub, 1)) : okF G own nm cc nL ret k pc (o_lsub (pc + 1)) := by
  refine okF.nx mn_lsub fun p l e R s m args below meth c Qf n0 k0 d hf hk ls st H out ho => ?_
  obtain ⟨hx, hb, hml, hr, hown, hts, hlocks, hK, hX, hB, hnm, hR⟩ := hf
  unfold o_lsub at ho
  split at ho
  · rename_i y x st
    cases ho
    refine ⟨_, _, _, _, rfl, fun _ _ kk Hp locs lsr cells slots h1 h2 h3 h4 h5 => ?_⟩
    exact lv_lsub hx hb hd (kk Hp locs lsr cells slots h1 h2 h3 h4 h5)
  · cases ho
theorem ok_lmul (hd : decode cc pc = .ok (.lmul, 1)) : okF G own nm cc nL ret k pc (o_lmul (pc + 1)) := by
  refine okF.nx mn_lmul fun p l e R s m args below meth c Qf n0 k0 d hf hk ls st H out ho => ?_
  obtain ⟨hx, hb, hml, hr, hown, hts, hlocks, hK, hX, hB, hnm, hR⟩ := hf
  unfold o_lmul at ho
  split at ho
  · rename_i y x st
    cases ho
    refine ⟨_, _, _, _, rfl, fun _ _ kk Hp locs lsr cells slots h1 h2 h3 h4 h5 => ?_⟩
    exact lv_lmul hx hb hd (kk Hp locs lsr cells slots h1 h2 h3 h4 h5)
  · cases ho
theorem ok_lrem (hd : decode cc pc = .ok (.lrem, 1)) : okF G own nm cc nL ret k pc (o_lrem (pc + 1)) := by
  refine okF.nx mn_lrem fun p l e R s m args below meth c Qf n0 k0 d hf hk ls st H out ho => ?_
  obtain ⟨hx, hb, hml, hr, hown, hts, hlocks, hK, hX, hB, hnm, hR⟩ := hf
  unfold o_lrem at ho
  split at ho
  · rename_i y x st
    split at ho
    · cases ho
    · rename_i hy
      cases ho
      refine ⟨_, _, _, _, rfl, fun _ _ kk Hp locs lsr cells slots h1 h2 h3 h4 h5 => ?_⟩
      exact lv_lrem hx hb hd hy (kk Hp locs lsr cells slots h1 h2 h3 h4 h5)
  · cases ho
theorem ok_lcmp (hd : decode cc pc = .ok (.lcmp, 1)) : okF G own nm cc nL ret k pc (o_lcmp (pc + 1)) := by
  refine okF.nx mn_lcmp fun p l e R s m args below meth c Qf n0 k0 d hf hk ls st H out ho => ?_
  obtain ⟨hx, hb, hml, hr, hown, hts, hlocks, hK, hX, hB, hnm, hR⟩ := hf
  unfold o_lcmp at ho
  split at ho
  · rename_i y x st
    cases ho
    refine ⟨_, _, _, _, rfl, fun _ _ kk Hp locs lsr cells slots h1 h2 h3 h4 h5 => ?_⟩
    exact W.lcmp hx hb hd (kk Hp locs lsr cells slots h1 h2 h3 h4 h5)
  · cases ho
theorem ok_ineg (hd : decode cc pc = .ok (.ineg, 1)) : okF G own nm cc nL ret k pc (o_ineg (pc + 1)) := by
  refine okF.nx mn_ineg fun p l e R s m args below meth c Qf n0 k0 d hf hk ls st H out ho => ?_
  obtain ⟨hx, hb, hml, hr, hown, hts, hlocks, hK, hX, hB, hnm, hR⟩ := hf
  unfold o_ineg at ho
  split at ho
  · rename_i x st
    cases ho
    refine ⟨_, _, _, _, rfl, fun _ _ kk Hp locs lsr cells slots h1 h2 h3 h4 h5 => ?_⟩
    exact lv_ineg hx hb hd (kk Hp locs lsr cells slots h1 h2 h3 h4 h5)
  · cases ho
theorem ok_i2b (hd : decode cc pc = .ok (.i2b, 1)) : okF G own nm cc nL ret k pc (o_i2b (pc + 1)) := by
  refine okF.nx mn_i2b fun p l e R s m args below meth c Qf n0 k0 d hf hk ls st H out ho => ?_
  obtain ⟨hx, hb, hml, hr, hown, hts, hlocks, hK, hX, hB, hnm, hR⟩ := hf
  unfold o_i2b at ho
  split at ho
  · rename_i x st
    cases ho
    refine ⟨_, _, _, _, rfl, fun _ _ kk Hp locs lsr cells slots h1 h2 h3 h4 h5 => ?_⟩
    exact lv_i2b hx hb hd rfl (kk Hp locs lsr cells slots h1 h2 h3 h4 h5)
  · cases ho
theorem ok_i2s (hd : decode cc pc = .ok (.i2s, 1)) : okF G own nm cc nL ret k pc (o_i2s (pc + 1)) := by
  refine okF.nx mn_i2s fun p l e R s m args below meth c Qf n0 k0 d hf hk ls st H out ho => ?_
  obtain ⟨hx, hb, hml, hr, hown, hts, hlocks, hK, hX, hB, hnm, hR⟩ := hf
  unfold o_i2s at ho
  split at ho
  · rename_i x st
    cases ho
    refine ⟨_, _, _, _, rfl, fun _ _ kk Hp locs lsr cells slots h1 h2 h3 h4 h5 => ?_⟩
    exact lv_i2s hx hb hd rfl (kk Hp locs lsr cells slots h1 h2 h3 h4 h5)
  · cases ho
theorem ok_i2c (hd : decode cc pc = .ok (.i2c, 1)) : okF G own nm cc nL ret k pc (o_i2c (pc + 1)) := by
  refine okF.nx mn_i2c fun p l e R s m args below meth c Qf n0 k0 d hf hk ls st H out ho => ?_
  obtain ⟨hx, hb, hml, hr, hown, hts, hlocks, hK, hX, hB, hnm, hR⟩ := hf
  unfold o_i2c at ho
  split at ho
  · rename_i x st
    cases ho
    refine ⟨_, _, _, _, rfl, fun _ _ kk Hp locs lsr cells slots h1 h2 h3 h4 h5 => ?_⟩
    exact lv_i2c hx hb hd rfl (kk Hp locs lsr cells slots h1 h2 h3 h4 h5)
  · cases ho
theorem ok_i2l (hd : decode cc pc = .ok (.i2l, 1)) : okF G own nm cc nL ret k pc (o_i2l (pc + 1)) := by
  refine okF.nx mn_i2l fun p l e R s m args below meth c Qf n0 k0 d hf hk ls st H out ho => ?_
  obtain ⟨hx, hb, hml, hr, hown, hts, hlocks, hK, hX, hB, hnm, hR⟩ := hf
  unfold o_i2l at ho
  split at ho
  · rename_i x st
    cases ho
    refine ⟨_, _, _, _, rfl, fun _ _ kk Hp locs lsr cells slots h1 h2 h3 h4 h5 => ?_⟩
    exact lv_i2l hx hb hd rfl (kk Hp locs lsr cells slots h1 h2 h3 h4 h5)
  · cases ho
theorem ok_l2i (hd : decode cc pc = .ok (.l2i, 1)) : okF G own nm cc nL ret k pc (o_l2i (pc + 1)) := by
  refine okF.nx mn_l2i fun p l e R s m args below meth c Qf n0 k0 d hf hk ls st H out ho => ?_
  obtain ⟨hx, hb, hml, hr, hown, hts, hlocks, hK, hX, hB, hnm, hR⟩ := hf
  unfold o_l2i at ho
  split at ho
  · rename_i x st
    cases ho
    refine ⟨_, _, _, _, rfl, fun _ _ kk Hp locs lsr cells slots h1 h2 h3 h4 h5 => ?_⟩
    exact lv_l2i hx hb hd rfl (kk Hp locs lsr cells slots h1 h2 h3 h4 h5)
  · cases ho
theorem ok_dup (hd : decode cc pc = .ok (.dup, 1)) : okF G own nm cc nL ret k pc (o_dup (pc + 1)) := by
  refine okF.nx mn_dup fun p l e R s m args below meth c Qf n0 k0 d hf hk ls st H out ho => ?_
  obtain ⟨hx, hb, hml, hr, hown, hts, hlocks, hK, hX, hB, hnm, hR⟩ := hf
  unfold o_dup at ho
  split at ho
  · rename_i v st
    split at ho
    · rename_i hv
      cases ho
      refine ⟨_, _, _, _, rfl, fun _ _ kk Hp locs lsr cells slots h1 h2 h3 h4 h5 => ?_⟩
      exact lv_dup hx hb hd (by rw [gv_cat hK.2.2.1]; exact hv) (kk Hp locs lsr cells slots h1 h2 h3 h4 h5)
    · cases ho
  · cases ho
theorem ok_pop (hd : decode cc pc = .ok (.pop, 1)) : okF G own nm cc nL ret k pc (o_pop (pc + 1)) := by
  refine okF.nx mn_pop fun p l e R s m args below meth c Qf n0 k0 d hf hk ls st H out ho => ?_
  obtain ⟨hx, hb, hml, hr, hown, hts, hlocks, hK, hX, hB, hnm, hR⟩ := hf
  unfold o_pop at ho
  split at ho
  · rename_i v st
    split at ho
    · rename_i hv
      cases ho
      refine ⟨_, _, _, _, rfl, fun _ _ kk Hp locs lsr cells slots h1 h2 h3 h4 h5 => ?_⟩
      exact lv_pop hx hb hd (by rw [gv_cat hK.2.2.1]; exact hv) (kk Hp locs lsr cells slots h1 h2 h3 h4 h5)
    · cases ho
  · cases ho
theorem ok_dup2 (hd : decode cc pc = .ok (.dup2, 1)) : okF G own nm cc nL ret k pc (o_dup2 (pc + 1)) := by
  refine okF.nx mn_dup2 fun p l e R s m args below meth c Qf n0 k0 d hf hk ls st H out ho => ?_
  obtain ⟨hx, hb, hml, hr, hown, hts, hlocks, hK, hX, hB, hnm, hR⟩ := hf
  unfold o_dup2 at ho
  split at ho
  · rename_i v w st
    split at ho
    · rename_i hv
      cases ho
      refine ⟨_, _, _, _, rfl, fun _ _ kk Hp locs lsr cells slots h1 h2 h3 h4 h5 => ?_⟩
      exact lv_dup2_11 hx hb hd (by rw [gv_cat hK.2.2.1]; exact hv.1) (by rw [gv_cat hK.2.2.1]; exact hv.2) (kk Hp locs lsr cells slots h1 h2 h3 h4 h5)
    · cases ho
  · cases ho
theorem ok_ifeq {off : Int} {t : Nat} (hd : decode cc pc = .ok (.ifCond .eq off, 3)) (ht : (pc : Int) + off = (t : Int)) : okF G own nm cc nL ret k pc (o_ifeq (pc + 3) t) := by
  refine okF.nx mn_ifeq fun p l e R s m args below meth c Qf n0 k0 d hf hk ls st H out ho => ?_
  obtain ⟨hx, hb, hml, hr, hown, hts, hlocks, hK, hX, hB, hnm, hR⟩ := hf
  unfold o_ifeq at ho
  split at ho
  · rename_i x st
    split at ho
    · rename_i hc
      cases ho
      refine ⟨_, _, _, _, rfl, fun _ _ kk Hp locs lsr cells slots h1 h2 h3 h4 h5 => ?_⟩
      exact lv_if_eq hx hb hd ht (fun _ => kk Hp locs lsr cells slots h1 h2 h3 h4 h5) (fun h => absurd hc h)
    · rename_i hc
      cases ho
      refine ⟨_, _, _, _, rfl, fun _ _ kk Hp locs lsr cells slots h1 h2 h3 h4 h5 => ?_⟩
      exact lv_if_eq hx hb hd ht (fun h => absurd h hc) (fun _ => kk Hp locs lsr cells slots h1 h2 h3 h4 h5)
  · cases ho
theorem ok_ifne {off : Int} {t : Nat} (hd : decode cc pc = .ok (.ifCond .ne off, 3)) (ht : (pc : Int) + off = (t : Int)) : okF G own nm cc nL ret k pc (o_ifne (pc + 3) t) := by
  refine okF.nx mn_ifne fun p l e R s m args below meth c Qf n0 k0 d hf hk ls st H out ho => ?_
  obtain ⟨hx, hb, hml, hr, hown, hts, hlocks, hK, hX, hB, hnm, hR⟩ := hf
  unfold o_ifne at ho
  split at ho
  · rename_i x st
    split at ho
    · rename_i hc
      cases ho
      refine ⟨_, _, _, _, rfl, fun _ _ kk Hp locs lsr cells slots h1 h2 h3 h4 h5 => ?_⟩
      exact lv_if_ne hx hb hd ht (fun h => absurd hc h) (fun _ => kk Hp locs lsr cells slots h1 h2 h3 h4 h5)
    · rename_i hc
      cases ho
      refine ⟨_, _, _, _, rfl, fun _ _ kk Hp locs lsr cells slots h1 h2 h3 h4 h5 => ?_⟩
      exact lv_if_ne hx hb hd ht (fun _ => kk Hp locs lsr cells slots h1 h2 h3 h4 h5) (fun h => absurd h hc)
  · cases ho
theorem ok_iflt {off : Int} {t : Nat} (hd : decode cc pc = .ok (.ifCond .lt off, 3)) (ht : (pc : Int) + off = (t : Int)) : okF G own nm cc nL ret k pc (o_iflt (pc + 3) t) := by
  refine okF.nx mn_iflt fun p l e R s m args below meth c Qf n0 k0 d hf hk ls st H out ho => ?_
  obtain ⟨hx, hb, hml, hr, hown, hts, hlocks, hK, hX, hB, hnm, hR⟩ := hf
  unfold o_iflt at ho
  split at ho
  · rename_i x st
    split at ho
    · rename_i hc
      cases ho
      refine ⟨_, _, _, _, rfl, fun _ _ kk Hp locs lsr cells slots h1 h2 h3 h4 h5 => ?_⟩
      exact lv_if_lt hx hb hd ht (fun _ => kk Hp locs lsr cells slots h1 h2 h3 h4 h5) (fun h => absurd hc h)
    · rename_i hc
      cases ho
      refine ⟨_, _, _, _, rfl, fun _ _ kk Hp locs lsr cells slots h1 h2 h3 h4 h5 => ?_⟩
      exact lv_if_lt hx hb hd ht (fun h => absurd h hc) (fun _ => kk Hp locs lsr cells slots h1 h2 h3 h4 h5)
  · cases ho
theorem ok_ifge {off : Int} {t : Nat} (hd : decode cc pc = .ok (.ifCond .ge off, 3)) (ht : (pc : Int) + off = (t : Int)) : okF G own nm cc nL ret k pc (o_ifge (pc + 3) t) := by
  refine okF.nx mn_ifge fun p l e R s m args below meth c Qf n0 k0 d hf hk ls st H out ho => ?_
  obtain ⟨hx, hb, hml, hr, hown, hts, hlocks, hK, hX, hB, hnm, hR⟩ := hf
  unfold o_ifge at ho
  split at ho
  · rename_i x st
    split at ho
    · rename_i hc
      cases ho
      refine ⟨_, _, _, _, rfl, fun _ _ kk Hp locs lsr cells slots h1 h2 h3 h4 h5 => ?_⟩
      exact lv_if_ge hx hb hd ht (fun _ => kk Hp locs lsr cells slots h1 h2 h3 h4 h5) (fun h => absurd hc h)
    · rename_i hc
      cases ho
      refine ⟨_, _, _, _, rfl, fun _ _ kk Hp locs lsr cells slots h1 h2 h3 h4 h5 => ?_⟩
      exact lv_if_ge hx hb hd ht (fun h => absurd h hc) (fun _ => kk Hp locs lsr cells slots h1 h2 h3 h4 h5)
  · cases ho
theorem ok_ifgt {off : Int} {t : Nat} (hd : decode cc pc = .ok (.ifCond .gt off, 3)) (ht : (pc : Int) + off = (t : Int)) : okF G own nm cc nL ret k pc (o_ifgt (pc + 3) t) := by
  refine okF.nx mn_ifgt fun p l e R s m args below meth c Qf n0 k0 d hf hk ls st H out ho => ?_
  obtain ⟨hx, hb, hml, hr, hown, hts, hlocks, hK, hX, hB, hnm, hR⟩ := hf
  unfold o_ifgt at ho
  split at ho
  · rename_i x st
    split at ho
    · rename_i hc
      cases ho
      refine ⟨_, _, _, _, rfl, fun _ _ kk Hp locs lsr cells slots h1 h2 h3 h4 h5 => ?_⟩
      exact lv_if_gt hx hb hd ht (fun _ => kk Hp locs lsr cells slots h1 h2 h3 h4 h5) (fun h => absurd hc h)
    · rename_i hc
      cases ho
      refine ⟨_, _, _, _, rfl, fun _ _ kk Hp locs lsr cells slots h1 h2 h3 h4 h5 => ?_⟩
      exact lv_if_gt hx hb hd ht (fun h => absurd h hc) (fun _ => kk Hp locs lsr cells slots h1 h2 h3 h4 h5)
  · cases ho
theorem ok_ifle {off : Int} {t : Nat} (hd : decode cc pc = .ok (.ifCond .le off, 3)) (ht : (pc : Int) + off = (t : Int)) : okF G own nm cc nL ret k pc (o_ifle (pc + 3) t) := by
  refine okF.nx mn_ifle fun p l e R s m args below meth c Qf n0 k0 d hf hk ls st H out ho => ?_
  obtain ⟨hx, hb, hml, hr, hown, hts, hlocks, hK, hX, hB, hnm, hR⟩ := hf
  unfold o_ifle at ho
  split at ho
  · rename_i x st
    split at ho
    · rename_i hc
      cases ho
      refine ⟨_, _, _, _, rfl, fun _ _ kk Hp locs lsr cells slots h1 h2 h3 h4 h5 => ?_⟩
      exact lv_if_le hx hb hd ht (fun _ => kk Hp locs lsr cells slots h1 h2 h3 h4 h5) (fun h => absurd hc h)
    · rename_i hc
      cases ho
      refine ⟨_, _, _, _, rfl, fun _ _ kk Hp locs lsr cells slots h1 h2 h3 h4 h5 => ?_⟩
      exact lv_if_le hx hb hd ht (fun h => absurd h hc) (fun _ => kk Hp locs lsr cells slots h1 h2 h3 h4 h5)
  · cases ho
theorem ok_iceq {off : Int} {t : Nat} (hd : decode cc pc = .ok (.if_icmp .eq off, 3)) (ht : (pc : Int) + off = (t : Int)) : okF G own nm cc nL ret k pc (o_iceq (pc + 3) t) := by
  refine okF.nx mn_iceq fun p l e R s m args below meth c Qf n0 k0 d hf hk ls st H out ho => ?_
  obtain ⟨hx, hb, hml, hr, hown, hts, hlocks, hK, hX, hB, hnm, hR⟩ := hf
  unfold o_iceq at ho
  split at ho
  · rename_i y x st
    split at ho
    · rename_i hc
      cases ho
      refine ⟨_, _, _, _, rfl, fun _ _ kk Hp locs lsr cells slots h1 h2 h3 h4 h5 => ?_⟩
      exact lv_icmp_eq hx hb hd ht (fun _ => kk Hp locs lsr cells slots h1 h2 h3 h4 h5) (fun h => absurd hc h)
    · rename_i hc
      cases ho
      refine ⟨_, _, _, _, rfl, fun _ _ kk Hp locs lsr cells slots h1 h2 h3 h4 h5 => ?_⟩
      exact lv_icmp_eq hx hb hd ht (fun h => absurd h hc) (fun _ => kk Hp locs lsr cells slots h1 h2 h3 h4 h5)
  · cases ho
theorem ok_icne {off : Int} {t : Nat} (hd : decode cc pc = .ok (.if_icmp .ne off, 3)) (ht : (pc : Int) + off = (t : Int)) : okF G own nm cc nL ret k pc (o_icne (pc + 3) t) := by
  refine okF.nx mn_icne fun p l e R s m args below meth c Qf n0 k0 d hf hk ls st H out ho => ?_
  obtain ⟨hx, hb, hml, hr, hown, hts, hlocks, hK, hX, hB, hnm, hR⟩ := hf
  unfold o_icne at ho
  split at ho
  · rename_i y x st
    split at ho
    · rename_i hc
      cases ho
      refine ⟨_, _, _, _, rfl, fun _ _ kk Hp locs lsr cells slots h1 h2 h3 h4 h5 => ?_⟩
      exact lv_icmp_ne hx hb hd ht (fun h => absurd hc h) (fun _ => kk Hp locs lsr cells slots h1 h2 h3 h4 h5)
    · rename_i hc
      cases ho
      refine ⟨_, _, _, _, rfl, fun _ _ kk Hp locs lsr cells slots h1 h2 h3 h4 h5 => ?_⟩
      exact lv_icmp_ne hx hb hd ht (fun _ => kk Hp locs lsr cells slots h1 h2 h3 h4 h5) (fun h => absurd h hc)
  · cases ho
theorem ok_iclt {off : Int} {t : Nat} (hd : decode cc pc = .ok (.if_icmp .lt off, 3)) (ht : (pc : Int) + off = (t : Int)) : okF G own nm cc nL ret k pc (o_iclt (pc + 3) t) := by
  refine okF.nx mn_iclt fun p l e R s m args below meth c Qf n0 k0 d hf hk ls st H out ho => ?_
  obtain ⟨hx, hb, hml, hr, hown, hts, hlocks, hK, hX, hB, hnm, hR⟩ := hf
  unfold o_iclt at ho
  split at ho
  · rename_i y x st
    split at ho
    · rename_i hc
      cases ho
      refine ⟨_, _, _, _, rfl, fun _ _ kk Hp locs lsr cells slots h1 h2 h3 h4 h5 => ?_⟩
      exact lv_icmp_lt hx hb hd ht (fun _ => kk Hp locs lsr cells slots h1 h2 h3 h4 h5) (fun h => absurd hc h)
    · rename_i hc
      cases ho
      refine ⟨_, _, _, _, rfl, fun _ _ kk Hp locs lsr cells slots h1 h2 h3 h4 h5 => ?_⟩
      exact lv_icmp_lt hx hb hd ht (fun h => absurd h hc) (fun _ => kk Hp locs lsr cells slots h1 h2 h3 h4 h5)
  · cases ho
theorem ok_icge {off : Int} {t : Nat} (hd : decode cc pc = .ok (.if_icmp .ge off, 3)) (ht : (pc : Int) + off = (t : Int)) : okF G own nm cc nL ret k pc (o_icge (pc + 3) t) := by
  refine okF.nx mn_icge fun p l e R s m args below meth c Qf n0 k0 d hf hk ls st H out ho => ?_
  obtain ⟨hx, hb, hml, hr, hown, hts, hlocks, hK, hX, hB, hnm, hR⟩ := hf
  unfold o_icge at ho
  split at ho
  · rename_i y x st
    split at ho
    · rename_i hc
      cases ho
      refine ⟨_, _, _, _, rfl, fun _ _ kk Hp locs lsr cells slots h1 h2 h3 h4 h5 => ?_⟩
      exact lv_icmp_ge hx hb hd ht (fun _ => kk Hp locs lsr cells slots h1 h2 h3 h4 h5) (fun h => absurd hc h)
    · rename_i hc
      cases ho
      refine ⟨_, _, _, _, rfl, fun _ _ kk Hp locs lsr cells slots h1 h2 h3 h4 h5 => ?_⟩
      exact lv_icmp_ge hx hb hd ht (fun h => absurd h hc) (fun _ => kk Hp locs lsr cells slots h1 h2 h3 h4 h5)
  · cases ho
theorem ok_icgt {off : Int} {t : Nat} (hd : decode cc pc = .ok (.if_icmp .gt off, 3)) (ht : (pc : Int) + off = (t : Int)) : okF G own nm cc nL ret k pc (o_icgt (pc + 3) t) := by
  refine okF.nx mn_icgt fun p l e R s m args below meth c Qf n0 k0 d hf hk ls st H out ho => ?_
  obtain ⟨hx, hb, hml, hr, hown, hts, hlocks, hK, hX, hB, hnm, hR⟩ := hf
  unfold o_icgt at ho
  split at ho
  · rename_i y x st
    split at ho
    · rename_i hc
      cases ho
      refine ⟨_, _, _, _, rfl, fun _ _ kk Hp locs lsr cells slots h1 h2 h3 h4 h5 => ?_⟩
      exact lv_icmp_gt hx hb hd ht (fun _ => kk Hp locs lsr cells slots h1 h2 h3 h4 h5) (fun h => absurd hc h)
    · rename_i hc
      cases ho
      refine ⟨_, _, _, _, rfl, fun _ _ kk Hp locs lsr cells slots h1 h2 h3 h4 h5 => ?_⟩
      exact lv_icmp_gt hx hb hd ht (fun h => absurd h hc) (fun _ => kk Hp locs lsr cells slots h1 h2 h3 h4 h5)
  · cases ho
theorem ok_icle {off : Int} {t : Nat} (hd : decode cc pc = .ok (.if_icmp .le off, 3)) (ht : (pc : Int) + off = (t : Int)) : okF G own nm cc nL ret k pc (o_icle (pc + 3) t) := by
  refine okF.nx mn_icle fun p l e R s m args below meth c Qf n0 k0 d hf hk ls st H out ho => ?_
  obtain ⟨hx, hb, hml, hr, hown, hts, hlocks, hK, hX, hB, hnm, hR⟩ := hf
  unfold o_icle at ho
  split at ho
  · rename_i y x st
    split at ho
    · rename_i hc
      cases ho
      refine ⟨_, _, _, _, rfl, fun _ _ kk Hp locs lsr cells slots h1 h2 h3 h4 h5 => ?_⟩
      exact lv_icmp_le hx hb hd ht (fun _ => kk Hp locs lsr cells slots h1 h2 h3 h4 h5) (fun h => absurd hc h)
    · rename_i hc
      cases ho
      refine ⟨_, _, _, _, rfl, fun _ _ kk Hp locs lsr cells slots h1 h2 h3 h4 h5 => ?_⟩
      exact lv_icmp_le hx hb hd ht (fun h => absurd h hc) (fun _ => kk Hp locs lsr cells slots h1 h2 h3 h4 h5)
  · cases ho
theorem ok_ifnull {off : Int} {t : Nat} (hd : decode cc pc = .ok (.ifnull off, 3)) (ht : (pc : Int) + off = (t : Int)) : okF G own nm cc nL ret k pc (o_ifnull (pc + 3) t) := by
  refine okF.nx mn_ifnull fun p l e R s m args below meth c Qf n0 k0 d hf hk ls st H out ho => ?_
  obtain ⟨hx, hb, hml, hr, hown, hts, hlocks, hK, hX, hB, hnm, hR⟩ := hf
  unfold o_ifnull at ho
  split at ho
  · cases ho
    refine ⟨_, _, _, _, rfl, fun _ _ kk Hp locs lsr cells slots h1 h2 h3 h4 h5 => ?_⟩
    exact lv_ifnullN hx hb hd ht (kk Hp locs lsr cells slots h1 h2 h3 h4 h5)
  · cases ho
    refine ⟨_, _, _, _, rfl, fun _ _ kk Hp locs lsr cells slots h1 h2 h3 h4 h5 => ?_⟩
    exact lv_ifnull hx hb hd (kk Hp locs lsr cells slots h1 h2 h3 h4 h5)
  · cases ho
theorem ok_ifnonnull {off : Int} {t : Nat} (hd : decode cc pc = .ok (.ifnonnull off, 3)) (ht : (pc : Int) + off = (t : Int)) : okF G own nm cc nL ret k pc (o_ifnonnull (pc + 3) t) := by
  refine okF.nx mn_ifnonnull fun p l e R s m args below meth c Qf n0 k0 d hf hk ls st H out ho => ?_
  obtain ⟨hx, hb, hml, hr, hown, hts, hlocks, hK, hX, hB, hnm, hR⟩ := hf
  unfold o_ifnonnull at ho
  split at ho
  · cases ho
    refine ⟨_, _, _, _, rfl, fun _ _ kk Hp locs lsr cells slots h1 h2 h3 h4 h5 => ?_⟩
    exact lv_ifnonnullN hx hb hd (kk Hp locs lsr cells slots h1 h2 h3 h4 h5)
  · cases ho
    refine ⟨_, _, _, _, rfl, fun _ _ kk Hp locs lsr cells slots h1 h2 h3 h4 h5 => ?_⟩
    exact lv_ifnonnull hx hb hd ht (kk Hp locs lsr cells slots h1 h2 h3 h4 h5)
  · cases ho
theorem mpick_out {x : Int32} {dd : Nat} : ∀ {l : List (Int32 × Nat)}, (∀ q ∈ l, x ≠ q.1) → mpick x dd l = dd
  | [], _ => rfl
  | q :: l, h => by
    rw [mpick, if_neg (h q List.mem_cons_self)]
    exact mpick_out fun r hr => h r (List.mem_cons_of_mem _ hr)
theorem ok_table {dflt lo hi : Int} {offs : Array Int} {len dd : Nat} {tb : List (Int32 × Nat)} (hd : decode cc pc = .ok (.tableswitch dflt lo hi offs, len)) (hdef : (pc : Int) + dflt = (dd : Int)) (hkk : tb.all (fun q => decide (lo ≤ q.1.toInt) && decide (q.1.toInt ≤ hi)) = true) (hin : (List.range (hi - lo + 1).toNat).all (fun j => match offs[j]? with | some off => decide ((pc : Int) + off = ((mpick (Int32.ofInt (lo + j)) dd tb : Nat) : Int)) | none => false) = true) : okF G own nm cc nL ret k pc (o_sw dd tb) := by
  refine okF.nx mn_sw fun p l e R s m args below meth c Qf n0 k0 d hf hk ls st H out ho => ?_
  obtain ⟨hx, hb, hml, hr, hown, hts, hlocks, hK, hX, hB, hnm, hR⟩ := hf
  unfold o_sw at ho
  split at ho
  · rename_i x st
    cases ho
    refine ⟨_, _, _, _, rfl, fun _ _ kk Hp locs lsr cells slots h1 h2 h3 h4 h5 => ?_⟩
    by_cases hlo : x.toInt < lo
    · have hm : mpick x dd tb = dd := mpick_out fun q hq he => by
        have := List.all_eq_true.mp hkk q hq
        simp only [Bool.and_eq_true, decide_eq_true_eq] at this
        rw [← he] at this
        omega
      rw [hm] at kk
      exact lv_tableOut hx hb hd (Or.inl hlo) hdef (kk Hp locs lsr cells slots h1 h2 h3 h4 h5)
    · by_cases hhi : hi < x.toInt
      · have hm : mpick x dd tb = dd := mpick_out fun q hq he => by
          have := List.all_eq_true.mp hkk q hq
          simp only [Bool.and_eq_true, decide_eq_true_eq] at this
          rw [← he] at this
          omega
        rw [hm] at kk
        exact lv_tableOut hx hb hd (Or.inr hhi) hdef (kk Hp locs lsr cells slots h1 h2 h3 h4 h5)
      · have hj := List.all_eq_true.mp hin (x.toInt - lo).toNat (List.mem_range.mpr (by omega))
        have hxe : Int32.ofInt (lo + ((x.toInt - lo).toNat : Nat)) = x := by
          rw [show lo + (((x.toInt - lo).toNat : Nat) : Int) = x.toInt by omega]
          exact Int32.ofInt_toInt x
        rw [hxe] at hj
        split at hj
        · rename_i off ho
          exact lv_tableIn hx hb hd hlo hhi ho (of_decide_eq_true hj) (kk Hp locs lsr cells slots h1 h2 h3 h4 h5)
        · cases hj
  · cases ho
theorem mpick_of {x : Int32} {dflt : Int} {dd : Nat} (hdef : (pc : Int) + dflt = (dd : Int)) : ∀ (ps : List (Int × Int)) (tb : List (Int32 × Nat)), ((ps.zip tb).all (fun q => decide (q.2.1.toInt = q.1.1) && decide ((pc : Int) + q.1.2 = (q.2.2 : Int)))) = true → ps.length = tb.length → (pc : Int) + Op.lookupswitch.offset ps dflt x.toInt = ((mpick x dd tb : Nat) : Int)
  | [], [], _, _ => hdef
  | (a, o) :: ps, (b, t) :: tb, h, hl => by
    simp only [List.zip_cons_cons, List.all_cons, Bool.and_eq_true, decide_eq_true_eq] at h
    by_cases hx : x = b
    · subst hx
      rw [mpick, if_pos rfl, ← h.1.1]
      rw [show Op.lookupswitch.offset ((x.toInt, o) :: ps) dflt x.toInt = o from by simp [Op.lookupswitch.offset]]
      exact h.1.2
    · rw [mpick, if_neg hx, lv_osw hx h.1.1]
      exact mpick_of hdef ps tb h.2 (by simpa using hl)
  | [], _ :: _, _, hl => by simp at hl
  | _ :: _, [], _, hl => by simp at hl
theorem ok_lookup {dflt : Int} {ps : Array (Int × Int)} {len dd : Nat} {tb : List (Int32 × Nat)} (hd : decode cc pc = .ok (.lookupswitch dflt ps, len)) (hp : (ps.toList.zip (ps.toList.drop 1)).all (fun (a, next) => a.1 < next.1) = true) (hdef : (pc : Int) + dflt = (dd : Int)) (hq : ((ps.toList.zip tb).all (fun q => decide (q.2.1.toInt = q.1.1) && decide ((pc : Int) + q.1.2 = (q.2.2 : Int)))) = true) (hl : ps.toList.length = tb.length) : okF G own nm cc nL ret k pc (o_sw dd tb) := by
  refine okF.nx mn_sw fun p l e R s m args below meth c Qf n0 k0 d hf hk ls st H out ho => ?_
  obtain ⟨hx, hb, hml, hr, hown, hts, hlocks, hK, hX, hB, hnm, hR⟩ := hf
  unfold o_sw at ho
  split at ho
  · rename_i x st
    cases ho
    refine ⟨_, _, _, _, rfl, fun _ _ kk Hp locs lsr cells slots h1 h2 h3 h4 h5 => ?_⟩
    exact lv_lookup hx hb hd hp rfl (mpick_of hdef ps.toList tb hq hl) (kk Hp locs lsr cells slots h1 h2 h3 h4 h5)
  · cases ho
theorem ok_ret (hd : decode cc pc = .ok (.return_, 1)) (hr : ret = none) : okF G own nm cc nL ret k pc o_vret := by
  refine ⟨mn_vret, ?_⟩
  intro p l e R s m args below meth c Qf n0 k0 d hf hk ls st H out ho
  unfold o_vret at ho
  split at ho
  · cases ho
    exact fun kk Hp locs lsr cells slots h1 h2 h3 h4 h5 => kk Hp locs lsr cells slots pc _ hd (Or.inl ⟨rfl, rfl, hr⟩) h1 h2 h4 h5
  · cases ho
theorem ok_iret {ty : FieldType} (hd : decode cc pc = .ok (.ireturn, 1)) (hr : ret = some ty) : okF G own nm cc nL ret k pc (o_iret ty) := by
  refine ⟨mn_iret, ?_⟩
  intro p l e R s m args below meth c Qf n0 k0 d hf hk ls st H out ho
  unfold o_iret at ho
  split at ho
  · rename_i x
    split at ho
    · rename_i hn
      cases ho
      exact fun kk Hp locs lsr cells slots h1 h2 h3 h4 h5 => kk Hp locs lsr cells slots pc _ hd (Or.inr (Or.inl ⟨x, ty, rfl, rfl, hr, hn⟩)) h1 h2 h4 h5
    · cases ho
  · cases ho
theorem ok_lret (hd : decode cc pc = .ok (.lreturn, 1)) (hr : ret = some .long) : okF G own nm cc nL ret k pc o_lret := by
  refine ⟨mn_lret, ?_⟩
  intro p l e R s m args below meth c Qf n0 k0 d hf hk ls st H out ho
  unfold o_lret at ho
  split at ho
  · rename_i x
    cases ho
    exact fun kk Hp locs lsr cells slots h1 h2 h3 h4 h5 => kk Hp locs lsr cells slots pc _ hd (Or.inr (Or.inr (Or.inl ⟨x, rfl, rfl, hr⟩))) h1 h2 h4 h5
  · cases ho
theorem ok_aret {rt : FieldType} (hd : decode cc pc = .ok (.areturn, 1)) (hr : ret = some rt) (hrt : (∃ n, rt = .object n) ∨ ∃ t, rt = .array t) : okF G own nm cc nL ret k pc o_aret := by
  refine ⟨mn_aret, ?_⟩
  intro p l e R s m args below meth c Qf n0 k0 d hf hk ls st H out ho
  unfold o_aret at ho
  split at ho
  · rename_i x
    cases ho
    exact fun kk Hp locs lsr cells slots h1 h2 h3 h4 h5 => kk Hp locs lsr cells slots pc _ hd (Or.inr (Or.inr (Or.inr ⟨_, rt, rfl, rfl, hr, hrt, Or.inr ⟨x, rfl⟩⟩))) h1 h2 h4 h5
  · cases ho
    exact fun kk Hp locs lsr cells slots h1 h2 h3 h4 h5 => kk Hp locs lsr cells slots pc _ hd (Or.inr (Or.inr (Or.inr ⟨_, rt, rfl, rfl, hr, hrt, Or.inl rfl⟩))) h1 h2 h4 h5
  · cases ho
end OK1
