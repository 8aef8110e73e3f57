/-! looking up -/
theorem mlk1_ok (P : Nat → mF → Prop) (hb : ∀ pc, P pc o_bad) : ∀ {l : List (Nat × mF)}, (∀ q ∈ l, P q.1 q.2) → ∀ pc, P pc (mlk1 l pc)
  | [], _, pc => hb pc
  | q :: l, h, pc => by
    rw [mlk1]
    cases hq : Nat.beq q.1 pc with
    | true =>
      have : q.1 = pc := Nat.eq_of_beq_eq_true hq
      rw [← this]
      exact h q List.mem_cons_self
    | false => exact mlk1_ok P hb (fun r hr => h r (List.mem_cons_of_mem _ hr)) pc
theorem mlk_ok (P : Nat → mF → Prop) (hb : ∀ pc, P pc o_bad) : ∀ {l : List (Nat × List (Nat × mF))}, (∀ c ∈ l, ∀ q ∈ c.2, P q.1 q.2) → ∀ pc, P pc (mlk l pc)
  | [], _, pc => hb pc
  | c :: l, h, pc => by
    rw [mlk]
    cases hq : Nat.blt pc c.1 with
    | true => exact mlk1_ok P hb (h c List.mem_cons_self) pc
    | false => exact mlk_ok P hb (fun r hr => h r (List.mem_cons_of_mem _ hr)) pc
