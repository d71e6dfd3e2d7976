/-! THE ABSTRACT MACHINE, its words: cells by their number (not by address), the lengths of instructions, tables looked up -/
/-- an int array, an array of references (numbers of cells), an object (number of its class, fields) -/
abbrev am_C : Type := List Int32 ⊕ List (Option Nat) ⊕ (Nat × List Value)
abbrev am_H : Type := List am_C
abbrev am_L : Type := List (Option Value)
/-- behind an instruction: further on; a call (method, arguments, the stack below them); the end -/
abbrev am_N : Type := (Nat × am_L × List Value × am_H) ⊕ (Nat × List Value × List Value) ⊕ Option Value
def am_lenok : Instr → Nat → Bool
  | .tableswitch .., _ => true
  | .lookupswitch .., _ => true
  | .bipush _, n => Nat.beq n 2
  | .iload _, n => Nat.beq n 2
  | .aload _, n => Nat.beq n 2
  | .lload _, n => Nat.beq n 2
  | .istore _, n => Nat.beq n 2
  | .astore _, n => Nat.beq n 2
  | .lstore _, n => Nat.beq n 2
  | .newarray _, n => Nat.beq n 2
  | .ldc _, n => Nat.beq n 2
  | .sipush _, n => Nat.beq n 3
  | .goto _, n => Nat.beq n 3
  | .if_icmp .., n => Nat.beq n 3
  | .ifCond .., n => Nat.beq n 3
  | .getfield _, n => Nat.beq n 3
  | .putfield _, n => Nat.beq n 3
  | .getstatic _, n => Nat.beq n 3
  | .invokevirtual _, n => Nat.beq n 3
  | .invokestatic _, n => Nat.beq n 3
  | .invokespecial _, n => Nat.beq n 3
  | .new _, n => Nat.beq n 3
  | .anewarray _, n => Nat.beq n 3
  | .ldc_w _, n => Nat.beq n 3
  | .ldc2_w _, n => Nat.beq n 3
  | .iinc .., n => Nat.beq n 3
  | _, n => Nat.beq n 1
def am_lk1 {β : Type} (k : Nat) : List (Nat × β) → Option β
  | [] => none
  | (a, b) :: l => bif Nat.beq k a then some b else am_lk1 k l
def am_lk2 {β : Type} (o i : Nat) : List ((Nat × Nat) × β) → Option β
  | [] => none
  | ((a, c), b) :: l => bif Nat.beq o a && Nat.beq i c then some b else am_lk2 o i l
theorem am_lk1_mem {β : Type} {k : Nat} {b : β} : ∀ {l : List (Nat × β)}, am_lk1 k l = some b → (k, b) ∈ l := by
  intro l
  induction l with
  | nil => intro h; cases h
  | cons q l ih =>
    obtain ⟨a, c⟩ := q
    intro h
    rw [am_lk1] at h
    cases hb : Nat.beq k a with
    | true =>
      rw [hb] at h
      have e := Nat.eq_of_beq_eq_true hb
      subst e
      cases h
      exact List.mem_cons_self
    | false =>
      rw [hb] at h
      exact List.mem_cons_of_mem _ (ih h)
theorem am_lk2_mem {β : Type} {o i : Nat} {b : β} : ∀ {l : List ((Nat × Nat) × β)}, am_lk2 o i l = some b → ((o, i), b) ∈ l := by
  intro l
  induction l with
  | nil => intro h; cases h
  | cons q l ih =>
    obtain ⟨⟨a, c⟩, d⟩ := q
    intro h
    rw [am_lk2] at h
    cases hb : Nat.beq o a && Nat.beq i c with
    | true =>
      rw [hb] at h
      obtain ⟨h1, h2⟩ := Bool.and_eq_true_iff.mp hb
      have e := Nat.eq_of_beq_eq_true h1
      have e2 := Nat.eq_of_beq_eq_true h2
      subst e; subst e2
      cases h
      exact List.mem_cons_self
    | false =>
      rw [hb] at h
      exact List.mem_cons_of_mem _ (ih h)
