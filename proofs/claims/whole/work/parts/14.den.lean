/-! WHAT A METHOD DOES, as an equation: am_E is the end of the run, if there is one -/
theorem am_mono1 : ∀ (n d M pc : Nat) (L : am_L) (st : List Value) (hp : am_H) (r : Option Value × am_H), am_run n d M pc L st hp = some r → am_run (n + 1) d M pc L st hp = some r := by
  intro n
  induction n with
  | zero => intro d M pc L st hp r h; cases h
  | succ n ih =>
    intro d M pc L st hp r h
    rw [am_run] at h ⊢
    split at h
    · cases h
    · split at h
      · cases h
      · exact ih _ _ _ _ _ _ _ h
      · exact h
      · split at h
        · cases h
        · split at h
          · cases h
          · split at h
            · cases h
            · rename_i hr
              rw [ih _ _ _ _ _ _ _ hr]
              exact ih _ _ _ _ _ _ _ h
theorem am_mono {n k d M pc : Nat} {L : am_L} {st : List Value} {hp : am_H} {r : Option Value × am_H} (h : am_run n d M pc L st hp = some r) (hk : n ≤ k) : am_run k d M pc L st hp = some r := by
  obtain ⟨j, rfl⟩ := Nat.exists_eq_add_of_le hk
  clear hk
  induction j with
  | zero => exact h
  | succ j ih => exact am_mono1 _ _ _ _ _ _ _ _ ih
noncomputable def am_E (d M pc : Nat) (L : am_L) (st : List Value) (hp : am_H) : Option (Option Value × am_H) := by
  classical exact if h : ∃ r, ∃ n, am_run n d M pc L st hp = some r then some h.choose else none
theorem am_E_iff {d M pc : Nat} {L : am_L} {st : List Value} {hp : am_H} {r : Option Value × am_H} : am_E d M pc L st hp = some r ↔ ∃ n, am_run n d M pc L st hp = some r := by
  unfold am_E
  constructor
  · intro h
    split at h
    · rename_i q
      cases h
      exact q.choose_spec
    · cases h
  · intro h
    have q : ∃ r, ∃ n, am_run n d M pc L st hp = some r := ⟨r, h⟩
    rw [dif_pos q]
    obtain ⟨n1, h1⟩ := q.choose_spec
    obtain ⟨n2, h2⟩ := h
    have e1 := am_mono h1 (Nat.le_max_left n1 n2)
    have e2 := am_mono h2 (Nat.le_max_right n1 n2)
    rw [e1] at e2
    exact e2
theorem am_opt {α : Type} {a b : Option α} (h : ∀ r, a = some r ↔ b = some r) : a = b := by
  cases a with
  | none =>
    cases b with
    | none => rfl
    | some y => exact absurd ((h y).mpr rfl) (by simp)
  | some x => exact ((h x).mp rfl).symm
theorem am_E_go {d M pc pc2 : Nat} {L L2 : am_L} {st st2 : List Value} {hp hp2 : am_H} {q : Instr × Nat} (hq : am_lk1 pc (am_tab M) = some q) (hs : am_step M q.1 pc L st hp = some (.inl (pc2, L2, st2, hp2))) : am_E d M pc L st hp = am_E d M pc2 L2 st2 hp2 := by
  apply am_opt
  intro r
  rw [am_E_iff, am_E_iff]
  constructor
  · rintro ⟨n, h⟩
    cases n with
    | zero => cases h
    | succ n =>
      rw [am_run, hq] at h
      dsimp only at h
      rw [hs] at h
      exact ⟨n, h⟩
  · rintro ⟨n, h⟩
    refine ⟨n + 1, ?_⟩
    rw [am_run, hq]
    dsimp only
    rw [hs]
    exact h
theorem am_E_no {d M pc : Nat} {L : am_L} {st : List Value} {hp : am_H} {q : Instr × Nat} (hq : am_lk1 pc (am_tab M) = some q) (hs : am_step M q.1 pc L st hp = none) : am_E d M pc L st hp = none := by
  apply am_opt
  intro r
  rw [am_E_iff]
  constructor
  · rintro ⟨n, h⟩
    cases n with
    | zero => cases h
    | succ n =>
      rw [am_run, hq] at h
      dsimp only at h
      rw [hs] at h
      cases h
  · intro h
    cases h
theorem am_E_ret {d M pc : Nat} {L : am_L} {st : List Value} {hp : am_H} {q : Instr × Nat} {v : Option Value} (hq : am_lk1 pc (am_tab M) = some q) (hs : am_step M q.1 pc L st hp = some (.inr (.inr v))) : am_E d M pc L st hp = some (v, hp) := by
  rw [am_E_iff]
  refine ⟨1, ?_⟩
  rw [am_run, hq]
  dsimp only
  rw [hs]
theorem am_E_call {d M pc M2 : Nat} {L L2 : am_L} {st as rest : List Value} {hp : am_H} {q : Instr × Nat} (hq : am_lk1 pc (am_tab M) = some q) (hs : am_step M q.1 pc L st hp = some (.inr (.inl (M2, as, rest)))) (hen : am_entry M2 as = some L2) : am_E (d + 1) M pc L st hp = (am_E d M2 0 L2 [] hp).bind (fun v => am_E (d + 1) M (pc + 3) L (v.1.toList ++ rest) v.2) := by
  apply am_opt
  intro r
  rw [am_E_iff]
  constructor
  · rintro ⟨n, h⟩
    cases n with
    | zero => cases h
    | succ n =>
      rw [am_run, hq] at h
      dsimp only at h
      rw [hs] at h
      dsimp only at h
      rw [hen] at h
      dsimp only at h
      split at h
      · cases h
      · rename_i v hp2 hr
        rw [am_E_iff.mpr ⟨n, hr⟩]
        exact am_E_iff.mpr ⟨n, h⟩
  · intro h
    cases hv : am_E d M2 0 L2 [] hp with
    | none => rw [hv] at h; cases h
    | some v =>
      rw [hv] at h
      obtain ⟨n1, h1⟩ := am_E_iff.mp hv
      obtain ⟨n2, h2⟩ := am_E_iff.mp (show am_E (d + 1) M (pc + 3) L (v.1.toList ++ rest) v.2 = some r from h)
      obtain ⟨v1, v2⟩ := v
      refine ⟨max n1 n2 + 1, ?_⟩
      rw [am_run, hq]
      dsimp only
      rw [hs]
      dsimp only
      rw [hen]
      dsimp only
      rw [am_mono h1 (Nat.le_max_left n1 n2)]
      exact am_mono h2 (Nat.le_max_right n1 n2)
