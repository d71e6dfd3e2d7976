/-! a run that makes no cell leaves the room as it was -/
set_option maxHeartbeats 4000000 in
theorem am_step_tot {M : Nat} {ins : Instr} {pc pc2 : Nat} {L L2 : am_L} {st st2 : List Value} {hp hp2 : am_H} (h : am_step M ins pc L st hp = some (.inl (pc2, L2, st2, hp2))) : hp.length ≤ hp2.length ∧ (hp2.length = hp.length → am_tot hp2 = am_tot hp) := by
  have h1 : ∀ {i : Nat} {v : Value} {L3 : am_L}, am_st1 L i v = some L3 → L3.length = L.length := by
    intro i v L3 q
    unfold am_st1 at q
    split at q
    · cases q; rw [List.length_set]
    · cases q
  have h2 : ∀ {i : Nat} {v : Value} {L3 : am_L}, am_st2 L i v = some L3 → L3.length = L.length := by
    intro i v L3 q
    unfold am_st2 at q
    split at q
    · cases q; rw [List.length_set, List.length_set]
    · cases q
  have hn : ∀ {a : Nat} {b : List Value}, am_next a L b hp = some (.inl (pc2, L2, st2, hp2)) → hp.length ≤ hp2.length ∧ (hp2.length = hp.length → am_tot hp2 = am_tot hp) := by
    intro a b q
    cases q
    exact ⟨Nat.le_refl _, fun _ => rfl⟩
  have hl : ∀ {a : Nat} {b : List Value} {L3 : am_L}, L3.length = L.length → am_next a L3 b hp = some (.inl (pc2, L2, st2, hp2)) → hp.length ≤ hp2.length ∧ (hp2.length = hp.length → am_tot hp2 = am_tot hp) := by
    intro a b L3 z q
    cases q
    exact ⟨Nat.le_refl _, fun _ => rfl⟩
  have hs : ∀ {a k : Nat} {b : List Value} {x x2 : am_C}, hp[k]? = some x → am_sz x2 = am_sz x → am_next a L b (hp.set k x2) = some (.inl (pc2, L2, st2, hp2)) → hp.length ≤ hp2.length ∧ (hp2.length = hp.length → am_tot hp2 = am_tot hp) := by
    intro a k b x x2 z1 z2 q
    cases q
    exact ⟨by rw [List.length_set]; exact Nat.le_refl _, fun _ => am_tot_set z1 z2⟩
  have ha : ∀ {a : Nat} {b : List Value} {x2 : am_C}, am_next a L b (hp ++ [x2]) = some (.inl (pc2, L2, st2, hp2)) → hp.length ≤ hp2.length ∧ (hp2.length = hp.length → am_tot hp2 = am_tot hp) := by
    intro a b x2 q
    cases q
    exact ⟨by simp, fun w => by simp at w⟩
  cases ins
  case putfield i =>
    simp only [am_step] at h
    split at h
    · unfold am_putf at h
      split at h
      · split at h
        · rename_i hobj
          split at h
          · exact hs (am_obj_get hobj) (by simp [am_sz]) h
          · cases h
        · cases h
      · cases h
    · cases h
  case iastore =>
    simp only [am_step] at h
    split at h
    · split at h
      · rename_i hobj
        split at h
        · exact hs (am_arr_get hobj) (by simp [am_sz]) h
        · cases h
      · cases h
    · cases h
  case aastore =>
    simp only [am_step] at h
    split at h
    · split at h
      · rename_i hobj
        split at h
        · split at h
          · exact hs (am_rar_get hobj) (by simp [am_sz]) h
          · cases h
        · cases h
      · cases h
    · cases h
  case invokestatic i =>
    simp only [am_step] at h
    split at h
    · split at h
      · unfold am_copy at h
        split at h
        · split at h
          · rename_i hf hg
            split at h
            · exact hs (am_arr_get hg) (by simp [am_sz, am_cpy_len]) h
            · cases h
          · cases h
        · cases h
      · split at h
        · split at h
          · unfold am_call at h
            split at h <;> cases h
          · cases h
        · cases h
    · cases h
  case new i =>
    simp only [am_step] at h
    split at h
    · exact ha h
    · cases h
  case newarray a =>
    cases a <;> try (cases h; done)
    simp only [am_step] at h
    split at h
    · split at h
      · exact ha h
      · cases h
    · cases h
  case anewarray i =>
    simp only [am_step] at h
    split at h
    · split at h
      · split at h
        · exact ha h
        · cases h
      · cases h
    · cases h
  case invokevirtual i =>
    simp only [am_step] at h
    split at h
    · split at h
      · split at h
        · unfold am_call at h
          split at h <;> cases h
        · cases h
      · cases h
    · cases h
  case invokespecial i =>
    simp only [am_step] at h
    split at h
    · split at h
      · split at h
        · split at h
          · exact hn h
          · cases h
        · cases h
      · split at h
        · split at h
          · unfold am_call at h
            split at h <;> cases h
          · cases h
        · cases h
    · cases h
  case istore_n k =>
    simp only [am_step, am_si] at h
    split at h
    · split at h
      · rename_i q; exact hl (h1 q) h
      · cases h
    · cases h
  case istore k =>
    simp only [am_step, am_si] at h
    split at h
    · split at h
      · rename_i q; exact hl (h1 q) h
      · cases h
    · cases h
  case astore_n k =>
    simp only [am_step, am_sa] at h
    split at h
    · split at h
      · rename_i q; exact hl (h1 q) h
      · cases h
    · cases h
  case astore k =>
    simp only [am_step, am_sa] at h
    split at h
    · split at h
      · rename_i q; exact hl (h1 q) h
      · cases h
    · cases h
  case lstore_n k =>
    simp only [am_step, am_sl] at h
    split at h
    · split at h
      · rename_i q; exact hl (h2 q) h
      · cases h
    · cases h
  case lstore k =>
    simp only [am_step, am_sl] at h
    split at h
    · split at h
      · rename_i q; exact hl (h2 q) h
      · cases h
    · cases h
  case iinc i n =>
    simp only [am_step] at h
    split at h
    · split at h
      · rename_i q; exact hl (h1 q) h
      · cases h
    · cases h
  case getfield i =>
    simp only [am_step] at h
    split at h
    · unfold am_getf at h
      split at h
      · split at h
        · split at h
          · split at h
            · exact hn h
            · cases h
          · cases h
        · cases h
      · split at h
        · exact hn h
        · split at h
          · exact hn h
          · cases h
      · cases h
    · cases h
  case tableswitch dflt lo hi offs =>
    simp only [am_step, am_go] at h
    split at h
    · split at h
      · split at h
        · exact hn h
        · cases h
      · split at h
        · split at h
          · exact hn h
          · cases h
        · cases h
    · cases h
  case lookupswitch dflt ps =>
    simp only [am_step, am_go] at h
    split at h
    · split at h
      · split at h
        · exact hn h
        · cases h
      · cases h
    · cases h
  all_goals first
    | (cases h; done)
    | exact hn h
    | (simp only [am_step, am_li, am_ll, am_la, am_b2, am_d2, am_b2l, am_d2l, am_go, am_br] at h
       repeat' (split at h)
       all_goals first | exact hn h | (cases h; done))
theorem am_grow_tot : ∀ (n d M pc : Nat) (L : am_L) (st : List Value) (hp : am_H) (r : Option Value) (hp2 : am_H), am_run n d M pc L st hp = some (r, hp2) → hp.length ≤ hp2.length ∧ (hp2.length = hp.length → am_tot hp2 = am_tot hp) := by
  intro n
  induction n with
  | zero => intro d M pc L st hp r hp2 h; cases h
  | succ n ih =>
    intro d M pc L st hp r hp2 h
    rw [am_run] at h
    split at h
    · cases h
    · split at h
      · cases h
      · rename_i hs
        have h1 := am_step_tot hs
        have h2 := ih _ _ _ _ _ _ _ _ h
        exact ⟨by omega, fun w => (h2.2 (by omega)).trans (h1.2 (by omega))⟩
      · cases h
        exact ⟨Nat.le_refl _, fun _ => rfl⟩
      · split at h
        · cases h
        · split at h
          · cases h
          · split at h
            · cases h
            · rename_i hr
              have h1 := ih _ _ _ _ _ _ _ _ hr
              have h2 := ih _ _ _ _ _ _ _ _ h
              exact ⟨by omega, fun w => (h2.2 (by omega)).trans (h1.2 (by omega))⟩
theorem am_E_tot {d M pc : Nat} {L : am_L} {st : List Value} {hp hp2 : am_H} {r : Option Value} (h : am_E d M pc L st hp = some (r, hp2)) (hl : hp2.length = hp.length) : am_tot hp2 = am_tot hp := by
  obtain ⟨n, hn⟩ := am_E_iff.mp h
  exact (am_grow_tot _ _ _ _ _ _ _ _ _ hn).2 hl
