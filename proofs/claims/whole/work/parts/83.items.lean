/-! READING: items, as the class reads them -/
def itP (t : am_Tx) (a : Nat) : Option (Nat × Nat × Nat × Nat × Nat) := (pnr t a 44 0 3).bind fun q0 => (pnr t q0.2 44 0 31).bind fun q1 => (pnr t q1.2 44 0 9).bind fun q2 => (pnr t q2.2 59 0 4).bind fun q3 => some (q0.1, q1.1, q2.1, q3.1, q3.2)
def itW (t : am_Tx) (a hs : Nat) : Option (Nat × Nat × Nat) := (pnr t a 44 0 (hs - 1)).bind fun q0 => (pnr t q0.2 59 1 30).bind fun q1 => some (q0.1, q1.1, q1.2)
section RDB
variable {i j k n b p a e lo hi many : Nat} {t u : am_Tx} {c : am_Ci} {q q0 q1 q2 q3 : Nat × Nat}
theorem pnr_some (h : pn t a e = some q) (h2 : lo ≤ q.1 ∧ q.1 ≤ hi) : pnr t a e lo hi = some q := by
  unfold pnr
  rw [h]
  exact if_pos h2
theorem pnr_pn (h : pnr t a e lo hi = some q) : pn t a e = some q ∧ lo ≤ q.1 ∧ q.1 ≤ hi := by
  unfold pnr at h
  cases g : pn t a e with
  | none => rw [g] at h; cases h
  | some r =>
    rw [g] at h
    dsimp only at h
    by_cases w : lo ≤ r.1 ∧ r.1 ≤ hi
    · rw [if_pos w] at h; cases h; exact ⟨rfl, w⟩
    · rw [if_neg w] at h; cases h
theorem tNums_none (h : pn t (tAt t) (if k + 1 = many then 59 else 44) = none) : (tNums many k (n + 1) t).1 = false := by
  unfold pn at h
  rw [tNums]
  cases g : tNum t (tAt t) with
  | none => rfl
  | some r =>
    rw [g] at h
    dsimp only at h ⊢
    by_cases w : r.2 < tLn t ∧ tC t r.2 = (if k + 1 = many then 59 else 44)
    · rw [if_pos w] at h; cases h
    · rw [if_neg w]
theorem tNums_some (h : pn t (tAt t) (if k + 1 = many then 59 else 44) = some q) : tNums many k (n + 1) t = tNums many (k + 1) n (tSetAt (tSetN t k q.1) q.2) := by
  unfold pn at h
  rw [tNums]
  cases g : tNum t (tAt t) with
  | none => rw [g] at h; cases h
  | some r =>
    rw [g] at h
    dsimp only at h ⊢
    by_cases w : r.2 < tLn t ∧ tC t r.2 = (if k + 1 = many then 59 else 44)
    · rw [if_pos w] at h ⊢
      cases h
      rfl
    · rw [if_neg w] at h; cases h
def set1 (u : am_Tx) (q0 : Nat × Nat) : am_Tx := tSetAt (tSetN u 0 q0.1) q0.2
def set2 (u : am_Tx) (q0 q1 : Nat × Nat) : am_Tx := tSetAt (tSetN (set1 u q0) 1 q1.1) q1.2
def set3 (u : am_Tx) (q0 q1 q2 : Nat × Nat) : am_Tx := tSetAt (tSetN (set2 u q0 q1) 2 q2.1) q2.2
def set4 (u : am_Tx) (q0 q1 q2 q3 : Nat × Nat) : am_Tx := tSetAt (tSetN (set3 u q0 q1 q2) 3 q3.1) q3.2
theorem n4a (h0 : pn u (tAt u) 44 = some q0) : tNums 4 0 4 u = tNums 4 1 3 (set1 u q0) := tNums_some (many := 4) (k := 0) (n := 3) (t := u) h0
theorem n4b (h1 : pn u q0.2 44 = some q1) : tNums 4 1 3 (set1 u q0) = tNums 4 2 2 (set2 u q0 q1) := tNums_some (many := 4) (k := 1) (n := 2) (t := set1 u q0) h1
theorem n4c (h1 : pn u q1.2 44 = some q2) : tNums 4 2 2 (set2 u q0 q1) = tNums 4 3 1 (set3 u q0 q1 q2) := tNums_some (many := 4) (k := 2) (n := 1) (t := set2 u q0 q1) h1
theorem n4d (h1 : pn u q2.2 59 = some q3) : tNums 4 3 1 (set3 u q0 q1 q2) = tNums 4 4 0 (set4 u q0 q1 q2 q3) := tNums_some (many := 4) (k := 3) (n := 0) (t := set3 u q0 q1 q2) h1
theorem tNums4_t (h0 : pn u (tAt u) 44 = some q0) (h1 : pn u q0.2 44 = some q1) (h2 : pn u q1.2 44 = some q2) (h3 : pn u q2.2 59 = some q3) : tNums 4 0 4 u = (true, set4 u q0 q1 q2 q3) := by
  rw [n4a h0, n4b h1, n4c h2, n4d h3]
  rfl
theorem tNums4_f (h : (tNums 4 0 4 u).1 = true) : ∃ q0 q1 q2 q3, pn u (tAt u) 44 = some q0 ∧ pn u q0.2 44 = some q1 ∧ pn u q1.2 44 = some q2 ∧ pn u q2.2 59 = some q3 := by
  cases h0 : pn u (tAt u) 44 with
  | none => have := tNums_none (many := 4) (k := 0) (n := 3) (t := u) h0; rw [h] at this; cases this
  | some q0 =>
    rw [n4a h0] at h
    cases h1 : pn u q0.2 44 with
    | none => have := tNums_none (many := 4) (k := 1) (n := 2) (t := set1 u q0) h1; rw [h] at this; cases this
    | some q1 =>
      rw [n4b h1] at h
      cases h2 : pn u q1.2 44 with
      | none => have := tNums_none (many := 4) (k := 2) (n := 1) (t := set2 u q0 q1) h2; rw [h] at this; cases this
      | some q2 =>
        rw [n4c h2] at h
        cases h3 : pn u q2.2 59 with
        | none => have := tNums_none (many := 4) (k := 3) (n := 0) (t := set3 u q0 q1 q2) h3; rw [h] at this; cases this
        | some q3 => exact ⟨q0, q1, q2, q3, rfl, h1, h2, h3⟩
theorem n2a (h0 : pn u (tAt u) 44 = some q0) : tNums 2 0 2 u = tNums 2 1 1 (set1 u q0) := tNums_some (many := 2) (k := 0) (n := 1) (t := u) h0
theorem n2b (h1 : pn u q0.2 59 = some q1) : tNums 2 1 1 (set1 u q0) = tNums 2 2 0 (set2 u q0 q1) := tNums_some (many := 2) (k := 1) (n := 0) (t := set1 u q0) h1
theorem tNums2_t (h0 : pn u (tAt u) 44 = some q0) (h1 : pn u q0.2 59 = some q1) : tNums 2 0 2 u = (true, set2 u q0 q1) := by
  rw [n2a h0, n2b h1]
  rfl
theorem tNums2_f (h : (tNums 2 0 2 u).1 = true) : ∃ q0 q1, pn u (tAt u) 44 = some q0 ∧ pn u q0.2 59 = some q1 := by
  cases h0 : pn u (tAt u) 44 with
  | none => have := tNums_none (many := 2) (k := 0) (n := 1) (t := u) h0; rw [h] at this; cases this
  | some q0 =>
    rw [n2a h0] at h
    cases h1 : pn u q0.2 59 with
    | none => have := tNums_none (many := 2) (k := 1) (n := 0) (t := set1 u q0) h1; rw [h] at this; cases this
    | some q1 => exact ⟨q0, q1, rfl, h1⟩
theorem tNums1_t (h0 : pn u (tAt u) 59 = some q0) : tNums 1 0 1 u = (true, set1 u q0) := by
  have e : tNums 1 0 1 u = tNums 1 1 0 (set1 u q0) := tNums_some (many := 1) (k := 0) (n := 0) (t := u) h0
  rw [e]
  rfl
theorem tNums1_f (h : (tNums 1 0 1 u).1 = true) : ∃ q0, pn u (tAt u) 59 = some q0 := by
  cases h0 : pn u (tAt u) 59 with
  | none => have := tNums_none (many := 1) (k := 0) (n := 0) (t := u) h0; rw [h] at this; cases this
  | some q0 => exact ⟨q0, rfl⟩
theorem list4n {l : List Nat} (h : l.length = 4) (a b c d : Nat) : (l.set 0 a).getD 0 0 = a ∧ ((l.set 0 a).set 1 b).getD 0 0 = a ∧ ((l.set 0 a).set 1 b).getD 1 0 = b ∧ ((((l.set 0 a).set 1 b).set 2 c).set 3 d).getD 0 0 = a ∧ ((((l.set 0 a).set 1 b).set 2 c).set 3 d).getD 1 0 = b ∧ ((((l.set 0 a).set 1 b).set 2 c).set 3 d).getD 2 0 = c ∧ ((((l.set 0 a).set 1 b).set 2 c).set 3 d).getD 3 0 = d := by
  match l, h with
  | [x, y, z, w], _ => exact ⟨rfl, rfl, rfl, rfl, rfl, rfl, rfl⟩
theorem tItem_p (hc : tC t (tAt t) = 112) (hN : t.2.1.length = 4) : (∀ v0 v1 v2 v3 a, cPp c < 8 → itP t (tAt t + 1) = some (v0, v1, v2, v3, a) → ∃ T, tItem t c = (true, T, cPut c v0 v1 v2 v3) ∧ tAt T = a ∧ T.1 = t.1 ∧ tLn T = tLn t) ∧ ((¬ cPp c < 8 ∨ itP t (tAt t + 1) = none) → (tItem t c).1 = false) := by
  constructor
  · intro v0 v1 v2 v3 a h8 h
    unfold itP at h
    obtain ⟨q0, g0, h⟩ := Option.bind_eq_some_iff.mp h
    obtain ⟨q1, g1, h⟩ := Option.bind_eq_some_iff.mp h
    obtain ⟨q2, g2, h⟩ := Option.bind_eq_some_iff.mp h
    obtain ⟨q3, g3, h⟩ := Option.bind_eq_some_iff.mp h
    cases h
    have p0 := pnr_pn g0
    have p1 := pnr_pn g1
    have p2 := pnr_pn g2
    have p3 := pnr_pn g3
    have e := tNums4_t (u := tSetAt t (tAt t + 1)) p0.1 p1.1 p2.1 p3.1
    obtain ⟨l1, l2, l3, l4, l5, l6, l7⟩ := list4n hN q0.1 q1.1 q2.1 q3.1
    have n0 : tN (set4 (tSetAt t (tAt t + 1)) q0 q1 q2 q3) 0 = q0.1 := l4
    have n1 : tN (set4 (tSetAt t (tAt t + 1)) q0 q1 q2 q3) 1 = q1.1 := l5
    have n2 : tN (set4 (tSetAt t (tAt t + 1)) q0 q1 q2 q3) 2 = q2.1 := l6
    have n3 : tN (set4 (tSetAt t (tAt t + 1)) q0 q1 q2 q3) 3 = q3.1 := l7
    refine ⟨set4 (tSetAt t (tAt t + 1)) q0 q1 q2 q3, ?_, rfl, rfl, rfl⟩
    unfold tItem
    rw [if_pos hc, e]
    dsimp only
    rw [if_pos rfl, n0, n1, n2, n3, if_pos ⟨h8, p0.2.2, p1.2.2, p2.2.2, by have := p3.2.2; omega⟩]
  · intro h
    cases hb : (tItem t c).1 with
    | false => rfl
    | true =>
      exfalso
      unfold tItem at hb
      rw [if_pos hc] at hb
      by_cases w : (tNums 4 0 4 (tSetAt t (tAt t + 1))).1 = true
      · obtain ⟨q0, q1, q2, q3, p0, p1, p2, p3⟩ := tNums4_f w
        have e := tNums4_t p0 p1 p2 p3
        obtain ⟨l1, l2, l3, l4, l5, l6, l7⟩ := list4n hN q0.1 q1.1 q2.1 q3.1
        have n0 : tN (set4 (tSetAt t (tAt t + 1)) q0 q1 q2 q3) 0 = q0.1 := l4
        have n1 : tN (set4 (tSetAt t (tAt t + 1)) q0 q1 q2 q3) 1 = q1.1 := l5
        have n2 : tN (set4 (tSetAt t (tAt t + 1)) q0 q1 q2 q3) 2 = q2.1 := l6
        have n3 : tN (set4 (tSetAt t (tAt t + 1)) q0 q1 q2 q3) 3 = q3.1 := l7
        rw [e] at hb
        dsimp only at hb
        rw [if_pos rfl, n0, n1, n2, n3] at hb
        by_cases w2 : cPp c < 8 ∧ q0.1 ≤ 3 ∧ q1.1 ≤ 31 ∧ q2.1 ≤ 9 ∧ q3.1 < 5
        · obtain ⟨c0, c1, c2, c3, c4⟩ := w2
          have ei : itP t (tAt t + 1) = some (q0.1, q1.1, q2.1, q3.1, q3.2) := by
            unfold itP
            rw [pnr_some (t := t) (a := tAt t + 1) p0 ⟨Nat.zero_le _, c1⟩, Option.bind_some, pnr_some (t := t) p1 ⟨Nat.zero_le _, c2⟩, Option.bind_some, pnr_some (t := t) p2 ⟨Nat.zero_le _, c3⟩, Option.bind_some, pnr_some (t := t) p3 ⟨Nat.zero_le _, by omega⟩, Option.bind_some]
          rcases h with h | h
          · exact h c0
          · rw [ei] at h; cases h
        · rw [if_neg w2] at hb; cases hb
      · rw [if_neg w] at hb; cases hb
theorem tItem_w (hc : tC t (tAt t) = 119) (hN : t.2.1.length = 4) (hh : 1 ≤ cHs c) : (∀ v0 v1 a, cWk c < 5 → itW t (tAt t + 1) (cHs c) = some (v0, v1, a) → ∃ T, tItem t c = (true, T, cSetWk (cSetWN (cSetWH c (cWk c) (nI v0)) (cWk c) (nI v1)) (cWk c + 1)) ∧ tAt T = a ∧ T.1 = t.1 ∧ tLn T = tLn t) ∧ ((¬ cWk c < 5 ∨ itW t (tAt t + 1) (cHs c) = none) → (tItem t c).1 = false) := by
  constructor
  · intro v0 v1 a h5 h
    unfold itW at h
    obtain ⟨q0, g0, h⟩ := Option.bind_eq_some_iff.mp h
    obtain ⟨q1, g1, h⟩ := Option.bind_eq_some_iff.mp h
    cases h
    have p0 := pnr_pn g0
    have p1 := pnr_pn g1
    have e := tNums2_t (u := tSetAt t (tAt t + 1)) p0.1 p1.1
    obtain ⟨l1, l2, l3, l4, l5, l6, l7⟩ := list4n hN q0.1 q1.1 0 0
    have n0 : tN (set2 (tSetAt t (tAt t + 1)) q0 q1) 0 = q0.1 := l2
    have n1 : tN (set2 (tSetAt t (tAt t + 1)) q0 q1) 1 = q1.1 := l3
    refine ⟨set2 (tSetAt t (tAt t + 1)) q0 q1, ?_, rfl, rfl, rfl⟩
    unfold tItem
    rw [if_neg (by omega), if_neg (by omega), if_pos hc, e]
    dsimp only
    rw [if_pos rfl, n0, n1, if_pos ⟨h5, by have := p0.2.2; omega, p1.2.1, p1.2.2⟩]
  · intro h
    cases hb : (tItem t c).1 with
    | false => rfl
    | true =>
      exfalso
      unfold tItem at hb
      rw [if_neg (by omega), if_neg (by omega), if_pos hc] at hb
      by_cases w : (tNums 2 0 2 (tSetAt t (tAt t + 1))).1 = true
      · obtain ⟨q0, q1, p0, p1⟩ := tNums2_f w
        have e := tNums2_t p0 p1
        obtain ⟨l1, l2, l3, l4, l5, l6, l7⟩ := list4n hN q0.1 q1.1 0 0
        have n0 : tN (set2 (tSetAt t (tAt t + 1)) q0 q1) 0 = q0.1 := l2
        have n1 : tN (set2 (tSetAt t (tAt t + 1)) q0 q1) 1 = q1.1 := l3
        rw [e] at hb
        dsimp only at hb
        rw [if_pos rfl, n0, n1] at hb
        by_cases w2 : cWk c < 5 ∧ q0.1 < cHs c ∧ 1 ≤ q1.1 ∧ q1.1 ≤ 30
        · obtain ⟨c0, c1, c2, c3⟩ := w2
          have ei : itW t (tAt t + 1) (cHs c) = some (q0.1, q1.1, q1.2) := by
            unfold itW
            rw [pnr_some (t := t) (a := tAt t + 1) p0 ⟨Nat.zero_le _, by omega⟩, Option.bind_some, pnr_some (t := t) p1 ⟨c2, c3⟩, Option.bind_some]
          rcases h with h | h
          · exact h c0
          · rw [ei] at h; cases h
        · rw [if_neg w2] at hb; cases hb
      · rw [if_neg w] at hb; cases hb
theorem tItem_s (hc : tC t (tAt t) = 115) (hN : t.2.1.length = 4) : (∀ q, cTd c < 8 → pnr t (tAt t + 1) 59 0 31 = some q → ∃ T, tItem t c = (true, T, cSetTd (cSetSj c (cTd c) (nI q.1)) (cTd c + 1)) ∧ tAt T = q.2 ∧ T.1 = t.1 ∧ tLn T = tLn t) ∧ ((¬ cTd c < 8 ∨ pnr t (tAt t + 1) 59 0 31 = none) → (tItem t c).1 = false) := by
  constructor
  · intro q0 h5 g0
    have p0 := pnr_pn g0
    have e := tNums1_t (u := tSetAt t (tAt t + 1)) p0.1
    obtain ⟨l1, l2, l3, l4, l5, l6, l7⟩ := list4n hN q0.1 0 0 0
    have n0 : tN (set1 (tSetAt t (tAt t + 1)) q0) 0 = q0.1 := l1
    refine ⟨set1 (tSetAt t (tAt t + 1)) q0, ?_, rfl, rfl, rfl⟩
    unfold tItem
    rw [if_neg (by omega), if_neg (by omega), if_neg (by omega), if_pos hc, e]
    dsimp only
    rw [if_pos rfl, n0, if_pos ⟨h5, p0.2.2⟩]
  · intro h
    cases hb : (tItem t c).1 with
    | false => rfl
    | true =>
      exfalso
      unfold tItem at hb
      rw [if_neg (by omega), if_neg (by omega), if_neg (by omega), if_pos hc] at hb
      by_cases w : (tNums 1 0 1 (tSetAt t (tAt t + 1))).1 = true
      · obtain ⟨q0, p0⟩ := tNums1_f w
        have e := tNums1_t p0
        obtain ⟨l1, l2, l3, l4, l5, l6, l7⟩ := list4n hN q0.1 0 0 0
        have n0 : tN (set1 (tSetAt t (tAt t + 1)) q0) 0 = q0.1 := l1
        rw [e] at hb
        dsimp only at hb
        rw [if_pos rfl, n0] at hb
        by_cases w2 : cTd c < 8 ∧ q0.1 ≤ 31
        · have ei := pnr_some (t := t) (a := tAt t + 1) (lo := 0) (hi := 31) p0 ⟨Nat.zero_le _, w2.2⟩
          rcases h with h | h
          · exact h w2.1
          · rw [ei] at h; cases h
        · rw [if_neg w2] at hb; cases hb
      · rw [if_neg w] at hb; cases hb
theorem tItem_h (hc : tC t (tAt t) = 104) (hN : t.2.1.length = 4) : (∀ q, cPp c + cWk c + cTd c = 0 → pnr t (tAt t + 1) 59 1 5 = some q → ∃ T, tItem t c = (true, T, cSetHs c q.1) ∧ tAt T = q.2 ∧ T.1 = t.1 ∧ tLn T = tLn t) ∧ ((¬ cPp c + cWk c + cTd c = 0 ∨ pnr t (tAt t + 1) 59 1 5 = none) → (tItem t c).1 = false) := by
  constructor
  · intro q0 h5 g0
    have p0 := pnr_pn g0
    have e := tNums1_t (u := tSetAt t (tAt t + 1)) p0.1
    obtain ⟨l1, l2, l3, l4, l5, l6, l7⟩ := list4n hN q0.1 0 0 0
    have n0 : tN (set1 (tSetAt t (tAt t + 1)) q0) 0 = q0.1 := l1
    refine ⟨set1 (tSetAt t (tAt t + 1)) q0, ?_, rfl, rfl, rfl⟩
    unfold tItem
    rw [if_neg (by omega), if_pos hc, e]
    dsimp only
    rw [if_pos rfl, n0, if_pos ⟨h5, p0.2⟩]
  · intro h
    cases hb : (tItem t c).1 with
    | false => rfl
    | true =>
      exfalso
      unfold tItem at hb
      rw [if_neg (by omega), if_pos hc] at hb
      by_cases w : (tNums 1 0 1 (tSetAt t (tAt t + 1))).1 = true
      · obtain ⟨q0, p0⟩ := tNums1_f w
        have e := tNums1_t p0
        obtain ⟨l1, l2, l3, l4, l5, l6, l7⟩ := list4n hN q0.1 0 0 0
        have n0 : tN (set1 (tSetAt t (tAt t + 1)) q0) 0 = q0.1 := l1
        rw [e] at hb
        dsimp only at hb
        rw [if_pos rfl, n0] at hb
        by_cases w2 : cPp c + cWk c + cTd c = 0 ∧ 1 ≤ q0.1 ∧ q0.1 ≤ 5
        · have ei := pnr_some (t := t) (a := tAt t + 1) (lo := 1) (hi := 5) p0 w2.2
          rcases h with h | h
          · exact h w2.1
          · rw [ei] at h; cases h
        · rw [if_neg w2] at hb; cases hb
      · rw [if_neg w] at hb; cases hb
theorem tItem_o (h1 : tC t (tAt t) ≠ 112) (h2 : tC t (tAt t) ≠ 104) (h3 : tC t (tAt t) ≠ 119) (h4 : tC t (tAt t) ≠ 115) : (tItem t c).1 = false := by
  unfold tItem
  rw [if_neg h1, if_neg h2, if_neg h3, if_neg h4]
end RDB
