/-! talk: the class's search as one row of numbers -/
def pSum (c : am_Ci) : Nat → Nat → am_Mo → Int32 → Int32
  | 0, _, _, had => had
  | n + 1, row, m, had => pSum c n row (mGo m (kTd m (row / 6 ^ n % 6))) (had + cAll c m (kTd m (row / 6 ^ n % 6)))
def fRow (f : Nat → Int32) (row : Nat) (s : Nat × Int32) : Nat × Int32 := if s.2 < f row then (row, f row) else s
/-- the i-th of a figures in base six -/
def dig (a B i : Nat) : Nat := B / 6 ^ (a - 1 - i) % 6
theorem dig_hi {a B q i : Nat} (hi : i < a) (hq : q < 6) : dig (a + 1) (B * 6 + q) i = dig a B i := by
  unfold dig
  rw [show a + 1 - 1 - i = (a - 1 - i) + 1 from by omega, Nat.pow_succ, Nat.mul_comm (6 ^ (a - 1 - i)) 6, ← Nat.div_div_eq_div_mul, show (B * 6 + q) / 6 = B from by omega]
theorem dig_lo {a B q : Nat} (hq : q < 6) : dig (a + 1) (B * 6 + q) a = q := by
  unfold dig
  rw [show a + 1 - 1 - a = 0 from by omega, Nat.pow_zero, Nat.div_one]
  omega
theorem for_blk {σ : Type} {F : Nat → σ → σ} {K : Nat} : ∀ (n B : Nat) (s : σ), am_for F (B * K) (n * K) s = am_for (fun q s => am_for F (q * K) K s) B n s := by
  intro n
  induction n with
  | zero => intro B s; rw [Nat.zero_mul]; rfl
  | succ n ih =>
    intro B s
    rw [am_for, show (n + 1) * K = K + n * K from by rw [Nat.succ_mul, Nat.add_comm], am_for_add, ← ih, show (B + 1) * K = B * K + K from Nat.succ_mul B K]
def Rk (N : Nat) (r : am_Tk) (s : Nat × Int32) : Prop := r.2.2 = s.2 ∧ (s.2 = -1 ∨ ∀ i, i < N → r.2.1.getD i 0 = sj (dig N s.1 i))
theorem kDisc_row {c : am_Ci} : ∀ (n a : Nat) (m : am_Mo) (had : Int32) (r : am_Tk), ∀ i, i < a → a + n ≤ 4 → r.1.length = 4 → (kDisc c n a m had r).1.getD i 0 = r.1.getD i 0 ∧ (kDisc c n a m had r).1.length = 4 := by
  intro n
  induction n with
  | zero =>
    intro a m had r i hi _ hl
    rw [kDisc]
    unfold kWeigh
    split
    · exact ⟨rfl, hl⟩
    · exact ⟨rfl, hl⟩
  | succ n ih =>
    intro a m had r i hi hn hl
    rw [kDisc]
    have := am_for_inv (f := fun q r => kDisc c n (a + 1) (mGo m (kTd m q)) (had + cAll c m (kTd m q)) (kSetRow r a (sj q))) (fun _ s => s.1.getD i 0 = r.1.getD i 0 ∧ s.1.length = 4) 6 0 r ⟨rfl, hl⟩ (fun q s _ _ h => by
      have h2 : (kSetRow s a (sj q)).1.length = 4 := (List.length_set).trans h.2
      have := ih (a + 1) (mGo m (kTd m q)) (had + cAll c m (kTd m q)) (kSetRow s a (sj q)) i (by omega) (by omega) h2
      refine ⟨?_, this.2⟩
      rw [this.1]
      show (s.1.set a (sj q)).getD i 0 = _
      rw [getD_set (by have := h.2; omega), if_neg (by omega)]
      exact h.1)
    exact this
theorem kDisc_flat {c : am_Ci} {N : Nat} {f : Nat → Int32} : ∀ (n a : Nat) (m : am_Mo) (had : Int32) (r : am_Tk) (B : Nat) (s : Nat × Int32), a + n = N → N ≤ 4 → r.1.length = 4 → (∀ row, B * 6 ^ n ≤ row → row < (B + 1) * 6 ^ n → f row = pSum c n row m had) → (∀ i, i < a → r.1.getD i 0 = sj (dig a B i)) → Rk N r s → Rk N (kDisc c n a m had r) (am_for (fRow f) (B * 6 ^ n) (6 ^ n) s) := by
  intro n
  induction n with
  | zero =>
    intro a m had r B s hN h4 hl hf hd hR
    have hfB := hf B (by rw [Nat.pow_zero, Nat.mul_one]; exact Nat.le_refl _) (by rw [Nat.pow_zero, Nat.mul_one]; omega)
    rw [pSum] at hfB
    rw [Nat.pow_zero, Nat.mul_one, am_for, am_for, kDisc]
    unfold kWeigh fRow
    rw [hfB, hR.1]
    obtain rfl : a = N := by omega
    by_cases q : s.2 < had
    · rw [if_pos q, if_pos q]
      exact ⟨rfl, Or.inr hd⟩
    · rw [if_neg q, if_neg q]
      exact hR
  | succ n ih =>
    intro a m had r B s hN h4 hl hf hd hR
    have blk := for_blk (F := fRow f) (K := 6 ^ n) 6 (B * 6) s
    have eB : B * 6 ^ (n + 1) = B * 6 * 6 ^ n := by rw [Nat.pow_succ, Nat.mul_comm (6 ^ n) 6, ← Nat.mul_assoc]
    have e6 : 6 ^ (n + 1) = 6 * 6 ^ n := by rw [Nat.pow_succ, Nat.mul_comm]
    rw [eB, e6, blk, kDisc]
    have key : ∀ k q (r : am_Tk) (s : Nat × Int32), q + k = 6 → r.1.length = 4 → (∀ i, i < a → r.1.getD i 0 = sj (dig a B i)) → Rk N r s → Rk N (am_for (fun q r => kDisc c n (a + 1) (mGo m (kTd m q)) (had + cAll c m (kTd m q)) (kSetRow r a (sj q))) q k r) (am_for (fun q s => am_for (fRow f) (q * 6 ^ n) (6 ^ n) s) (B * 6 + q) k s) := by
      intro k
      induction k with
      | zero => intro q r s _ _ _ h; exact h
      | succ k ik =>
        intro q r s hq hl hd hR
        have q6 : q < 6 := by omega
        have hl2 : (kSetRow r a (sj q)).1.length = 4 := (List.length_set).trans hl
        have gd : ∀ i, (kSetRow r a (sj q)).1.getD i 0 = if a = i then sj q else r.1.getD i 0 := fun i => getD_set (by omega)
        have h1 := ih (a + 1) (mGo m (kTd m q)) (had + cAll c m (kTd m q)) (kSetRow r a (sj q)) (B * 6 + q) s (by omega) h4 hl2 (fun row h1 h2 => by
          have hr : row / 6 ^ n = B * 6 + q := by
            have p0 : 0 < 6 ^ n := Nat.pow_pos (by decide)
            have a1 : B * 6 + q ≤ row / 6 ^ n := (Nat.le_div_iff_mul_le p0).mpr h1
            have a2 : row / 6 ^ n < B * 6 + q + 1 := (Nat.div_lt_iff_lt_mul p0).mpr h2
            omega
          rw [hf row (by rw [eB]; exact Nat.le_trans (Nat.mul_le_mul_right _ (by omega)) h1) (by
            rw [show (B + 1) * 6 ^ (n + 1) = (B * 6 + 6) * 6 ^ n from by rw [e6, ← Nat.mul_assoc, Nat.add_mul, Nat.one_mul]]
            exact Nat.lt_of_lt_of_le h2 (Nat.mul_le_mul_right _ (by omega))), pSum, hr, show (B * 6 + q) % 6 = q from by omega]) (fun i hi => by
          rw [gd]
          by_cases e : a = i
          · rw [if_pos e, ← e, dig_lo q6]
          · rw [if_neg e, dig_hi (by omega) q6]
            exact hd i (by omega)) ⟨hR.1, hR.2⟩
        have h2 := fun i (hi : i < a) => kDisc_row (c := c) n (a + 1) (mGo m (kTd m q)) (had + cAll c m (kTd m q)) (kSetRow r a (sj q)) i (by omega) (by omega) hl2
        have hl3 : (kDisc c n (a + 1) (mGo m (kTd m q)) (had + cAll c m (kTd m q)) (kSetRow r a (sj q))).1.length = 4 := (kDisc_row (c := c) n (a + 1) (mGo m (kTd m q)) (had + cAll c m (kTd m q)) (kSetRow r a (sj q)) a (by omega) (by omega) hl2).2
        rw [am_for, am_for]
        exact ik (q + 1) _ _ (by omega) hl3 (fun i hi => by rw [(h2 i hi).1, gd, if_neg (by omega)]; exact hd i hi) h1
    exact key 6 0 r s rfl hl hd hR
theorem kSearch_flat {c : am_Ci} {m : am_Mo} {N : Nat} {r : am_Tk} (h4 : N ≤ 4) (hr : kOK r) : Rk N (kSearch c m N r) (am_for (fRow (fun row => pSum c N row m 0)) 0 (6 ^ N) (0, -1)) := by
  have := kDisc_flat (c := c) (N := N) (f := fun row => pSum c N row m 0) N 0 m 0 (r.1, r.2.1, -1) 0 (0, -1) (Nat.zero_add _) h4 hr.1 (fun row _ _ => rfl) (fun i hi => absurd hi (Nat.not_lt_zero i)) ⟨rfl, Or.inl rfl⟩
  rw [Nat.zero_mul] at this
  exact this
theorem fRow_pos {f : Nat → Int32} {n : Nat} (hf : ∀ row, row < n → ¬ f row < 0) (hn : 0 < n) : ¬ (am_for (fRow f) 0 n (0, -1)).2 = -1 := by
  have := am_for_inv (f := fRow f) (fun k s => (k = 0 ∧ s.2 = -1) ∨ ¬ s.2 < 0) n 0 (0, -1) (Or.inl ⟨rfl, rfl⟩) (fun k s _ hk h => by
    right
    unfold fRow
    by_cases q : s.2 < f k
    · rw [if_pos q]; exact hf k (by omega)
    · rw [if_neg q]
      rcases h with h | h
      · exfalso
        apply q
        rw [h.2]
        exact Int32.lt_of_lt_of_le (by decide) (Int32.not_lt.mp (hf k (by omega)))
      · exact h)
  rcases this with h | h
  · omega
  · intro w
    rw [w] at h
    exact h (by decide)
theorem fRow_lt {f : Nat → Int32} {n : Nat} : ∀ k j s, j + k = n → s.1 < n ∨ s.1 = 0 → (am_for (fRow f) j k s).1 < n ∨ (am_for (fRow f) j k s).1 = 0 := by
  intro k
  induction k with
  | zero => intro j s _ h; exact h
  | succ k ih =>
    intro j s hj h
    rw [am_for]
    refine ih (j + 1) _ (by omega) ?_
    unfold fRow
    split
    · left; show j < n; omega
    · exact h
