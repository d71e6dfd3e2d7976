/-! NUMBERS: lowest terms, powers of ten, sums over the sets of people -/
def lo2 (c : Nat) (p : Nat × Nat) : Nat × Nat := if p.1 % c = 0 ∧ p.2 % c = 0 then (p.1 / c, p.2 / c) else p
def low (p : Nat × Nat) : Nat × Nat := am_for (fun _ p => lo2 5 (lo2 2 p)) 0 8 p
theorem aL2_nI {c : Nat} {x : Int32} (hx : x = nI c) (hc : 0 < c) (hc2 : c < 100) {p : Nat × Nat} (h1 : p.1 < 2 ^ 31) (h2 : p.2 < 2 ^ 31) : aL2 x (nI p.1, nI p.2) = (nI (lo2 c p).1, nI (lo2 c p).2) ∧ (lo2 c p).1 < 2 ^ 31 ∧ (lo2 c p).2 < 2 ^ 31 := by
  subst hx
  unfold aL2 lo2
  dsimp only
  rw [pk_rem h1 hc (by omega), pk_rem h2 hc (by omega), pk_div h1 hc (by omega), pk_div h2 hc (by omega)]
  have m1 : p.1 % c ≤ p.1 := Nat.mod_le _ _
  have m2 : p.2 % c ≤ p.2 := Nat.mod_le _ _
  have e1 : nI (p.1 % c) = 0 ↔ p.1 % c = 0 := nI_eq (b := 0) (by omega) (by decide)
  have e2 : nI (p.2 % c) = 0 ↔ p.2 % c = 0 := nI_eq (b := 0) (by omega) (by decide)
  have d1 : p.1 / c ≤ p.1 := Nat.div_le_self _ _
  have d2 : p.2 / c ≤ p.2 := Nat.div_le_self _ _
  by_cases q1 : p.1 % c = 0
  · rw [if_pos (e1.mpr q1)]
    by_cases q2 : p.2 % c = 0
    · rw [if_pos (e2.mpr q2), if_pos ⟨q1, q2⟩]
      exact ⟨rfl, by omega, by omega⟩
    · rw [if_neg (fun w => q2 (e2.mp w)), if_neg (fun w => q2 w.2)]
      exact ⟨rfl, h1, h2⟩
  · rw [if_neg (fun w => q1 (e1.mp w)), if_neg (fun w => q1 w.1)]
    exact ⟨rfl, h1, h2⟩
theorem aLow_nI {p : Nat × Nat} (h1 : p.1 < 2 ^ 31) (h2 : p.2 < 2 ^ 31) : aLow (nI p.1, nI p.2) = (nI (low p).1, nI (low p).2) := by
  have key : ∀ n j (p : Nat × Nat), p.1 < 2 ^ 31 → p.2 < 2 ^ 31 → am_for (fun _ p => aL2 5 (aL2 2 p)) j n (nI p.1, nI p.2) = (nI (am_for (fun _ p => lo2 5 (lo2 2 p)) j n p).1, nI (am_for (fun _ p => lo2 5 (lo2 2 p)) j n p).2) := by
    intro n
    induction n with
    | zero => intro j p _ _; rfl
    | succ n ih =>
      intro j p h1 h2
      obtain ⟨a1, a2, a3⟩ := aL2_nI (x := 2) (c := 2) rfl (by decide) (by decide) h1 h2
      obtain ⟨b1, b2, b3⟩ := aL2_nI (x := 5) (c := 5) rfl (by decide) (by decide) a2 a3
      rw [am_for, am_for, a1, b1]
      exact ih (j + 1) _ b2 b3
  exact key 8 0 p h1 h2
def Lw (P Q k : Nat) (p : Nat × Nat) : Prop := ∃ d, P = p.1 * d ∧ Q = p.2 * d ∧ (2 ^ k ∣ d ∨ ¬ (2 ∣ p.1 ∧ 2 ∣ p.2)) ∧ (5 ^ k ∣ d ∨ ¬ (5 ∣ p.1 ∧ 5 ∣ p.2))
theorem lo2_step {c P Q : Nat} {p : Nat × Nat} (hc : 0 < c) {d : Nat} (h1 : P = p.1 * d) (h2 : Q = p.2 * d) : ∃ e, P = (lo2 c p).1 * (d * e) ∧ Q = (lo2 c p).2 * (d * e) ∧ ((lo2 c p).1 ∣ p.1) ∧ ((lo2 c p).2 ∣ p.2) ∧ (c ∣ e ∨ (lo2 c p = p ∧ ¬ (c ∣ p.1 ∧ c ∣ p.2))) := by
  unfold lo2
  by_cases q : p.1 % c = 0 ∧ p.2 % c = 0
  · rw [if_pos q]
    have q1 := Nat.dvd_of_mod_eq_zero q.1
    have q2 := Nat.dvd_of_mod_eq_zero q.2
    refine ⟨c, ?_, ?_, Nat.div_dvd_of_dvd q1, Nat.div_dvd_of_dvd q2, Or.inl (Nat.dvd_refl c)⟩
    · dsimp only
      rw [Nat.mul_comm d c, ← Nat.mul_assoc, Nat.div_mul_cancel q1]; exact h1
    · dsimp only
      rw [Nat.mul_comm d c, ← Nat.mul_assoc, Nat.div_mul_cancel q2]; exact h2
  · rw [if_neg q]
    refine ⟨1, by rw [Nat.mul_one]; exact h1, by rw [Nat.mul_one]; exact h2, Nat.dvd_refl _, Nat.dvd_refl _, Or.inr ⟨rfl, fun w => q ⟨Nat.mod_eq_zero_of_dvd w.1, Nat.mod_eq_zero_of_dvd w.2⟩⟩⟩
theorem Lw_step {P Q k : Nat} {p : Nat × Nat} (h : Lw P Q k p) : Lw P Q (k + 1) (lo2 5 (lo2 2 p)) := by
  obtain ⟨d, h1, h2, h3, h4⟩ := h
  obtain ⟨e, a1, a2, a3, a4, a5⟩ := lo2_step (c := 2) (by decide) h1 h2
  obtain ⟨f, b1, b2, b3, b4, b5⟩ := lo2_step (c := 5) (by decide) a1 a2
  refine ⟨d * e * f, b1, b2, ?_, ?_⟩
  · rcases h3 with h3 | h3
    · rcases a5 with a5 | a5
      · exact Or.inl (Nat.dvd_mul_right_of_dvd (by rw [Nat.pow_succ]; exact Nat.mul_dvd_mul h3 a5) f)
      · right
        intro w
        exact a5.2 ⟨Nat.dvd_trans w.1 (Nat.dvd_trans b3 a3), Nat.dvd_trans w.2 (Nat.dvd_trans b4 a4)⟩
    · right
      intro w
      exact h3 ⟨Nat.dvd_trans w.1 (Nat.dvd_trans b3 a3), Nat.dvd_trans w.2 (Nat.dvd_trans b4 a4)⟩
  · rcases h4 with h4 | h4
    · rcases b5 with b5 | b5
      · left
        rw [Nat.pow_succ]
        exact Nat.mul_dvd_mul (Nat.dvd_mul_right_of_dvd h4 e) b5
      · right
        rw [b5.1]
        exact b5.2
    · right
      intro w
      exact h4 ⟨Nat.dvd_trans w.1 (Nat.dvd_trans b3 a3), Nat.dvd_trans w.2 (Nat.dvd_trans b4 a4)⟩
theorem low_gcd {P c : Nat} (hc : c ≤ 8) : low (P, 10 ^ c) = (P / Nat.gcd P (10 ^ c), 10 ^ c / Nat.gcd P (10 ^ c)) := by
  have h8 : Lw P (10 ^ c) (0 + 8) (low (P, 10 ^ c)) := am_for_inv (f := fun _ p => lo2 5 (lo2 2 p)) (fun k p => Lw P (10 ^ c) k p) 8 0 (P, 10 ^ c) ⟨1, (Nat.mul_one _).symm, (Nat.mul_one _).symm, Or.inl (by decide), Or.inl (by decide)⟩ (fun k p _ _ h => Lw_step h)
  obtain ⟨d, h1, h2, h3, h4⟩ := h8
  obtain ⟨p, ep⟩ : ∃ p, p = low (P, 10 ^ c) := ⟨_, rfl⟩
  rw [← ep] at h1 h2 h3 h4 ⊢
  have t2 : ∀ c, c ≤ 8 → ¬ 2 ^ 9 ∣ 10 ^ c := by decide
  have t5 : ∀ c, c ≤ 8 → ¬ 5 ^ 9 ∣ 10 ^ c := by decide
  have n2 : ¬ (2 ∣ p.1 ∧ 2 ∣ p.2) := by
    rcases h3 with h3 | h3
    · intro w
      refine t2 c hc ?_
      rw [h2, show 2 ^ 9 = 2 * 2 ^ 8 from rfl]
      exact Nat.mul_dvd_mul w.2 h3
    · exact h3
  have n5 : ¬ (5 ∣ p.1 ∧ 5 ∣ p.2) := by
    rcases h4 with h4 | h4
    · intro w
      refine t5 c hc ?_
      rw [h2, show 5 ^ 9 = 5 * 5 ^ 8 from rfl]
      exact Nat.mul_dvd_mul w.2 h4
    · exact h4
  have g1 : Nat.gcd p.1 p.2 = 1 := by
    have d1 := Nat.gcd_dvd_left p.1 p.2
    have d2 := Nat.gcd_dvd_right p.1 p.2
    obtain ⟨g, eg⟩ : ∃ g, g = Nat.gcd p.1 p.2 := ⟨_, rfl⟩
    rw [← eg] at d1 d2 ⊢
    have e1 : ∀ e, e ≤ 10 → e ∣ 10 → e = 1 ∨ 2 ∣ e ∨ 5 ∣ e := by decide
    have dg := Nat.gcd_dvd_left g 10
    have d10 := Nat.gcd_dvd_right g 10
    have cop : Nat.Coprime g 10 := by
      rcases e1 (Nat.gcd g 10) (Nat.le_of_dvd (by decide) d10) d10 with w | w | w
      · exact w
      · exact absurd ⟨Nat.dvd_trans (Nat.dvd_trans w dg) d1, Nat.dvd_trans (Nat.dvd_trans w dg) d2⟩ n2
      · exact absurd ⟨Nat.dvd_trans (Nat.dvd_trans w dg) d1, Nat.dvd_trans (Nat.dvd_trans w dg) d2⟩ n5
    have cp : Nat.Coprime g (10 ^ c) := Nat.Coprime.pow_right c cop
    exact Nat.Coprime.eq_one_of_dvd cp (by rw [h2]; exact Nat.dvd_mul_right_of_dvd d2 d)
  have gd : Nat.gcd P (10 ^ c) = d := by
    rw [h1]
    have : Nat.gcd (p.1 * d) (p.2 * d) = Nat.gcd p.1 p.2 * d := Nat.gcd_mul_right _ _ _
    rw [h2, this, g1, Nat.one_mul]
  have dpos : 0 < d := by
    rcases Nat.eq_zero_or_pos d with w | w
    · rw [w, Nat.mul_zero] at h2
      exact absurd h2 (Nat.ne_of_gt (Nat.pow_pos (by decide)))
    · exact w
  rw [gd]
  have e1 : P / d = p.1 := by rw [h1, Nat.mul_div_cancel _ dpos]
  have e2 : 10 ^ c / d = p.2 := by rw [h2, Nat.mul_div_cancel _ dpos]
  rw [e1, e2]
/-- sums -/
def suN (g : Nat → Nat) : Nat → Nat
  | 0 => 0
  | n + 1 => suN g n + g n
theorem suN_add {g : Nat → Nat} (a : Nat) : ∀ b, suN g (a + b) = suN g a + suN (fun j => g (a + j)) b := by
  intro b
  induction b with
  | zero => rfl
  | succ b ih => rw [show a + (b + 1) = (a + b) + 1 from rfl, suN, ih, suN, Nat.add_assoc]
theorem suN_congr {g f : Nat → Nat} : ∀ n, (∀ j, j < n → g j = f j) → suN g n = suN f n := by
  intro n
  induction n with
  | zero => intro _; rfl
  | succ n ih => intro h; rw [suN, suN, ih (fun j hj => h j (by omega)), h n (by omega)]
theorem suN_mul {g : Nat → Nat} {c : Nat} : ∀ n, suN (fun j => g j * c) n = suN g n * c := by
  intro n
  induction n with
  | zero => rw [suN, suN, Nat.zero_mul]
  | succ n ih => rw [suN, suN, ih, Nat.add_mul]
theorem suN_zero {g : Nat → Nat} : ∀ n, (∀ j, j < n → g j = 0) → suN g n = 0 := by
  intro n
  induction n with
  | zero => intro _; rfl
  | succ n ih => intro h; rw [suN, ih (fun j hj => h j (by omega)), h n (by omega)]
theorem suN_le {g f : Nat → Nat} : ∀ n, (∀ j, j < n → g j ≤ f j) → suN g n ≤ suN f n := by
  intro n
  induction n with
  | zero => intro _; exact Nat.le_refl 0
  | succ n ih => intro h; rw [suN, suN]; have := ih (fun j hj => h j (by omega)); have := h n (by omega); omega
/-- the weight of a set j of the people L: X for each in it, Y for each not -/
def wtF (L j X Y i : Nat) : Nat := if L.testBit i = false then 1 else if j.testBit i = true then X else Y
def wt (L j X Y : Nat) : Nat → Nat
  | 0 => 1
  | n + 1 => wt L j X Y n * wtF L j X Y n
def sbN (L j : Nat) : Nat → Bool
  | 0 => true
  | n + 1 => sbN L j n && (!j.testBit n || L.testBit n)
theorem wt_congr {L j k X Y : Nat} : ∀ n, (∀ i, i < n → j.testBit i = k.testBit i) → wt L j X Y n = wt L k X Y n := by
  intro n
  induction n with
  | zero => intro _; rfl
  | succ n ih => intro h; rw [wt, wt, ih (fun i hi => h i (by omega))]; unfold wtF; rw [h n (by omega)]
theorem sb_congr {L j k : Nat} : ∀ n, (∀ i, i < n → j.testBit i = k.testBit i) → sbN L j n = sbN L k n := by
  intro n
  induction n with
  | zero => intro _; rfl
  | succ n ih => intro h; rw [sbN, sbN, ih (fun i hi => h i (by omega)), h n (by omega)]
def cnb (P : Nat → Bool) : Nat → Nat
  | 0 => 0
  | n + 1 => cnb P n + (if P n = true then 1 else 0)
theorem wt_sum {L X Y : Nat} (hXY : X + Y = 10) : ∀ n, suN (fun j => if sbN L j n = true then wt L j X Y n else 0) (2 ^ n) = 10 ^ cnb (fun i => L.testBit i) n := by
  intro n
  induction n with
  | zero => rfl
  | succ n ih =>
    rw [Nat.pow_succ, Nat.mul_two, suN_add]
    have lowb : ∀ j, j < 2 ^ n → j.testBit n = false := fun j hj => Nat.testBit_lt_two_pow hj
    have higb : ∀ j, j < 2 ^ n → (2 ^ n + j).testBit n = true := fun j hj => by rw [Nat.testBit_two_pow_add_eq, lowb j hj]; rfl
    have lob : ∀ j i, i < n → (2 ^ n + j).testBit i = j.testBit i := fun j i hi => Nat.testBit_two_pow_add_gt hi j
    cases hb : L.testBit n with
    | false =>
      have s1 : suN (fun j => if sbN L j (n + 1) = true then wt L j X Y (n + 1) else 0) (2 ^ n) = suN (fun j => if sbN L j n = true then wt L j X Y n else 0) (2 ^ n) := suN_congr _ (fun j hj => by
        rw [sbN, wt, lowb j hj, Bool.not_false, Bool.true_or, Bool.and_true]
        unfold wtF
        rw [hb, if_pos rfl, Nat.mul_one])
      have s2 : suN (fun j => (fun j => if sbN L j (n + 1) = true then wt L j X Y (n + 1) else 0) (2 ^ n + j)) (2 ^ n) = 0 := suN_zero _ (fun j hj => by
        show (if sbN L (2 ^ n + j) (n + 1) = true then wt L (2 ^ n + j) X Y (n + 1) else 0) = 0
        rw [sbN, higb j hj, hb, Bool.not_true, Bool.or_false, Bool.and_false, if_neg (by decide)])
      rw [s1, s2, ih, cnb]
      rw [hb, if_neg (show ¬ (false = true) by decide)]
      rfl
    | true =>
      have s1 : suN (fun j => if sbN L j (n + 1) = true then wt L j X Y (n + 1) else 0) (2 ^ n) = suN (fun j => (if sbN L j n = true then wt L j X Y n else 0) * Y) (2 ^ n) := suN_congr _ (fun j hj => by
        rw [sbN, wt, lowb j hj, Bool.not_false, Bool.true_or, Bool.and_true]
        unfold wtF
        rw [hb, if_neg (show ¬ (true = false) by decide), lowb j hj, if_neg (show ¬ (false = true) by decide)]
        split
        · rfl
        · rw [Nat.zero_mul])
      have s2 : suN (fun j => (fun j => if sbN L j (n + 1) = true then wt L j X Y (n + 1) else 0) (2 ^ n + j)) (2 ^ n) = suN (fun j => (if sbN L j n = true then wt L j X Y n else 0) * X) (2 ^ n) := suN_congr _ (fun j hj => by
        show (if sbN L (2 ^ n + j) (n + 1) = true then wt L (2 ^ n + j) X Y (n + 1) else 0) = _
        rw [sbN, wt, higb j hj, hb, Bool.not_true, Bool.false_or, Bool.and_true, sb_congr n (fun i hi => lob j i hi), wt_congr n (fun i hi => lob j i hi)]
        unfold wtF
        rw [hb, if_neg (show ¬ (true = false) by decide), higb j hj, if_pos (show true = true from rfl)]
        split
        · rfl
        · rw [Nat.zero_mul])
      rw [s1, s2, suN_mul, suN_mul, ih, ← Nat.mul_add, Nat.add_comm Y X, hXY, cnb]
      rw [hb, if_pos (show true = true from rfl), Nat.pow_succ]
