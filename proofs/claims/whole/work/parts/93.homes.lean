/-! homes: figures, sums of pairs, the works lit of a way to live -/
def dgb (b a B i : Nat) : Nat := B / b ^ (a - 1 - i) % b
theorem dgb_hi {b a B q i : Nat} (hi : i < a) (hq : q < b) : dgb b (a + 1) (B * b + q) i = dgb b a B i := by
  have hb : 0 < b := by omega
  have e : (B * b + q) / b = B := by rw [Nat.add_comm, Nat.add_mul_div_right _ _ hb, Nat.div_eq_of_lt hq, Nat.zero_add]
  unfold dgb
  rw [show a + 1 - 1 - i = (a - 1 - i) + 1 from by omega, Nat.pow_succ, Nat.mul_comm (b ^ (a - 1 - i)) b, ← Nat.div_div_eq_div_mul, e]
theorem dgb_lo {b a B q : Nat} (hq : q < b) : dgb b (a + 1) (B * b + q) a = q := by
  unfold dgb
  rw [show a + 1 - 1 - a = 0 from by omega, Nat.pow_zero, Nat.div_one, Nat.add_comm, Nat.add_mul_mod_self_right, Nat.mod_eq_of_lt hq]
theorem dgb_pre {b P n row B who i : Nat} (hP : who + n = P) (hr : row / b ^ n = B) (hi : i < who) : dgb b P row i = dgb b who B i := by
  unfold dgb
  rw [show P - 1 - i = n + (who - 1 - i) from by omega, Nat.pow_add, ← Nat.div_div_eq_div_mul, hr]
theorem dgb_lt {b a B i : Nat} (hb : 0 < b) : dgb b a B i < b := Nat.mod_lt _ hb
/-- sums -/
def suI (g : Nat → Int32) : Nat → Int32
  | 0 => 0
  | n + 1 => suI g n + g n
theorem suI_for {g : Nat → Int32} : ∀ n a s, am_for (fun j s => s + g j) a n s = s + suI (fun j => g (a + j)) n := by
  intro n
  induction n with
  | zero => intro a s; rw [am_for, suI, Int32.add_zero]
  | succ n ih =>
    intro a s
    rw [am_for_snoc, ih, suI, Int32.add_assoc]
theorem suI_congr {g f : Nat → Int32} : ∀ n, (∀ j, j < n → g j = f j) → suI g n = suI f n := by
  intro n
  induction n with
  | zero => intro _; rfl
  | succ n ih => intro h; rw [suI, suI, ih (fun j hj => h j (by omega)), h n (by omega)]
theorem suI_add {g f : Nat → Int32} : ∀ n, suI (fun j => g j + f j) n = suI g n + suI f n := by
  intro n
  induction n with
  | zero => rw [suI, suI, suI, Int32.add_zero]
  | succ n ih =>
    rw [suI, suI, suI, ih, Int32.add_assoc, Int32.add_assoc, ← Int32.add_assoc (suI f n), Int32.add_comm (suI f n) (g n), Int32.add_assoc]
theorem suI_zero {g : Nat → Int32} : ∀ n, (∀ j, j < n → g j = 0) → suI g n = 0 := by
  intro n
  induction n with
  | zero => intro _; rfl
  | succ n ih => intro h; rw [suI, ih (fun j hj => h j (by omega)), h n (by omega), Int32.add_zero]
def S1 (g : Nat → Nat → Int32) (n : Nat) : Int32 := suI (fun j => suI (fun i => g i j) j) n
def S2 (g : Nat → Nat → Int32) (n : Nat) : Int32 := suI (fun i => suI (fun j => g i (i + 1 + j)) (n - 1 - i)) n
theorem S12 {g : Nat → Nat → Int32} : ∀ n, S2 g n = S1 g n := by
  intro n
  induction n with
  | zero => rfl
  | succ n ih =>
    have e1 : S1 g (n + 1) = S1 g n + suI (fun i => g i n) n := rfl
    have e2 : S2 g (n + 1) = suI (fun i => suI (fun j => g i (i + 1 + j)) (n + 1 - 1 - i)) n + suI (fun j => g n (n + 1 + j)) (n + 1 - 1 - n) := rfl
    rw [e1, e2, ← ih, show n + 1 - 1 - n = 0 from by omega]
    rw [show suI (fun j => g n (n + 1 + j)) 0 = 0 from rfl, Int32.add_zero]
    unfold S2
    rw [← suI_add]
    refine suI_congr n (fun i hi => ?_)
    rw [show n + 1 - 1 - i = (n - 1 - i) + 1 from by omega, suI, show i + 1 + (n - 1 - i) = n from by omega]
/-- people who live as the figures f say -/
def mkH (nw : am_Mo) (P : Nat) (f : Nat → Nat) : am_Mo := (nw.1, nw.2.1, nw.2.2.1, (List.range 8).map (fun i => if i < P then nI (f i) else -1), nw.2.2.2.2)
def mvc (nw : am_Mo) (f : Nat → Nat) : Nat → Nat
  | 0 => 0
  | n + 1 => mvc nw f n + (if nI (f n) = mH nw n then 0 else 1)
theorem mvc_le {nw : am_Mo} {f : Nat → Nat} : ∀ n, mvc nw f n ≤ n := by
  intro n
  induction n with
  | zero => exact Nat.le_refl 0
  | succ n ih => rw [mvc]; split <;> omega
theorem mvc_mono {nw : am_Mo} {f : Nat → Nat} (k : Nat) : ∀ n, mvc nw f k ≤ mvc nw f (k + n) := by
  intro n
  induction n with
  | zero => exact Nat.le_refl _
  | succ n ih => rw [show k + (n + 1) = (k + n) + 1 from rfl, mvc]; omega
theorem mvc_congr {nw : am_Mo} {f g : Nat → Nat} : ∀ n, (∀ i, i < n → f i = g i) → mvc nw f n = mvc nw g n := by
  intro n
  induction n with
  | zero => intro _; rfl
  | succ n ih => intro h; rw [mvc, mvc, ih (fun i hi => h i (by omega)), h n (by omega)]
section HMA
variable {i j k n b p hr tt g h u N P B who moved : Nat} {x y z t a v w : Int32} {ct c : am_Ci} {nw m : am_Mo} {s : am_Hs} {f : Nat → Nat}
theorem mkH_H (hi : i < 8) : mH (mkH nw P f) i = if i < P then nI (f i) else -1 := by
  unfold mH mkH
  rw [List.getD_eq_getElem?_getD, List.getElem?_map, List.getElem?_range hi]
  rfl
theorem mkH_ok (h : mOK nw) : mOK (mkH nw P f) := ⟨h.1, h.2.1, h.2.2.1, by unfold mkH; simp, h.2.2.2.2⟩
theorem mkH_Nm (hN : Nm ct nw) (hf : ∀ i, i < cPp ct → f i < cHs ct) : Nm ct (mkH nw (cPp ct) f) := by
  have p8 := hN.2.2.1
  refine ⟨fun i hi => ?_, fun i h1 h2 => ?_, hN.2.2⟩
  · obtain ⟨o, t1, g, ho, ht1, hg, eo, et, eg⟩ := hN.1 i hi
    exact ⟨o, t1, f i, ho, ht1, hf i hi, eo, et, by rw [mkH_H (by omega), if_pos hi]⟩
  · rw [mkH_H h2, if_neg (by omega)]
def gF (nw : am_Mo) (t : Int32) (f : Nat → Nat) (h i j : Nat) : Int32 := if f i = h then (if f j = h then mL2 nw i j t else 0) else 0
theorem mkH_sum (hN : Nm ct nw) (hf : ∀ i, i < cPp ct → f i < cHs ct) (h5 : h < 5) : am_for (mLi1 (mkH nw (cPp ct) f) (nI h) t) 0 8 0 = S1 (gF nw t f h) (cPp ct) := by
  have p8 := hN.2.2.1
  have hH := hN.2.2.2
  rw [← pl_cut (mkH_Nm hN hf) h5, ← S12]
  unfold S2
  have e : am_for (plG (mkH nw (cPp ct) f) h (cPp ct) t) 0 (cPp ct) 0 = am_for (fun i s => s + suI (fun j => gF nw t f h i (i + 1 + j)) (cPp ct - 1 - i)) 0 (cPp ct) 0 := am_for_congr _ _ _ (fun i s _ hi => by
    unfold plG
    rw [show am_for (plF (mkH nw (cPp ct) f) h t i) (i + 1) (cPp ct - 1 - i) s = am_for (fun j s => s + gF nw t f h i j) (i + 1) (cPp ct - 1 - i) s from am_for_congr _ _ _ (fun j s h1 h2 => by
      have i8 : i < cPp ct := by omega
      have j8 : j < cPp ct := by omega
      unfold plF mLi2 gF
      rw [mkH_H (by omega), mkH_H (by omega), if_pos i8, if_pos j8]
      have f1 := hf i i8
      have f2 := hf j j8
      have q1 : (nI (f i) = nI h) ↔ f i = h := nI_eq (by omega) (by omega)
      have q2 : (nI (f j) = nI h) ↔ f j = h := nI_eq (by omega) (by omega)
      by_cases w1 : f i = h
      · rw [if_pos (q1.mpr w1), if_pos w1]
        by_cases w2 : f j = h
        · rw [if_pos (q2.mpr w2), if_pos w2]; rfl
        · rw [if_neg (fun w => w2 (q2.mp w)), if_neg w2, Int32.add_zero]
      · rw [if_neg (fun w => w1 (q1.mp w)), if_neg w1, Int32.add_zero]), suI_for])
  rw [e, suI_for, Int32.zero_add]
  exact suI_congr _ (fun i hi => by rw [Nat.zero_add])
/-- a count of the works lit -/
theorem cLit_cnt (h5 : cWk ct ≤ 5) : bitc (cLit ct m t) = am_for (fun k s => s + (if (!decide (mLight m (cWH ct k) t < cWN ct k)) = true then 1 else 0)) 0 (cWk ct) 0 := by
  have e0 : bitc (cLit ct m t) = 0 + bitc (cLit ct m t) := (Int32.zero_add _).symm
  rw [e0, cLit_smk h5, ← smk_cnt]
  have e : am_for (fun (h : Nat) (s : Int32) => s + (if (decide (h < cWk ct) && !decide (mLight m (cWH ct h) t < cWN ct h)) = true then 1 else 0)) 0 (cWk ct + (5 - cWk ct)) 0 = am_for (fun (h : Nat) (s : Int32) => s + (if (decide (h < cWk ct) && !decide (mLight m (cWH ct h) t < cWN ct h)) = true then 1 else 0)) 0 5 0 := by rw [show cWk ct + (5 - cWk ct) = 5 from by omega]
  rw [← e, am_for_add, am_for_id (f := fun (h : Nat) (s : Int32) => s + (if (decide (h < cWk ct) && !decide (mLight m (cWH ct h) t < cWN ct h)) = true then 1 else 0)) (5 - cWk ct) _ _ (fun i s q1 q2 => by
    show s + (if (decide (i < cWk ct) && !decide (mLight m (cWH ct i) t < cWN ct i)) = true then 1 else 0) = s
    rw [decide_eq_false (show ¬ i < cWk ct by omega), Bool.false_and, if_neg (by decide), Int32.add_zero])]
  exact am_for_congr _ _ _ (fun i s q1 q2 => by
    show s + (if (decide (i < cWk ct) && !decide (mLight m (cWH ct i) t < cWN ct i)) = true then 1 else 0) = s + (if (!decide (mLight m (cWH ct i) t < cWN ct i)) = true then 1 else 0)
    rw [decide_eq_true (show i < cWk ct by omega), Bool.true_and])
theorem lit_nI (h5 : cWk ct ≤ 5) : ∃ c, c ≤ cWk ct ∧ bitc (cLit ct m t) = nI c := by
  rw [cLit_cnt h5]
  have := am_for_inv (f := fun k s => s + (if (!decide (mLight m (cWH ct k) t < cWN ct k)) = true then 1 else 0)) (fun k s => ∃ c, c ≤ k ∧ s = nI c) (cWk ct) 0 0 ⟨0, Nat.le_refl _, rfl⟩ (fun k s _ _ ⟨c, hc, es⟩ => by
    show ∃ c', c' ≤ k + 1 ∧ s + (if (!decide (mLight m (cWH ct k) t < cWN ct k)) = true then 1 else 0) = nI c'
    split
    · exact ⟨c + 1, by omega, by rw [es, nI_1]⟩
    · exact ⟨c, by omega, by rw [es, Int32.add_zero]⟩)
  rw [Nat.zero_add] at this
  exact this
def Wok (ct : am_Ci) : Prop := cWk ct ≤ 5 ∧ ∀ k, k < cWk ct → ∃ h n, h < cHs ct ∧ cWH ct k = nI h ∧ n ≤ 30 ∧ cWN ct k = nI n
theorem imin_lt {s : Int32} {n : Nat} (hn : n ≤ 30) : (imin s 60 < nI n) ↔ (s < nI n) := by
  unfold imin
  by_cases q : 60 < s
  · rw [if_pos q]
    constructor
    · intro w
      exact absurd w (nI_nlt (a := 60) (by omega) (by decide))
    · intro w
      exact absurd (Int32.lt_trans q w) (nI_nlt (a := 60) (by omega) (by decide))
  · rw [if_neg q]
theorem hWks_lit (hW : Wok ct) (hN : Nm ct nw) (hf : ∀ i, i < cPp ct → f i < cHs ct) (hLi' : ∀ h, h < 5 → hLi s h = S1 (gF nw t f h) (cPp ct)) : hWks ct s = bitc (cLit ct (mkH nw (cPp ct) f) t) := by
  have hH := hN.2.2.2
  rw [cLit_cnt hW.1]
  refine am_for_congr _ _ _ (fun k a _ hk => ?_)
  obtain ⟨g, n, hg, eg, hn, en⟩ := hW.2 k (by omega)
  unfold hWk
  rw [eg, en, if_neg (nI_pos (by omega)), if_pos (show nI g < 5 from nI_lt (b := 5) (by omega) (by decide)), nI_clamp (by omega), hLi' g (by omega)]
  have e : mLight (mkH nw (cPp ct) f) (nI g) t = imin (S1 (gF nw t f g) (cPp ct)) 60 := by unfold mLight; rw [mkH_sum hN hf (by omega)]
  rw [e]
  by_cases q : S1 (gF nw t f g) (cPp ct) < nI n
  · rw [if_pos q, decide_eq_true ((imin_lt hn).mpr q), Bool.not_true, if_neg (by decide), Int32.add_zero]
  · rw [if_neg q, decide_eq_false (fun w => q ((imin_lt hn).mp w)), Bool.not_false, if_pos rfl]
end HMA
