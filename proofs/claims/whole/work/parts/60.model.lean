/-! THE REFERENCE'S STATE: object 141, its numbers I, its arrays A at 142 .. 154 -/
def dLen : Nat → Nat := fun i => [29, 27, 200, 29, 27, 5, 8, 216, 27, 8, 8, 8, 54].getD i 0
def dFl (I : Nat → Int32) : List Value := [.ref 142, .ref 143, .ref 144, .int (I 3), .int (I 4), .ref 145, .ref 146, .int (I 7), .int (I 8), .ref 147, .int (I 10), .ref 148, .ref 149, .int (I 13), .ref 150, .ref 151, .int (I 16), .int (I 17), .ref 152, .ref 153, .int (I 20), .ref 154, .int (I 22)]
def updI (I : Nat → Int32) (j : Nat) (x : Int32) : Nat → Int32 := fun i => if i = j then x else I i
def updA (A : Nat → List Int32) (j : Nat) (xs : List Int32) : Nat → List Int32 := fun i => if i = j then xs else A i
def aOK (A : Nat → List Int32) : Prop := ∀ i, i < 13 → (A i).length = dLen i
def wAs (hp : am_H) (A : Nat → List Int32) : Nat → am_H
  | 0 => hp
  | n + 1 => (wAs hp A n).set (142 + n) (.inl (A n))
def wD (hp : am_H) (I : Nat → Int32) (A : Nat → List Int32) : am_H := wAs (hp.set 141 (.inr (.inr (7, dFl I)))) A 13
def isD (hp : am_H) (I : Nat → Int32) (A : Nat → List Int32) : Prop := am_obj hp 141 = some (7, dFl I) ∧ (∀ i, i < 13 → am_arr hp (142 + i) = some (A i)) ∧ aOK A
section MDL
variable {hp hp2 : am_H} {I : Nat → Int32} {A : Nat → List Int32} {i j k n b : Nat} {x y : Int32} {xs : List Int32}
theorem updA_ok (h : aOK A) (hx : xs.length = dLen i) : aOK (updA A i xs) := fun j hj => by
  unfold updA
  split
  · rename_i e; subst e; exact hx
  · exact h j hj
theorem wAs_len : ∀ {n : Nat}, (wAs hp A n).length = hp.length := by
  intro n
  induction n with
  | zero => rfl
  | succ n ih => rw [wAs, List.length_set, ih]
theorem wAs_get : ∀ {n : Nat}, b < 142 ∨ 142 + n ≤ b → (wAs hp A n)[b]? = hp[b]? := by
  intro n
  induction n with
  | zero => intro _; rfl
  | succ n ih => intro h; rw [wAs, List.getElem?_set_ne (by omega), ih (by omega)]
theorem wAs_at : ∀ {n : Nat}, i < n → 142 + n ≤ hp.length → (wAs hp A n)[142 + i]? = some (.inl (A i)) := by
  intro n
  induction n with
  | zero => intro h; omega
  | succ n ih =>
    intro h hl
    rw [wAs]
    by_cases e : i = n
    · subst e
      rw [List.getElem?_set_self (by rw [wAs_len]; omega)]
    · rw [List.getElem?_set_ne (by omega), ih (by omega) (by omega)]
theorem wAs_congr {B : Nat → List Int32} : ∀ {n : Nat}, (∀ i, i < n → A i = B i) → wAs hp A n = wAs hp B n := by
  intro n
  induction n with
  | zero => intro _; rfl
  | succ n ih => intro h; rw [wAs, wAs, ih (fun i hi => h i (by omega)), h n (by omega)]
theorem wAs_set : ∀ {n : Nat}, i < n → (wAs hp A n).set (142 + i) (.inl xs) = wAs hp (updA A i xs) n := by
  intro n
  induction n with
  | zero => intro h; omega
  | succ n ih =>
    intro h
    rw [wAs, wAs]
    by_cases e : i = n
    · subst e
      rw [List.set_set, show updA A i xs i = xs from if_pos rfl]
      congr 1
      exact wAs_congr (fun j hj => (if_neg (by omega)).symm)
    · rw [List.set_comm _ _ (by omega), ih (by omega), show updA A i xs n = A n from if_neg (fun z => e z.symm)]
theorem wAs_setN {c : am_C} {a : Nat} (ha : a < 142) : ∀ {n : Nat}, (wAs hp A n).set a c = wAs (hp.set a c) A n := by
  intro n
  induction n with
  | zero => rfl
  | succ n ih => rw [wAs, wAs, List.set_comm _ _ (by omega), ih]
theorem wD_len : (wD hp I A).length = hp.length := by rw [wD, wAs_len]; simp
theorem wD_get (h : b < 141 ∨ 154 < b) : (wD hp I A)[b]? = hp[b]? := by rw [wD, wAs_get (by omega), List.getElem?_set_ne (by omega)]
theorem wD_obj (hl : 154 < hp.length) : am_obj (wD hp I A) 141 = some (7, dFl I) := by
  unfold am_obj
  rw [wD, wAs_get (by omega), List.getElem?_set_self (by omega)]
theorem wD_arr (hl : 154 < hp.length) (hi : i < 13) : am_arr (wD hp I A) (142 + i) = some (A i) := by
  unfold am_arr
  rw [wD, wAs_at hi (by simp; omega)]
theorem wD_cl (hl : 154 < hp.length) : am_isC (wD hp I A) 141 7 = true := am_isC_of (wD_obj hl)
theorem isD_wD (hl : 154 < hp.length) (hA : aOK A) : isD (wD hp I A) I A := ⟨wD_obj hl, fun i hi => wD_arr hl hi, hA⟩
theorem wAs_self : ∀ {n : Nat}, (∀ i, i < n → am_arr hp (142 + i) = some (A i)) → wAs hp A n = hp := by
  intro n
  induction n with
  | zero => intro _; rfl
  | succ n ih => intro h; rw [wAs, ih (fun i hi => h i (by omega)), set_self (am_arr_get (h n (by omega)))]
theorem wD_self (h : isD hp I A) : wD hp I A = hp := by rw [wD, set_self (am_obj_get h.1), wAs_self h.2.1]
theorem isD_fr (h : isD hp I A) (hf : Fr hp hp2) : isD hp2 I A := by
  refine ⟨?_, fun i hi => ?_, h.2.2⟩
  · unfold am_obj; rw [hf.2 141 (by omega)]; exact h.1
  · unfold am_arr; rw [hf.2 (142 + i) (by omega)]; exact h.2.1 i hi
theorem wD_f0 (hl : 154 < hp.length) : am_fld (wD hp I A) 141 7 0 = some (.ref 142) := am_fld_of (wD_obj hl)
theorem wD_f1 (hl : 154 < hp.length) : am_fld (wD hp I A) 141 7 1 = some (.ref 143) := am_fld_of (wD_obj hl)
theorem wD_f2 (hl : 154 < hp.length) : am_fld (wD hp I A) 141 7 2 = some (.ref 144) := am_fld_of (wD_obj hl)
theorem wD_f3 (hl : 154 < hp.length) : am_fld (wD hp I A) 141 7 3 = some (.int (I 3)) := am_fld_of (wD_obj hl)
theorem wD_p3 (hl : 154 < hp.length) : am_pf (wD hp I A) 141 7 3 (.int x) = some (wD hp (updI I 3 x) A) := by
  rw [am_pf_of (wD_obj hl) (show _ < 23 by decide), wD, wAs_setN (by omega), List.set_set]
  rfl
theorem wD_f4 (hl : 154 < hp.length) : am_fld (wD hp I A) 141 7 4 = some (.int (I 4)) := am_fld_of (wD_obj hl)
theorem wD_p4 (hl : 154 < hp.length) : am_pf (wD hp I A) 141 7 4 (.int x) = some (wD hp (updI I 4 x) A) := by
  rw [am_pf_of (wD_obj hl) (show _ < 23 by decide), wD, wAs_setN (by omega), List.set_set]
  rfl
theorem wD_f5 (hl : 154 < hp.length) : am_fld (wD hp I A) 141 7 5 = some (.ref 145) := am_fld_of (wD_obj hl)
theorem wD_f6 (hl : 154 < hp.length) : am_fld (wD hp I A) 141 7 6 = some (.ref 146) := am_fld_of (wD_obj hl)
theorem wD_f7 (hl : 154 < hp.length) : am_fld (wD hp I A) 141 7 7 = some (.int (I 7)) := am_fld_of (wD_obj hl)
theorem wD_p7 (hl : 154 < hp.length) : am_pf (wD hp I A) 141 7 7 (.int x) = some (wD hp (updI I 7 x) A) := by
  rw [am_pf_of (wD_obj hl) (show _ < 23 by decide), wD, wAs_setN (by omega), List.set_set]
  rfl
theorem wD_f8 (hl : 154 < hp.length) : am_fld (wD hp I A) 141 7 8 = some (.int (I 8)) := am_fld_of (wD_obj hl)
theorem wD_p8 (hl : 154 < hp.length) : am_pf (wD hp I A) 141 7 8 (.int x) = some (wD hp (updI I 8 x) A) := by
  rw [am_pf_of (wD_obj hl) (show _ < 23 by decide), wD, wAs_setN (by omega), List.set_set]
  rfl
theorem wD_f9 (hl : 154 < hp.length) : am_fld (wD hp I A) 141 7 9 = some (.ref 147) := am_fld_of (wD_obj hl)
theorem wD_f10 (hl : 154 < hp.length) : am_fld (wD hp I A) 141 7 10 = some (.int (I 10)) := am_fld_of (wD_obj hl)
theorem wD_p10 (hl : 154 < hp.length) : am_pf (wD hp I A) 141 7 10 (.int x) = some (wD hp (updI I 10 x) A) := by
  rw [am_pf_of (wD_obj hl) (show _ < 23 by decide), wD, wAs_setN (by omega), List.set_set]
  rfl
theorem wD_f11 (hl : 154 < hp.length) : am_fld (wD hp I A) 141 7 11 = some (.ref 148) := am_fld_of (wD_obj hl)
theorem wD_f12 (hl : 154 < hp.length) : am_fld (wD hp I A) 141 7 12 = some (.ref 149) := am_fld_of (wD_obj hl)
theorem wD_f13 (hl : 154 < hp.length) : am_fld (wD hp I A) 141 7 13 = some (.int (I 13)) := am_fld_of (wD_obj hl)
theorem wD_p13 (hl : 154 < hp.length) : am_pf (wD hp I A) 141 7 13 (.int x) = some (wD hp (updI I 13 x) A) := by
  rw [am_pf_of (wD_obj hl) (show _ < 23 by decide), wD, wAs_setN (by omega), List.set_set]
  rfl
theorem wD_f14 (hl : 154 < hp.length) : am_fld (wD hp I A) 141 7 14 = some (.ref 150) := am_fld_of (wD_obj hl)
theorem wD_f15 (hl : 154 < hp.length) : am_fld (wD hp I A) 141 7 15 = some (.ref 151) := am_fld_of (wD_obj hl)
theorem wD_f16 (hl : 154 < hp.length) : am_fld (wD hp I A) 141 7 16 = some (.int (I 16)) := am_fld_of (wD_obj hl)
theorem wD_p16 (hl : 154 < hp.length) : am_pf (wD hp I A) 141 7 16 (.int x) = some (wD hp (updI I 16 x) A) := by
  rw [am_pf_of (wD_obj hl) (show _ < 23 by decide), wD, wAs_setN (by omega), List.set_set]
  rfl
theorem wD_f17 (hl : 154 < hp.length) : am_fld (wD hp I A) 141 7 17 = some (.int (I 17)) := am_fld_of (wD_obj hl)
theorem wD_p17 (hl : 154 < hp.length) : am_pf (wD hp I A) 141 7 17 (.int x) = some (wD hp (updI I 17 x) A) := by
  rw [am_pf_of (wD_obj hl) (show _ < 23 by decide), wD, wAs_setN (by omega), List.set_set]
  rfl
theorem wD_f18 (hl : 154 < hp.length) : am_fld (wD hp I A) 141 7 18 = some (.ref 152) := am_fld_of (wD_obj hl)
theorem wD_f19 (hl : 154 < hp.length) : am_fld (wD hp I A) 141 7 19 = some (.ref 153) := am_fld_of (wD_obj hl)
theorem wD_f20 (hl : 154 < hp.length) : am_fld (wD hp I A) 141 7 20 = some (.int (I 20)) := am_fld_of (wD_obj hl)
theorem wD_p20 (hl : 154 < hp.length) : am_pf (wD hp I A) 141 7 20 (.int x) = some (wD hp (updI I 20 x) A) := by
  rw [am_pf_of (wD_obj hl) (show _ < 23 by decide), wD, wAs_setN (by omega), List.set_set]
  rfl
theorem wD_f21 (hl : 154 < hp.length) : am_fld (wD hp I A) 141 7 21 = some (.ref 154) := am_fld_of (wD_obj hl)
theorem wD_f22 (hl : 154 < hp.length) : am_fld (wD hp I A) 141 7 22 = some (.int (I 22)) := am_fld_of (wD_obj hl)
theorem wD_p22 (hl : 154 < hp.length) : am_pf (wD hp I A) 141 7 22 (.int x) = some (wD hp (updI I 22 x) A) := by
  rw [am_pf_of (wD_obj hl) (show _ < 23 by decide), wD, wAs_setN (by omega), List.set_set]
  rfl
theorem wD_l0 (hx : x = nI k) (hl : 154 < hp.length) (hA : aOK A) (hk : k < 29) : am_ld (wD hp I A) 142 x = some ((A 0).getD k 0) := by rw [hx]; exact am_ld_nI ⟨wD_arr (i := 0) hl (by decide), hA 0 (by decide)⟩ hk (by decide)
theorem wD_s0 (hx : x = nI k) (hl : 154 < hp.length) (hA : aOK A) (hk : k < 29) : am_sx (wD hp I A) 142 x y = some (wD hp I (updA A 0 ((A 0).set k y))) := by
  have h1 : am_sx (wD hp I A) (142 + 0) (nI k) y = some ((wD hp I A).set (142 + 0) (.inl ((A 0).set k y))) := am_sx_nI ⟨wD_arr (i := 0) hl (by decide), hA 0 (by decide)⟩ hk (by decide)
  rw [wD, wAs_set (by decide)] at h1
  rw [hx]
  exact h1
theorem wD_l1 (hx : x = nI k) (hl : 154 < hp.length) (hA : aOK A) (hk : k < 27) : am_ld (wD hp I A) 143 x = some ((A 1).getD k 0) := by rw [hx]; exact am_ld_nI ⟨wD_arr (i := 1) hl (by decide), hA 1 (by decide)⟩ hk (by decide)
theorem wD_s1 (hx : x = nI k) (hl : 154 < hp.length) (hA : aOK A) (hk : k < 27) : am_sx (wD hp I A) 143 x y = some (wD hp I (updA A 1 ((A 1).set k y))) := by
  have h1 : am_sx (wD hp I A) (142 + 1) (nI k) y = some ((wD hp I A).set (142 + 1) (.inl ((A 1).set k y))) := am_sx_nI ⟨wD_arr (i := 1) hl (by decide), hA 1 (by decide)⟩ hk (by decide)
  rw [wD, wAs_set (by decide)] at h1
  rw [hx]
  exact h1
theorem wD_l2 (hx : x = nI k) (hl : 154 < hp.length) (hA : aOK A) (hk : k < 200) : am_ld (wD hp I A) 144 x = some ((A 2).getD k 0) := by rw [hx]; exact am_ld_nI ⟨wD_arr (i := 2) hl (by decide), hA 2 (by decide)⟩ hk (by decide)
theorem wD_s2 (hx : x = nI k) (hl : 154 < hp.length) (hA : aOK A) (hk : k < 200) : am_sx (wD hp I A) 144 x y = some (wD hp I (updA A 2 ((A 2).set k y))) := by
  have h1 : am_sx (wD hp I A) (142 + 2) (nI k) y = some ((wD hp I A).set (142 + 2) (.inl ((A 2).set k y))) := am_sx_nI ⟨wD_arr (i := 2) hl (by decide), hA 2 (by decide)⟩ hk (by decide)
  rw [wD, wAs_set (by decide)] at h1
  rw [hx]
  exact h1
theorem wD_l3 (hx : x = nI k) (hl : 154 < hp.length) (hA : aOK A) (hk : k < 29) : am_ld (wD hp I A) 145 x = some ((A 3).getD k 0) := by rw [hx]; exact am_ld_nI ⟨wD_arr (i := 3) hl (by decide), hA 3 (by decide)⟩ hk (by decide)
theorem wD_s3 (hx : x = nI k) (hl : 154 < hp.length) (hA : aOK A) (hk : k < 29) : am_sx (wD hp I A) 145 x y = some (wD hp I (updA A 3 ((A 3).set k y))) := by
  have h1 : am_sx (wD hp I A) (142 + 3) (nI k) y = some ((wD hp I A).set (142 + 3) (.inl ((A 3).set k y))) := am_sx_nI ⟨wD_arr (i := 3) hl (by decide), hA 3 (by decide)⟩ hk (by decide)
  rw [wD, wAs_set (by decide)] at h1
  rw [hx]
  exact h1
theorem wD_l4 (hx : x = nI k) (hl : 154 < hp.length) (hA : aOK A) (hk : k < 27) : am_ld (wD hp I A) 146 x = some ((A 4).getD k 0) := by rw [hx]; exact am_ld_nI ⟨wD_arr (i := 4) hl (by decide), hA 4 (by decide)⟩ hk (by decide)
theorem wD_s4 (hx : x = nI k) (hl : 154 < hp.length) (hA : aOK A) (hk : k < 27) : am_sx (wD hp I A) 146 x y = some (wD hp I (updA A 4 ((A 4).set k y))) := by
  have h1 : am_sx (wD hp I A) (142 + 4) (nI k) y = some ((wD hp I A).set (142 + 4) (.inl ((A 4).set k y))) := am_sx_nI ⟨wD_arr (i := 4) hl (by decide), hA 4 (by decide)⟩ hk (by decide)
  rw [wD, wAs_set (by decide)] at h1
  rw [hx]
  exact h1
theorem wD_l5 (hx : x = nI k) (hl : 154 < hp.length) (hA : aOK A) (hk : k < 5) : am_ld (wD hp I A) 147 x = some ((A 5).getD k 0) := by rw [hx]; exact am_ld_nI ⟨wD_arr (i := 5) hl (by decide), hA 5 (by decide)⟩ hk (by decide)
theorem wD_s5 (hx : x = nI k) (hl : 154 < hp.length) (hA : aOK A) (hk : k < 5) : am_sx (wD hp I A) 147 x y = some (wD hp I (updA A 5 ((A 5).set k y))) := by
  have h1 : am_sx (wD hp I A) (142 + 5) (nI k) y = some ((wD hp I A).set (142 + 5) (.inl ((A 5).set k y))) := am_sx_nI ⟨wD_arr (i := 5) hl (by decide), hA 5 (by decide)⟩ hk (by decide)
  rw [wD, wAs_set (by decide)] at h1
  rw [hx]
  exact h1
theorem wD_l6 (hx : x = nI k) (hl : 154 < hp.length) (hA : aOK A) (hk : k < 8) : am_ld (wD hp I A) 148 x = some ((A 6).getD k 0) := by rw [hx]; exact am_ld_nI ⟨wD_arr (i := 6) hl (by decide), hA 6 (by decide)⟩ hk (by decide)
theorem wD_s6 (hx : x = nI k) (hl : 154 < hp.length) (hA : aOK A) (hk : k < 8) : am_sx (wD hp I A) 148 x y = some (wD hp I (updA A 6 ((A 6).set k y))) := by
  have h1 : am_sx (wD hp I A) (142 + 6) (nI k) y = some ((wD hp I A).set (142 + 6) (.inl ((A 6).set k y))) := am_sx_nI ⟨wD_arr (i := 6) hl (by decide), hA 6 (by decide)⟩ hk (by decide)
  rw [wD, wAs_set (by decide)] at h1
  rw [hx]
  exact h1
theorem wD_l7 (hx : x = nI k) (hl : 154 < hp.length) (hA : aOK A) (hk : k < 216) : am_ld (wD hp I A) 149 x = some ((A 7).getD k 0) := by rw [hx]; exact am_ld_nI ⟨wD_arr (i := 7) hl (by decide), hA 7 (by decide)⟩ hk (by decide)
theorem wD_s7 (hx : x = nI k) (hl : 154 < hp.length) (hA : aOK A) (hk : k < 216) : am_sx (wD hp I A) 149 x y = some (wD hp I (updA A 7 ((A 7).set k y))) := by
  have h1 : am_sx (wD hp I A) (142 + 7) (nI k) y = some ((wD hp I A).set (142 + 7) (.inl ((A 7).set k y))) := am_sx_nI ⟨wD_arr (i := 7) hl (by decide), hA 7 (by decide)⟩ hk (by decide)
  rw [wD, wAs_set (by decide)] at h1
  rw [hx]
  exact h1
theorem wD_l8 (hx : x = nI k) (hl : 154 < hp.length) (hA : aOK A) (hk : k < 27) : am_ld (wD hp I A) 150 x = some ((A 8).getD k 0) := by rw [hx]; exact am_ld_nI ⟨wD_arr (i := 8) hl (by decide), hA 8 (by decide)⟩ hk (by decide)
theorem wD_s8 (hx : x = nI k) (hl : 154 < hp.length) (hA : aOK A) (hk : k < 27) : am_sx (wD hp I A) 150 x y = some (wD hp I (updA A 8 ((A 8).set k y))) := by
  have h1 : am_sx (wD hp I A) (142 + 8) (nI k) y = some ((wD hp I A).set (142 + 8) (.inl ((A 8).set k y))) := am_sx_nI ⟨wD_arr (i := 8) hl (by decide), hA 8 (by decide)⟩ hk (by decide)
  rw [wD, wAs_set (by decide)] at h1
  rw [hx]
  exact h1
theorem wD_l9 (hx : x = nI k) (hl : 154 < hp.length) (hA : aOK A) (hk : k < 8) : am_ld (wD hp I A) 151 x = some ((A 9).getD k 0) := by rw [hx]; exact am_ld_nI ⟨wD_arr (i := 9) hl (by decide), hA 9 (by decide)⟩ hk (by decide)
theorem wD_s9 (hx : x = nI k) (hl : 154 < hp.length) (hA : aOK A) (hk : k < 8) : am_sx (wD hp I A) 151 x y = some (wD hp I (updA A 9 ((A 9).set k y))) := by
  have h1 : am_sx (wD hp I A) (142 + 9) (nI k) y = some ((wD hp I A).set (142 + 9) (.inl ((A 9).set k y))) := am_sx_nI ⟨wD_arr (i := 9) hl (by decide), hA 9 (by decide)⟩ hk (by decide)
  rw [wD, wAs_set (by decide)] at h1
  rw [hx]
  exact h1
theorem wD_l10 (hx : x = nI k) (hl : 154 < hp.length) (hA : aOK A) (hk : k < 8) : am_ld (wD hp I A) 152 x = some ((A 10).getD k 0) := by rw [hx]; exact am_ld_nI ⟨wD_arr (i := 10) hl (by decide), hA 10 (by decide)⟩ hk (by decide)
theorem wD_s10 (hx : x = nI k) (hl : 154 < hp.length) (hA : aOK A) (hk : k < 8) : am_sx (wD hp I A) 152 x y = some (wD hp I (updA A 10 ((A 10).set k y))) := by
  have h1 : am_sx (wD hp I A) (142 + 10) (nI k) y = some ((wD hp I A).set (142 + 10) (.inl ((A 10).set k y))) := am_sx_nI ⟨wD_arr (i := 10) hl (by decide), hA 10 (by decide)⟩ hk (by decide)
  rw [wD, wAs_set (by decide)] at h1
  rw [hx]
  exact h1
theorem wD_l11 (hx : x = nI k) (hl : 154 < hp.length) (hA : aOK A) (hk : k < 8) : am_ld (wD hp I A) 153 x = some ((A 11).getD k 0) := by rw [hx]; exact am_ld_nI ⟨wD_arr (i := 11) hl (by decide), hA 11 (by decide)⟩ hk (by decide)
theorem wD_s11 (hx : x = nI k) (hl : 154 < hp.length) (hA : aOK A) (hk : k < 8) : am_sx (wD hp I A) 153 x y = some (wD hp I (updA A 11 ((A 11).set k y))) := by
  have h1 : am_sx (wD hp I A) (142 + 11) (nI k) y = some ((wD hp I A).set (142 + 11) (.inl ((A 11).set k y))) := am_sx_nI ⟨wD_arr (i := 11) hl (by decide), hA 11 (by decide)⟩ hk (by decide)
  rw [wD, wAs_set (by decide)] at h1
  rw [hx]
  exact h1
theorem wD_l12 (hx : x = nI k) (hl : 154 < hp.length) (hA : aOK A) (hk : k < 54) : am_ld (wD hp I A) 154 x = some ((A 12).getD k 0) := by rw [hx]; exact am_ld_nI ⟨wD_arr (i := 12) hl (by decide), hA 12 (by decide)⟩ hk (by decide)
theorem wD_s12 (hx : x = nI k) (hl : 154 < hp.length) (hA : aOK A) (hk : k < 54) : am_sx (wD hp I A) 154 x y = some (wD hp I (updA A 12 ((A 12).set k y))) := by
  have h1 : am_sx (wD hp I A) (142 + 12) (nI k) y = some ((wD hp I A).set (142 + 12) (.inl ((A 12).set k y))) := am_sx_nI ⟨wD_arr (i := 12) hl (by decide), hA 12 (by decide)⟩ hk (by decide)
  rw [wD, wAs_set (by decide)] at h1
  rw [hx]
  exact h1
end MDL
