/-! THE TEXT: letters, numbers read, its length, where it is read -/
abbrev am_Tx : Type := List Nat × List Nat × Nat × Nat
def tLn (t : am_Tx) : Nat := t.2.2.1
def tAt (t : am_Tx) : Nat := t.2.2.2
def tC (t : am_Tx) (i : Nat) : Nat := t.1.getD i 0
def tN (t : am_Tx) (i : Nat) : Nat := t.2.1.getD i 0
def tOK (t : am_Tx) : Prop := t.1.length = 200 ∧ t.2.1.length = 4 ∧ tLn t ≤ 200 ∧ tAt t < 1000 ∧ (∀ i, tC t i < 128) ∧ (∀ i, tN t i < 100)
def tObj (x : Nat) (t : am_Tx) : Nat × List Value := (5, [.ref (x + 1), .ref (x + 2), .int (nI (tLn t)), .int (nI (tAt t))])
def isX (hp : am_H) (x : Nat) (t : am_Tx) : Prop := am_obj hp x = some (tObj x t) ∧ am_arr hp (x + 1) = some (t.1.map nI) ∧ am_arr hp (x + 2) = some (t.2.1.map nI) ∧ tOK t
def wX (hp : am_H) (x : Nat) (t : am_Tx) : am_H := ((hp.set x (.inr (.inr (tObj x t)))).set (x + 1) (.inl (t.1.map nI))).set (x + 2) (.inl (t.2.1.map nI))
theorem getD_map {l : List Nat} {i : Nat} (h : i < l.length) : (l.map nI).getD i 0 = nI (l.getD i 0) := by
  simp [List.getD_eq_getElem?_getD, List.getElem?_map, List.getElem?_eq_getElem h]
def tSetAt (t : am_Tx) (n : Nat) : am_Tx := (t.1, t.2.1, t.2.2.1, n)
def tSetLn (t : am_Tx) (n : Nat) : am_Tx := (t.1, t.2.1, n, t.2.2.2)
def tSetN (t : am_Tx) (i n : Nat) : am_Tx := (t.1, t.2.1.set i n, t.2.2)
def tSetC (t : am_Tx) (i n : Nat) : am_Tx := (t.1.set i n, t.2)
section TXT
variable {hp : am_H} {x i n b : Nat} {t : am_Tx}
theorem isX.cl (h : isX hp x t) : am_isC hp x 5 = true := am_isC_of h.1
theorem isX.f0 (h : isX hp x t) : am_fld hp x 5 0 = some (.ref (x + 1)) := am_fld_of h.1
theorem isX.f1 (h : isX hp x t) : am_fld hp x 5 1 = some (.ref (x + 2)) := am_fld_of h.1
theorem isX.f2 (h : isX hp x t) : am_fld hp x 5 2 = some (.int (nI (tLn t))) := am_fld_of h.1
theorem isX.f3 (h : isX hp x t) : am_fld hp x 5 3 = some (.int (nI (tAt t))) := am_fld_of h.1
theorem isX.lc (h : isX hp x t) (hi : i < 200) : am_ld hp (x + 1) (nI i) = some (nI (tC t i)) := by
  rw [am_ld_nI (n := 200) ⟨h.2.1, by rw [List.length_map]; exact h.2.2.2.1⟩ hi (by decide), getD_map (by rw [h.2.2.2.1]; exact hi)]; rfl
theorem isX.ln (h : isX hp x t) (hi : i < 4) : am_ld hp (x + 2) (nI i) = some (nI (tN t i)) := by
  rw [am_ld_nI (n := 4) ⟨h.2.2.1, by rw [List.length_map]; exact h.2.2.2.2.1⟩ hi (by decide), getD_map (by rw [h.2.2.2.2.1]; exact hi)]; rfl
theorem wX_len : (wX hp x t).length = hp.length := by simp [wX]
theorem wX_get (hb : b < x ∨ x + 2 < b) : (wX hp x t)[b]? = hp[b]? := by
  unfold wX
  rw [List.getElem?_set_ne (by omega), List.getElem?_set_ne (by omega), List.getElem?_set_ne (by omega)]
theorem isX_wX (hx : x + 2 < hp.length) (ht : tOK t) : isX (wX hp x t) x t := by
  have l0 : x < hp.length := by omega
  have l1 : x + 1 < hp.length := by omega
  refine ⟨?_, ?_, ?_, ht⟩
  · simp [am_obj, wX, List.getElem?_set, l0]
  · simp [am_arr, wX, List.getElem?_set, l1]
  · simp [am_arr, wX, List.getElem?_set, hx]
theorem wX_self (h : isX hp x t) : wX hp x t = hp := by
  unfold wX
  rw [set_self (am_obj_get h.1), set_self (am_arr_get h.2.1), set_self (am_arr_get h.2.2.1)]
theorem wX_p3 (hx : x + 2 < hp.length) (ht : tOK t) : am_pf (wX hp x t) x 5 3 (.int (nI n)) = some (wX hp x (tSetAt t n)) := by
  rw [am_pf_of (isX_wX hx ht).1 (show _ < 4 by decide)]
  unfold wX
  rw [List.set_comm _ _ (show x + 2 ≠ x by omega), List.set_comm _ _ (show x + 1 ≠ x by omega), List.set_set]
  rfl
theorem wX_p2 (hx : x + 2 < hp.length) (ht : tOK t) : am_pf (wX hp x t) x 5 2 (.int (nI n)) = some (wX hp x (tSetLn t n)) := by
  rw [am_pf_of (isX_wX hx ht).1 (show _ < 4 by decide)]
  unfold wX
  rw [List.set_comm _ _ (show x + 2 ≠ x by omega), List.set_comm _ _ (show x + 1 ≠ x by omega), List.set_set]
  rfl
theorem wX_sN (hx : x + 2 < hp.length) (ht : tOK t) (hi : i < 4) : am_sx (wX hp x t) (x + 2) (nI i) (nI n) = some (wX hp x (tSetN t i n)) := by
  have h := isX_wX hx ht
  rw [am_sx_nI (n := 4) ⟨h.2.2.1, by rw [List.length_map]; exact ht.2.1⟩ hi (by decide)]
  unfold wX
  rw [List.set_set, ← List.map_set]
  rfl
theorem wX_sC (hx : x + 2 < hp.length) (ht : tOK t) (hi : i < 200) : am_sx (wX hp x t) (x + 1) (nI i) (nI n) = some (wX hp x (tSetC t i n)) := by
  have h := isX_wX hx ht
  rw [am_sx_nI (n := 200) ⟨h.2.1, by rw [List.length_map]; exact ht.1⟩ hi (by decide)]
  unfold wX
  rw [List.set_comm _ _ (show x + 2 ≠ x + 1 by omega), List.set_set, ← List.map_set]
  rfl
end TXT
theorem getD_setN {xs : List Nat} {i j y : Nat} : (xs.set i y).getD j 0 = if i = j ∧ i < xs.length then y else xs.getD j 0 := by
  simp only [List.getD_eq_getElem?_getD, List.getElem?_set]
  by_cases e : i = j
  · subst e
    by_cases hl : i < xs.length
    · simp [hl]
    · simp [hl]
  · simp [e]
theorem tOK.At {t : am_Tx} {n : Nat} (h : tOK t) (hn : n < 1000) : tOK (tSetAt t n) := ⟨h.1, h.2.1, h.2.2.1, hn, h.2.2.2.2⟩
theorem tOK.Ln {t : am_Tx} {n : Nat} (h : tOK t) (hn : n ≤ 200) : tOK (tSetLn t n) := ⟨h.1, h.2.1, hn, h.2.2.2⟩
theorem tOK.N {t : am_Tx} {i n : Nat} (h : tOK t) (hn : n < 100) : tOK (tSetN t i n) := ⟨h.1, (List.length_set).trans h.2.1, h.2.2.1, h.2.2.2.1, h.2.2.2.2.1, fun j => by
  show (t.2.1.set i n).getD j 0 < 100
  rw [getD_setN]
  split
  · exact hn
  · exact h.2.2.2.2.2 j⟩
theorem tOK.C {t : am_Tx} {i n : Nat} (h : tOK t) (hn : n < 128) : tOK (tSetC t i n) := ⟨(List.length_set).trans h.1, h.2.1, h.2.2.1, h.2.2.2.1, fun j => by
  show (t.1.set i n).getD j 0 < 128
  rw [getD_setN]
  split
  · exact hn
  · exact h.2.2.2.2.1 j, h.2.2.2.2.2⟩
theorem s_append {d x n : Nat} {hp : am_H} {t : am_Tx} (hx : x + 2 < hp.length) (ht : tOK t) (hn : n < 128) : am_E d 39 0 [some (.ref x), some (.int (nI n))] [] (wX hp x t) = if tLn t < 200 then some (some (.int 1), wX hp x (tSetLn (tSetC t (tLn t) n) (tLn t + 1))) else some (some (.int 0), wX hp x t) := by
  have h := isX_wX hx ht
  have hl := ht.2.2.1
  by_cases q : tLn t < 200
  · have t1 := ht.C (i := tLn t) hn
    have h1 := isX_wX hx t1
    have f2 : am_fld (wX hp x (tSetC t (tLn t) n)) x 5 2 = some (.int (nI (tLn t))) := h1.f2
    simp (disch := first | exact nl_int | exact nl_ref | exact nl_none | exact Nat.le_of_ble_eq_true rfl | assumption | exact cat_int | exact cat_ref | exact z2 | exact z4 | exact z3 | exact z5 | exact z6 | exact z8 | exact z64) only [e_39_0, e_39_1, e_39_4, e_39_7, e_39_10, e_39_11, e_39_11_1, e_39_12, e_39_13, e_39_16, e_39_17, e_39_20, e_39_21, e_39_22, e_39_23, e_39_24, e_39_27, e_39_28, e_39_29, e_39_32, e_39_33, e_39_33_1, nl_int, nl_ref, nl_none, cat_int, cat_ref, cat_0, cat_i, cat_r, cat_l, Option.elim_some, Option.elim_none, Option.bind_some, Option.bind_none, Option.toList_some, Option.toList_none, List.cons_append, List.nil_append, Nat.reduceAdd, Nat.reduceLeDiff, h.f2, h.f0, wX_sC hx ht q, f2, nI_1, wX_p2 hx t1, ltT (x := 200) (c := 200) rfl q (by decide), if_true, if_pos q]
  · simp (disch := first | exact nl_int | exact nl_ref | exact nl_none | exact Nat.le_of_ble_eq_true rfl | assumption | exact cat_int | exact cat_ref | exact z2 | exact z4 | exact z3 | exact z5 | exact z6 | exact z8 | exact z64) only [e_39_0, e_39_1, e_39_4, e_39_7, e_39_10, e_39_11, e_39_11_1, e_39_12, e_39_13, e_39_16, e_39_17, e_39_20, e_39_21, e_39_22, e_39_23, e_39_24, e_39_27, e_39_28, e_39_29, e_39_32, e_39_33, e_39_33_1, nl_int, nl_ref, nl_none, cat_int, cat_ref, cat_0, cat_i, cat_r, cat_l, Option.elim_some, Option.elim_none, Option.bind_some, Option.bind_none, Option.toList_some, Option.toList_none, List.cons_append, List.nil_append, Nat.reduceAdd, Nat.reduceLeDiff, h.f2, ltF (x := 200) (c := 200) rfl (show 200 ≤ tLn t by omega) (by omega), if_false, if_neg q]
/-- the letter that is read: 128 for none -/
def tHere (t : am_Tx) : Int32 := if tAt t < tLn t then nI (tC t (tAt t)) else -1
theorem s_letterHere {d x : Nat} {hp : am_H} {t : am_Tx} (h : isX hp x t) : am_E d 44 0 [some (.ref x)] [] hp = some (some (.int (tHere t)), hp) := by
  have ht := h.2.2.2
  have hl := ht.2.2.1
  have ha := ht.2.2.2.1
  unfold tHere
  by_cases q : tAt t < tLn t
  · simp (disch := first | exact nl_int | exact nl_ref | exact nl_none | exact Nat.le_of_ble_eq_true rfl | assumption | exact cat_int | exact cat_ref | exact z2 | exact z4 | exact z3 | exact z5 | exact z6 | exact z8 | exact z64) only [e_44_0, e_44_1, e_44_4, e_44_7, e_44_8, e_44_11, e_44_12, e_44_15, e_44_18, e_44_19, e_44_22, e_44_25, e_44_28, e_44_29, e_44_32, e_44_33, e_44_36, e_44_37, e_44_40, e_44_41, nl_int, nl_ref, nl_none, cat_int, cat_ref, cat_0, cat_i, cat_r, cat_l, Option.elim_some, Option.elim_none, Option.bind_some, Option.bind_none, Option.toList_some, Option.toList_none, List.cons_append, List.nil_append, Nat.reduceAdd, Nat.reduceLeDiff, h.f2, h.f3, h.f0, ngF (show tAt t < 2 ^ 31 by omega), ltT (x := nI (tLn t)) (c := tLn t) rfl q (by omega), ltT (x := 200) (c := 200) rfl (show tAt t < 200 by omega) (by decide), if_true, if_false, h.lc (show tAt t < 200 by omega), if_pos q]
  · simp (disch := first | exact nl_int | exact nl_ref | exact nl_none | exact Nat.le_of_ble_eq_true rfl | assumption | exact cat_int | exact cat_ref | exact z2 | exact z4 | exact z3 | exact z5 | exact z6 | exact z8 | exact z64) only [e_44_0, e_44_1, e_44_4, e_44_7, e_44_8, e_44_11, e_44_12, e_44_15, e_44_18, e_44_19, e_44_22, e_44_25, e_44_28, e_44_29, e_44_32, e_44_33, e_44_36, e_44_37, e_44_40, e_44_41, nl_int, nl_ref, nl_none, cat_int, cat_ref, cat_0, cat_i, cat_r, cat_l, Option.elim_some, Option.elim_none, Option.bind_some, Option.bind_none, Option.toList_some, Option.toList_none, List.cons_append, List.nil_append, Nat.reduceAdd, Nat.reduceLeDiff, h.f2, h.f3, ngF (show tAt t < 2 ^ 31 by omega), ltF (x := nI (tLn t)) (c := tLn t) rfl (show tLn t ≤ tAt t by omega) (by omega), if_false, if_neg q]
/-- a figure at a place -/
def tFig (t : am_Tx) (a : Nat) : Option Nat := if a < tLn t ∧ 48 ≤ tC t a ∧ tC t a ≤ 57 then some (tC t a - 48) else none
/-- a number from a place on, and where it ends -/
def tNum (t : am_Tx) (a : Nat) : Option (Nat × Nat) := match tFig t a with
  | none => none
  | some u => match tFig t (a + 1) with
    | none => some (u, a + 1)
    | some v => some (10 * u + v, a + 2)
theorem tFig_lt {t : am_Tx} {a u : Nat} (h : tFig t a = some u) : u ≤ 9 ∧ a < tLn t ∧ tC t a = u + 48 := by
  unfold tFig at h
  split at h
  · cases h; omega
  · cases h
theorem tFig_at {t : am_Tx} {n a : Nat} : tFig (tSetAt t n) a = tFig t a := rfl
theorem tHere_fig {t : am_Tx} (ht : tOK t) : (tFig t (tAt t) = none ∧ (tHere t - 48 < 0 ∨ 9 < tHere t - 48)) ∨ ∃ u, tFig t (tAt t) = some u ∧ tHere t - 48 = nI u := by
  have hc := ht.2.2.2.2.1 (tAt t)
  unfold tFig tHere
  by_cases q : tAt t < tLn t
  · rw [if_pos q]
    by_cases q1 : 48 ≤ tC t (tAt t)
    · have e : nI (tC t (tAt t)) - 48 = nI (tC t (tAt t) - 48) := pk_sub q1
      rw [e]
      by_cases q2 : tC t (tAt t) ≤ 57
      · exact Or.inr ⟨_, if_pos ⟨q, q1, q2⟩, rfl⟩
      · exact Or.inl ⟨if_neg (fun z => q2 z.2.2), Or.inr (nI_lt (show 9 < tC t (tAt t) - 48 by omega) (by omega))⟩
    · exact Or.inl ⟨if_neg (fun z => q1 z.2.1), Or.inl (pk_sneg (a := tC t (tAt t)) (b := 48) (by decide) (Nat.not_le.mp q1))⟩
  · rw [if_neg q]
    exact Or.inl ⟨if_neg (fun z => q z.1), Or.inl (by decide)⟩
