/-! numbers, items -/
theorem s_readNumber {d x : Nat} {hp : am_H} {t : am_Tx} (hx : x + 2 < hp.length) (ht : tOK t) (ha : tAt t < 900) : am_E (d + 1) 43 0 [some (.ref x), none, none, none] [] (wX hp x t) = match tNum t (tAt t) with
    | none => some (some (.int (-1)), wX hp x t)
    | some q => some (some (.int (nI q.1)), wX hp x (tSetAt t q.2)) := by
  have stC : ∀ (y : Int32) (z : Option Value) (h9 : am_H), am_E (d + 1) 43 4 [some (.ref x), some (.int y), some (.int 2), z] [] h9 = some (some (.int y), h9) := by
    intro y z h9
    rw [e_43_4]
    simp (disch := first | exact nl_int | exact nl_ref | exact nl_none | exact Nat.le_of_ble_eq_true rfl | assumption | exact cat_int | exact cat_ref | exact z2 | exact z4 | exact z3 | exact z5 | exact z6 | exact z8 | exact z64) only [e_43_0, e_43_1, e_43_2, e_43_3, e_43_5, e_43_6, e_43_9, e_43_10, e_43_13, e_43_15, e_43_16, e_43_17, e_43_18, e_43_21, e_43_22, e_43_24, e_43_27, e_43_28, e_43_29, e_43_30, e_43_33, e_43_34, e_43_37, e_43_39, e_43_40, e_43_41, e_43_42, e_43_43, e_43_44, e_43_45, e_43_46, e_43_49, e_43_50, e_43_51, e_43_54, e_43_57, e_43_60, e_43_61, nl_int, nl_ref, nl_none, cat_int, cat_ref, cat_0, cat_i, cat_r, cat_l, Option.elim_some, Option.elim_none, Option.bind_some, Option.bind_none, Option.toList_some, Option.toList_none, List.cons_append, List.nil_append, Nat.reduceAdd, Nat.reduceLeDiff, show ((2 : Int32) < 2) = False from eq_false (by decide), if_false]
  have stB : ∀ (t : am_Tx) (u : Nat) (z : Option Value), tOK t → tAt t < 950 → u ≤ 9 → am_E (d + 1) 43 4 [some (.ref x), some (.int (nI u)), some (.int 1), z] [] (wX hp x t) = match tFig t (tAt t) with
      | none => some (some (.int (nI u)), wX hp x t)
      | some v => some (some (.int (nI (10 * u + v))), wX hp x (tSetAt t (tAt t + 1))) := by
    intro t u z ht ha hu
    have h := isX_wX hx ht
    have hcl := h.cl
    rw [e_43_4]
    simp (disch := first | exact nl_int | exact nl_ref | exact nl_none | exact Nat.le_of_ble_eq_true rfl | assumption | exact cat_int | exact cat_ref | exact z2 | exact z4 | exact z3 | exact z5 | exact z6 | exact z8 | exact z64) only [e_43_0, e_43_1, e_43_2, e_43_3, e_43_5, e_43_6, e_43_9, e_43_10, e_43_13, e_43_15, e_43_16, e_43_17, e_43_18, e_43_21, e_43_22, e_43_24, e_43_27, e_43_28, e_43_29, e_43_30, e_43_33, e_43_34, e_43_37, e_43_39, e_43_40, e_43_41, e_43_42, e_43_43, e_43_44, e_43_45, e_43_46, e_43_49, e_43_50, e_43_51, e_43_54, e_43_57, e_43_60, e_43_61, nl_int, nl_ref, nl_none, cat_int, cat_ref, cat_0, cat_i, cat_r, cat_l, Option.elim_some, Option.elim_none, Option.bind_some, Option.bind_none, Option.toList_some, Option.toList_none, List.cons_append, List.nil_append, Nat.reduceAdd, Nat.reduceLeDiff, show ((1 : Int32) < 2) = True from eq_true (by decide), if_true, s_letterHere h, ngF (show u < 2 ^ 31 by omega), if_false, h.f3, nI_1, wX_p3 hx ht, show ((1 : Int32) + 1) = 2 from rfl, stC]
    rcases tHere_fig ht with ⟨q1, q2⟩ | ⟨v, q1, q2⟩
    · rw [q1]
      rcases q2 with q2 | q2
      · rw [if_pos q2]
      · split
        · rfl
        · first | rfl | (rw [if_pos q2])
    · have hv := tFig_lt q1
      rw [q1, q2, if_neg (nI_pos (by omega)), if_neg (show ¬ (9 : Int32) < nI v from nI_nlt (a := 9) hv.1 (by decide))]
      dsimp only
      rw [show (10 : Int32) * nI u + nI v = nI (10 * u + v) from by rw [show (10 : Int32) = nI 10 from rfl, pk_mul, nI_add]]
  have h := isX_wX hx ht
  have hcl := h.cl
  simp (disch := first | exact nl_int | exact nl_ref | exact nl_none | exact Nat.le_of_ble_eq_true rfl | assumption | exact cat_int | exact cat_ref | exact z2 | exact z4 | exact z3 | exact z5 | exact z6 | exact z8 | exact z64) only [e_43_0, e_43_1, e_43_2, e_43_3, e_43_5, e_43_6, e_43_9, e_43_10, e_43_13, e_43_15, e_43_16, e_43_17, e_43_18, e_43_21, e_43_22, e_43_24, e_43_27, e_43_28, e_43_29, e_43_30, e_43_33, e_43_34, e_43_37, e_43_39, e_43_40, e_43_41, e_43_42, e_43_43, e_43_44, e_43_45, e_43_46, e_43_49, e_43_50, e_43_51, e_43_54, e_43_57, e_43_60, e_43_61, nl_int, nl_ref, nl_none, cat_int, cat_ref, cat_0, cat_i, cat_r, cat_l, Option.elim_some, Option.elim_none, Option.bind_some, Option.bind_none, Option.toList_some, Option.toList_none, List.cons_append, List.nil_append, Nat.reduceAdd, Nat.reduceLeDiff]
  rw [e_43_4]
  simp (disch := first | exact nl_int | exact nl_ref | exact nl_none | exact Nat.le_of_ble_eq_true rfl | assumption | exact cat_int | exact cat_ref | exact z2 | exact z4 | exact z3 | exact z5 | exact z6 | exact z8 | exact z64) only [e_43_0, e_43_1, e_43_2, e_43_3, e_43_5, e_43_6, e_43_9, e_43_10, e_43_13, e_43_15, e_43_16, e_43_17, e_43_18, e_43_21, e_43_22, e_43_24, e_43_27, e_43_28, e_43_29, e_43_30, e_43_33, e_43_34, e_43_37, e_43_39, e_43_40, e_43_41, e_43_42, e_43_43, e_43_44, e_43_45, e_43_46, e_43_49, e_43_50, e_43_51, e_43_54, e_43_57, e_43_60, e_43_61, nl_int, nl_ref, nl_none, cat_int, cat_ref, cat_0, cat_i, cat_r, cat_l, Option.elim_some, Option.elim_none, Option.bind_some, Option.bind_none, Option.toList_some, Option.toList_none, List.cons_append, List.nil_append, Nat.reduceAdd, Nat.reduceLeDiff, show ((0 : Int32) < 2) = True from eq_true (by decide), if_true, s_letterHere h, show ((-1 : Int32) < 0) = True from eq_true (by decide), h.f3, nI_1, wX_p3 hx ht, show ((0 : Int32) + 1) = 1 from rfl]
  rcases tHere_fig ht with ⟨q1, q2⟩ | ⟨u, q1, q2⟩
  · unfold tNum
    rw [q1]
    rcases q2 with q2 | q2
    · rw [if_pos q2]
    · split
      · rfl
      · first | rfl | (rw [if_pos q2])
  · have hu := tFig_lt q1
    unfold tNum
    rw [q1, q2, if_neg (nI_pos (by omega)), if_neg (show ¬ (9 : Int32) < nI u from nI_nlt (a := 9) hu.1 (by decide)), stB _ u _ (ht.At (by omega)) (show tAt t + 1 < 950 by omega) hu.1]
    dsimp only
    rw [show tAt (tSetAt t (tAt t + 1)) = tAt t + 1 from rfl, tFig_at]
    cases tFig t (tAt t + 1) with
    | none => rfl
    | some v => rfl
theorem tNum_lt {t : am_Tx} {a : Nat} {q : Nat × Nat} (h : tNum t a = some q) : q.1 < 100 ∧ a < q.2 ∧ q.2 ≤ a + 2 ∧ q.2 ≤ tLn t := by
  unfold tNum at h
  split at h
  · cases h
  · rename_i u hu
    have h1 := tFig_lt hu
    split at h
    · cases h; dsimp only; omega
    · rename_i v hv
      have h2 := tFig_lt hv
      cases h; dsimp only; omega
/-- k numbers are read already; n more: did it go, the text behind it -/
def tNums (many : Nat) : Nat → Nat → am_Tx → Bool × am_Tx
  | _, 0, t => (true, t)
  | k, n + 1, t => match tNum t (tAt t) with
    | none => (false, t)
    | some q => if q.2 < tLn t ∧ tC t q.2 = (if k + 1 = many then 59 else 44) then tNums many (k + 1) n (tSetAt (tSetN (tSetAt t q.2) k q.1) (q.2 + 1)) else (false, tSetAt t q.2)
theorem s_readNumbers {d x many : Nat} {hp : am_H} {t : am_Tx} (hx : x + 2 < hp.length) (ht : tOK t) (ha : tAt t < 800) (hm : many ≤ 4) : am_E (d + 2) 42 0 [some (.ref x), some (.int (nI many)), none, none, none] [] (wX hp x t) = some (some (.int (b2 (tNums many 0 many t).1)), wX hp x (tNums many 0 many t).2) := by
  have key : ∀ n k t y3 y4, k + n = many → tOK t → tAt t < 800 + 3 * k → am_E (d + 2) 42 2 [some (.ref x), some (.int (nI many)), some (.int (nI k)), y3, y4] [] (wX hp x t) = some (some (.int (b2 (tNums many k n t).1)), wX hp x (tNums many k n t).2) := by
    intro n
    induction n with
    | zero =>
      intro k t y3 y4 hk ht ha
      rw [e_42_2]
      simp (disch := first | exact nl_int | exact nl_ref | exact nl_none | exact Nat.le_of_ble_eq_true rfl | assumption | exact cat_int | exact cat_ref | exact z2 | exact z4 | exact z3 | exact z5 | exact z6 | exact z8 | exact z64) only [e_42_0, e_42_1, e_42_3, e_42_4, e_42_7, e_42_8, e_42_9, e_42_12, e_42_13, e_42_16, e_42_17, e_42_18, e_42_19, e_42_20, e_42_21, e_42_24, e_42_26, e_42_29, e_42_31, e_42_33, e_42_34, e_42_37, e_42_38, e_42_41, e_42_43, e_42_46, e_42_47, e_42_47_1, e_42_48, e_42_49, e_42_52, e_42_53, e_42_54, e_42_55, e_42_56, e_42_57, e_42_60, e_42_61, e_42_62, e_42_65, e_42_68, e_42_71, e_42_72, e_42_72_1, nl_int, nl_ref, nl_none, cat_int, cat_ref, cat_0, cat_i, cat_r, cat_l, Option.elim_some, Option.elim_none, Option.bind_some, Option.bind_none, Option.toList_some, Option.toList_none, List.cons_append, List.nil_append, Nat.reduceAdd, Nat.reduceLeDiff, ltF (x := nI many) (c := many) rfl (show many ≤ k by omega) (by omega), if_false]
      rfl
    | succ n ih =>
      intro k t y3 y4 hk ht ha
      have h := isX_wX hx ht
      have hcl := h.cl
      have e1 : nI many - 1 = nI (many - 1) := pk_sub (a := many) (b := 1) (by omega)
      rw [e_42_2]
      simp (disch := first | exact nl_int | exact nl_ref | exact nl_none | exact Nat.le_of_ble_eq_true rfl | assumption | exact cat_int | exact cat_ref | exact z2 | exact z4 | exact z3 | exact z5 | exact z6 | exact z8 | exact z64) only [e_42_0, e_42_1, e_42_3, e_42_4, e_42_7, e_42_8, e_42_9, e_42_12, e_42_13, e_42_16, e_42_17, e_42_18, e_42_19, e_42_20, e_42_21, e_42_24, e_42_26, e_42_29, e_42_31, e_42_33, e_42_34, e_42_37, e_42_38, e_42_41, e_42_43, e_42_46, e_42_47, e_42_47_1, e_42_48, e_42_49, e_42_52, e_42_53, e_42_54, e_42_55, e_42_56, e_42_57, e_42_60, e_42_61, e_42_62, e_42_65, e_42_68, e_42_71, e_42_72, e_42_72_1, nl_int, nl_ref, nl_none, cat_int, cat_ref, cat_0, cat_i, cat_r, cat_l, Option.elim_some, Option.elim_none, Option.bind_some, Option.bind_none, Option.toList_some, Option.toList_none, List.cons_append, List.nil_append, Nat.reduceAdd, Nat.reduceLeDiff, ltT (x := nI many) (c := many) rfl (show k < many by omega) (by omega), ltT (x := 4) (c := 4) rfl (show k < 4 by omega) (by decide), if_true, s_readNumber hx ht (show tAt t < 900 by omega), e1, eqI (show k < 2 ^ 31 by omega) (show many - 1 < 2 ^ 31 by omega)]
      rw [tNums]
      cases hq : tNum t (tAt t) with
      | none =>
        simp (disch := first | exact nl_int | exact nl_ref | exact nl_none | exact Nat.le_of_ble_eq_true rfl | assumption | exact cat_int | exact cat_ref | exact z2 | exact z4 | exact z3 | exact z5 | exact z6 | exact z8 | exact z64) only [e_42_0, e_42_1, e_42_3, e_42_4, e_42_7, e_42_8, e_42_9, e_42_12, e_42_13, e_42_16, e_42_17, e_42_18, e_42_19, e_42_20, e_42_21, e_42_24, e_42_26, e_42_29, e_42_31, e_42_33, e_42_34, e_42_37, e_42_38, e_42_41, e_42_43, e_42_46, e_42_47, e_42_47_1, e_42_48, e_42_49, e_42_52, e_42_53, e_42_54, e_42_55, e_42_56, e_42_57, e_42_60, e_42_61, e_42_62, e_42_65, e_42_68, e_42_71, e_42_72, e_42_72_1, nl_int, nl_ref, nl_none, cat_int, cat_ref, cat_0, cat_i, cat_r, cat_l, Option.elim_some, Option.elim_none, Option.bind_some, Option.bind_none, Option.toList_some, Option.toList_none, List.cons_append, List.nil_append, Nat.reduceAdd, Nat.reduceLeDiff, show ((-1 : Int32) < 0) = True from eq_true (by decide), if_true]
        split <;> rfl
      | some q =>
        have hl := tNum_lt hq
        have hln := ht.2.2.1
        have t1 : tOK (tSetAt t q.2) := ht.At (by omega)
        have h1 := isX_wX hx t1
        have hcl1 := h1.cl
        have t2 : tOK (tSetN (tSetAt t q.2) k q.1) := t1.N hl.1
        have h2 := isX_wX hx t2
        have f3 : am_fld (wX hp x (tSetN (tSetAt t q.2) k q.1)) x 5 3 = some (.int (nI q.2)) := h2.f3
        have hc := ht.2.2.2.2.1 q.2
        have ht3 : tOK (tSetAt (tSetN (tSetAt t q.2) k q.1) (q.2 + 1)) := t2.At (by omega)
        have ih2 := fun y3 y4 => ih (k + 1) (tSetAt (tSetN (tSetAt t q.2) k q.1) (q.2 + 1)) y3 y4 (by omega) ht3 (show q.2 + 1 < 800 + 3 * (k + 1) by omega)
        have hhere : tHere (tSetAt t q.2) = if q.2 < tLn t then nI (tC t q.2) else -1 := rfl
        simp (disch := first | exact nl_int | exact nl_ref | exact nl_none | exact Nat.le_of_ble_eq_true rfl | assumption | exact cat_int | exact cat_ref | exact z2 | exact z4 | exact z3 | exact z5 | exact z6 | exact z8 | exact z64) only [e_42_0, e_42_1, e_42_3, e_42_4, e_42_7, e_42_8, e_42_9, e_42_12, e_42_13, e_42_16, e_42_17, e_42_18, e_42_19, e_42_20, e_42_21, e_42_24, e_42_26, e_42_29, e_42_31, e_42_33, e_42_34, e_42_37, e_42_38, e_42_41, e_42_43, e_42_46, e_42_47, e_42_47_1, e_42_48, e_42_49, e_42_52, e_42_53, e_42_54, e_42_55, e_42_56, e_42_57, e_42_60, e_42_61, e_42_62, e_42_65, e_42_68, e_42_71, e_42_72, e_42_72_1, nl_int, nl_ref, nl_none, cat_int, cat_ref, cat_0, cat_i, cat_r, cat_l, Option.elim_some, Option.elim_none, Option.bind_some, Option.bind_none, Option.toList_some, Option.toList_none, List.cons_append, List.nil_append, Nat.reduceAdd, Nat.reduceLeDiff, ngF (show q.1 < 2 ^ 31 by omega), if_false, s_letterHere h1, h1.f1, wX_sN hx t1 (show k < 4 by omega), f3, nI_1, wX_p3 hx t2, ih2, e1, eqI (show k < 2 ^ 31 by omega) (show many - 1 < 2 ^ 31 by omega)]
        rw [hhere]
        by_cases q1 : q.2 < tLn t
        · by_cases q2 : k = many - 1
          · simp only [if_pos q1, if_pos q2, eqN (x := 59) (c := 59) rfl (show tC t q.2 < 2 ^ 31 by omega) (by decide), if_pos (show k + 1 = many by omega)]
            by_cases q3 : tC t q.2 = 59
            · simp only [if_pos q3, if_pos (show q.2 < tLn t ∧ tC t q.2 = 59 from ⟨q1, q3⟩)]
            · simp only [if_neg q3, if_neg (show ¬ (q.2 < tLn t ∧ tC t q.2 = 59) from fun z => q3 z.2)]
              rfl
          · simp only [if_pos q1, if_neg q2, eqN (x := 44) (c := 44) rfl (show tC t q.2 < 2 ^ 31 by omega) (by decide), if_neg (show ¬ k + 1 = many by omega)]
            by_cases q3 : tC t q.2 = 44
            · simp only [if_pos q3, if_pos (show q.2 < tLn t ∧ tC t q.2 = 44 from ⟨q1, q3⟩)]
            · simp only [if_neg q3, if_neg (show ¬ (q.2 < tLn t ∧ tC t q.2 = 44) from fun z => q3 z.2)]
              rfl
        · simp only [if_neg q1, if_neg (show ¬ (q.2 < tLn t ∧ tC t q.2 = (if k + 1 = many then 59 else 44)) from fun z => q1 z.1), show ((-1 : Int32) = 59) = False from eq_false (by decide), show ((-1 : Int32) = 44) = False from eq_false (by decide), if_false]
          split <;> rfl
  simp (disch := first | exact nl_int | exact nl_ref | exact nl_none | exact Nat.le_of_ble_eq_true rfl | assumption | exact cat_int | exact cat_ref | exact z2 | exact z4 | exact z3 | exact z5 | exact z6 | exact z8 | exact z64) only [e_42_0, e_42_1, e_42_3, e_42_4, e_42_7, e_42_8, e_42_9, e_42_12, e_42_13, e_42_16, e_42_17, e_42_18, e_42_19, e_42_20, e_42_21, e_42_24, e_42_26, e_42_29, e_42_31, e_42_33, e_42_34, e_42_37, e_42_38, e_42_41, e_42_43, e_42_46, e_42_47, e_42_47_1, e_42_48, e_42_49, e_42_52, e_42_53, e_42_54, e_42_55, e_42_56, e_42_57, e_42_60, e_42_61, e_42_62, e_42_65, e_42_68, e_42_71, e_42_72, e_42_72_1, nl_int, nl_ref, nl_none, cat_int, cat_ref, cat_0, cat_i, cat_r, cat_l, Option.elim_some, Option.elim_none, Option.bind_some, Option.bind_none, Option.toList_some, Option.toList_none, List.cons_append, List.nil_append, Nat.reduceAdd, Nat.reduceLeDiff]
  exact key many 0 t none none (by omega) ht (by omega)
/-- an item is read: did it go, the text and the city behind it -/
def tItem (t : am_Tx) (c : am_Ci) : Bool × am_Tx × am_Ci :=
  if tC t (tAt t) = 112 then (if (tNums 4 0 4 (tSetAt t (tAt t + 1))).1 = true then (if cPp c < 8 ∧ tN (tNums 4 0 4 (tSetAt t (tAt t + 1))).2 0 ≤ 3 ∧ tN (tNums 4 0 4 (tSetAt t (tAt t + 1))).2 1 ≤ 31 ∧ tN (tNums 4 0 4 (tSetAt t (tAt t + 1))).2 2 ≤ 9 ∧ tN (tNums 4 0 4 (tSetAt t (tAt t + 1))).2 3 < 5 then (true, (tNums 4 0 4 (tSetAt t (tAt t + 1))).2, cPut c (tN (tNums 4 0 4 (tSetAt t (tAt t + 1))).2 0) (tN (tNums 4 0 4 (tSetAt t (tAt t + 1))).2 1) (tN (tNums 4 0 4 (tSetAt t (tAt t + 1))).2 2) (tN (tNums 4 0 4 (tSetAt t (tAt t + 1))).2 3)) else (false, (tNums 4 0 4 (tSetAt t (tAt t + 1))).2, c)) else (false, (tNums 4 0 4 (tSetAt t (tAt t + 1))).2, c))
  else if tC t (tAt t) = 104 then (if (tNums 1 0 1 (tSetAt t (tAt t + 1))).1 = true then (if cPp c + cWk c + cTd c = 0 ∧ 1 ≤ tN (tNums 1 0 1 (tSetAt t (tAt t + 1))).2 0 ∧ tN (tNums 1 0 1 (tSetAt t (tAt t + 1))).2 0 ≤ 5 then (true, (tNums 1 0 1 (tSetAt t (tAt t + 1))).2, cSetHs c (tN (tNums 1 0 1 (tSetAt t (tAt t + 1))).2 0)) else (false, (tNums 1 0 1 (tSetAt t (tAt t + 1))).2, c)) else (false, (tNums 1 0 1 (tSetAt t (tAt t + 1))).2, c))
  else if tC t (tAt t) = 119 then (if (tNums 2 0 2 (tSetAt t (tAt t + 1))).1 = true then (if cWk c < 5 ∧ tN (tNums 2 0 2 (tSetAt t (tAt t + 1))).2 0 < cHs c ∧ 1 ≤ tN (tNums 2 0 2 (tSetAt t (tAt t + 1))).2 1 ∧ tN (tNums 2 0 2 (tSetAt t (tAt t + 1))).2 1 ≤ 30 then (true, (tNums 2 0 2 (tSetAt t (tAt t + 1))).2, cSetWk (cSetWN (cSetWH c (cWk c) (nI (tN (tNums 2 0 2 (tSetAt t (tAt t + 1))).2 0))) (cWk c) (nI (tN (tNums 2 0 2 (tSetAt t (tAt t + 1))).2 1))) (cWk c + 1)) else (false, (tNums 2 0 2 (tSetAt t (tAt t + 1))).2, c)) else (false, (tNums 2 0 2 (tSetAt t (tAt t + 1))).2, c))
  else if tC t (tAt t) = 115 then (if (tNums 1 0 1 (tSetAt t (tAt t + 1))).1 = true then (if cTd c < 8 ∧ tN (tNums 1 0 1 (tSetAt t (tAt t + 1))).2 0 ≤ 31 then (true, (tNums 1 0 1 (tSetAt t (tAt t + 1))).2, cSetTd (cSetSj c (cTd c) (nI (tN (tNums 1 0 1 (tSetAt t (tAt t + 1))).2 0))) (cTd c + 1)) else (false, (tNums 1 0 1 (tSetAt t (tAt t + 1))).2, c)) else (false, (tNums 1 0 1 (tSetAt t (tAt t + 1))).2, c))
  else (false, tSetAt t (tAt t + 1), c)
theorem tNums_ok {many : Nat} : ∀ (n k : Nat) (t : am_Tx), tOK t → tAt t ≤ 210 → tOK (tNums many k n t).2 ∧ tAt t ≤ tAt (tNums many k n t).2 ∧ tAt (tNums many k n t).2 ≤ 210 ∧ tLn (tNums many k n t).2 = tLn t ∧ (tNums many k n t).2.1 = t.1 := by
  intro n
  induction n with
  | zero => intro k t ht ha; exact ⟨ht, Nat.le_refl _, ha, rfl, rfl⟩
  | succ n ih =>
    intro k t ht ha
    rw [tNums]
    cases hq : tNum t (tAt t) with
    | none => exact ⟨ht, Nat.le_refl _, ha, rfl, rfl⟩
    | some q =>
      have hl := tNum_lt hq
      have hln := ht.2.2.1
      dsimp only
      by_cases hc : q.2 < tLn t ∧ tC t q.2 = (if k + 1 = many then 59 else 44)
      · rw [if_pos hc]
        have := ih (k + 1) (tSetAt (tSetN (tSetAt t q.2) k q.1) (q.2 + 1)) (((ht.At (by omega)).N hl.1).At (by omega)) (show q.2 + 1 ≤ 210 by omega)
        refine ⟨this.1, ?_, this.2.2.1, this.2.2.2.1, this.2.2.2.2⟩
        have h2 : q.2 + 1 ≤ tAt (tNums many (k + 1) n (tSetAt (tSetN (tSetAt t q.2) k q.1) (q.2 + 1))).2 := this.2.1
        omega
      · rw [if_neg hc]
        exact ⟨ht.At (by omega), show tAt t ≤ q.2 by omega, show q.2 ≤ 210 by omega, rfl, rfl⟩
theorem wX_setN {hp : am_H} {x a : Nat} {t : am_Tx} {y : am_C} (ha : a < x ∨ x + 2 < a) : (wX hp x t).set a y = wX (hp.set a y) x t := by
  unfold wX
  rw [List.set_comm _ _ (show x + 2 ≠ a by omega), List.set_comm _ _ (show x + 1 ≠ a by omega), List.set_comm _ _ (show x ≠ a by omega)]
theorem wM_wX {hp : am_H} {x k : Nat} {t : am_Tx} {m : am_Mo} (h : x + 2 < k ∨ k + 5 < x) : wM (wX hp x t) k m = wX (wM hp k m) x t := by
  unfold wM
  rw [wX_setN (by omega), wX_setN (by omega), wX_setN (by omega), wX_setN (by omega), wX_setN (by omega), wX_setN (by omega)]
theorem wC_wX {hp : am_H} {x k : Nat} {t : am_Tx} {c : am_Ci} (h : x + 2 < k ∨ k + 9 < x) : wC (wX hp x t) k c = wX (wC hp k c) x t := by
  unfold wC wB
  rw [wX_setN (by omega), wX_setN (by omega), wX_setN (by omega), wX_setN (by omega), wM_wX (by omega)]
