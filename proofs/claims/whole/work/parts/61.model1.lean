/-! THE REFERENCE: small questions; how the two states belong together -/
def inC (x lo hi : Int32) : Bool := if x < lo then false else if hi < x then false else true
theorem toL_lt {x y : Int32} : (x.toInt64 < y.toInt64) = (x < y) := by
  apply propext
  rw [Int64.lt_iff_toInt_lt, Int32.lt_iff_toInt_lt, Int32.toInt_toInt64, Int32.toInt_toInt64]
theorem s7_in {d : Nat} {hp : am_H} {x lo hi : Int32} {a c : Int64} (ha : a = lo.toInt64) (hc : c = hi.toInt64) : am_E d 89 0 [some (.long x.toInt64), none, some (.long a), none, some (.long c), none] [] hp = some (some (.int (b2 (inC x lo hi))), hp) := by
  subst ha hc
  have e1 : (lg_cmp x.toInt64 lo.toInt64 < 0) = (x < lo) := (propext (lg_cmp_lt _ _)).trans toL_lt
  have e2 : (0 < lg_cmp x.toInt64 hi.toInt64) = (hi < x) := (propext (lg_cmp_gt _ _)).trans toL_lt
  unfold inC
  by_cases q1 : x < lo
  · rw [if_pos q1]
    simp (disch := first | exact nl_int | exact nl_ref | exact nl_none | exact Nat.le_of_ble_eq_true rfl | assumption | exact cat_int | exact cat_ref | exact z2 | exact z4 | exact z3 | exact z5 | exact z6 | exact z8 | exact z64) only [e_89_0, e_89_1, e_89_2, e_89_3, e_89_6, e_89_7, e_89_9, e_89_10, e_89_13, e_89_14, e_89_17, e_89_18, e_89_18_1, nl_int, nl_ref, nl_none, cat_int, cat_ref, cat_0, cat_i, cat_r, cat_l, Option.elim_some, Option.elim_none, Option.bind_some, Option.bind_none, Option.toList_some, Option.toList_none, List.cons_append, List.nil_append, Nat.reduceAdd, Nat.reduceLeDiff, e1, if_pos q1, b2_f]
  · rw [if_neg q1]
    by_cases q2 : hi < x
    · rw [if_pos q2]
      simp (disch := first | exact nl_int | exact nl_ref | exact nl_none | exact Nat.le_of_ble_eq_true rfl | assumption | exact cat_int | exact cat_ref | exact z2 | exact z4 | exact z3 | exact z5 | exact z6 | exact z8 | exact z64) only [e_89_0, e_89_1, e_89_2, e_89_3, e_89_6, e_89_7, e_89_9, e_89_10, e_89_13, e_89_14, e_89_17, e_89_18, e_89_18_1, nl_int, nl_ref, nl_none, cat_int, cat_ref, cat_0, cat_i, cat_r, cat_l, Option.elim_some, Option.elim_none, Option.bind_some, Option.bind_none, Option.toList_some, Option.toList_none, List.cons_append, List.nil_append, Nat.reduceAdd, Nat.reduceLeDiff, e1, e2, if_neg q1, if_pos q2, b2_f]
    · rw [if_neg q2]
      simp (disch := first | exact nl_int | exact nl_ref | exact nl_none | exact Nat.le_of_ble_eq_true rfl | assumption | exact cat_int | exact cat_ref | exact z2 | exact z4 | exact z3 | exact z5 | exact z6 | exact z8 | exact z64) only [e_89_0, e_89_1, e_89_2, e_89_3, e_89_6, e_89_7, e_89_9, e_89_10, e_89_13, e_89_14, e_89_17, e_89_18, e_89_18_1, nl_int, nl_ref, nl_none, cat_int, cat_ref, cat_0, cat_i, cat_r, cat_l, Option.elim_some, Option.elim_none, Option.bind_some, Option.bind_none, Option.toList_some, Option.toList_none, List.cons_append, List.nil_append, Nat.reduceAdd, Nat.reduceLeDiff, e1, e2, if_neg q1, if_neg q2, b2_t]
theorem inC_R {x : Int32} {p : Nat} (hp : p < 2 ^ 31) : inC x 0 (nI p - 1) = inR x p := by
  unfold inC inR
  by_cases q : x < 0
  · rw [if_pos q, if_pos q]
  · rw [if_neg q, if_neg q]
    obtain ⟨j, hj, rfl⟩ := nI_of q
    cases p with
    | zero =>
      rw [show nI 0 - 1 = -1 from by decide, if_pos (Int32.lt_of_lt_of_le (b := 0) (by decide) (nI_pos' hj)), show nI 0 = 0 from rfl]
      exact (decide_eq_false q).symm
    | succ p =>
      rw [nI_pred]
      by_cases r : p < j
      · rw [if_pos (nI_lt r hj)]
        exact (decide_eq_false (nI_nlt (by omega) hj)).symm
      · rw [if_neg (nI_nlt (by omega) (by omega))]
        exact (decide_eq_true (nI_lt (by omega) hp)).symm
/-- what the reference holds of a city and its hour, held against the class's -/
def Rl (ct : am_Ci) (nw : am_Mo) (hr : Nat) (B C : List Int32) : Prop :=
  (B.getD 0 0 = nI (cHs ct) ∧ B.getD 1 0 = nI (cWk ct) ∧ B.getD 2 0 = nI (cTd ct)) ∧ (∀ i, i < cPp ct → B.getD (3 + i) 0 = mK nw i) ∧ (∀ k, k < cWk ct → B.getD (11 + 2 * k) 0 = cWH ct k ∧ B.getD (12 + 2 * k) 0 = cWN ct k) ∧ (∀ k, k < cTd ct → B.getD (21 + k) 0 = cSj ct k) ∧ (C.getD 0 0 = nI (cPp ct) ∧ C.getD 1 0 = nI hr ∧ C.getD 2 0 = nw.2.2.2.2.2.2) ∧ (∀ i, i < cPp ct → C.getD (3 + 3 * i) 0 = mO nw i ∧ C.getD (4 + 3 * i) 0 = mT nw i ∧ C.getD (5 + 3 * i) 0 = mH nw i)
section MD1
variable {d : Nat} {hp hp2 : am_H} {I : Nat → Int32} {A : Nat → List Int32} {i j k n b p : Nat} {x y : Int32} {xs : List Int32}
theorem s7_isPerson (hl : 154 < hp.length) (hA : aOK A) (hC : (A 1).getD 0 0 = nI p) (h8 : p ≤ 8) : am_E (d + 1) 93 0 [some (.ref 141), some (.int x)] [] (wD hp I A) = some (some (.int (b2 (inR x p))), wD hp I A) := by
  have e := s7_in (d := d) (hp := wD hp I A) (x := x) (lo := 0) (hi := nI p - 1) (a := 0) (c := (nI p - 1).toInt64) (by decide) rfl
  rw [inC_R (by omega)] at e
  cases hb : inR x p with
  | false =>
    rw [hb, b2_f] at e
    simp (disch := first | exact nl_int | exact nl_ref | exact nl_none | exact Nat.le_of_ble_eq_true rfl | assumption | exact cat_int | exact cat_ref | exact z2 | exact z4 | exact z3 | exact z5 | exact z6 | exact z8 | exact z64) only [e_93_0, e_93_1, e_93_2, e_93_3, e_93_4, e_93_7, e_93_8, e_93_9, e_93_10, e_93_11, e_93_12, e_93_15, e_93_15_1, nl_int, nl_ref, nl_none, cat_int, cat_ref, cat_0, cat_i, cat_r, cat_l, Option.elim_some, Option.elim_none, Option.bind_some, Option.bind_none, Option.toList_some, Option.toList_none, List.cons_append, List.nil_append, Nat.reduceAdd, Nat.reduceLeDiff, wD_f1 hl, wD_l1 (x := 0) (k := 0) rfl hl hA (by decide), hC, e, b2_f]
  | true =>
    rw [hb, b2_t] at e
    simp (disch := first | exact nl_int | exact nl_ref | exact nl_none | exact Nat.le_of_ble_eq_true rfl | assumption | exact cat_int | exact cat_ref | exact z2 | exact z4 | exact z3 | exact z5 | exact z6 | exact z8 | exact z64) only [e_93_0, e_93_1, e_93_2, e_93_3, e_93_4, e_93_7, e_93_8, e_93_9, e_93_10, e_93_11, e_93_12, e_93_15, e_93_15_1, nl_int, nl_ref, nl_none, cat_int, cat_ref, cat_0, cat_i, cat_r, cat_l, Option.elim_some, Option.elim_none, Option.bind_some, Option.bind_none, Option.toList_some, Option.toList_none, List.cons_append, List.nil_append, Nat.reduceAdd, Nat.reduceLeDiff, wD_f1 hl, wD_l1 (x := 0) (k := 0) rfl hl hA (by decide), hC, e, b2_t]
theorem s7_isHouse (hl : 154 < hp.length) (hA : aOK A) (hC : (A 0).getD 0 0 = nI p) (h8 : p ≤ 8) : am_E (d + 1) 94 0 [some (.ref 141), some (.int x)] [] (wD hp I A) = some (some (.int (b2 (inR x p))), wD hp I A) := by
  have e := s7_in (d := d) (hp := wD hp I A) (x := x) (lo := 0) (hi := nI p - 1) (a := 0) (c := (nI p - 1).toInt64) (by decide) rfl
  rw [inC_R (by omega)] at e
  cases hb : inR x p with
  | false =>
    rw [hb, b2_f] at e
    simp (disch := first | exact nl_int | exact nl_ref | exact nl_none | exact Nat.le_of_ble_eq_true rfl | assumption | exact cat_int | exact cat_ref | exact z2 | exact z4 | exact z3 | exact z5 | exact z6 | exact z8 | exact z64) only [e_94_0, e_94_1, e_94_2, e_94_3, e_94_4, e_94_7, e_94_8, e_94_9, e_94_10, e_94_11, e_94_12, e_94_15, e_94_15_1, nl_int, nl_ref, nl_none, cat_int, cat_ref, cat_0, cat_i, cat_r, cat_l, Option.elim_some, Option.elim_none, Option.bind_some, Option.bind_none, Option.toList_some, Option.toList_none, List.cons_append, List.nil_append, Nat.reduceAdd, Nat.reduceLeDiff, wD_f0 hl, wD_l0 (x := 0) (k := 0) rfl hl hA (by decide), hC, e, b2_f]
  | true =>
    rw [hb, b2_t] at e
    simp (disch := first | exact nl_int | exact nl_ref | exact nl_none | exact Nat.le_of_ble_eq_true rfl | assumption | exact cat_int | exact cat_ref | exact z2 | exact z4 | exact z3 | exact z5 | exact z6 | exact z8 | exact z64) only [e_94_0, e_94_1, e_94_2, e_94_3, e_94_4, e_94_7, e_94_8, e_94_9, e_94_10, e_94_11, e_94_12, e_94_15, e_94_15_1, nl_int, nl_ref, nl_none, cat_int, cat_ref, cat_0, cat_i, cat_r, cat_l, Option.elim_some, Option.elim_none, Option.bind_some, Option.bind_none, Option.toList_some, Option.toList_none, List.cons_append, List.nil_append, Nat.reduceAdd, Nat.reduceLeDiff, wD_f0 hl, wD_l0 (x := 0) (k := 0) rfl hl hA (by decide), hC, e, b2_t]
theorem s7_isSubject : am_E (d + 1) 95 0 [some (.int x)] [] hp = some (some (.int (b2 (inR x 5))), hp) := by
  have e := s7_in (d := d) (hp := hp) (x := x) (lo := 0) (hi := nI 5 - 1) (a := 0) (c := 4) (by decide) (by decide)
  rw [inC_R (by decide)] at e
  cases hb : inR x 5 with
  | false =>
    rw [hb, b2_f] at e
    simp (disch := first | exact nl_int | exact nl_ref | exact nl_none | exact Nat.le_of_ble_eq_true rfl | assumption | exact cat_int | exact cat_ref | exact z2 | exact z4 | exact z3 | exact z5 | exact z6 | exact z8 | exact z64) only [e_95_0, e_95_1, e_95_2, e_95_3, e_95_6, e_95_9, e_95_9_1, nl_int, nl_ref, nl_none, cat_int, cat_ref, cat_0, cat_i, cat_r, cat_l, Option.elim_some, Option.elim_none, Option.bind_some, Option.bind_none, Option.toList_some, Option.toList_none, List.cons_append, List.nil_append, Nat.reduceAdd, Nat.reduceLeDiff, e, b2_f]
  | true =>
    rw [hb, b2_t] at e
    simp (disch := first | exact nl_int | exact nl_ref | exact nl_none | exact Nat.le_of_ble_eq_true rfl | assumption | exact cat_int | exact cat_ref | exact z2 | exact z4 | exact z3 | exact z5 | exact z6 | exact z8 | exact z64) only [e_95_0, e_95_1, e_95_2, e_95_3, e_95_6, e_95_9, e_95_9_1, nl_int, nl_ref, nl_none, cat_int, cat_ref, cat_0, cat_i, cat_r, cat_l, Option.elim_some, Option.elim_none, Option.bind_some, Option.bind_none, Option.toList_some, Option.toList_none, List.cons_append, List.nil_append, Nat.reduceAdd, Nat.reduceLeDiff, e, b2_t]
theorem ix3 {a : Nat} : 3 + 3 * nI i = nI (3 + 3 * i) := by
  rw [show (3 : Int32) = nI 3 from rfl, show nI 3 * nI i = nI (3 * i) from (Int32.ofNat_mul 3 i).symm, nI_add]
theorem ix3a : (3 : Int32) + nI i = nI (3 + i) := by rw [show (3 : Int32) = nI 3 from rfl, nI_add]
theorem ix11 : 11 + 2 * nI i = nI (11 + 2 * i) := by
  rw [show (11 : Int32) = nI 11 from rfl, show (2 : Int32) = nI 2 from rfl, show nI 2 * nI i = nI (2 * i) from (Int32.ofNat_mul 2 i).symm, nI_add]
theorem nI_2 (a : Nat) : nI a + 2 = nI (a + 2) := nI_add a 2
theorem s7_opinions (hl : 154 < hp.length) (hA : aOK A) (hi : i < 8) : am_E d 96 0 [some (.ref 141), some (.int (nI i))] [] (wD hp I A) = some (some (.int ((A 1).getD (3 + 3 * i) 0)), wD hp I A) := by
  simp (disch := first | exact nl_int | exact nl_ref | exact nl_none | exact Nat.le_of_ble_eq_true rfl | assumption | exact cat_int | exact cat_ref | exact z2 | exact z4 | exact z3 | exact z5 | exact z6 | exact z8 | exact z64) only [e_96_0, e_96_1, e_96_4, e_96_5, e_96_6, e_96_7, e_96_8, e_96_9, e_96_10, nl_int, nl_ref, nl_none, cat_int, cat_ref, cat_0, cat_i, cat_r, cat_l, Option.elim_some, Option.elim_none, Option.bind_some, Option.bind_none, Option.toList_some, Option.toList_none, List.cons_append, List.nil_append, Nat.reduceAdd, Nat.reduceLeDiff, wD_f1 hl, ix3 (a := 0), wD_l1 (k := 3 + 3 * i) rfl hl hA (show 3 + 3 * i < 27 by omega)]
theorem s7_temper (hl : 154 < hp.length) (hA : aOK A) (hi : i < 8) : am_E d 97 0 [some (.ref 141), some (.int (nI i))] [] (wD hp I A) = some (some (.int ((A 1).getD (3 + 3 * i + 1) 0)), wD hp I A) := by
  simp (disch := first | exact nl_int | exact nl_ref | exact nl_none | exact Nat.le_of_ble_eq_true rfl | assumption | exact cat_int | exact cat_ref | exact z2 | exact z4 | exact z3 | exact z5 | exact z6 | exact z8 | exact z64) only [e_97_0, e_97_1, e_97_4, e_97_5, e_97_6, e_97_7, e_97_8, e_97_9, e_97_10, e_97_11, e_97_12, nl_int, nl_ref, nl_none, cat_int, cat_ref, cat_0, cat_i, cat_r, cat_l, Option.elim_some, Option.elim_none, Option.bind_some, Option.bind_none, Option.toList_some, Option.toList_none, List.cons_append, List.nil_append, Nat.reduceAdd, Nat.reduceLeDiff, wD_f1 hl, ix3 (a := 0), nI_1, wD_l1 (k := 3 + 3 * i + 1) rfl hl hA (show 3 + 3 * i + 1 < 27 by omega)]
theorem s7_house (hl : 154 < hp.length) (hA : aOK A) (hi : i < 8) : am_E d 98 0 [some (.ref 141), some (.int (nI i))] [] (wD hp I A) = some (some (.int ((A 1).getD (3 + 3 * i + 2) 0)), wD hp I A) := by
  simp (disch := first | exact nl_int | exact nl_ref | exact nl_none | exact Nat.le_of_ble_eq_true rfl | assumption | exact cat_int | exact cat_ref | exact z2 | exact z4 | exact z3 | exact z5 | exact z6 | exact z8 | exact z64) only [e_98_0, e_98_1, e_98_4, e_98_5, e_98_6, e_98_7, e_98_8, e_98_9, e_98_10, e_98_11, e_98_12, nl_int, nl_ref, nl_none, cat_int, cat_ref, cat_0, cat_i, cat_r, cat_l, Option.elim_some, Option.elim_none, Option.bind_some, Option.bind_none, Option.toList_some, Option.toList_none, List.cons_append, List.nil_append, Nat.reduceAdd, Nat.reduceLeDiff, wD_f1 hl, ix3 (a := 0), nI_2, wD_l1 (k := 3 + 3 * i + 2) rfl hl hA (show 3 + 3 * i + 2 < 27 by omega)]
theorem s7_wipe (hl : 154 < hp.length) : am_E (d + 12) 100 0 [some (.ref 141), none] [] (wD hp I A) = some (some (.int (I 3)), wD hp (updI I 3 0) A) := by
  simp (disch := first | exact nl_int | exact nl_ref | exact nl_none | exact Nat.le_of_ble_eq_true rfl | assumption | exact cat_int | exact cat_ref | exact z2 | exact z4 | exact z3 | exact z5 | exact z6 | exact z8 | exact z64) only [e_100_0, e_100_1, e_100_4, e_100_5, e_100_6, e_100_7, e_100_10, e_100_11, nl_int, nl_ref, nl_none, cat_int, cat_ref, cat_0, cat_i, cat_r, cat_l, Option.elim_some, Option.elim_none, Option.bind_some, Option.bind_none, Option.toList_some, Option.toList_none, List.cons_append, List.nil_append, Nat.reduceAdd, Nat.reduceLeDiff, wD_f3 hl, wD_p3 hl]
theorem s7_write0 (hl : 154 < hp.length) (q : x < 32 ∨ 126 < x) : am_E (d + 12) 99 0 [some (.ref 141), some (.int x)] [] (wD hp I A) = some (some (.int (-1)), wD hp I A) := by
  have e := s7_in (d := d + 11) (hp := wD hp I A) (x := x) (lo := 32) (hi := 126) (a := 32) (c := 126) (by decide) (by decide)
  have ef : inC x 32 126 = false := by
    unfold inC
    by_cases q1 : x < 32
    · rw [if_pos q1]
    · rw [if_neg q1, if_pos (q.resolve_left q1)]
  rw [ef, b2_f] at e
  simp (disch := first | exact nl_int | exact nl_ref | exact nl_none | exact Nat.le_of_ble_eq_true rfl | assumption | exact cat_int | exact cat_ref | exact z2 | exact z4 | exact z3 | exact z5 | exact z6 | exact z8 | exact z64) only [e_99_0, e_99_1, e_99_2, e_99_5, e_99_8, e_99_11, e_99_14, e_99_15, e_99_16, e_99_17, e_99_20, e_99_23, e_99_26, e_99_28, e_99_29, e_99_30, e_99_33, e_99_34, e_99_37, e_99_38, e_99_39, e_99_40, e_99_41, e_99_44, e_99_45, e_99_46, e_99_49, e_99_50, e_99_53, nl_int, nl_ref, nl_none, cat_int, cat_ref, cat_0, cat_i, cat_r, cat_l, Option.elim_some, Option.elim_none, Option.bind_some, Option.bind_none, Option.toList_some, Option.toList_none, List.cons_append, List.nil_append, Nat.reduceAdd, Nat.reduceLeDiff, e, z0, if_true]
theorem s7_write1 (hl : 154 < hp.length) (q1 : ¬ x < 32) (q2 : ¬ 126 < x) (hn : I 3 = nI 200) : am_E (d + 12) 99 0 [some (.ref 141), some (.int x)] [] (wD hp I A) = some (some (.int (-3)), wD hp I A) := by
  have e := s7_in (d := d + 11) (hp := wD hp I A) (x := x) (lo := 32) (hi := 126) (a := 32) (c := 126) (by decide) (by decide)
  rw [show inC x 32 126 = true from by unfold inC; rw [if_neg q1, if_neg q2], b2_t] at e
  simp (disch := first | exact nl_int | exact nl_ref | exact nl_none | exact Nat.le_of_ble_eq_true rfl | assumption | exact cat_int | exact cat_ref | exact z2 | exact z4 | exact z3 | exact z5 | exact z6 | exact z8 | exact z64) only [e_99_0, e_99_1, e_99_2, e_99_5, e_99_8, e_99_11, e_99_14, e_99_15, e_99_16, e_99_17, e_99_20, e_99_23, e_99_26, e_99_28, e_99_29, e_99_30, e_99_33, e_99_34, e_99_37, e_99_38, e_99_39, e_99_40, e_99_41, e_99_44, e_99_45, e_99_46, e_99_49, e_99_50, e_99_53, nl_int, nl_ref, nl_none, cat_int, cat_ref, cat_0, cat_i, cat_r, cat_l, Option.elim_some, Option.elim_none, Option.bind_some, Option.bind_none, Option.toList_some, Option.toList_none, List.cons_append, List.nil_append, Nat.reduceAdd, Nat.reduceLeDiff, e, z1, if_false, wD_f3 hl, hn, show (nI 200 = 200) = True from by decide, if_true]
theorem s7_write2 (hl : 154 < hp.length) (hA : aOK A) (q1 : ¬ x < 32) (q2 : ¬ 126 < x) (hn : I 3 = nI n) (h2 : n < 200) : am_E (d + 12) 99 0 [some (.ref 141), some (.int x)] [] (wD hp I A) = some (some (.int (nI (n + 1))), wD hp (updI I 3 (nI (n + 1))) (updA A 2 ((A 2).set n x))) := by
  have e := s7_in (d := d + 11) (hp := wD hp I A) (x := x) (lo := 32) (hi := 126) (a := 32) (c := 126) (by decide) (by decide)
  rw [show inC x 32 126 = true from by unfold inC; rw [if_neg q1, if_neg q2], b2_t] at e
  have ne : (nI n = 200) = False := eq_false (fun z => by have := (nI_eq (a := n) (b := 200) (by omega) (by decide)).mp z; omega)
  have e3 : updI I 3 (nI (n + 1)) 3 = nI (n + 1) := if_pos rfl
  simp (disch := first | exact nl_int | exact nl_ref | exact nl_none | exact Nat.le_of_ble_eq_true rfl | assumption | exact cat_int | exact cat_ref | exact z2 | exact z4 | exact z3 | exact z5 | exact z6 | exact z8 | exact z64) only [e_99_0, e_99_1, e_99_2, e_99_5, e_99_8, e_99_11, e_99_14, e_99_15, e_99_16, e_99_17, e_99_20, e_99_23, e_99_26, e_99_28, e_99_29, e_99_30, e_99_33, e_99_34, e_99_37, e_99_38, e_99_39, e_99_40, e_99_41, e_99_44, e_99_45, e_99_46, e_99_49, e_99_50, e_99_53, nl_int, nl_ref, nl_none, cat_int, cat_ref, cat_0, cat_i, cat_r, cat_l, Option.elim_some, Option.elim_none, Option.bind_some, Option.bind_none, Option.toList_some, Option.toList_none, List.cons_append, List.nil_append, Nat.reduceAdd, Nat.reduceLeDiff, e, z1, if_false, wD_f3 hl, wD_f2 hl, hn, ne, wD_s2 (k := n) rfl hl hA h2, wD_p3 hl, nI_1, e3]
end MD1
