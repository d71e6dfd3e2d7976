/-! THE CALLS: talk, may, apart, reach -/
def opD (n : Nat) : Int32 := nI n + (-1)
theorem opD_s (n : Nat) : opD (n + 1) = nI n := by unfold opD; rw [← nI_1, Int32.add_assoc, show (1 : Int32) + (-1) = 0 from by decide, Int32.add_zero]
theorem opD_0 : (opD 0 < 0) = True := by decide
def aMay (ct : am_Ci) (nw : am_Mo) (sH sL : List Int32) (sc hr i : Nat) : Nat → Int32 × Int32 → Int32 × Int32
  | 0, p => p
  | n + 1, p => aMay ct nw sH sL sc hr i n (if mAg (mSetO nw i (nI n)) (cTalk ct nw hr) sH sL sc 0 = true then (p.1 + 1, nI n) else p)
section CL8
variable {d : Nat} {hp hp2 : am_H} {cB : Nat} {dr : am_Ci} {lt : am_Mo} {hs : am_Hs} {tm : Nat → am_Mo} {tk : am_Tk} {sp : List Int32} {tx : am_Tx} {ct : am_Ci} {nw : am_Mo} {pm : Nat → am_Mo} {pn ph : Nat} {km : Nat → am_Mo} {kc : Nat} {sH sL : List Int32} {sc i n hr : Nat} {x y : Int32}
theorem s_talk0 (q : x < 1 ∨ 4 < x ∨ y < -1 ∨ ¬ y < x) : am_E (d + 12) 63 0 [some (.ref 0), some (.int x), some (.int y)] [] hp = some (some (.int (-1)), hp) := by
  by_cases q1 : x < 1
  · simp (disch := first | exact nl_int | exact nl_ref | exact nl_none | exact Nat.le_of_ble_eq_true rfl | assumption | exact cat_int | exact cat_ref | exact z2 | exact z4 | exact z3 | exact z5 | exact z6 | exact z8 | exact z64) only [e_63_0, e_63_1, e_63_2, e_63_5, e_63_6, e_63_7, e_63_10, e_63_11, e_63_12, e_63_15, e_63_16, e_63_17, e_63_20, e_63_21, e_63_22, e_63_23, e_63_26, e_63_27, e_63_30, e_63_31, e_63_34, e_63_35, e_63_38, e_63_39, e_63_40, e_63_43, e_63_44, e_63_47, e_63_50, e_63_51, e_63_52, e_63_55, e_63_58, e_63_59, e_63_60, e_63_61, e_63_64, e_63_66, e_63_69, e_63_70, e_63_73, e_63_76, e_63_77, e_63_78, nl_int, nl_ref, nl_none, cat_int, cat_ref, cat_0, cat_i, cat_r, cat_l, Option.elim_some, Option.elim_none, Option.bind_some, Option.bind_none, Option.toList_some, Option.toList_none, List.cons_append, List.nil_append, Nat.reduceAdd, Nat.reduceLeDiff, if_pos q1]
  · by_cases q2 : 4 < x
    · simp (disch := first | exact nl_int | exact nl_ref | exact nl_none | exact Nat.le_of_ble_eq_true rfl | assumption | exact cat_int | exact cat_ref | exact z2 | exact z4 | exact z3 | exact z5 | exact z6 | exact z8 | exact z64) only [e_63_0, e_63_1, e_63_2, e_63_5, e_63_6, e_63_7, e_63_10, e_63_11, e_63_12, e_63_15, e_63_16, e_63_17, e_63_20, e_63_21, e_63_22, e_63_23, e_63_26, e_63_27, e_63_30, e_63_31, e_63_34, e_63_35, e_63_38, e_63_39, e_63_40, e_63_43, e_63_44, e_63_47, e_63_50, e_63_51, e_63_52, e_63_55, e_63_58, e_63_59, e_63_60, e_63_61, e_63_64, e_63_66, e_63_69, e_63_70, e_63_73, e_63_76, e_63_77, e_63_78, nl_int, nl_ref, nl_none, cat_int, cat_ref, cat_0, cat_i, cat_r, cat_l, Option.elim_some, Option.elim_none, Option.bind_some, Option.bind_none, Option.toList_some, Option.toList_none, List.cons_append, List.nil_append, Nat.reduceAdd, Nat.reduceLeDiff, if_neg q1, if_pos q2]
    · by_cases q3 : y < -1
      · simp (disch := first | exact nl_int | exact nl_ref | exact nl_none | exact Nat.le_of_ble_eq_true rfl | assumption | exact cat_int | exact cat_ref | exact z2 | exact z4 | exact z3 | exact z5 | exact z6 | exact z8 | exact z64) only [e_63_0, e_63_1, e_63_2, e_63_5, e_63_6, e_63_7, e_63_10, e_63_11, e_63_12, e_63_15, e_63_16, e_63_17, e_63_20, e_63_21, e_63_22, e_63_23, e_63_26, e_63_27, e_63_30, e_63_31, e_63_34, e_63_35, e_63_38, e_63_39, e_63_40, e_63_43, e_63_44, e_63_47, e_63_50, e_63_51, e_63_52, e_63_55, e_63_58, e_63_59, e_63_60, e_63_61, e_63_64, e_63_66, e_63_69, e_63_70, e_63_73, e_63_76, e_63_77, e_63_78, nl_int, nl_ref, nl_none, cat_int, cat_ref, cat_0, cat_i, cat_r, cat_l, Option.elim_some, Option.elim_none, Option.bind_some, Option.bind_none, Option.toList_some, Option.toList_none, List.cons_append, List.nil_append, Nat.reduceAdd, Nat.reduceLeDiff, if_neg q1, if_neg q2, if_pos q3]
      · have q4 : ¬ y < x := ((q.resolve_left q1).resolve_left q2).resolve_left q3
        simp (disch := first | exact nl_int | exact nl_ref | exact nl_none | exact Nat.le_of_ble_eq_true rfl | assumption | exact cat_int | exact cat_ref | exact z2 | exact z4 | exact z3 | exact z5 | exact z6 | exact z8 | exact z64) only [e_63_0, e_63_1, e_63_2, e_63_5, e_63_6, e_63_7, e_63_10, e_63_11, e_63_12, e_63_15, e_63_16, e_63_17, e_63_20, e_63_21, e_63_22, e_63_23, e_63_26, e_63_27, e_63_30, e_63_31, e_63_34, e_63_35, e_63_38, e_63_39, e_63_40, e_63_43, e_63_44, e_63_47, e_63_50, e_63_51, e_63_52, e_63_55, e_63_58, e_63_59, e_63_60, e_63_61, e_63_64, e_63_66, e_63_69, e_63_70, e_63_73, e_63_76, e_63_77, e_63_78, nl_int, nl_ref, nl_none, cat_int, cat_ref, cat_0, cat_i, cat_r, cat_l, Option.elim_some, Option.elim_none, Option.bind_some, Option.bind_none, Option.toList_some, Option.toList_none, List.cons_append, List.nil_append, Nat.reduceAdd, Nat.reduceLeDiff, if_neg q1, if_neg q2, if_neg q3, if_neg q4]
theorem kSearch_ok {c : am_Ci} {m : am_Mo} {r : am_Tk} (h : kOK r) : kOK (kSearch c m n r) := kDisc_ok _ _ _ _ _ h
theorem St1_talk (h : St1 hp cB dr lt hs tm tk sp tx ct nw pm pn ph km kc sH sL sc) (hn : n ≤ 4) : ∃ hp2 tm2, am_E (d + 9) 35 0 [some (.ref 94), some (.ref cB), some (.ref 24), some (.int (nI n))] [] hp = some (none, hp2) ∧ St1 hp2 cB dr lt hs tm2 (kSearch ct nw n tk) sp tx ct nw pm pn ph km kc sH sL sc ∧ Fr hp hp2 := by
  have hB := h.qB
  have t := h.qt
  obtain ⟨ms2, ok2, e⟩ := s_ksearch (d := d) (k := 94) (k2 := cB) (k3 := 24) (hours := n) (ms := tm) (r := tk) t.1 t.2.2.2.2.1 (fun i hi => (t.2.2.2.2.2 i hi).ok) h.qc (by omega) h.qn (by omega) hn
  rw [wK_self t] at e
  exact ⟨_, ms2, e, St1_t h wK_len (fun b hb => wK_get (by omega)) (isK_wK t.1 (kSearch_ok t.2.2.2.2.1) ok2), wK_len, fun b hb => wK_get (by omega)⟩
theorem s_talk1 (hS : St hp tx ct nw pm pn ph km kc sH sL sc) (n1 : 1 ≤ n) (n2 : n ≤ 4) : ∃ tk0, kOK tk0 ∧ Run d 63 [some (.ref 0), some (.int (nI n)), some (.int (-1))] hp (kSearch ct nw n tk0).2.2 (fun h => St h tx ct nw pm pn ph km kc sH sL sc) ∧ ∀ i, i < n → Run d 63 [some (.ref 0), some (.int (nI n)), some (.int (nI i))] hp (if (kSearch ct nw n tk0).2.1.getD i 0 = -1 then -4 else (kSearch ct nw n tk0).2.1.getD i 0) (fun h => St h tx ct nw pm pn ph km kc sH sL sc) := by
  obtain ⟨cB, dr, lt, hs, tm, tk, sp, h⟩ := hS
  have hcl : am_isC hp 94 4 = true := am_isC_of h.qt.2.1
  obtain ⟨hp2, tm2, e, h2, fr⟩ := St1_talk (d := d + 2) h n2
  have f3 : am_fld hp2 94 4 3 = some (.int (kSearch ct nw n tk).2.2) := am_fld_of h2.qt.2.1
  have f2 : am_fld hp2 94 4 2 = some (.ref 97) := am_fld_of h2.qt.2.1
  have a1 := ltF (x := 1) (c := 1) rfl n1 (show n < 2 ^ 31 by omega)
  have a2 := gtF (x := 4) (c := 4) rfl n2 (by decide)
  refine ⟨tk, h.qt.2.2.2.2.1, ⟨hp2, ?_, ⟨_, _, _, _, _, _, _, h2⟩, fr⟩, fun i hi => ⟨hp2, ?_, ⟨_, _, _, _, _, _, _, h2⟩, fr⟩⟩
  · have b1 : ((-1 : Int32) < -1) = False := by decide
    have b2 : ((-1 : Int32) < nI n) = True := eq_true (Int32.lt_of_lt_of_le (b := 0) (by decide) (nI_pos' (by omega)))
    simp (disch := first | exact nl_int | exact nl_ref | exact nl_none | exact Nat.le_of_ble_eq_true rfl | assumption | exact cat_int | exact cat_ref | exact z2 | exact z4 | exact z3 | exact z5 | exact z6 | exact z8 | exact z64) only [e_63_0, e_63_1, e_63_2, e_63_5, e_63_6, e_63_7, e_63_10, e_63_11, e_63_12, e_63_15, e_63_16, e_63_17, e_63_20, e_63_21, e_63_22, e_63_23, e_63_26, e_63_27, e_63_30, e_63_31, e_63_34, e_63_35, e_63_38, e_63_39, e_63_40, e_63_43, e_63_44, e_63_47, e_63_50, e_63_51, e_63_52, e_63_55, e_63_58, e_63_59, e_63_60, e_63_61, e_63_64, e_63_66, e_63_69, e_63_70, e_63_73, e_63_76, e_63_77, e_63_78, nl_int, nl_ref, nl_none, cat_int, cat_ref, cat_0, cat_i, cat_r, cat_l, Option.elim_some, Option.elim_none, Option.bind_some, Option.bind_none, Option.toList_some, Option.toList_none, List.cons_append, List.nil_append, Nat.reduceAdd, Nat.reduceLeDiff, a1, a2, b1, b2, if_false, if_true, h.f12, h.f1, h.f3, e, h2.f12, f3]
  · have b1 : (nI i < -1) = False := eq_false (fun z => nI_pos (show i < 2 ^ 31 by omega) (Int32.lt_trans z (by decide)))
    have b2 := ltT (x := nI n) (c := n) rfl hi (by omega)
    have b3 : ¬ nI i = -1 := fun z => nI_pos (show i < 2 ^ 31 by omega) (by rw [z]; decide)
    have l2 : am_ld hp2 97 (nI i) = some ((kSearch ct nw n tk).2.1.getD i 0) := am_ld_nI (n := 4) ⟨h2.qt.2.2.2.1, h2.qt.2.2.2.2.1.2⟩ (by omega) (by decide)
    by_cases q : (kSearch ct nw n tk).2.1.getD i 0 = -1
    · rw [if_pos q]
      simp (disch := first | exact nl_int | exact nl_ref | exact nl_none | exact Nat.le_of_ble_eq_true rfl | assumption | exact cat_int | exact cat_ref | exact z2 | exact z4 | exact z3 | exact z5 | exact z6 | exact z8 | exact z64) only [e_63_0, e_63_1, e_63_2, e_63_5, e_63_6, e_63_7, e_63_10, e_63_11, e_63_12, e_63_15, e_63_16, e_63_17, e_63_20, e_63_21, e_63_22, e_63_23, e_63_26, e_63_27, e_63_30, e_63_31, e_63_34, e_63_35, e_63_38, e_63_39, e_63_40, e_63_43, e_63_44, e_63_47, e_63_50, e_63_51, e_63_52, e_63_55, e_63_58, e_63_59, e_63_60, e_63_61, e_63_64, e_63_66, e_63_69, e_63_70, e_63_73, e_63_76, e_63_77, e_63_78, nl_int, nl_ref, nl_none, cat_int, cat_ref, cat_0, cat_i, cat_r, cat_l, Option.elim_some, Option.elim_none, Option.bind_some, Option.bind_none, Option.toList_some, Option.toList_none, List.cons_append, List.nil_append, Nat.reduceAdd, Nat.reduceLeDiff, a1, a2, b1, b2, if_neg b3, if_false, if_true, h.f12, h.f1, h.f3, e, h2.f12, f2, l2, if_pos q]
    · rw [if_neg q]
      simp (disch := first | exact nl_int | exact nl_ref | exact nl_none | exact Nat.le_of_ble_eq_true rfl | assumption | exact cat_int | exact cat_ref | exact z2 | exact z4 | exact z3 | exact z5 | exact z6 | exact z8 | exact z64) only [e_63_0, e_63_1, e_63_2, e_63_5, e_63_6, e_63_7, e_63_10, e_63_11, e_63_12, e_63_15, e_63_16, e_63_17, e_63_20, e_63_21, e_63_22, e_63_23, e_63_26, e_63_27, e_63_30, e_63_31, e_63_34, e_63_35, e_63_38, e_63_39, e_63_40, e_63_43, e_63_44, e_63_47, e_63_50, e_63_51, e_63_52, e_63_55, e_63_58, e_63_59, e_63_60, e_63_61, e_63_64, e_63_66, e_63_69, e_63_70, e_63_73, e_63_76, e_63_77, e_63_78, nl_int, nl_ref, nl_none, cat_int, cat_ref, cat_0, cat_i, cat_r, cat_l, Option.elim_some, Option.elim_none, Option.bind_some, Option.bind_none, Option.toList_some, Option.toList_none, List.cons_append, List.nil_append, Nat.reduceAdd, Nat.reduceLeDiff, a1, a2, b1, b2, if_neg b3, if_false, if_true, h.f12, h.f1, h.f3, e, h2.f12, f2, l2, if_neg q]
theorem s_agrees (h : St1 hp cB dr lt hs tm tk sp tx ct nw pm pn ph km kc sH sL sc) (hh : lt.2.2.2.2.2.1 = nI hr) (hl : hr < 2 ^ 31) : am_E (d + 3) 82 0 [some (.ref 0), some (.ref 30), none, none] [] hp = some (some (.int (b2 (mAg lt (cTalk ct lt hr) sH sL sc 0))), hp) := by
  have hc1 := h.qc.cl
  have hc2 := h.ql.c
  have hsc := h.qsc
  have key : ∀ n j, j + n = sc → am_E (d + 3) 82 11 [some (.ref 0), some (.ref 30), some (.int (cTalk ct lt hr)), some (.int (nI j))] [] hp = some (some (.int (b2 (mAg lt (cTalk ct lt hr) sH sL n j))), hp) := by
    intro n
    induction n with
    | zero =>
      intro j hj
      rw [e_82_11]
      simp (disch := first | exact nl_int | exact nl_ref | exact nl_none | exact Nat.le_of_ble_eq_true rfl | assumption | exact cat_int | exact cat_ref | exact z2 | exact z4 | exact z3 | exact z5 | exact z6 | exact z8 | exact z64) only [e_82_0, e_82_1, e_82_4, e_82_5, e_82_8, e_82_9, e_82_10, e_82_12, e_82_13, e_82_16, e_82_19, e_82_20, e_82_22, e_82_25, e_82_26, e_82_27, e_82_30, e_82_31, e_82_32, e_82_33, e_82_36, e_82_37, e_82_40, e_82_41, e_82_42, e_82_45, e_82_46, e_82_46_1, e_82_47, e_82_50, e_82_53, e_82_54, e_82_54_1, nl_int, nl_ref, nl_none, cat_int, cat_ref, cat_0, cat_i, cat_r, cat_l, Option.elim_some, Option.elim_none, Option.bind_some, Option.bind_none, Option.toList_some, Option.toList_none, List.cons_append, List.nil_append, Nat.reduceAdd, Nat.reduceLeDiff, h.f10, ltF (x := nI sc) (c := sc) rfl (show sc ≤ j by omega) (by omega), if_false]
      rfl
    | succ n ih =>
      intro j hj
      have l1 : am_ld hp 87 (nI j) = some (sH.getD j 0) := am_ld_nI h.qs.1 (by omega) (by decide)
      have l2 : am_ld hp 88 (nI j) = some (sL.getD j 0) := am_ld_nI h.qs.2 (by omega) (by decide)
      rw [e_82_11, mAg]
      by_cases q : mLight lt (sH.getD j 0) (cTalk ct lt hr) = sL.getD j 0
      · rw [if_pos q]
        simp (disch := first | exact nl_int | exact nl_ref | exact nl_none | exact Nat.le_of_ble_eq_true rfl | assumption | exact cat_int | exact cat_ref | exact z2 | exact z4 | exact z3 | exact z5 | exact z6 | exact z8 | exact z64) only [e_82_0, e_82_1, e_82_4, e_82_5, e_82_8, e_82_9, e_82_10, e_82_12, e_82_13, e_82_16, e_82_19, e_82_20, e_82_22, e_82_25, e_82_26, e_82_27, e_82_30, e_82_31, e_82_32, e_82_33, e_82_36, e_82_37, e_82_40, e_82_41, e_82_42, e_82_45, e_82_46, e_82_46_1, e_82_47, e_82_50, e_82_53, e_82_54, e_82_54_1, nl_int, nl_ref, nl_none, cat_int, cat_ref, cat_0, cat_i, cat_r, cat_l, Option.elim_some, Option.elim_none, Option.bind_some, Option.bind_none, Option.toList_some, Option.toList_none, List.cons_append, List.nil_append, Nat.reduceAdd, Nat.reduceLeDiff, h.f10, ltT (x := nI sc) (c := sc) rfl (show j < sc by omega) (by omega), ltT (x := 8) (c := 8) rfl (show j < 8 by omega) (by decide), if_true, h.f8, h.f9, l1, l2, s_lightOf h.ql, if_pos q, nI_1, ih (j + 1) (by omega)]
      · rw [if_neg q]
        simp (disch := first | exact nl_int | exact nl_ref | exact nl_none | exact Nat.le_of_ble_eq_true rfl | assumption | exact cat_int | exact cat_ref | exact z2 | exact z4 | exact z3 | exact z5 | exact z6 | exact z8 | exact z64) only [e_82_0, e_82_1, e_82_4, e_82_5, e_82_8, e_82_9, e_82_10, e_82_12, e_82_13, e_82_16, e_82_19, e_82_20, e_82_22, e_82_25, e_82_26, e_82_27, e_82_30, e_82_31, e_82_32, e_82_33, e_82_36, e_82_37, e_82_40, e_82_41, e_82_42, e_82_45, e_82_46, e_82_46_1, e_82_47, e_82_50, e_82_53, e_82_54, e_82_54_1, nl_int, nl_ref, nl_none, cat_int, cat_ref, cat_0, cat_i, cat_r, cat_l, Option.elim_some, Option.elim_none, Option.bind_some, Option.bind_none, Option.toList_some, Option.toList_none, List.cons_append, List.nil_append, Nat.reduceAdd, Nat.reduceLeDiff, h.f10, ltT (x := nI sc) (c := sc) rfl (show j < sc by omega) (by omega), ltT (x := 8) (c := 8) rfl (show j < 8 by omega) (by decide), if_true, h.f8, h.f9, l1, l2, s_lightOf h.ql, if_neg q, b2_f]
  simp (disch := first | exact nl_int | exact nl_ref | exact nl_none | exact Nat.le_of_ble_eq_true rfl | assumption | exact cat_int | exact cat_ref | exact z2 | exact z4 | exact z3 | exact z5 | exact z6 | exact z8 | exact z64) only [e_82_0, e_82_1, e_82_4, e_82_5, e_82_8, e_82_9, e_82_10, e_82_12, e_82_13, e_82_16, e_82_19, e_82_20, e_82_22, e_82_25, e_82_26, e_82_27, e_82_30, e_82_31, e_82_32, e_82_33, e_82_36, e_82_37, e_82_40, e_82_41, e_82_42, e_82_45, e_82_46, e_82_46_1, e_82_47, e_82_50, e_82_53, e_82_54, e_82_54_1, nl_int, nl_ref, nl_none, cat_int, cat_ref, cat_0, cat_i, cat_r, cat_l, Option.elim_some, Option.elim_none, Option.bind_some, Option.bind_none, Option.toList_some, Option.toList_none, List.cons_append, List.nil_append, Nat.reduceAdd, Nat.reduceLeDiff, h.f1, s_talkedOf h.qc h.ql hh hl]
  exact key sc 0 (Nat.zero_add _)
theorem s_may0 (hS : St hp tx ct nw pm pn ph km kc sH sL sc) (q : inR x (cPp ct) = false ∨ y < 0 ∨ 1 < y) : am_E (d + 12) 67 0 [some (.ref 0), some (.int x), some (.int y), none, none, none] [] hp = some (some (.int (-1)), hp) := by
  obtain ⟨cB, dr, lt, hs, tm, tk, sp, h⟩ := hS
  have hcl := h.cl
  by_cases q0 : inR x (cPp ct) = false
  · simp (disch := first | exact nl_int | exact nl_ref | exact nl_none | exact Nat.le_of_ble_eq_true rfl | assumption | exact cat_int | exact cat_ref | exact z2 | exact z4 | exact z3 | exact z5 | exact z6 | exact z8 | exact z64) only [e_67_0, e_67_1, e_67_2, e_67_5, e_67_8, e_67_9, e_67_12, e_67_13, e_67_14, e_67_17, e_67_18, e_67_19, e_67_20, e_67_21, e_67_23, e_67_25, e_67_26, e_67_29, e_67_30, e_67_33, e_67_36, e_67_38, e_67_42, e_67_45, e_67_46, e_67_49, e_67_52, e_67_53, e_67_55, e_67_56, e_67_57, e_67_58, e_67_61, e_67_64, e_67_67, e_67_70, e_67_72, e_67_74, e_67_77, e_67_80, e_67_81, e_67_84, e_67_85, e_67_88, e_67_90, nl_int, nl_ref, nl_none, cat_int, cat_ref, cat_0, cat_i, cat_r, cat_l, Option.elim_some, Option.elim_none, Option.bind_some, Option.bind_none, Option.toList_some, Option.toList_none, List.cons_append, List.nil_append, Nat.reduceAdd, Nat.reduceLeDiff, s_isPerson h, q0, b2_f, z0, if_true]
  · have q3 := q.resolve_left q0
    by_cases q1 : y < 0
    · simp (disch := first | exact nl_int | exact nl_ref | exact nl_none | exact Nat.le_of_ble_eq_true rfl | assumption | exact cat_int | exact cat_ref | exact z2 | exact z4 | exact z3 | exact z5 | exact z6 | exact z8 | exact z64) only [e_67_0, e_67_1, e_67_2, e_67_5, e_67_8, e_67_9, e_67_12, e_67_13, e_67_14, e_67_17, e_67_18, e_67_19, e_67_20, e_67_21, e_67_23, e_67_25, e_67_26, e_67_29, e_67_30, e_67_33, e_67_36, e_67_38, e_67_42, e_67_45, e_67_46, e_67_49, e_67_52, e_67_53, e_67_55, e_67_56, e_67_57, e_67_58, e_67_61, e_67_64, e_67_67, e_67_70, e_67_72, e_67_74, e_67_77, e_67_80, e_67_81, e_67_84, e_67_85, e_67_88, e_67_90, nl_int, nl_ref, nl_none, cat_int, cat_ref, cat_0, cat_i, cat_r, cat_l, Option.elim_some, Option.elim_none, Option.bind_some, Option.bind_none, Option.toList_some, Option.toList_none, List.cons_append, List.nil_append, Nat.reduceAdd, Nat.reduceLeDiff, s_isPerson h, inR_f q0, b2_t, z1, if_false, if_pos q1]
    · simp (disch := first | exact nl_int | exact nl_ref | exact nl_none | exact Nat.le_of_ble_eq_true rfl | assumption | exact cat_int | exact cat_ref | exact z2 | exact z4 | exact z3 | exact z5 | exact z6 | exact z8 | exact z64) only [e_67_0, e_67_1, e_67_2, e_67_5, e_67_8, e_67_9, e_67_12, e_67_13, e_67_14, e_67_17, e_67_18, e_67_19, e_67_20, e_67_21, e_67_23, e_67_25, e_67_26, e_67_29, e_67_30, e_67_33, e_67_36, e_67_38, e_67_42, e_67_45, e_67_46, e_67_49, e_67_52, e_67_53, e_67_55, e_67_56, e_67_57, e_67_58, e_67_61, e_67_64, e_67_67, e_67_70, e_67_72, e_67_74, e_67_77, e_67_80, e_67_81, e_67_84, e_67_85, e_67_88, e_67_90, nl_int, nl_ref, nl_none, cat_int, cat_ref, cat_0, cat_i, cat_r, cat_l, Option.elim_some, Option.elim_none, Option.bind_some, Option.bind_none, Option.toList_some, Option.toList_none, List.cons_append, List.nil_append, Nat.reduceAdd, Nat.reduceLeDiff, s_isPerson h, inR_f q0, b2_t, z1, if_false, if_neg q1, if_pos (q3.resolve_left q1)]
theorem s_may1 (hS : St hp tx ct nw pm pn ph km kc sH sL sc) (hh : nw.2.2.2.2.2.1 = nI hr) (hl : hr < 2 ^ 31) (hi : i < cPp ct) (q1 : ¬ y < 0) (q2 : ¬ 1 < y) : Run d 67 [some (.ref 0), some (.int (nI i)), some (.int y), none, none, none] hp (if y = 0 then (aMay ct nw sH sL sc hr i 32 (0, -4)).1 else (aMay ct nw sH sL sc hr i 32 (0, -4)).2) (fun h => St h tx ct nw pm pn ph km kc sH sL sc) := by
  obtain ⟨cB, dr, lt, hs, tm, tk, sp, h⟩ := hS
  have hcl := h.cl
  have hcl2 := h.ql.c
  have hp8 := h.qc.pp
  have i8 : i < 8 := by omega
  obtain ⟨e, h1⟩ := St1_cpL (d := d + 11) h
  have key : ∀ n p s, n ≤ 32 → mOK s → (∀ z, mSetO s i z = mSetO (mCopy lt nw) i z) → ∃ s2, mOK s2 ∧ am_E (d + 12) 67 40 [some (.ref 0), some (.int (nI i)), some (.int y), some (.int p.1), some (.int p.2), some (.int (opD n))] [] (wM hp 30 s) = some (some (.int (if y = 0 then (aMay ct nw sH sL sc hr i n p).1 else (aMay ct nw sH sL sc hr i n p).2)), wM hp 30 s2) := by
    intro n
    induction n with
    | zero =>
      intro p s _ hs _
      refine ⟨s, hs, ?_⟩
      rw [e_67_40]
      simp (disch := first | exact nl_int | exact nl_ref | exact nl_none | exact Nat.le_of_ble_eq_true rfl | assumption | exact cat_int | exact cat_ref | exact z2 | exact z4 | exact z3 | exact z5 | exact z6 | exact z8 | exact z64) only [e_67_0, e_67_1, e_67_2, e_67_5, e_67_8, e_67_9, e_67_12, e_67_13, e_67_14, e_67_17, e_67_18, e_67_19, e_67_20, e_67_21, e_67_23, e_67_25, e_67_26, e_67_29, e_67_30, e_67_33, e_67_36, e_67_38, e_67_42, e_67_45, e_67_46, e_67_49, e_67_52, e_67_53, e_67_55, e_67_56, e_67_57, e_67_58, e_67_61, e_67_64, e_67_67, e_67_70, e_67_72, e_67_74, e_67_77, e_67_80, e_67_81, e_67_84, e_67_85, e_67_88, e_67_90, nl_int, nl_ref, nl_none, cat_int, cat_ref, cat_0, cat_i, cat_r, cat_l, Option.elim_some, Option.elim_none, Option.bind_some, Option.bind_none, Option.toList_some, Option.toList_none, List.cons_append, List.nil_append, Nat.reduceAdd, Nat.reduceLeDiff, opD_0, if_true]
      rw [aMay]
      split <;> rfl
    | succ n ih =>
      intro p s hn hs hz
      have g := St1_wl h hs
      have o2 : mOK (mSetO s i (nI n)) := hs.O
      have g2 := St1_wl h o2
      have hc1 := g2.cl
      have f1 : am_fld (wM hp 30 s) 30 2 1 = some (.ref 32) := g.ql.f1
      have p1 : am_sx (wM hp 30 s) 32 (nI i) (nI n) = some (wM hp 30 (mSetO s i (nI n))) := wM_sO h.ql.len hs i8
      have hr2 : (mSetO s i (nI n)).2.2.2.2.2.1 = nI hr := by rw [hz]; exact hh
      have ag := s_agrees (d := d + 8) g2 hr2 hl
      have ez : mAg (mSetO s i (nI n)) (cTalk ct (mSetO s i (nI n)) hr) sH sL sc 0 = mAg (mSetO nw i (nI n)) (cTalk ct nw hr) sH sL sc 0 := by
        rw [hz]
        exact mAg_nf (m := mSetO nw i (nI n)) (f := lt.2.2.2.2.1) sc 0
      rw [ez] at ag
      have hz2 : ∀ z, mSetO (mSetO s i (nI n)) i z = mSetO (mCopy lt nw) i z := fun z => by
        rw [← hz z]
        unfold mSetO
        simp only [List.set_set]
      rw [opD_s, e_67_40, aMay]
      cases q : mAg (mSetO nw i (nI n)) (cTalk ct nw hr) sH sL sc 0 with
      | false =>
        obtain ⟨s2, o3, e3⟩ := ih p (mSetO s i (nI n)) (by omega) o2 hz2
        rw [opD] at e3
        rw [q, b2_f] at ag
        refine ⟨s2, o3, ?_⟩
        simp (disch := first | exact nl_int | exact nl_ref | exact nl_none | exact Nat.le_of_ble_eq_true rfl | assumption | exact cat_int | exact cat_ref | exact z2 | exact z4 | exact z3 | exact z5 | exact z6 | exact z8 | exact z64) only [e_67_0, e_67_1, e_67_2, e_67_5, e_67_8, e_67_9, e_67_12, e_67_13, e_67_14, e_67_17, e_67_18, e_67_19, e_67_20, e_67_21, e_67_23, e_67_25, e_67_26, e_67_29, e_67_30, e_67_33, e_67_36, e_67_38, e_67_42, e_67_45, e_67_46, e_67_49, e_67_52, e_67_53, e_67_55, e_67_56, e_67_57, e_67_58, e_67_61, e_67_64, e_67_67, e_67_70, e_67_72, e_67_74, e_67_77, e_67_80, e_67_81, e_67_84, e_67_85, e_67_88, e_67_90, nl_int, nl_ref, nl_none, cat_int, cat_ref, cat_0, cat_i, cat_r, cat_l, Option.elim_some, Option.elim_none, Option.bind_some, Option.bind_none, Option.toList_some, Option.toList_none, List.cons_append, List.nil_append, Nat.reduceAdd, Nat.reduceLeDiff, ngF (j := n) (by omega), if_false, g.f4, f1, p1, g2.f4, ag, z0, if_true, e3, Bool.false_eq_true]
      | true =>
        obtain ⟨s2, o3, e3⟩ := ih (p.1 + 1, nI n) (mSetO s i (nI n)) (by omega) o2 hz2
        rw [opD] at e3
        rw [q, b2_t] at ag
        refine ⟨s2, o3, ?_⟩
        simp (disch := first | exact nl_int | exact nl_ref | exact nl_none | exact Nat.le_of_ble_eq_true rfl | assumption | exact cat_int | exact cat_ref | exact z2 | exact z4 | exact z3 | exact z5 | exact z6 | exact z8 | exact z64) only [e_67_0, e_67_1, e_67_2, e_67_5, e_67_8, e_67_9, e_67_12, e_67_13, e_67_14, e_67_17, e_67_18, e_67_19, e_67_20, e_67_21, e_67_23, e_67_25, e_67_26, e_67_29, e_67_30, e_67_33, e_67_36, e_67_38, e_67_42, e_67_45, e_67_46, e_67_49, e_67_52, e_67_53, e_67_55, e_67_56, e_67_57, e_67_58, e_67_61, e_67_64, e_67_67, e_67_70, e_67_72, e_67_74, e_67_77, e_67_80, e_67_81, e_67_84, e_67_85, e_67_88, e_67_90, nl_int, nl_ref, nl_none, cat_int, cat_ref, cat_0, cat_i, cat_r, cat_l, Option.elim_some, Option.elim_none, Option.bind_some, Option.bind_none, Option.toList_some, Option.toList_none, List.cons_append, List.nil_append, Nat.reduceAdd, Nat.reduceLeDiff, ngF (j := n) (by omega), if_false, g.f4, f1, p1, g2.f4, ag, z1, if_true, e3]
  obtain ⟨s2, o2, e2⟩ := key 32 (0, -4) (mCopy lt nw) (by omega) h1.ql.ok (fun _ => rfl)
  rw [opD_s] at e2
  refine ⟨_, ?_, ⟨_, _, _, _, _, _, _, St1_wl h o2⟩, Fr_wM (by omega)⟩
  simp (disch := first | exact nl_int | exact nl_ref | exact nl_none | exact Nat.le_of_ble_eq_true rfl | assumption | exact cat_int | exact cat_ref | exact z2 | exact z4 | exact z3 | exact z5 | exact z6 | exact z8 | exact z64) only [e_67_0, e_67_1, e_67_2, e_67_5, e_67_8, e_67_9, e_67_12, e_67_13, e_67_14, e_67_17, e_67_18, e_67_19, e_67_20, e_67_21, e_67_23, e_67_25, e_67_26, e_67_29, e_67_30, e_67_33, e_67_36, e_67_38, e_67_42, e_67_45, e_67_46, e_67_49, e_67_52, e_67_53, e_67_55, e_67_56, e_67_57, e_67_58, e_67_61, e_67_64, e_67_67, e_67_70, e_67_72, e_67_74, e_67_77, e_67_80, e_67_81, e_67_84, e_67_85, e_67_88, e_67_90, nl_int, nl_ref, nl_none, cat_int, cat_ref, cat_0, cat_i, cat_r, cat_l, Option.elim_some, Option.elim_none, Option.bind_some, Option.bind_none, Option.toList_some, Option.toList_none, List.cons_append, List.nil_append, Nat.reduceAdd, Nat.reduceLeDiff, s_isPerson h, inR_n hi (by omega), b2_t, z1, if_false, if_neg q1, if_neg q2, h.f4, h.f3, e]
  exact e2
end CL8
