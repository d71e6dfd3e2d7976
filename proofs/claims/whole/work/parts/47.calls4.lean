/-! THE CALLS: acts -/
section CL4
variable {d : Nat} {hp hp2 : am_H} {cB : Nat} {dr : am_Ci} {lt : am_Mo} {hs : am_Hs} {tm : Nat → am_Mo} {tk : am_Tk} {sp : List Int32} {tx : am_Tx} {ct : am_Ci} {nw : am_Mo} {pm : Nat → am_Mo} {pn ph : Nat} {km : Nat → am_Mo} {kc : Nat} {sH sL : List Int32} {sc i n hr : Nat} {x y : Int32}
theorem inR_f (h : ¬ inR x n = false) : inR x n = true := by simpa using h
theorem St1_rem (h : St1 hp cB dr lt hs tm tk sp tx ct nw pm pn ph km kc sH sL sc) : ∃ hp2, am_E (d + 1) 32 0 [some (.ref 36), some (.ref 24)] [] hp = some (none, hp2) ∧ St1 hp2 cB dr lt hs tm tk sp tx ct nw (updM pm pn (mCopy (pm pn) nw)) ((pn + 1) % 8) (min (ph + 1) 8) km kc sH sL sc ∧ Fr hp hp2 := by
  obtain ⟨hp2, e, p2, l2, g2⟩ := s_remember (d := d) h.qp h.qn (by omega)
  exact ⟨hp2, e, St1_p h l2 (fun b hb => g2 b (by omega)) p2, l2, fun b hb => g2 b (by omega)⟩
theorem St1_wn {m : am_Mo} (h : St1 hp cB dr lt hs tm tk sp tx ct nw pm pn ph km kc sH sL sc) (hm : mOK m) : St1 (wM hp 24 m) cB dr lt hs tm tk sp tx ct m pm pn ph km kc sH sL sc := St1_n h wM_len (fun b hb => wM_get (by omega)) (isM_wM h.qn.len hm)
theorem St1_wl {m : am_Mo} (h : St1 hp cB dr lt hs tm tk sp tx ct nw pm pn ph km kc sH sL sc) (hm : mOK m) : St1 (wM hp 30 m) cB dr m hs tm tk sp tx ct nw pm pn ph km kc sH sL sc := St1_l h wM_len (fun b hb => wM_get (by omega)) (isM_wM h.ql.len hm)
theorem s_undo (hS : St hp tx ct nw pm pn ph km kc sH sL sc) : (ph = 0 → am_E (d + 12) 56 0 [some (.ref 0)] [] hp = some (some (.int (-2)), hp)) ∧ (0 < ph → Run d 56 [some (.ref 0)] hp (nI (ph - 1)) (fun h => St h tx ct (mCopy nw (pm ((pn + 7) % 8))) pm ((pn + 7) % 8) (ph - 1) km kc sH sL sc)) := by
  obtain ⟨cB, dr, lt, hs, tm, tk, sp, h⟩ := hS
  have hcl := h.qp.cl
  obtain ⟨r0, r1⟩ := s_restore (d := d + 10) h.qp h.qn (by omega)
  constructor
  · intro q
    simp (disch := first | exact nl_int | exact nl_ref | exact nl_none | exact Nat.le_of_ble_eq_true rfl | assumption | exact cat_int | exact cat_ref | exact z2 | exact z4 | exact z3 | exact z5 | exact z6 | exact z8 | exact z64) only [e_56_0, e_56_1, e_56_4, e_56_5, e_56_8, e_56_11, e_56_14, e_56_15, e_56_18, e_56_21, e_56_24, e_56_26, nl_int, nl_ref, nl_none, cat_int, cat_ref, cat_0, cat_i, cat_r, cat_l, Option.elim_some, Option.elim_none, Option.bind_some, Option.bind_none, Option.toList_some, Option.toList_none, List.cons_append, List.nil_append, Nat.reduceAdd, Nat.reduceLeDiff, h.f5, h.f3, r0 q, z0, if_true]
  · intro q
    obtain ⟨hp2, e, p2, m2, l2, g2⟩ := r1 q
    have hM : mOK (mCopy nw (pm ((pn + 7) % 8))) := m2.ok
    have hh : St1 hp2 cB dr lt hs tm tk sp tx ct (mCopy nw (pm ((pn + 7) % 8))) pm ((pn + 7) % 8) (ph - 1) km kc sH sL sc := by
      have hB := h.qB
      have k := h.qk
      have s := h.qs
      refine ⟨h.qB, ?_, isX_get h.qx (fun b _ _ => g2 b (by omega) (by omega)), isCt_get h.qc (fun b _ _ => g2 b (by omega) (by omega)), isCt_get h.qdr (fun b _ _ => g2 b (by omega) (by omega)), m2, isM_get h.ql (fun b _ _ => g2 b (by omega) (by omega)), p2, ⟨?_, isM_get k.2.1 (fun b _ _ => g2 b (by omega) (by omega)), isM_get k.2.2 (fun b _ _ => g2 b (by omega) (by omega))⟩, ⟨⟨?_, s.1.2⟩, ⟨?_, s.2.2⟩⟩, isH_get h.qh (fun b _ _ => g2 b (by omega) (by omega)), isK_get h.qt l2 (fun b _ _ => g2 b (by omega) (by omega)), ⟨?_, h.qsp.2⟩, h.qkc, h.qsc, by rw [l2]; exact h.qlen⟩
      · unfold am_obj; rw [g2 0 (by omega) (by omega)]; exact h.qo
      · unfold am_rar; rw [g2 86 (by omega) (by omega)]; exact k.1
      · unfold am_arr; rw [g2 87 (by omega) (by omega)]; exact s.1.1
      · unfold am_arr; rw [g2 88 (by omega) (by omega)]; exact s.2.1
      · unfold am_arr; rw [g2 128 (by omega) (by omega)]; exact h.qsp.1
    refine ⟨hp2, ?_, ⟨_, _, _, _, _, _, _, hh⟩, l2, fun b hb => g2 b (by omega) (by omega)⟩
    simp (disch := first | exact nl_int | exact nl_ref | exact nl_none | exact Nat.le_of_ble_eq_true rfl | assumption | exact cat_int | exact cat_ref | exact z2 | exact z4 | exact z3 | exact z5 | exact z6 | exact z8 | exact z64) only [e_56_0, e_56_1, e_56_4, e_56_5, e_56_8, e_56_11, e_56_14, e_56_15, e_56_18, e_56_21, e_56_24, e_56_26, nl_int, nl_ref, nl_none, cat_int, cat_ref, cat_0, cat_i, cat_r, cat_l, Option.elim_some, Option.elim_none, Option.bind_some, Option.bind_none, Option.toList_some, Option.toList_none, List.cons_append, List.nil_append, Nat.reduceAdd, Nat.reduceLeDiff, h.f5, h.f3, e, z1, if_false, hh.f5, hh.qp.f2]
theorem s_ration (hS : St hp tx ct nw pm pn ph km kc sH sL sc) : (inR x 5 = false → am_E (d + 12) 55 0 [some (.ref 0), some (.int x)] [] hp = some (some (.int (-1)), hp)) ∧ (inR x 5 = true → Run d 55 [some (.ref 0), some (.int x)] hp (((nw.2.2.2.2.2.2 ^^^ ((1 : Int32) <<< (x &&& 31))) >>> (x &&& 31)) &&& 1) (fun h => St h tx ct (mSetRa nw (nw.2.2.2.2.2.2 ^^^ ((1 : Int32) <<< (x &&& 31)))) (updM pm pn (mCopy (pm pn) nw)) ((pn + 1) % 8) (min (ph + 1) 8) km kc sH sL sc)) := by
  obtain ⟨cB, dr, lt, hs, tm, tk, sp, h⟩ := hS
  have hcl := h.qp.cl
  constructor
  · intro q
    simp (disch := first | exact nl_int | exact nl_ref | exact nl_none | exact Nat.le_of_ble_eq_true rfl | assumption | exact cat_int | exact cat_ref | exact z2 | exact z4 | exact z3 | exact z5 | exact z6 | exact z8 | exact z64) only [e_55_0, e_55_1, e_55_4, e_55_7, e_55_8, e_55_9, e_55_10, e_55_13, e_55_14, e_55_17, e_55_20, e_55_21, e_55_24, e_55_25, e_55_28, e_55_29, e_55_30, e_55_31, e_55_32, e_55_35, e_55_36, e_55_39, e_55_42, e_55_43, e_55_44, e_55_45, e_55_46, nl_int, nl_ref, nl_none, cat_int, cat_ref, cat_0, cat_i, cat_r, cat_l, Option.elim_some, Option.elim_none, Option.bind_some, Option.bind_none, Option.toList_some, Option.toList_none, List.cons_append, List.nil_append, Nat.reduceAdd, Nat.reduceLeDiff, s_isSubject, q, b2_f, z0, if_true]
  · intro q
    obtain ⟨hp2, e, h2, fr⟩ := St1_rem (d := d + 10) h
    have p3 := wM_pRa (x := nw.2.2.2.2.2.2 ^^^ ((1 : Int32) <<< (x &&& 31))) h2.qn.len h2.qn.ok
    rw [wM_self h2.qn] at p3
    have h3 := St1_wn (m := mSetRa nw (nw.2.2.2.2.2.2 ^^^ ((1 : Int32) <<< (x &&& 31)))) h2 h2.qn.ok
    refine ⟨_, ?_, ⟨_, _, _, _, _, _, _, h3⟩, fr.trans (Fr_wM (by omega))⟩
    simp (disch := first | exact nl_int | exact nl_ref | exact nl_none | exact Nat.le_of_ble_eq_true rfl | assumption | exact cat_int | exact cat_ref | exact z2 | exact z4 | exact z3 | exact z5 | exact z6 | exact z8 | exact z64) only [e_55_0, e_55_1, e_55_4, e_55_7, e_55_8, e_55_9, e_55_10, e_55_13, e_55_14, e_55_17, e_55_20, e_55_21, e_55_24, e_55_25, e_55_28, e_55_29, e_55_30, e_55_31, e_55_32, e_55_35, e_55_36, e_55_39, e_55_42, e_55_43, e_55_44, e_55_45, e_55_46, nl_int, nl_ref, nl_none, cat_int, cat_ref, cat_0, cat_i, cat_r, cat_l, Option.elim_some, Option.elim_none, Option.bind_some, Option.bind_none, Option.toList_some, Option.toList_none, List.cons_append, List.nil_append, Nat.reduceAdd, Nat.reduceLeDiff, s_isSubject, q, b2_t, z1, if_false, h.f5, h.f3, e, h2.f3, h2.qn.f6, p3, h3.f3, h3.qn.f6]
    rfl
theorem s_alter (hS : St hp tx ct nw pm pn ph km kc sH sL sc) : ((inR x (cPp ct) && inR y 5) = false → am_E (d + 12) 54 0 [some (.ref 0), some (.int x), some (.int y)] [] hp = some (some (.int (-1)), hp)) ∧ (∀ i, i < cPp ct → inR y 5 = true → Run d 54 [some (.ref 0), some (.int (nI i)), some (.int y)] hp (((mO nw i ^^^ ((1 : Int32) <<< (y &&& 31))) >>> (y &&& 31)) &&& 1) (fun h => St h tx ct (mSetO nw i (mO nw i ^^^ ((1 : Int32) <<< (y &&& 31)))) (updM pm pn (mCopy (pm pn) nw)) ((pn + 1) % 8) (min (ph + 1) 8) km kc sH sL sc)) := by
  obtain ⟨cB, dr, lt, hs, tm, tk, sp, h⟩ := hS
  have hcl := h.qp.cl
  have hcl2 := h.cl
  have hp8 := h.qc.pp
  constructor
  · intro q
    by_cases q1 : inR x (cPp ct) = false
    · simp (disch := first | exact nl_int | exact nl_ref | exact nl_none | exact Nat.le_of_ble_eq_true rfl | assumption | exact cat_int | exact cat_ref | exact z2 | exact z4 | exact z3 | exact z5 | exact z6 | exact z8 | exact z64) only [e_54_0, e_54_1, e_54_2, e_54_5, e_54_8, e_54_9, e_54_12, e_54_15, e_54_16, e_54_17, e_54_18, e_54_21, e_54_22, e_54_25, e_54_28, e_54_29, e_54_32, e_54_35, e_54_36, e_54_37, e_54_38, e_54_39, e_54_40, e_54_41, e_54_42, e_54_43, e_54_44, e_54_47, e_54_50, e_54_51, e_54_52, e_54_53, e_54_54, e_54_55, e_54_56, nl_int, nl_ref, nl_none, cat_int, cat_ref, cat_0, cat_i, cat_r, cat_l, Option.elim_some, Option.elim_none, Option.bind_some, Option.bind_none, Option.toList_some, Option.toList_none, List.cons_append, List.nil_append, Nat.reduceAdd, Nat.reduceLeDiff, s_isPerson h, q1, b2_f, z0, if_true]
    · rw [inR_f q1, Bool.true_and] at q
      simp (disch := first | exact nl_int | exact nl_ref | exact nl_none | exact Nat.le_of_ble_eq_true rfl | assumption | exact cat_int | exact cat_ref | exact z2 | exact z4 | exact z3 | exact z5 | exact z6 | exact z8 | exact z64) only [e_54_0, e_54_1, e_54_2, e_54_5, e_54_8, e_54_9, e_54_12, e_54_15, e_54_16, e_54_17, e_54_18, e_54_21, e_54_22, e_54_25, e_54_28, e_54_29, e_54_32, e_54_35, e_54_36, e_54_37, e_54_38, e_54_39, e_54_40, e_54_41, e_54_42, e_54_43, e_54_44, e_54_47, e_54_50, e_54_51, e_54_52, e_54_53, e_54_54, e_54_55, e_54_56, nl_int, nl_ref, nl_none, cat_int, cat_ref, cat_0, cat_i, cat_r, cat_l, Option.elim_some, Option.elim_none, Option.bind_some, Option.bind_none, Option.toList_some, Option.toList_none, List.cons_append, List.nil_append, Nat.reduceAdd, Nat.reduceLeDiff, s_isPerson h, inR_f q1, s_isSubject, q, b2_f, b2_t, z1, z0, if_true, if_false]
  · intro i hi q
    have i8 : i < 8 := by omega
    obtain ⟨hp2, e, h2, fr⟩ := St1_rem (d := d + 10) h
    have p3 := wM_sO (x := mO nw i ^^^ ((1 : Int32) <<< (y &&& 31))) h2.qn.len h2.qn.ok i8
    rw [wM_self h2.qn] at p3
    have p4 : am_sx hp2 26 (nI i) (mO nw i ^^^ ((1 : Int32) <<< (y &&& 31))) = _ := p3
    have h3 := St1_wn (m := mSetO nw i (mO nw i ^^^ ((1 : Int32) <<< (y &&& 31)))) h2 h2.qn.ok.O
    have f1 : am_fld hp2 24 2 1 = some (.ref 26) := h2.qn.f1
    have f2 : am_fld (wM hp2 24 (mSetO nw i (mO nw i ^^^ ((1 : Int32) <<< (y &&& 31))))) 24 2 1 = some (.ref 26) := h3.qn.f1
    have e3 : mO (mSetO nw i (mO nw i ^^^ ((1 : Int32) <<< (y &&& 31)))) i = mO nw i ^^^ ((1 : Int32) <<< (y &&& 31)) := by
      unfold mO mSetO
      rw [getD_set (by rw [h.qn.ok.2.1]; exact i8), if_pos rfl]
    refine ⟨_, ?_, ⟨_, _, _, _, _, _, _, h3⟩, fr.trans (Fr_wM (by omega))⟩
    simp (disch := first | exact nl_int | exact nl_ref | exact nl_none | exact Nat.le_of_ble_eq_true rfl | assumption | exact cat_int | exact cat_ref | exact z2 | exact z4 | exact z3 | exact z5 | exact z6 | exact z8 | exact z64) only [e_54_0, e_54_1, e_54_2, e_54_5, e_54_8, e_54_9, e_54_12, e_54_15, e_54_16, e_54_17, e_54_18, e_54_21, e_54_22, e_54_25, e_54_28, e_54_29, e_54_32, e_54_35, e_54_36, e_54_37, e_54_38, e_54_39, e_54_40, e_54_41, e_54_42, e_54_43, e_54_44, e_54_47, e_54_50, e_54_51, e_54_52, e_54_53, e_54_54, e_54_55, e_54_56, nl_int, nl_ref, nl_none, cat_int, cat_ref, cat_0, cat_i, cat_r, cat_l, Option.elim_some, Option.elim_none, Option.bind_some, Option.bind_none, Option.toList_some, Option.toList_none, List.cons_append, List.nil_append, Nat.reduceAdd, Nat.reduceLeDiff, s_isPerson h, inR_n hi (by omega), s_isSubject, q, b2_t, z1, if_false, h.f5, h.f3, e, h2.f3, f1, h2.no i8, p4, h3.f3, f2, h3.no i8, e3]
theorem s_move (hS : St hp tx ct nw pm pn ph km kc sH sL sc) : ((inR x (cPp ct) && inR y (cHs ct)) = false → am_E (d + 12) 53 0 [some (.ref 0), some (.int x), some (.int y), none] [] hp = some (some (.int (-1)), hp)) ∧ (∀ i, i < cPp ct → inR y (cHs ct) = true → Run d 53 [some (.ref 0), some (.int (nI i)), some (.int y), none] hp (mH nw i) (fun h => St h tx ct (mSetH nw i y) (updM pm pn (mCopy (pm pn) nw)) ((pn + 1) % 8) (min (ph + 1) 8) km kc sH sL sc)) := by
  obtain ⟨cB, dr, lt, hs, tm, tk, sp, h⟩ := hS
  have hcl := h.qp.cl
  have hcl2 := h.cl
  have hp8 := h.qc.pp
  constructor
  · intro q
    by_cases q1 : inR x (cPp ct) = false
    · simp (disch := first | exact nl_int | exact nl_ref | exact nl_none | exact Nat.le_of_ble_eq_true rfl | assumption | exact cat_int | exact cat_ref | exact z2 | exact z4 | exact z3 | exact z5 | exact z6 | exact z8 | exact z64) only [e_53_0, e_53_1, e_53_2, e_53_5, e_53_8, e_53_9, e_53_10, e_53_13, e_53_16, e_53_17, e_53_18, e_53_19, e_53_22, e_53_23, e_53_26, e_53_29, e_53_30, e_53_33, e_53_36, e_53_37, e_53_38, e_53_39, e_53_40, e_53_43, e_53_46, e_53_47, e_53_48, e_53_49, e_53_50, nl_int, nl_ref, nl_none, cat_int, cat_ref, cat_0, cat_i, cat_r, cat_l, Option.elim_some, Option.elim_none, Option.bind_some, Option.bind_none, Option.toList_some, Option.toList_none, List.cons_append, List.nil_append, Nat.reduceAdd, Nat.reduceLeDiff, s_isPerson h, q1, b2_f, z0, if_true]
    · rw [inR_f q1, Bool.true_and] at q
      simp (disch := first | exact nl_int | exact nl_ref | exact nl_none | exact Nat.le_of_ble_eq_true rfl | assumption | exact cat_int | exact cat_ref | exact z2 | exact z4 | exact z3 | exact z5 | exact z6 | exact z8 | exact z64) only [e_53_0, e_53_1, e_53_2, e_53_5, e_53_8, e_53_9, e_53_10, e_53_13, e_53_16, e_53_17, e_53_18, e_53_19, e_53_22, e_53_23, e_53_26, e_53_29, e_53_30, e_53_33, e_53_36, e_53_37, e_53_38, e_53_39, e_53_40, e_53_43, e_53_46, e_53_47, e_53_48, e_53_49, e_53_50, nl_int, nl_ref, nl_none, cat_int, cat_ref, cat_0, cat_i, cat_r, cat_l, Option.elim_some, Option.elim_none, Option.bind_some, Option.bind_none, Option.toList_some, Option.toList_none, List.cons_append, List.nil_append, Nat.reduceAdd, Nat.reduceLeDiff, s_isPerson h, inR_f q1, s_isHouse h, q, b2_f, b2_t, z1, z0, if_true, if_false]
  · intro i hi q
    have i8 : i < 8 := by omega
    obtain ⟨hp2, e, h2, fr⟩ := St1_rem (d := d + 10) h
    have p3 := wM_sH (x := y) h2.qn.len h2.qn.ok i8
    rw [wM_self h2.qn] at p3
    have p4 : am_sx hp2 28 (nI i) y = _ := p3
    have h3 := St1_wn (m := mSetH nw i y) h2 h2.qn.ok.H
    have f1 : am_fld hp2 24 2 3 = some (.ref 28) := h2.qn.f3
    refine ⟨_, ?_, ⟨_, _, _, _, _, _, _, h3⟩, fr.trans (Fr_wM (by omega))⟩
    simp (disch := first | exact nl_int | exact nl_ref | exact nl_none | exact Nat.le_of_ble_eq_true rfl | assumption | exact cat_int | exact cat_ref | exact z2 | exact z4 | exact z3 | exact z5 | exact z6 | exact z8 | exact z64) only [e_53_0, e_53_1, e_53_2, e_53_5, e_53_8, e_53_9, e_53_10, e_53_13, e_53_16, e_53_17, e_53_18, e_53_19, e_53_22, e_53_23, e_53_26, e_53_29, e_53_30, e_53_33, e_53_36, e_53_37, e_53_38, e_53_39, e_53_40, e_53_43, e_53_46, e_53_47, e_53_48, e_53_49, e_53_50, nl_int, nl_ref, nl_none, cat_int, cat_ref, cat_0, cat_i, cat_r, cat_l, Option.elim_some, Option.elim_none, Option.bind_some, Option.bind_none, Option.toList_some, Option.toList_none, List.cons_append, List.nil_append, Nat.reduceAdd, Nat.reduceLeDiff, s_isPerson h, inR_n hi (by omega), s_isHouse h, q, b2_t, z1, if_false, h.f5, h.f3, e, h2.f3, f1, h2.nh i8, p4]
end CL4
