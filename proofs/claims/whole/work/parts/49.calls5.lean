/-! THE CALLS: light ahead, what settles, what is kept -/
def aFirst (ct : am_Ci) (hr : Nat) (all : Int32) : Nat → Nat → am_Mo → Int32
  | 0, _, _ => -4
  | n + 1, j, m => if cLit ct m (cTalk ct m (hr + j)) = all then aFirst ct hr all n (j + 1) (goF ct hr j m) else nI j
def mPc (m : am_Mo) (t : Int32) : Nat → Nat → Bool
  | 0, _ => true
  | n + 1, i => if mFoes m i t = 0 then mPc m t n (i + 1) else false
def aSettles (ct : am_Ci) (hr : Nat) : Nat → Nat → am_Mo → Int32
  | 0, _, _ => -4
  | n + 1, j, m => if mPc (goF ct hr j m) 31 8 0 = true then nI (j + 1) else aSettles ct hr n (j + 1) (goF ct hr j m)
theorem goF_nf {ct : am_Ci} {hr j : Nat} {m : am_Mo} {f : List Int32} (h : mOK m) (hf : f.length = 8) : goF ct hr j (mNf m f) = goF ct hr j m := mGo_nf h hf
theorem aFirst_nf {ct : am_Ci} {hr n j : Nat} {all : Int32} {m : am_Mo} {f : List Int32} (h : mOK m) (hf : f.length = 8) : aFirst ct hr all n j (mNf m f) = aFirst ct hr all n j m := by
  cases n with
  | zero => rfl
  | succ n =>
    rw [aFirst, aFirst, goF_nf h hf]
    rfl
theorem aSettles_nf {ct : am_Ci} {hr n j : Nat} {m : am_Mo} {f : List Int32} (h : mOK m) (hf : f.length = 8) : aSettles ct hr n j (mNf m f) = aSettles ct hr n j m := by
  cases n with
  | zero => rfl
  | succ n => rw [aSettles, aSettles, goF_nf h hf]
theorem cLit_nf {ct : am_Ci} {m : am_Mo} {f : List Int32} {t : Int32} : cLit ct (mNf m f) t = cLit ct m t := rfl
theorem cAll_nf {ct : am_Ci} {m : am_Mo} {f : List Int32} {t : Int32} : cAll ct (mNf m f) t = cAll ct m t := rfl
theorem mLight_nf {m : am_Mo} {f : List Int32} {x t : Int32} : mLight (mNf m f) x t = mLight m x t := rfl
theorem cTalk_nf {ct : am_Ci} {m : am_Mo} {f : List Int32} {hr : Nat} : cTalk ct (mNf m f) hr = cTalk ct m hr := rfl
section CL6
variable {d : Nat} {hp hp2 : am_H} {cB : Nat} {dr : am_Ci} {lt : am_Mo} {hs : am_Hs} {tm : Nat → am_Mo} {tk : am_Tk} {sp : List Int32} {tx : am_Tx} {ct : am_Ci} {nw : am_Mo} {pm : Nat → am_Mo} {pn ph : Nat} {km : Nat → am_Mo} {kc : Nat} {sH sL : List Int32} {sc i n hr : Nat} {x y : Int32}
theorem s_lit0 (q : y < 0 ∨ 30 < y) : am_E (d + 12) 58 0 [some (.ref 0), some (.int y)] [] hp = some (some (.int (-1)), hp) := by
  by_cases q1 : y < 0
  · simp (disch := first | exact nl_int | exact nl_ref | exact nl_none | exact Nat.le_of_ble_eq_true rfl | assumption | exact cat_int | exact cat_ref | exact z2 | exact z4 | exact z3 | exact z5 | exact z6 | exact z8 | exact z64) only [e_58_0, e_58_1, e_58_4, e_58_5, e_58_7, e_58_10, e_58_11, e_58_12, e_58_13, e_58_14, e_58_17, e_58_18, e_58_21, e_58_22, e_58_25, e_58_26, e_58_29, e_58_30, e_58_33, e_58_36, e_58_39, nl_int, nl_ref, nl_none, cat_int, cat_ref, cat_0, cat_i, cat_r, cat_l, Option.elim_some, Option.elim_none, Option.bind_some, Option.bind_none, Option.toList_some, Option.toList_none, List.cons_append, List.nil_append, Nat.reduceAdd, Nat.reduceLeDiff, if_pos q1]
  · have q2 : 30 < y := q.resolve_left q1
    simp (disch := first | exact nl_int | exact nl_ref | exact nl_none | exact Nat.le_of_ble_eq_true rfl | assumption | exact cat_int | exact cat_ref | exact z2 | exact z4 | exact z3 | exact z5 | exact z6 | exact z8 | exact z64) only [e_58_0, e_58_1, e_58_4, e_58_5, e_58_7, e_58_10, e_58_11, e_58_12, e_58_13, e_58_14, e_58_17, e_58_18, e_58_21, e_58_22, e_58_25, e_58_26, e_58_29, e_58_30, e_58_33, e_58_36, e_58_39, nl_int, nl_ref, nl_none, cat_int, cat_ref, cat_0, cat_i, cat_r, cat_l, Option.elim_some, Option.elim_none, Option.bind_some, Option.bind_none, Option.toList_some, Option.toList_none, List.cons_append, List.nil_append, Nat.reduceAdd, Nat.reduceLeDiff, if_neg q1, if_pos q2]
theorem s_lit1 (hS : St hp tx ct nw pm pn ph km kc sH sL sc) (hh : nw.2.2.2.2.2.1 = nI hr) (hl : hr ≤ 999) (hn : n ≤ 30) : Run d 58 [some (.ref 0), some (.int (nI n))] hp (cLit ct (mOn ct hr n nw) (cTalk ct (mOn ct hr n nw) (hr + n))) (fun h => St h tx ct nw pm pn ph km kc sH sL sc) := by
  obtain ⟨cB, dr, lt, hs, tm, tk, sp, h⟩ := hS
  have hcl := h.cl
  obtain ⟨hp2, f, e, h2, fr⟩ := s_look (d := d + 8) (n := n) h hh hl (by omega)
  have ok := mOn_ok (ct := ct) (n := n) h.qn.ok hh
  have hc1 := h2.qc.cl
  have hh2 : (mNf (mOn ct hr n nw) f).2.2.2.2.2.1 = nI (hr + n) := ok.2
  refine ⟨hp2, ?_, ⟨_, _, _, _, _, _, _, h2⟩, fr⟩
  simp (disch := first | exact nl_int | exact nl_ref | exact nl_none | exact Nat.le_of_ble_eq_true rfl | assumption | exact cat_int | exact cat_ref | exact z2 | exact z4 | exact z3 | exact z5 | exact z6 | exact z8 | exact z64) only [e_58_0, e_58_1, e_58_4, e_58_5, e_58_7, e_58_10, e_58_11, e_58_12, e_58_13, e_58_14, e_58_17, e_58_18, e_58_21, e_58_22, e_58_25, e_58_26, e_58_29, e_58_30, e_58_33, e_58_36, e_58_39, nl_int, nl_ref, nl_none, cat_int, cat_ref, cat_0, cat_i, cat_r, cat_l, Option.elim_some, Option.elim_none, Option.bind_some, Option.bind_none, Option.toList_some, Option.toList_none, List.cons_append, List.nil_append, Nat.reduceAdd, Nat.reduceLeDiff, ngF (j := n) (by omega), gtF (x := 30) (c := 30) rfl hn (by decide), if_false, e, h2.f1, h2.f4, s_talkedOf h2.qc h2.ql hh2 (show hr + n < 2 ^ 31 by omega), s_worksLit h2.qc h2.ql, cLit_nf, cTalk_nf]
theorem s_light0 (hS : St hp tx ct nw pm pn ph km kc sH sL sc) (q : (x ≠ -1 ∧ inR x (cHs ct) = false) ∨ y < 0 ∨ 30 < y) : am_E (d + 12) 57 0 [some (.ref 0), some (.int x), some (.int y), none] [] hp = some (some (.int (-1)), hp) := by
  obtain ⟨cB, dr, lt, hs, tm, tk, sp, h⟩ := hS
  have hcl := h.cl
  by_cases q0 : x ≠ -1 ∧ inR x (cHs ct) = false
  · simp (disch := first | exact nl_int | exact nl_ref | exact nl_none | exact Nat.le_of_ble_eq_true rfl | assumption | exact cat_int | exact cat_ref | exact z2 | exact z4 | exact z3 | exact z5 | exact z6 | exact z8 | exact z64) only [e_57_0, e_57_1, e_57_2, e_57_5, e_57_6, e_57_7, e_57_10, e_57_13, e_57_14, e_57_17, e_57_18, e_57_20, e_57_23, e_57_24, e_57_25, e_57_26, e_57_27, e_57_30, e_57_31, e_57_34, e_57_35, e_57_38, e_57_41, e_57_42, e_57_43, e_57_44, e_57_47, e_57_48, e_57_51, e_57_52, e_57_55, e_57_56, e_57_59, e_57_62, e_57_63, e_57_66, e_57_67, e_57_68, e_57_71, nl_int, nl_ref, nl_none, cat_int, cat_ref, cat_0, cat_i, cat_r, cat_l, Option.elim_some, Option.elim_none, Option.bind_some, Option.bind_none, Option.toList_some, Option.toList_none, List.cons_append, List.nil_append, Nat.reduceAdd, Nat.reduceLeDiff, if_neg q0.1, s_isHouse h, q0.2, b2_f, z0, if_true]
  · have q3 := q.resolve_left q0
    by_cases qx : x = -1
    · by_cases q1 : y < 0
      · simp (disch := first | exact nl_int | exact nl_ref | exact nl_none | exact Nat.le_of_ble_eq_true rfl | assumption | exact cat_int | exact cat_ref | exact z2 | exact z4 | exact z3 | exact z5 | exact z6 | exact z8 | exact z64) only [e_57_0, e_57_1, e_57_2, e_57_5, e_57_6, e_57_7, e_57_10, e_57_13, e_57_14, e_57_17, e_57_18, e_57_20, e_57_23, e_57_24, e_57_25, e_57_26, e_57_27, e_57_30, e_57_31, e_57_34, e_57_35, e_57_38, e_57_41, e_57_42, e_57_43, e_57_44, e_57_47, e_57_48, e_57_51, e_57_52, e_57_55, e_57_56, e_57_59, e_57_62, e_57_63, e_57_66, e_57_67, e_57_68, e_57_71, nl_int, nl_ref, nl_none, cat_int, cat_ref, cat_0, cat_i, cat_r, cat_l, Option.elim_some, Option.elim_none, Option.bind_some, Option.bind_none, Option.toList_some, Option.toList_none, List.cons_append, List.nil_append, Nat.reduceAdd, Nat.reduceLeDiff, if_pos qx, if_pos q1]
      · simp (disch := first | exact nl_int | exact nl_ref | exact nl_none | exact Nat.le_of_ble_eq_true rfl | assumption | exact cat_int | exact cat_ref | exact z2 | exact z4 | exact z3 | exact z5 | exact z6 | exact z8 | exact z64) only [e_57_0, e_57_1, e_57_2, e_57_5, e_57_6, e_57_7, e_57_10, e_57_13, e_57_14, e_57_17, e_57_18, e_57_20, e_57_23, e_57_24, e_57_25, e_57_26, e_57_27, e_57_30, e_57_31, e_57_34, e_57_35, e_57_38, e_57_41, e_57_42, e_57_43, e_57_44, e_57_47, e_57_48, e_57_51, e_57_52, e_57_55, e_57_56, e_57_59, e_57_62, e_57_63, e_57_66, e_57_67, e_57_68, e_57_71, nl_int, nl_ref, nl_none, cat_int, cat_ref, cat_0, cat_i, cat_r, cat_l, Option.elim_some, Option.elim_none, Option.bind_some, Option.bind_none, Option.toList_some, Option.toList_none, List.cons_append, List.nil_append, Nat.reduceAdd, Nat.reduceLeDiff, if_pos qx, if_neg q1, if_pos (q3.resolve_left q1)]
    · have qh : inR x (cHs ct) = true := inR_f (fun z => q0 ⟨qx, z⟩)
      by_cases q1 : y < 0
      · simp (disch := first | exact nl_int | exact nl_ref | exact nl_none | exact Nat.le_of_ble_eq_true rfl | assumption | exact cat_int | exact cat_ref | exact z2 | exact z4 | exact z3 | exact z5 | exact z6 | exact z8 | exact z64) only [e_57_0, e_57_1, e_57_2, e_57_5, e_57_6, e_57_7, e_57_10, e_57_13, e_57_14, e_57_17, e_57_18, e_57_20, e_57_23, e_57_24, e_57_25, e_57_26, e_57_27, e_57_30, e_57_31, e_57_34, e_57_35, e_57_38, e_57_41, e_57_42, e_57_43, e_57_44, e_57_47, e_57_48, e_57_51, e_57_52, e_57_55, e_57_56, e_57_59, e_57_62, e_57_63, e_57_66, e_57_67, e_57_68, e_57_71, nl_int, nl_ref, nl_none, cat_int, cat_ref, cat_0, cat_i, cat_r, cat_l, Option.elim_some, Option.elim_none, Option.bind_some, Option.bind_none, Option.toList_some, Option.toList_none, List.cons_append, List.nil_append, Nat.reduceAdd, Nat.reduceLeDiff, if_neg qx, s_isHouse h, qh, b2_t, z1, if_false, if_pos q1]
      · simp (disch := first | exact nl_int | exact nl_ref | exact nl_none | exact Nat.le_of_ble_eq_true rfl | assumption | exact cat_int | exact cat_ref | exact z2 | exact z4 | exact z3 | exact z5 | exact z6 | exact z8 | exact z64) only [e_57_0, e_57_1, e_57_2, e_57_5, e_57_6, e_57_7, e_57_10, e_57_13, e_57_14, e_57_17, e_57_18, e_57_20, e_57_23, e_57_24, e_57_25, e_57_26, e_57_27, e_57_30, e_57_31, e_57_34, e_57_35, e_57_38, e_57_41, e_57_42, e_57_43, e_57_44, e_57_47, e_57_48, e_57_51, e_57_52, e_57_55, e_57_56, e_57_59, e_57_62, e_57_63, e_57_66, e_57_67, e_57_68, e_57_71, nl_int, nl_ref, nl_none, cat_int, cat_ref, cat_0, cat_i, cat_r, cat_l, Option.elim_some, Option.elim_none, Option.bind_some, Option.bind_none, Option.toList_some, Option.toList_none, List.cons_append, List.nil_append, Nat.reduceAdd, Nat.reduceLeDiff, if_neg qx, s_isHouse h, qh, b2_t, z1, if_false, if_neg q1, if_pos (q3.resolve_left q1)]
theorem s_light1 (hS : St hp tx ct nw pm pn ph km kc sH sL sc) (hh : nw.2.2.2.2.2.1 = nI hr) (hl : hr ≤ 999) (hn : n ≤ 30) (q : x = -1 ∨ inR x (cHs ct) = true) : Run d 57 [some (.ref 0), some (.int x), some (.int (nI n)), none] hp (if x = -1 then cAll ct (mOn ct hr n nw) (cTalk ct (mOn ct hr n nw) (hr + n)) else mLight (mOn ct hr n nw) x (cTalk ct (mOn ct hr n nw) (hr + n))) (fun h => St h tx ct nw pm pn ph km kc sH sL sc) := by
  obtain ⟨cB, dr, lt, hs, tm, tk, sp, h⟩ := hS
  have hcl := h.cl
  obtain ⟨hp2, f, e, h2, fr⟩ := s_look (d := d + 8) (n := n) h hh hl (by omega)
  have ok := mOn_ok (ct := ct) (n := n) h.qn.ok hh
  have hc1 := h2.qc.cl
  have hc2 := h2.ql.c
  have hh2 : (mNf (mOn ct hr n nw) f).2.2.2.2.2.1 = nI (hr + n) := ok.2
  refine ⟨hp2, ?_, ⟨_, _, _, _, _, _, _, h2⟩, fr⟩
  by_cases qx : x = -1
  · rw [if_pos qx]
    simp (disch := first | exact nl_int | exact nl_ref | exact nl_none | exact Nat.le_of_ble_eq_true rfl | assumption | exact cat_int | exact cat_ref | exact z2 | exact z4 | exact z3 | exact z5 | exact z6 | exact z8 | exact z64) only [e_57_0, e_57_1, e_57_2, e_57_5, e_57_6, e_57_7, e_57_10, e_57_13, e_57_14, e_57_17, e_57_18, e_57_20, e_57_23, e_57_24, e_57_25, e_57_26, e_57_27, e_57_30, e_57_31, e_57_34, e_57_35, e_57_38, e_57_41, e_57_42, e_57_43, e_57_44, e_57_47, e_57_48, e_57_51, e_57_52, e_57_55, e_57_56, e_57_59, e_57_62, e_57_63, e_57_66, e_57_67, e_57_68, e_57_71, nl_int, nl_ref, nl_none, cat_int, cat_ref, cat_0, cat_i, cat_r, cat_l, Option.elim_some, Option.elim_none, Option.bind_some, Option.bind_none, Option.toList_some, Option.toList_none, List.cons_append, List.nil_append, Nat.reduceAdd, Nat.reduceLeDiff, if_pos qx, ngF (j := n) (by omega), gtF (x := 30) (c := 30) rfl hn (by decide), if_false, e, h2.f1, h2.f4, s_talkedOf h2.qc h2.ql hh2 (show hr + n < 2 ^ 31 by omega), s_lightOfAll h2.qc h2.ql, cAll_nf, cTalk_nf]
  · rw [if_neg qx]
    simp (disch := first | exact nl_int | exact nl_ref | exact nl_none | exact Nat.le_of_ble_eq_true rfl | assumption | exact cat_int | exact cat_ref | exact z2 | exact z4 | exact z3 | exact z5 | exact z6 | exact z8 | exact z64) only [e_57_0, e_57_1, e_57_2, e_57_5, e_57_6, e_57_7, e_57_10, e_57_13, e_57_14, e_57_17, e_57_18, e_57_20, e_57_23, e_57_24, e_57_25, e_57_26, e_57_27, e_57_30, e_57_31, e_57_34, e_57_35, e_57_38, e_57_41, e_57_42, e_57_43, e_57_44, e_57_47, e_57_48, e_57_51, e_57_52, e_57_55, e_57_56, e_57_59, e_57_62, e_57_63, e_57_66, e_57_67, e_57_68, e_57_71, nl_int, nl_ref, nl_none, cat_int, cat_ref, cat_0, cat_i, cat_r, cat_l, Option.elim_some, Option.elim_none, Option.bind_some, Option.bind_none, Option.toList_some, Option.toList_none, List.cons_append, List.nil_append, Nat.reduceAdd, Nat.reduceLeDiff, if_neg qx, s_isHouse h, q.resolve_left qx, b2_t, z1, ngF (j := n) (by omega), gtF (x := 30) (c := 30) rfl hn (by decide), if_false, e, h2.f1, h2.f4, s_talkedOf h2.qc h2.ql hh2 (show hr + n < 2 ^ 31 by omega), s_lightOf h2.ql, mLight_nf, cTalk_nf]
theorem s_first (hS : St hp tx ct nw pm pn ph km kc sH sL sc) (hh : nw.2.2.2.2.2.1 = nI hr) (hl : hr ≤ 999) : Run d 60 [some (.ref 0), none, none, none] hp (aFirst ct hr ((1 : Int32) <<< (nI (cWk ct) &&& 31) - 1) 31 0 nw) (fun h => St h tx ct nw pm pn ph km kc sH sL sc) := by
  obtain ⟨cB, dr, lt, hs, tm, tk, sp, h⟩ := hS
  have hcl := h.ql.c
  obtain ⟨e, h1⟩ := St1_cpL (d := d + 11) h
  have key : ∀ n j s l3, j + n = 31 → mOK s → s.2.2.2.2.2.1 = nI (hr + j) → ∃ s2, mOK s2 ∧ am_E (d + 12) 60 25 [some (.ref 0), some (.int ((1 : Int32) <<< (nI (cWk ct) &&& 31) - 1)), some (.int (nI j)), l3] [] (wM hp 30 s) = some (some (.int (aFirst ct hr ((1 : Int32) <<< (nI (cWk ct) &&& 31) - 1) n j s)), wM hp 30 s2) := by
    intro n
    induction n with
    | zero =>
      intro j s l3 hj hs hr2
      refine ⟨s, hs, ?_⟩
      rw [e_60_25]
      simp (disch := first | exact nl_int | exact nl_ref | exact nl_none | exact Nat.le_of_ble_eq_true rfl | assumption | exact cat_int | exact cat_ref | exact z2 | exact z4 | exact z3 | exact z5 | exact z6 | exact z8 | exact z64) only [e_60_0, e_60_1, e_60_2, e_60_5, e_60_8, e_60_9, e_60_10, e_60_11, e_60_12, e_60_13, e_60_16, e_60_17, e_60_20, e_60_23, e_60_24, e_60_26, e_60_28, e_60_31, e_60_32, e_60_35, e_60_36, e_60_39, e_60_42, e_60_43, e_60_44, e_60_47, e_60_48, e_60_51, e_60_52, e_60_55, e_60_56, e_60_59, e_60_60, e_60_61, e_60_62, e_60_65, e_60_66, e_60_69, e_60_72, e_60_75, e_60_77, nl_int, nl_ref, nl_none, cat_int, cat_ref, cat_0, cat_i, cat_r, cat_l, Option.elim_some, Option.elim_none, Option.bind_some, Option.bind_none, Option.toList_some, Option.toList_none, List.cons_append, List.nil_append, Nat.reduceAdd, Nat.reduceLeDiff, gtT (x := 30) (c := 30) rfl (show 30 < j by omega) (by omega), if_true]
      rfl
    | succ n ih =>
      intro j s l3 hj hs hr2
      have g := St1_wl h hs
      have hc1 := g.ql.c
      have hc2 := g.qc.cl
      rw [e_60_25, aFirst]
      by_cases q : cLit ct s (cTalk ct s (hr + j)) = (1 : Int32) <<< (nI (cWk ct) &&& 31) - 1
      · rw [if_pos q]
        obtain ⟨s2, o2, e2⟩ := ih (j + 1) (goF ct hr j s) (some (.int (cTalk ct s (hr + j)))) (by omega) (mGo_ok hs) (by rw [goF, mGo_hr, hr2, nI_1]; rfl)
        refine ⟨s2, o2, ?_⟩
        rw [goF] at e2 ⊢
        simp (disch := first | exact nl_int | exact nl_ref | exact nl_none | exact Nat.le_of_ble_eq_true rfl | assumption | exact cat_int | exact cat_ref | exact z2 | exact z4 | exact z3 | exact z5 | exact z6 | exact z8 | exact z64) only [e_60_0, e_60_1, e_60_2, e_60_5, e_60_8, e_60_9, e_60_10, e_60_11, e_60_12, e_60_13, e_60_16, e_60_17, e_60_20, e_60_23, e_60_24, e_60_26, e_60_28, e_60_31, e_60_32, e_60_35, e_60_36, e_60_39, e_60_42, e_60_43, e_60_44, e_60_47, e_60_48, e_60_51, e_60_52, e_60_55, e_60_56, e_60_59, e_60_60, e_60_61, e_60_62, e_60_65, e_60_66, e_60_69, e_60_72, e_60_75, e_60_77, nl_int, nl_ref, nl_none, cat_int, cat_ref, cat_0, cat_i, cat_r, cat_l, Option.elim_some, Option.elim_none, Option.bind_some, Option.bind_none, Option.toList_some, Option.toList_none, List.cons_append, List.nil_append, Nat.reduceAdd, Nat.reduceLeDiff, gtF (x := 30) (c := 30) rfl (show j ≤ 30 by omega) (by decide), if_false, g.f1, g.f4, s_talkedOf g.qc g.ql hr2 (show hr + j < 2 ^ 31 by omega), s_worksLit g.qc g.ql, if_pos q, s_goBy h.ql.len hs, nI_1, e2]
      · rw [if_neg q]
        refine ⟨s, hs, ?_⟩
        simp (disch := first | exact nl_int | exact nl_ref | exact nl_none | exact Nat.le_of_ble_eq_true rfl | assumption | exact cat_int | exact cat_ref | exact z2 | exact z4 | exact z3 | exact z5 | exact z6 | exact z8 | exact z64) only [e_60_0, e_60_1, e_60_2, e_60_5, e_60_8, e_60_9, e_60_10, e_60_11, e_60_12, e_60_13, e_60_16, e_60_17, e_60_20, e_60_23, e_60_24, e_60_26, e_60_28, e_60_31, e_60_32, e_60_35, e_60_36, e_60_39, e_60_42, e_60_43, e_60_44, e_60_47, e_60_48, e_60_51, e_60_52, e_60_55, e_60_56, e_60_59, e_60_60, e_60_61, e_60_62, e_60_65, e_60_66, e_60_69, e_60_72, e_60_75, e_60_77, nl_int, nl_ref, nl_none, cat_int, cat_ref, cat_0, cat_i, cat_r, cat_l, Option.elim_some, Option.elim_none, Option.bind_some, Option.bind_none, Option.toList_some, Option.toList_none, List.cons_append, List.nil_append, Nat.reduceAdd, Nat.reduceLeDiff, gtF (x := 30) (c := 30) rfl (show j ≤ 30 by omega) (by decide), if_false, g.f1, g.f4, s_talkedOf g.qc g.ql hr2 (show hr + j < 2 ^ 31 by omega), s_worksLit g.qc g.ql, if_neg q]
  obtain ⟨s2, o2, e2⟩ := key 31 0 (mCopy lt nw) none rfl h1.ql.ok hh
  have enf : aFirst ct hr ((1 : Int32) <<< (nI (cWk ct) &&& 31) - 1) 31 0 (mCopy lt nw) = aFirst ct hr ((1 : Int32) <<< (nI (cWk ct) &&& 31) - 1) 31 0 nw := aFirst_nf h.qn.ok h.ql.ok.2.2.2.2
  rw [enf] at e2
  refine ⟨_, ?_, ⟨_, _, _, _, _, _, _, St1_wl h o2⟩, Fr_wM (by omega)⟩
  simp (disch := first | exact nl_int | exact nl_ref | exact nl_none | exact Nat.le_of_ble_eq_true rfl | assumption | exact cat_int | exact cat_ref | exact z2 | exact z4 | exact z3 | exact z5 | exact z6 | exact z8 | exact z64) only [e_60_0, e_60_1, e_60_2, e_60_5, e_60_8, e_60_9, e_60_10, e_60_11, e_60_12, e_60_13, e_60_16, e_60_17, e_60_20, e_60_23, e_60_24, e_60_26, e_60_28, e_60_31, e_60_32, e_60_35, e_60_36, e_60_39, e_60_42, e_60_43, e_60_44, e_60_47, e_60_48, e_60_51, e_60_52, e_60_55, e_60_56, e_60_59, e_60_60, e_60_61, e_60_62, e_60_65, e_60_66, e_60_69, e_60_72, e_60_75, e_60_77, nl_int, nl_ref, nl_none, cat_int, cat_ref, cat_0, cat_i, cat_r, cat_l, Option.elim_some, Option.elim_none, Option.bind_some, Option.bind_none, Option.toList_some, Option.toList_none, List.cons_append, List.nil_append, Nat.reduceAdd, Nat.reduceLeDiff, h.f1, h.qc.f6, h.f4, h.f3, e]
  exact e2
theorem s_nobody {k : Nat} {m : am_Mo} {t : Int32} (h : isM hp k m) : am_E (d + 2) 81 0 [some (.ref k), some (.int t), none] [] hp = some (some (.int (b2 (mPc m t 8 0))), hp) := by
  have hcl := h.c
  have key : ∀ n j, j + n = 8 → am_E (d + 2) 81 2 [some (.ref k), some (.int t), some (.int (nI j))] [] hp = some (some (.int (b2 (mPc m t n j))), hp) := by
    intro n
    induction n with
    | zero =>
      intro j hj
      rw [e_81_2]
      simp (disch := first | exact nl_int | exact nl_ref | exact nl_none | exact Nat.le_of_ble_eq_true rfl | assumption | exact cat_int | exact cat_ref | exact z2 | exact z4 | exact z3 | exact z5 | exact z6 | exact z8 | exact z64) only [e_81_0, e_81_1, e_81_3, e_81_5, e_81_8, e_81_9, e_81_10, e_81_11, e_81_14, e_81_17, e_81_18, e_81_18_1, e_81_19, e_81_22, e_81_25, e_81_26, e_81_26_1, nl_int, nl_ref, nl_none, cat_int, cat_ref, cat_0, cat_i, cat_r, cat_l, Option.elim_some, Option.elim_none, Option.bind_some, Option.bind_none, Option.toList_some, Option.toList_none, List.cons_append, List.nil_append, Nat.reduceAdd, Nat.reduceLeDiff, ltF (x := 8) (c := 8) rfl (show 8 ≤ j by omega) (by omega), if_false]
      rfl
    | succ n ih =>
      intro j hj
      rw [e_81_2, mPc]
      by_cases q : mFoes m j t = 0
      · rw [if_pos q]
        simp (disch := first | exact nl_int | exact nl_ref | exact nl_none | exact Nat.le_of_ble_eq_true rfl | assumption | exact cat_int | exact cat_ref | exact z2 | exact z4 | exact z3 | exact z5 | exact z6 | exact z8 | exact z64) only [e_81_0, e_81_1, e_81_3, e_81_5, e_81_8, e_81_9, e_81_10, e_81_11, e_81_14, e_81_17, e_81_18, e_81_18_1, e_81_19, e_81_22, e_81_25, e_81_26, e_81_26_1, nl_int, nl_ref, nl_none, cat_int, cat_ref, cat_0, cat_i, cat_r, cat_l, Option.elim_some, Option.elim_none, Option.bind_some, Option.bind_none, Option.toList_some, Option.toList_none, List.cons_append, List.nil_append, Nat.reduceAdd, Nat.reduceLeDiff, ltT (x := 8) (c := 8) rfl (show j < 8 by omega) (by decide), if_true, s_foesOf h (show j < 8 by omega), if_pos q, nI_1, ih (j + 1) (by omega)]
      · rw [if_neg q]
        simp (disch := first | exact nl_int | exact nl_ref | exact nl_none | exact Nat.le_of_ble_eq_true rfl | assumption | exact cat_int | exact cat_ref | exact z2 | exact z4 | exact z3 | exact z5 | exact z6 | exact z8 | exact z64) only [e_81_0, e_81_1, e_81_3, e_81_5, e_81_8, e_81_9, e_81_10, e_81_11, e_81_14, e_81_17, e_81_18, e_81_18_1, e_81_19, e_81_22, e_81_25, e_81_26, e_81_26_1, nl_int, nl_ref, nl_none, cat_int, cat_ref, cat_0, cat_i, cat_r, cat_l, Option.elim_some, Option.elim_none, Option.bind_some, Option.bind_none, Option.toList_some, Option.toList_none, List.cons_append, List.nil_append, Nat.reduceAdd, Nat.reduceLeDiff, ltT (x := 8) (c := 8) rfl (show j < 8 by omega) (by decide), if_true, s_foesOf h (show j < 8 by omega), if_neg q, b2_f]
  simp (disch := first | exact nl_int | exact nl_ref | exact nl_none | exact Nat.le_of_ble_eq_true rfl | assumption | exact cat_int | exact cat_ref | exact z2 | exact z4 | exact z3 | exact z5 | exact z6 | exact z8 | exact z64) only [e_81_0, e_81_1, e_81_3, e_81_5, e_81_8, e_81_9, e_81_10, e_81_11, e_81_14, e_81_17, e_81_18, e_81_18_1, e_81_19, e_81_22, e_81_25, e_81_26, e_81_26_1, nl_int, nl_ref, nl_none, cat_int, cat_ref, cat_0, cat_i, cat_r, cat_l, Option.elim_some, Option.elim_none, Option.bind_some, Option.bind_none, Option.toList_some, Option.toList_none, List.cons_append, List.nil_append, Nat.reduceAdd, Nat.reduceLeDiff]
  exact key 8 0 rfl
theorem s_settles (hS : St hp tx ct nw pm pn ph km kc sH sL sc) (hh : nw.2.2.2.2.2.1 = nI hr) (hl : hr ≤ 999) : Run d 64 [some (.ref 0), none] hp (aSettles ct hr 60 0 nw) (fun h => St h tx ct nw pm pn ph km kc sH sL sc) := by
  obtain ⟨cB, dr, lt, hs, tm, tk, sp, h⟩ := hS
  have hcl := h.ql.c
  obtain ⟨e, h1⟩ := St1_cpL (d := d + 11) h
  have key : ∀ n j s, j + n = 60 → mOK s → s.2.2.2.2.2.1 = nI (hr + j) → ∃ s2, mOK s2 ∧ am_E (d + 12) 64 13 [some (.ref 0), some (.int (nI (j + 1)))] [] (wM hp 30 s) = some (some (.int (aSettles ct hr n j s)), wM hp 30 s2) := by
    intro n
    induction n with
    | zero =>
      intro j s hj hs hr2
      refine ⟨s, hs, ?_⟩
      rw [e_64_13]
      simp (disch := first | exact nl_int | exact nl_ref | exact nl_none | exact Nat.le_of_ble_eq_true rfl | assumption | exact cat_int | exact cat_ref | exact z2 | exact z4 | exact z3 | exact z5 | exact z6 | exact z8 | exact z64) only [e_64_0, e_64_1, e_64_4, e_64_5, e_64_8, e_64_11, e_64_12, e_64_14, e_64_16, e_64_19, e_64_20, e_64_23, e_64_24, e_64_27, e_64_28, e_64_31, e_64_34, e_64_37, e_64_38, e_64_41, e_64_43, e_64_46, e_64_49, e_64_50, e_64_51, e_64_54, e_64_57, e_64_59, nl_int, nl_ref, nl_none, cat_int, cat_ref, cat_0, cat_i, cat_r, cat_l, Option.elim_some, Option.elim_none, Option.bind_some, Option.bind_none, Option.toList_some, Option.toList_none, List.cons_append, List.nil_append, Nat.reduceAdd, Nat.reduceLeDiff, gtT (x := 60) (c := 60) rfl (show 60 < j + 1 by omega) (by omega), if_true]
      rfl
    | succ n ih =>
      intro j s hj hs hr2
      have g := St1_wl h hs
      have hc1 := g.ql.c
      have hc2 := g.qc.cl
      have o2 : mOK (goF ct hr j s) := mGo_ok hs
      have g2 := St1_wl h o2
      have nb := s_nobody (d := d + 9) (t := 31) g2.ql
      have gb : am_E (d + 11) 28 0 [some (.ref 30), some (.int (cTalk ct s (hr + j))), none] [] (wM hp 30 s) = some (none, wM hp 30 (goF ct hr j s)) := s_goBy (d := d + 9) h.ql.len hs
      rw [e_64_13, aSettles]
      by_cases q : mPc (goF ct hr j s) 31 8 0 = true
      · rw [if_pos q]
        rw [q, b2_t] at nb
        refine ⟨_, o2, ?_⟩
        simp (disch := first | exact nl_int | exact nl_ref | exact nl_none | exact Nat.le_of_ble_eq_true rfl | assumption | exact cat_int | exact cat_ref | exact z2 | exact z4 | exact z3 | exact z5 | exact z6 | exact z8 | exact z64) only [e_64_0, e_64_1, e_64_4, e_64_5, e_64_8, e_64_11, e_64_12, e_64_14, e_64_16, e_64_19, e_64_20, e_64_23, e_64_24, e_64_27, e_64_28, e_64_31, e_64_34, e_64_37, e_64_38, e_64_41, e_64_43, e_64_46, e_64_49, e_64_50, e_64_51, e_64_54, e_64_57, e_64_59, nl_int, nl_ref, nl_none, cat_int, cat_ref, cat_0, cat_i, cat_r, cat_l, Option.elim_some, Option.elim_none, Option.bind_some, Option.bind_none, Option.toList_some, Option.toList_none, List.cons_append, List.nil_append, Nat.reduceAdd, Nat.reduceLeDiff, gtF (x := 60) (c := 60) rfl (show j + 1 ≤ 60 by omega) (by decide), if_false, g.f1, g.f4, s_talkedOf g.qc g.ql hr2 (show hr + j < 2 ^ 31 by omega), gb, g2.f4, nb, z1]
      · rw [if_neg q]
        have qf : mPc (goF ct hr j s) 31 8 0 = false := by simpa using q
        rw [qf, b2_f] at nb
        obtain ⟨s2, o3, e2⟩ := ih (j + 1) (goF ct hr j s) (by omega) o2 (by rw [goF, mGo_hr, hr2, nI_1]; rfl)
        refine ⟨s2, o3, ?_⟩
        simp (disch := first | exact nl_int | exact nl_ref | exact nl_none | exact Nat.le_of_ble_eq_true rfl | assumption | exact cat_int | exact cat_ref | exact z2 | exact z4 | exact z3 | exact z5 | exact z6 | exact z8 | exact z64) only [e_64_0, e_64_1, e_64_4, e_64_5, e_64_8, e_64_11, e_64_12, e_64_14, e_64_16, e_64_19, e_64_20, e_64_23, e_64_24, e_64_27, e_64_28, e_64_31, e_64_34, e_64_37, e_64_38, e_64_41, e_64_43, e_64_46, e_64_49, e_64_50, e_64_51, e_64_54, e_64_57, e_64_59, nl_int, nl_ref, nl_none, cat_int, cat_ref, cat_0, cat_i, cat_r, cat_l, Option.elim_some, Option.elim_none, Option.bind_some, Option.bind_none, Option.toList_some, Option.toList_none, List.cons_append, List.nil_append, Nat.reduceAdd, Nat.reduceLeDiff, gtF (x := 60) (c := 60) rfl (show j + 1 ≤ 60 by omega) (by decide), if_false, g.f1, g.f4, s_talkedOf g.qc g.ql hr2 (show hr + j < 2 ^ 31 by omega), gb, g2.f4, nb, z0, if_true, nI_1, e2]
  obtain ⟨s2, o2, e2⟩ := key 60 0 (mCopy lt nw) rfl h1.ql.ok hh
  have enf : aSettles ct hr 60 0 (mCopy lt nw) = aSettles ct hr 60 0 nw := aSettles_nf h.qn.ok h.ql.ok.2.2.2.2
  rw [enf] at e2
  refine ⟨_, ?_, ⟨_, _, _, _, _, _, _, St1_wl h o2⟩, Fr_wM (by omega)⟩
  simp (disch := first | exact nl_int | exact nl_ref | exact nl_none | exact Nat.le_of_ble_eq_true rfl | assumption | exact cat_int | exact cat_ref | exact z2 | exact z4 | exact z3 | exact z5 | exact z6 | exact z8 | exact z64) only [e_64_0, e_64_1, e_64_4, e_64_5, e_64_8, e_64_11, e_64_12, e_64_14, e_64_16, e_64_19, e_64_20, e_64_23, e_64_24, e_64_27, e_64_28, e_64_31, e_64_34, e_64_37, e_64_38, e_64_41, e_64_43, e_64_46, e_64_49, e_64_50, e_64_51, e_64_54, e_64_57, e_64_59, nl_int, nl_ref, nl_none, cat_int, cat_ref, cat_0, cat_i, cat_r, cat_l, Option.elim_some, Option.elim_none, Option.bind_some, Option.bind_none, Option.toList_some, Option.toList_none, List.cons_append, List.nil_append, Nat.reduceAdd, Nat.reduceLeDiff, h.f4, h.f3, e]
  exact e2
end CL6
