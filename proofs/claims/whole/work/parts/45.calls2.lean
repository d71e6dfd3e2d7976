/-! THE CALLS: laying, and the small ones -/
section CLT
variable {d : Nat} {hp hp2 : am_H} {cB : Nat} {dr : am_Ci} {lt : am_Mo} {hs : am_Hs} {tm : Nat → am_Mo} {tk : am_Tk} {sp : List Int32} {tx : am_Tx} {ct : am_Ci} {nw : am_Mo} {pm : Nat → am_Mo} {pn ph : Nat} {km : Nat → am_Mo} {kc : Nat} {sH sL : List Int32} {sc i n hr : Nat} {x y : Int32}
theorem isCt.ok {k : Nat} {c : am_Ci} (h : isCt hp k c) : cOK c := h.2.2.2.2.2
theorem Fr_set {a : Nat} {c : am_C} (h : a < 141) : Fr hp (hp.set a c) := ⟨by simp, fun b hb => List.getElem?_set_ne (by omega)⟩
theorem Fr_wM {k : Nat} {m : am_Mo} (h : k + 5 < 141) : Fr hp (wM hp k m) := ⟨wM_len, fun b hb => wM_get (by omega)⟩
theorem St1_pk (h : St1 hp cB dr lt hs tm tk sp tx ct nw pm pn ph km kc sH sL sc) (hn : n ≤ 2) : am_pf hp 0 6 7 (.int (nI n)) = some (hp.set 0 (.inr (.inr (lObj cB n sc)))) ∧ St1 (hp.set 0 (.inr (.inr (lObj cB n sc)))) cB dr lt hs tm tk sp tx ct nw pm pn ph km n sH sL sc := by
  refine ⟨?_, St1_o h (by simp) (fun b hb => List.getElem?_set_ne (by omega)) (am_obj_setS h.qo) hn h.qsc⟩
  rw [am_pf_of h.qo (show _ < 14 by decide)]
  rfl
theorem St1_ps (h : St1 hp cB dr lt hs tm tk sp tx ct nw pm pn ph km kc sH sL sc) (hn : n ≤ 8) : am_pf hp 0 6 10 (.int (nI n)) = some (hp.set 0 (.inr (.inr (lObj cB kc n)))) ∧ St1 (hp.set 0 (.inr (.inr (lObj cB kc n)))) cB dr lt hs tm tk sp tx ct nw pm pn ph km kc sH sL n := by
  refine ⟨?_, St1_o h (by simp) (fun b hb => List.getElem?_set_ne (by omega)) (am_obj_setS h.qo) h.qkc hn⟩
  rw [am_pf_of h.qo (show _ < 14 by decide)]
  rfl
theorem St1_ph (h : St1 hp cB dr lt hs tm tk sp tx ct nw pm pn ph km kc sH sL sc) : ∃ hp2, am_pf hp 36 3 2 (.int 0) = some hp2 ∧ St1 hp2 cB dr lt hs tm tk sp tx ct nw pm pn 0 km kc sH sL sc ∧ Fr hp hp2 :=
  ⟨_, isP_h (n := 0) h.qp, St1_p h (by simp) (fun b hb => List.getElem?_set_ne (by omega)) (isP_o h.qp h.qp.2.2.2.1 (by omega)), Fr_set (by omega)⟩
theorem St1_cpN {k2 : Nat} {f : am_Mo} (h : St1 hp cB dr lt hs tm tk sp tx ct nw pm pn ph km kc sH sL sc) (hf : isM hp k2 f) (hne : k2 + 5 < 24 ∨ 29 < k2) : am_E d 18 0 [some (.ref 24), some (.ref k2)] [] hp = some (none, wM hp 24 (mCopy nw f)) ∧ St1 (wM hp 24 (mCopy nw f)) cB dr lt hs tm tk sp tx ct (mCopy nw f) pm pn ph km kc sH sL sc := by
  have l1 := h.qn.len
  have := s_copy (d := d) (k := 24) (k2 := k2) (m := nw) (f := f) l1 h.qn.ok hf (by omega)
  rw [wM_self h.qn] at this
  exact ⟨this, St1_n h wM_len (fun b hb => wM_get (by omega)) (isM_wM l1 (mCopy_ok h.qn.ok hf.ok))⟩
theorem St1_cpL (h : St1 hp cB dr lt hs tm tk sp tx ct nw pm pn ph km kc sH sL sc) : am_E d 18 0 [some (.ref 30), some (.ref 24)] [] hp = some (none, wM hp 30 (mCopy lt nw)) ∧ St1 (wM hp 30 (mCopy lt nw)) cB dr (mCopy lt nw) hs tm tk sp tx ct nw pm pn ph km kc sH sL sc := by
  have l1 := h.ql.len
  have := s_copy (d := d) (k := 30) (k2 := 24) (m := lt) (f := nw) l1 h.ql.ok h.qn (by omega)
  rw [wM_self h.ql] at this
  exact ⟨this, St1_l h wM_len (fun b hb => wM_get (by omega)) (isM_wM l1 (mCopy_ok h.ql.ok h.qn.ok))⟩
theorem St1_read (h : St1 hp cB dr lt hs tm tk sp tx ct nw pm pn ph km kc sH sL sc) : ∃ hp2, am_E (d + 4) 40 0 [some (.ref 1), some (.ref (18 - cB)), none, none] [] hp = some (some (.int (tRead 200 (tSetAt tx 0) (cClear dr)).1), hp2) ∧ St1 hp2 cB (tRead 200 (tSetAt tx 0) (cClear dr)).2.2 lt hs tm tk sp (tRead 200 (tSetAt tx 0) (cClear dr)).2.1 ct nw pm pn ph km kc sH sL sc ∧ Fr hp hp2 := by
  have hB := h.qB
  have hl := h.qlen
  have ok := tRead_ok 200 (tSetAt tx 0) (cClear dr) (h.qx.2.2.2.At (by decide)) (cClear_ok (h.qdr.ok))
  have r := s_readInto (d := d) (x := 1) (k := 18 - cB) (hp := hp) (t := tx) (c := dr) (by omega) (by omega) (by omega) h.qx.2.2.2 h.qdr.ok
  rw [wC_self h.qdr, wX_self h.qx] at r
  have h1 := St1_d h (wC_len (hp := hp) (k := 18 - cB) (c := (tRead 200 (tSetAt tx 0) (cClear dr)).2.2)) (fun b hb => wC_get (by omega)) (isCt_wC (by omega) ok.2.1)
  have l2 : 1 + 2 < (wC hp (18 - cB) (tRead 200 (tSetAt tx 0) (cClear dr)).2.2).length := by rw [wC_len]; omega
  have h2 := St1_x h1 (wX_len (x := 1) (t := (tRead 200 (tSetAt tx 0) (cClear dr)).2.1)) (fun b hb => wX_get (by omega)) (isX_wX l2 ok.1)
  exact ⟨_, r, h2, wX_len.trans wC_len, fun b hb => (wX_get (by omega)).trans (wC_get (by omega))⟩
theorem St1_sw (h : St1 hp cB dr lt hs tm tk sp tx ct nw pm pn ph km kc sH sL sc) (hl : hp2.length = hp.length) (hg : ∀ b, b < 0 ∨ 0 < b → hp2[b]? = hp[b]?) (hm : am_obj hp2 0 = some (lObj (18 - cB) kc sc)) : St1 hp2 (18 - cB) ct lt hs tm tk sp tx dr nw pm pn ph km kc sH sL sc := by
  have hB := h.qB
  have eB : 18 - (18 - cB) = cB := by omega
  have k := h.qk
  have s := h.qs
  refine ⟨by omega, hm, isX_get h.qx (fun b _ _ => hg b (by omega)), isCt_get h.qdr (fun b _ _ => hg b (by omega)), by rw [eB]; exact isCt_get h.qc (fun b _ _ => hg b (by omega)), isM_get h.qn (fun b _ _ => hg b (by omega)), isM_get h.ql (fun b _ _ => hg b (by omega)), isP_get h.qp (fun b _ _ => hg b (by omega)), ⟨?_, isM_get k.2.1 (fun b _ _ => hg b (by omega)), isM_get k.2.2 (fun b _ _ => hg b (by omega))⟩, ⟨⟨?_, s.1.2⟩, ⟨?_, s.2.2⟩⟩, isH_get h.qh (fun b _ _ => hg b (by omega)), isK_get h.qt hl (fun b _ _ => hg b (by omega)), ⟨?_, h.qsp.2⟩, h.qkc, h.qsc, by rw [hl]; exact h.qlen⟩
  · unfold am_rar; rw [hg 86 (by omega)]; exact k.1
  · unfold am_arr; rw [hg 87 (by omega)]; exact s.1.1
  · unfold am_arr; rw [hg 88 (by omega)]; exact s.2.1
  · unfold am_arr; rw [hg 128 (by omega)]; exact h.qsp.1
theorem St1_swap (h : St1 hp cB dr lt hs tm tk sp tx ct nw pm pn ph km kc sH sL sc) : ∃ hq hp2, am_pf hp 0 6 1 (.ref (18 - cB)) = some hq ∧ am_pf hq 0 6 2 (.ref cB) = some hp2 ∧ St1 hp2 (18 - cB) ct lt hs tm tk sp tx dr nw pm pn ph km kc sH sL sc ∧ Fr hp hp2 := by
  have hB := h.qB
  have eB : 18 - (18 - cB) = cB := by omega
  have o1 := am_obj_setS (p := (6, (lObj cB kc sc).2.set 1 (.ref (18 - cB)))) h.qo
  have o2 := am_obj_setS (p := lObj (18 - cB) kc sc) o1
  have e3 : (6, ((lObj cB kc sc).2.set 1 (.ref (18 - cB))).set 2 (.ref cB)) = lObj (18 - cB) kc sc := by unfold lObj; rw [eB]; rfl
  refine ⟨_, _, am_pf_of h.qo (show _ < 14 by decide), ?_, St1_sw h (by simp) (fun b hb => ?_) o2, (Fr_set (by omega)).trans (Fr_set (by omega))⟩
  · rw [← e3]
    exact am_pf_of o1 (show _ < 14 by decide)
  · rw [List.getElem?_set_ne (by omega), List.getElem?_set_ne (by omega)]
theorem s_fault (hS : St hp tx ct nw pm pn ph km kc sH sL sc) : ∃ dr0, cOK dr0 ∧ Run d 48 [some (.ref 0)] hp (tRead 200 (tSetAt tx 0) (cClear dr0)).1 (fun h => St h (tRead 200 (tSetAt tx 0) (cClear dr0)).2.1 ct nw pm pn ph km kc sH sL sc) := by
  obtain ⟨cB, dr, lt, hs, tm, tk, sp, h⟩ := hS
  obtain ⟨hp2, r, h2, fr⟩ := St1_read (d := d + 7) h
  have hcl := h.qx.cl
  refine ⟨dr, h.qdr.ok, hp2, ?_, ⟨_, _, _, _, _, _, _, h2⟩, fr⟩
  simp (disch := first | exact nl_int | exact nl_ref | exact nl_none | exact Nat.le_of_ble_eq_true rfl | assumption | exact cat_int | exact cat_ref | exact z2 | exact z4 | exact z3 | exact z5 | exact z6 | exact z8 | exact z64) only [e_48_0, e_48_1, e_48_4, e_48_5, e_48_8, e_48_11, nl_int, nl_ref, nl_none, cat_int, cat_ref, cat_0, cat_i, cat_r, cat_l, Option.elim_some, Option.elim_none, Option.bind_some, Option.bind_none, Option.toList_some, Option.toList_none, List.cons_append, List.nil_append, Nat.reduceAdd, Nat.reduceLeDiff, h.f0, h.f2, r]
/-- the text is laid, or nothing changes but the draft -/
def canLay (r : Int32 × am_Tx × am_Ci) : Bool := if r.1 = -4 then cLaid r.2.2 0 (cPp r.2.2) else false
theorem s_layText (h : St1 hp cB dr lt hs tm tk sp tx ct nw pm pn ph km kc sH sL sc) {r : Int32 × am_Tx × am_Ci} (er : r = tRead 200 (tSetAt tx 0) (cClear dr)) : (canLay r = false → ∃ hp2, am_E (d + 5) 78 0 [some (.ref 0), none] [] hp = some (some (.int 0), hp2) ∧ St hp2 r.2.1 ct nw pm pn ph km kc sH sL sc ∧ Fr hp hp2) ∧ (canLay r = true → ∃ hp2, am_E (d + 5) 78 0 [some (.ref 0), none] [] hp = some (some (.int 1), hp2) ∧ St hp2 r.2.1 r.2.2 (mCopy nw r.2.2.1) pm pn 0 km 0 sH sL 0 ∧ Fr hp hp2) := by
  obtain ⟨hp2, rd, h2, fr⟩ := St1_read (d := d) h
  rw [← er] at rd h2
  have hcl := h.qx.cl
  have hcl2 := h2.qdr.cl
  have cb := s_canBeLaid (d := d + 4) h2.qdr
  unfold canLay
  by_cases q1 : r.1 = -4
  · rw [if_pos q1]
    constructor
    · intro q2
      rw [q2] at cb
      refine ⟨hp2, ?_, ⟨_, _, _, _, _, _, _, h2⟩, fr⟩
      simp (disch := first | exact nl_int | exact nl_ref | exact nl_none | exact Nat.le_of_ble_eq_true rfl | assumption | exact cat_int | exact cat_ref | exact z2 | exact z4 | exact z3 | exact z5 | exact z6 | exact z8 | exact z64) only [e_78_0, e_78_1, e_78_4, e_78_5, e_78_8, e_78_11, e_78_13, e_78_16, e_78_17, e_78_20, e_78_23, e_78_26, e_78_27, e_78_27_1, e_78_28, e_78_29, e_78_32, e_78_33, e_78_34, e_78_35, e_78_38, e_78_41, e_78_42, e_78_43, e_78_46, e_78_47, e_78_50, e_78_51, e_78_54, e_78_57, e_78_60, e_78_61, e_78_64, e_78_65, e_78_68, e_78_69, e_78_70, e_78_73, e_78_74, e_78_75, e_78_78, e_78_79, e_78_79_1, nl_int, nl_ref, nl_none, cat_int, cat_ref, cat_0, cat_i, cat_r, cat_l, Option.elim_some, Option.elim_none, Option.bind_some, Option.bind_none, Option.toList_some, Option.toList_none, List.cons_append, List.nil_append, Nat.reduceAdd, Nat.reduceLeDiff, h.f0, h.f2, rd, if_pos q1, h2.f2, cb, b2_f, z0, if_true]
    · intro q2
      rw [q2] at cb
      obtain ⟨hq, hp3, o1, o2, h3, fr3⟩ := St1_swap h2
      have hcl3 := h3.qn.c
      have f3 : am_fld hq 0 6 2 = am_fld hq 0 6 2 := rfl
      have hM : isM hp3 (18 - cB + 1) r.2.2.1 := h3.qc.2.1
      obtain ⟨c4, h4⟩ := St1_cpN (d := d + 4) h3 hM (by have := h.qB; omega)
      obtain ⟨hp5, p5, h5, fr5⟩ := St1_ph h4
      obtain ⟨p6, h6⟩ := St1_pk (n := 0) h5 (by omega)
      obtain ⟨p7, h7⟩ := St1_ps (n := 0) h6 (by omega)
      rw [← n0] at p6 p7
      refine ⟨_, ?_, ⟨_, _, _, _, _, _, _, h7⟩, ((((fr.trans fr3).trans (Fr_wM (by omega))).trans fr5).trans (Fr_set (by omega))).trans (Fr_set (by omega))⟩
      simp (disch := first | exact nl_int | exact nl_ref | exact nl_none | exact Nat.le_of_ble_eq_true rfl | assumption | exact cat_int | exact cat_ref | exact z2 | exact z4 | exact z3 | exact z5 | exact z6 | exact z8 | exact z64) only [e_78_0, e_78_1, e_78_4, e_78_5, e_78_8, e_78_11, e_78_13, e_78_16, e_78_17, e_78_20, e_78_23, e_78_26, e_78_27, e_78_27_1, e_78_28, e_78_29, e_78_32, e_78_33, e_78_34, e_78_35, e_78_38, e_78_41, e_78_42, e_78_43, e_78_46, e_78_47, e_78_50, e_78_51, e_78_54, e_78_57, e_78_60, e_78_61, e_78_64, e_78_65, e_78_68, e_78_69, e_78_70, e_78_73, e_78_74, e_78_75, e_78_78, e_78_79, e_78_79_1, nl_int, nl_ref, nl_none, cat_int, cat_ref, cat_0, cat_i, cat_r, cat_l, Option.elim_some, Option.elim_none, Option.bind_some, Option.bind_none, Option.toList_some, Option.toList_none, List.cons_append, List.nil_append, Nat.reduceAdd, Nat.reduceLeDiff, h.f0, h.f2, rd, if_pos q1, h2.f2, h2.f1, cb, b2_t, z1, if_false, o1, o2, h3.f3, h3.f1, h3.qc.f0, c4, h4.f5, p5, p6, p7]
  · rw [if_neg q1]
    refine ⟨fun _ => ⟨hp2, ?_, ⟨_, _, _, _, _, _, _, h2⟩, fr⟩, fun z => by cases z⟩
    simp (disch := first | exact nl_int | exact nl_ref | exact nl_none | exact Nat.le_of_ble_eq_true rfl | assumption | exact cat_int | exact cat_ref | exact z2 | exact z4 | exact z3 | exact z5 | exact z6 | exact z8 | exact z64) only [e_78_0, e_78_1, e_78_4, e_78_5, e_78_8, e_78_11, e_78_13, e_78_16, e_78_17, e_78_20, e_78_23, e_78_26, e_78_27, e_78_27_1, e_78_28, e_78_29, e_78_32, e_78_33, e_78_34, e_78_35, e_78_38, e_78_41, e_78_42, e_78_43, e_78_46, e_78_47, e_78_50, e_78_51, e_78_54, e_78_57, e_78_60, e_78_61, e_78_64, e_78_65, e_78_68, e_78_69, e_78_70, e_78_73, e_78_74, e_78_75, e_78_78, e_78_79, e_78_79_1, nl_int, nl_ref, nl_none, cat_int, cat_ref, cat_0, cat_i, cat_r, cat_l, Option.elim_some, Option.elim_none, Option.bind_some, Option.bind_none, Option.toList_some, Option.toList_none, List.cons_append, List.nil_append, Nat.reduceAdd, Nat.reduceLeDiff, h.f0, h.f2, rd, if_neg q1]
theorem s_lay (hS : St hp tx ct nw pm pn ph km kc sH sL sc) : ∃ dr0 r, cOK dr0 ∧ r = tRead 200 (tSetAt tx 0) (cClear dr0) ∧ (canLay r = false → Run d 49 [some (.ref 0)] hp (-2) (fun h => St h r.2.1 ct nw pm pn ph km kc sH sL sc)) ∧ (canLay r = true → Run d 49 [some (.ref 0)] hp (nI (cPp r.2.2)) (fun h => St h r.2.1 r.2.2 (mCopy nw r.2.2.1) pm pn 0 km 0 sH sL 0)) := by
  obtain ⟨cB, dr, lt, hs, tm, tk, sp, h⟩ := hS
  have hcl := h.cl
  obtain ⟨l1, l2⟩ := s_layText (d := d + 6) h (r := tRead 200 (tSetAt tx 0) (cClear dr)) rfl
  refine ⟨dr, _, h.qdr.ok, rfl, fun q => ?_, fun q => ?_⟩
  · obtain ⟨hp2, e, h2, fr⟩ := l1 q
    refine ⟨hp2, ?_, h2, fr⟩
    simp (disch := first | exact nl_int | exact nl_ref | exact nl_none | exact Nat.le_of_ble_eq_true rfl | assumption | exact cat_int | exact cat_ref | exact z2 | exact z4 | exact z3 | exact z5 | exact z6 | exact z8 | exact z64) only [e_49_0, e_49_1, e_49_4, e_49_7, e_49_8, e_49_11, e_49_14, e_49_17, e_49_19, nl_int, nl_ref, nl_none, cat_int, cat_ref, cat_0, cat_i, cat_r, cat_l, Option.elim_some, Option.elim_none, Option.bind_some, Option.bind_none, Option.toList_some, Option.toList_none, List.cons_append, List.nil_append, Nat.reduceAdd, Nat.reduceLeDiff, e, z0, if_true]
  · obtain ⟨hp2, e, h2, fr⟩ := l2 q
    refine ⟨hp2, ?_, h2, fr⟩
    obtain ⟨_, _, _, _, _, _, _, h3⟩ := h2
    simp (disch := first | exact nl_int | exact nl_ref | exact nl_none | exact Nat.le_of_ble_eq_true rfl | assumption | exact cat_int | exact cat_ref | exact z2 | exact z4 | exact z3 | exact z5 | exact z6 | exact z8 | exact z64) only [e_49_0, e_49_1, e_49_4, e_49_7, e_49_8, e_49_11, e_49_14, e_49_17, e_49_19, nl_int, nl_ref, nl_none, cat_int, cat_ref, cat_0, cat_i, cat_r, cat_l, Option.elim_some, Option.elim_none, Option.bind_some, Option.bind_none, Option.toList_some, Option.toList_none, List.cons_append, List.nil_append, Nat.reduceAdd, Nat.reduceLeDiff, e, z1, if_false, h3.f1, h3.qc.f5]
end CLT
