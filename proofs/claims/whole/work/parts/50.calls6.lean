/-! THE CALLS: seen, kept, searches -/
def aSm (nw : am_Mo) (t : Int32) (i : Nat) (s : Int32) : Int32 := if mSmoke nw (nI i) t = true then s ||| ((1 : Int32) <<< (nI i &&& 31)) else s
def mAg (m : am_Mo) (t : Int32) (sH sL : List Int32) : Nat → Nat → Bool
  | 0, _ => true
  | n + 1, j => if mLight m (sH.getD j 0) t = sL.getD j 0 then mAg m t sH sL n (j + 1) else false
theorem mAg_nf {m : am_Mo} {t : Int32} {sH sL f : List Int32} : ∀ (n j : Nat), mAg (mNf m f) t sH sL n j = mAg m t sH sL n j := by
  intro n
  induction n with
  | zero => intro j; rfl
  | succ n ih => intro j; rw [mAg, mAg, ih, mLight_nf]
section CL7
variable {d : Nat} {hp hp2 : am_H} {cB : Nat} {dr : am_Ci} {lt : am_Mo} {hs : am_Hs} {tm : Nat → am_Mo} {tk : am_Tk} {sp : List Int32} {tx : am_Tx} {ct : am_Ci} {nw : am_Mo} {pm : Nat → am_Mo} {pn ph : Nat} {km : Nat → am_Mo} {kc : Nat} {sH sL : List Int32} {sc i n hr : Nat} {x y : Int32}
theorem s_seen0 (hS : St hp tx ct nw pm pn ph km kc sH sL sc) (q : inR x (cHs ct) = false ∨ y < 0 ∨ 60 < y) : am_E (d + 12) 65 0 [some (.ref 0), some (.int x), some (.int y)] [] hp = some (some (.int (-1)), hp) := by
  obtain ⟨cB, dr, lt, hs, tm, tk, sp, h⟩ := hS
  have hcl := h.cl
  by_cases q0 : inR x (cHs ct) = false
  · simp (disch := first | exact nl_int | exact nl_ref | exact nl_none | exact Nat.le_of_ble_eq_true rfl | assumption | exact cat_int | exact cat_ref | exact z2 | exact z4 | exact z3 | exact z5 | exact z6 | exact z8 | exact z64) only [e_65_0, e_65_1, e_65_2, e_65_5, e_65_8, e_65_9, e_65_12, e_65_13, e_65_15, e_65_18, e_65_19, e_65_20, e_65_21, e_65_24, e_65_26, e_65_29, e_65_31, e_65_32, e_65_33, e_65_36, e_65_37, e_65_40, e_65_41, e_65_42, e_65_43, e_65_46, e_65_47, e_65_50, e_65_51, e_65_52, e_65_53, e_65_54, e_65_57, e_65_58, e_65_59, e_65_62, e_65_63, e_65_66, nl_int, nl_ref, nl_none, cat_int, cat_ref, cat_0, cat_i, cat_r, cat_l, Option.elim_some, Option.elim_none, Option.bind_some, Option.bind_none, Option.toList_some, Option.toList_none, List.cons_append, List.nil_append, Nat.reduceAdd, Nat.reduceLeDiff, s_isHouse h, q0, b2_f, z0, if_true]
  · have q3 := q.resolve_left q0
    by_cases q1 : y < 0
    · simp (disch := first | exact nl_int | exact nl_ref | exact nl_none | exact Nat.le_of_ble_eq_true rfl | assumption | exact cat_int | exact cat_ref | exact z2 | exact z4 | exact z3 | exact z5 | exact z6 | exact z8 | exact z64) only [e_65_0, e_65_1, e_65_2, e_65_5, e_65_8, e_65_9, e_65_12, e_65_13, e_65_15, e_65_18, e_65_19, e_65_20, e_65_21, e_65_24, e_65_26, e_65_29, e_65_31, e_65_32, e_65_33, e_65_36, e_65_37, e_65_40, e_65_41, e_65_42, e_65_43, e_65_46, e_65_47, e_65_50, e_65_51, e_65_52, e_65_53, e_65_54, e_65_57, e_65_58, e_65_59, e_65_62, e_65_63, e_65_66, nl_int, nl_ref, nl_none, cat_int, cat_ref, cat_0, cat_i, cat_r, cat_l, Option.elim_some, Option.elim_none, Option.bind_some, Option.bind_none, Option.toList_some, Option.toList_none, List.cons_append, List.nil_append, Nat.reduceAdd, Nat.reduceLeDiff, s_isHouse h, inR_f q0, b2_t, z1, if_false, if_pos q1]
    · simp (disch := first | exact nl_int | exact nl_ref | exact nl_none | exact Nat.le_of_ble_eq_true rfl | assumption | exact cat_int | exact cat_ref | exact z2 | exact z4 | exact z3 | exact z5 | exact z6 | exact z8 | exact z64) only [e_65_0, e_65_1, e_65_2, e_65_5, e_65_8, e_65_9, e_65_12, e_65_13, e_65_15, e_65_18, e_65_19, e_65_20, e_65_21, e_65_24, e_65_26, e_65_29, e_65_31, e_65_32, e_65_33, e_65_36, e_65_37, e_65_40, e_65_41, e_65_42, e_65_43, e_65_46, e_65_47, e_65_50, e_65_51, e_65_52, e_65_53, e_65_54, e_65_57, e_65_58, e_65_59, e_65_62, e_65_63, e_65_66, nl_int, nl_ref, nl_none, cat_int, cat_ref, cat_0, cat_i, cat_r, cat_l, Option.elim_some, Option.elim_none, Option.bind_some, Option.bind_none, Option.toList_some, Option.toList_none, List.cons_append, List.nil_append, Nat.reduceAdd, Nat.reduceLeDiff, s_isHouse h, inR_f q0, b2_t, z1, if_false, if_neg q1, if_pos (q3.resolve_left q1)]
theorem s_seen1 (hS : St hp tx ct nw pm pn ph km kc sH sL sc) (q0 : inR x (cHs ct) = true) (q1 : ¬ y < 0) (q2 : ¬ 60 < y) (q3 : 8 ≤ sc) : am_E (d + 12) 65 0 [some (.ref 0), some (.int x), some (.int y)] [] hp = some (some (.int (-3)), hp) := by
  obtain ⟨cB, dr, lt, hs, tm, tk, sp, h⟩ := hS
  have hcl := h.cl
  have hsc := h.qsc
  simp (disch := first | exact nl_int | exact nl_ref | exact nl_none | exact Nat.le_of_ble_eq_true rfl | assumption | exact cat_int | exact cat_ref | exact z2 | exact z4 | exact z3 | exact z5 | exact z6 | exact z8 | exact z64) only [e_65_0, e_65_1, e_65_2, e_65_5, e_65_8, e_65_9, e_65_12, e_65_13, e_65_15, e_65_18, e_65_19, e_65_20, e_65_21, e_65_24, e_65_26, e_65_29, e_65_31, e_65_32, e_65_33, e_65_36, e_65_37, e_65_40, e_65_41, e_65_42, e_65_43, e_65_46, e_65_47, e_65_50, e_65_51, e_65_52, e_65_53, e_65_54, e_65_57, e_65_58, e_65_59, e_65_62, e_65_63, e_65_66, nl_int, nl_ref, nl_none, cat_int, cat_ref, cat_0, cat_i, cat_r, cat_l, Option.elim_some, Option.elim_none, Option.bind_some, Option.bind_none, Option.toList_some, Option.toList_none, List.cons_append, List.nil_append, Nat.reduceAdd, Nat.reduceLeDiff, s_isHouse h, q0, b2_t, z1, if_false, if_neg q1, if_neg q2, h.f10, ltF (x := 8) (c := 8) rfl q3 (by omega)]
theorem s_seen2 (hS : St hp tx ct nw pm pn ph km kc sH sL sc) (q0 : inR x (cHs ct) = true) (q1 : ¬ y < 0) (q2 : ¬ 60 < y) (q3 : sc < 8) : Run d 65 [some (.ref 0), some (.int x), some (.int y)] hp (nI (sc + 1)) (fun h => St h tx ct nw pm pn ph km kc (sH.set sc x) (sL.set sc y) (sc + 1)) := by
  obtain ⟨cB, dr, lt, hs, tm, tk, sp, h⟩ := hS
  have hcl := h.cl
  have p1 := am_sx_nI (x := x) h.qs.1 q3 (by decide)
  have h1 : St1 (hp.set 87 (.inl (sH.set sc x))) cB dr lt hs tm tk sp tx ct nw pm pn ph km kc (sH.set sc x) sL sc := St1_s h (by simp) (fun b hb => List.getElem?_set_ne (by omega)) ⟨am_arr_setS h.qs.1.1, (List.length_set).trans h.qs.1.2⟩ ⟨(am_arr_setN (by omega)).trans h.qs.2.1, h.qs.2.2⟩
  have p2 := am_sx_nI (x := y) h1.qs.2 q3 (by decide)
  have h2 : St1 ((hp.set 87 (.inl (sH.set sc x))).set 88 (.inl (sL.set sc y))) cB dr lt hs tm tk sp tx ct nw pm pn ph km kc (sH.set sc x) (sL.set sc y) sc := St1_s h1 (by simp) (fun b hb => List.getElem?_set_ne (by omega)) ⟨(am_arr_setN (by omega)).trans h1.qs.1.1, h1.qs.1.2⟩ ⟨am_arr_setS h1.qs.2.1, (List.length_set).trans h1.qs.2.2⟩
  obtain ⟨p3, h3⟩ := St1_ps (n := sc + 1) h2 (by omega)
  refine ⟨_, ?_, ⟨_, _, _, _, _, _, _, h3⟩, ((Fr_set (by omega)).trans (Fr_set (by omega))).trans (Fr_set (by omega))⟩
  simp (disch := first | exact nl_int | exact nl_ref | exact nl_none | exact Nat.le_of_ble_eq_true rfl | assumption | exact cat_int | exact cat_ref | exact z2 | exact z4 | exact z3 | exact z5 | exact z6 | exact z8 | exact z64) only [e_65_0, e_65_1, e_65_2, e_65_5, e_65_8, e_65_9, e_65_12, e_65_13, e_65_15, e_65_18, e_65_19, e_65_20, e_65_21, e_65_24, e_65_26, e_65_29, e_65_31, e_65_32, e_65_33, e_65_36, e_65_37, e_65_40, e_65_41, e_65_42, e_65_43, e_65_46, e_65_47, e_65_50, e_65_51, e_65_52, e_65_53, e_65_54, e_65_57, e_65_58, e_65_59, e_65_62, e_65_63, e_65_66, nl_int, nl_ref, nl_none, cat_int, cat_ref, cat_0, cat_i, cat_r, cat_l, Option.elim_some, Option.elim_none, Option.bind_some, Option.bind_none, Option.toList_some, Option.toList_none, List.cons_append, List.nil_append, Nat.reduceAdd, Nat.reduceLeDiff, s_isHouse h, q0, b2_t, z1, if_false, if_true, if_neg q1, if_neg q2, h.f10, ltT (x := 8) (c := 8) rfl q3 (by decide), h.f8, p1, h1.f9, h1.f10, p2, h2.f10, nI_1, p3, h3.f10]
theorem St1.kl (h : St1 hp cB dr lt hs tm tk sp tx ct nw pm pn ph km kc sH sL sc) (hi : i < 2) : am_lr hp 86 (nI i) = some (129 + 6 * i) := by
  unfold am_lr
  rw [h.qk.1]
  dsimp only
  rw [show ([some 129, some 135] : List (Option Nat)).length = 2 from rfl, am_ix_nI hi (by decide)]
  dsimp only
  match i, hi with
  | 0, _ => rfl
  | 1, _ => rfl
theorem St1.kMo (h : St1 hp cB dr lt hs tm tk sp tx ct nw pm pn ph km kc sH sL sc) (hi : i < 2) : isM hp (129 + 6 * i) (km i) := by
  match i, hi with
  | 0, _ => exact h.qk.2.1
  | 1, _ => exact h.qk.2.2
theorem s_keep0 (hS : St hp tx ct nw pm pn ph km kc sH sL sc) (q : 2 ≤ kc) : am_E (d + 12) 72 0 [some (.ref 0)] [] hp = some (some (.int (-3)), hp) := by
  obtain ⟨cB, dr, lt, hs, tm, tk, sp, h⟩ := hS
  have hkc := h.qkc
  simp (disch := first | exact nl_int | exact nl_ref | exact nl_none | exact Nat.le_of_ble_eq_true rfl | assumption | exact cat_int | exact cat_ref | exact z2 | exact z4 | exact z3 | exact z5 | exact z6 | exact z8 | exact z64) only [e_72_0, e_72_1, e_72_4, e_72_5, e_72_8, e_72_10, e_72_11, e_72_12, e_72_15, e_72_16, e_72_19, e_72_20, e_72_21, e_72_24, e_72_27, e_72_28, e_72_29, e_72_32, e_72_33, e_72_34, e_72_37, e_72_38, e_72_41, nl_int, nl_ref, nl_none, cat_int, cat_ref, cat_0, cat_i, cat_r, cat_l, Option.elim_some, Option.elim_none, Option.bind_some, Option.bind_none, Option.toList_some, Option.toList_none, List.cons_append, List.nil_append, Nat.reduceAdd, Nat.reduceLeDiff, h.f7, ltF (x := 2) (c := 2) rfl q (by omega), if_false]
theorem s_keep1 (hS : St hp tx ct nw pm pn ph km kc sH sL sc) (q : kc < 2) : Run d 72 [some (.ref 0)] hp (nI (kc + 1)) (fun h => St h tx ct nw pm pn ph (updM km kc (mCopy (km kc) nw)) (kc + 1) sH sL sc) := by
  obtain ⟨cB, dr, lt, hs, tm, tk, sp, h⟩ := hS
  have mA := h.kMo q
  have hcl := mA.c
  have cp := s_copy (d := d + 11) (k := 129 + 6 * kc) (k2 := 24) (m := km kc) (f := nw) mA.len mA.ok h.qn (by omega)
  rw [wM_self mA] at cp
  have ok := mCopy_ok mA.ok h.qn.ok
  have hU : ∀ i, i < 2 → isM (wM hp (129 + 6 * kc) (mCopy (km kc) nw)) (129 + 6 * i) (updM km kc (mCopy (km kc) nw) i) := fun i hi => by
    unfold updM
    by_cases e : i = kc
    · subst e
      rw [if_pos rfl]
      exact isM_wM mA.len ok
    · rw [if_neg e]
      exact isM_wM_ne (h.kMo hi) (by omega)
  have h1 : St1 (wM hp (129 + 6 * kc) (mCopy (km kc) nw)) cB dr lt hs tm tk sp tx ct nw pm pn ph (updM km kc (mCopy (km kc) nw)) kc sH sL sc := St1_k h wM_len (fun b hb => wM_get (by omega)) (hU 0 (by omega)) (hU 1 (by omega))
  obtain ⟨p2, h2⟩ := St1_pk (n := kc + 1) h1 (by omega)
  refine ⟨_, ?_, ⟨_, _, _, _, _, _, _, h2⟩, (Fr_wM (by omega)).trans (Fr_set (by omega))⟩
  simp (disch := first | exact nl_int | exact nl_ref | exact nl_none | exact Nat.le_of_ble_eq_true rfl | assumption | exact cat_int | exact cat_ref | exact z2 | exact z4 | exact z3 | exact z5 | exact z6 | exact z8 | exact z64) only [e_72_0, e_72_1, e_72_4, e_72_5, e_72_8, e_72_10, e_72_11, e_72_12, e_72_15, e_72_16, e_72_19, e_72_20, e_72_21, e_72_24, e_72_27, e_72_28, e_72_29, e_72_32, e_72_33, e_72_34, e_72_37, e_72_38, e_72_41, nl_int, nl_ref, nl_none, cat_int, cat_ref, cat_0, cat_i, cat_r, cat_l, Option.elim_some, Option.elim_none, Option.bind_some, Option.bind_none, Option.toList_some, Option.toList_none, List.cons_append, List.nil_append, Nat.reduceAdd, Nat.reduceLeDiff, h.f7, ltT (x := 2) (c := 2) rfl q (by decide), if_true, h.f6, h.kl q, h.f3, cp, h1.f7, nI_1, p2, h2.f7]
theorem s_back0 (hS : St hp tx ct nw pm pn ph km kc sH sL sc) (q : kc = 0) : am_E (d + 12) 73 0 [some (.ref 0)] [] hp = some (some (.int (-2)), hp) := by
  obtain ⟨cB, dr, lt, hs, tm, tk, sp, h⟩ := hS
  simp (disch := first | exact nl_int | exact nl_ref | exact nl_none | exact Nat.le_of_ble_eq_true rfl | assumption | exact cat_int | exact cat_ref | exact z2 | exact z4 | exact z3 | exact z5 | exact z6 | exact z8 | exact z64) only [e_73_0, e_73_1, e_73_4, e_73_5, e_73_8, e_73_10, e_73_11, e_73_12, e_73_13, e_73_16, e_73_17, e_73_18, e_73_21, e_73_22, e_73_25, e_73_26, e_73_29, e_73_30, e_73_33, e_73_34, e_73_37, e_73_38, e_73_41, e_73_42, e_73_45, e_73_46, e_73_49, nl_int, nl_ref, nl_none, cat_int, cat_ref, cat_0, cat_i, cat_r, cat_l, Option.elim_some, Option.elim_none, Option.bind_some, Option.bind_none, Option.toList_some, Option.toList_none, List.cons_append, List.nil_append, Nat.reduceAdd, Nat.reduceLeDiff, h.f7, ltT (x := 1) (c := 1) rfl (show kc < 1 by omega) (by decide), if_true]
theorem s_back1 (hS : St hp tx ct nw pm pn ph km kc sH sL sc) (q : 0 < kc) : Run d 73 [some (.ref 0)] hp (nI (kc - 1)) (fun h => St h tx ct (mCopy nw (km (kc - 1))) pm pn 0 km (kc - 1) sH sL sc) := by
  obtain ⟨cB, dr, lt, hs, tm, tk, sp, h⟩ := hS
  have hkc := h.qkc
  have hcl := h.qn.c
  obtain ⟨p1, h1⟩ := St1_pk (n := kc - 1) h (by omega)
  have hcl1 := h1.qn.c
  have e2 : nI kc - 1 = nI (kc - 1) := pk_sub (b := 1) q
  obtain ⟨c2, h2⟩ := St1_cpN (d := d + 11) h1 (h1.kMo (i := kc - 1) (by omega)) (by omega)
  obtain ⟨hp3, p3, h3, fr3⟩ := St1_ph h2
  refine ⟨_, ?_, ⟨_, _, _, _, _, _, _, h3⟩, ((Fr_set (by omega)).trans (Fr_wM (by omega))).trans fr3⟩
  simp (disch := first | exact nl_int | exact nl_ref | exact nl_none | exact Nat.le_of_ble_eq_true rfl | assumption | exact cat_int | exact cat_ref | exact z2 | exact z4 | exact z3 | exact z5 | exact z6 | exact z8 | exact z64) only [e_73_0, e_73_1, e_73_4, e_73_5, e_73_8, e_73_10, e_73_11, e_73_12, e_73_13, e_73_16, e_73_17, e_73_18, e_73_21, e_73_22, e_73_25, e_73_26, e_73_29, e_73_30, e_73_33, e_73_34, e_73_37, e_73_38, e_73_41, e_73_42, e_73_45, e_73_46, e_73_49, nl_int, nl_ref, nl_none, cat_int, cat_ref, cat_0, cat_i, cat_r, cat_l, Option.elim_some, Option.elim_none, Option.bind_some, Option.bind_none, Option.toList_some, Option.toList_none, List.cons_append, List.nil_append, Nat.reduceAdd, Nat.reduceLeDiff, h.f7, ltF (x := 1) (c := 1) rfl (show 1 ≤ kc by omega) (by omega), if_false, e2, p1, h1.f3, h1.f6, h1.f7, h1.kl (i := kc - 1) (show kc - 1 < 2 by omega), c2, h2.f5, p3, h3.f7]
theorem s_homes0 (hS : St hp tx ct nw pm pn ph km kc sH sL sc) (q1 : x ≠ -1) (q2 : x ≠ -2) (q3 : inR x (cPp ct) = false) : am_E (d + 12) 61 0 [some (.ref 0), some (.int x)] [] hp = some (some (.int (-1)), hp) := by
  obtain ⟨cB, dr, lt, hs, tm, tk, sp, h⟩ := hS
  have hcl := h.cl
  simp (disch := first | exact nl_int | exact nl_ref | exact nl_none | exact Nat.le_of_ble_eq_true rfl | assumption | exact cat_int | exact cat_ref | exact z2 | exact z4 | exact z3 | exact z5 | exact z6 | exact z8 | exact z64) only [e_61_0, e_61_1, e_61_2, e_61_5, e_61_6, e_61_8, e_61_11, e_61_12, e_61_13, e_61_16, e_61_19, e_61_20, e_61_21, e_61_22, e_61_25, e_61_26, e_61_29, e_61_30, e_61_33, e_61_36, e_61_37, e_61_38, e_61_41, e_61_42, e_61_45, e_61_48, e_61_49, e_61_50, e_61_52, e_61_55, e_61_56, e_61_59, e_61_62, e_61_65, e_61_66, e_61_69, e_61_72, e_61_73, e_61_74, nl_int, nl_ref, nl_none, cat_int, cat_ref, cat_0, cat_i, cat_r, cat_l, Option.elim_some, Option.elim_none, Option.bind_some, Option.bind_none, Option.toList_some, Option.toList_none, List.cons_append, List.nil_append, Nat.reduceAdd, Nat.reduceLeDiff, if_neg q1, if_neg q2, s_isPerson h, q3, b2_f, z0, if_true]
theorem s_homes1 (hS : St hp tx ct nw pm pn ph km kc sH sL sc) (hh : nw.2.2.2.2.2.1 = nI hr) (hl : hr < 2 ^ 31) (q : x = -1 ∨ x = -2 ∨ inR x (cPp ct) = true) : ∃ hs0, hOK hs0 ∧ Run d 61 [some (.ref 0), some (.int x)] hp (if x = -1 then hLit (hSearch ct nw hr hs0) else if x = -2 then hMov (hSearch ct nw hr hs0) else hBe (hSearch ct nw hr hs0) x.toNatClampNeg) (fun h => St h tx ct nw pm pn ph km kc sH sL sc) := by
  obtain ⟨cB, dr, lt, hs, tm, tk, sp, h⟩ := hS
  have hB := h.qB
  have hcl := h.cl
  have hcl2 := h.qh.cl
  have hp8 := h.qc.pp
  have l1 : 89 + 4 < hp.length := by have := h.qlen; omega
  have ok := h.qh.2.2.2.2.2
  have e := s_hsearch (d := d + 1) (k := 89) (k2 := cB) (k3 := 24) (hr := hr) (s := hs) l1 ok h.qc h.qn (by omega) (by omega) hh hl
  rw [wH_self h.qh] at e
  have g := isH_wH l1 (hSearch_ok (c := ct) (m := nw) (hr := hr) ok)
  have h1 := St1_h h (wH_len (hp := hp) (k := 89) (s := hSearch ct nw hr hs)) (fun b hb => wH_get (by omega)) g
  refine ⟨hs, ok, _, ?_, ⟨_, _, _, _, _, _, _, h1⟩, wH_len, fun b hb => wH_get (by omega)⟩
  by_cases q1 : x = -1
  · simp (disch := first | exact nl_int | exact nl_ref | exact nl_none | exact Nat.le_of_ble_eq_true rfl | assumption | exact cat_int | exact cat_ref | exact z2 | exact z4 | exact z3 | exact z5 | exact z6 | exact z8 | exact z64) only [e_61_0, e_61_1, e_61_2, e_61_5, e_61_6, e_61_8, e_61_11, e_61_12, e_61_13, e_61_16, e_61_19, e_61_20, e_61_21, e_61_22, e_61_25, e_61_26, e_61_29, e_61_30, e_61_33, e_61_36, e_61_37, e_61_38, e_61_41, e_61_42, e_61_45, e_61_48, e_61_49, e_61_50, e_61_52, e_61_55, e_61_56, e_61_59, e_61_62, e_61_65, e_61_66, e_61_69, e_61_72, e_61_73, e_61_74, nl_int, nl_ref, nl_none, cat_int, cat_ref, cat_0, cat_i, cat_r, cat_l, Option.elim_some, Option.elim_none, Option.bind_some, Option.bind_none, Option.toList_some, Option.toList_none, List.cons_append, List.nil_append, Nat.reduceAdd, Nat.reduceLeDiff, if_pos q1, h.f11, h.f1, h.f3, e, h1.f11, g.f4]
  · by_cases q2 : x = -2
    · simp (disch := first | exact nl_int | exact nl_ref | exact nl_none | exact Nat.le_of_ble_eq_true rfl | assumption | exact cat_int | exact cat_ref | exact z2 | exact z4 | exact z3 | exact z5 | exact z6 | exact z8 | exact z64) only [e_61_0, e_61_1, e_61_2, e_61_5, e_61_6, e_61_8, e_61_11, e_61_12, e_61_13, e_61_16, e_61_19, e_61_20, e_61_21, e_61_22, e_61_25, e_61_26, e_61_29, e_61_30, e_61_33, e_61_36, e_61_37, e_61_38, e_61_41, e_61_42, e_61_45, e_61_48, e_61_49, e_61_50, e_61_52, e_61_55, e_61_56, e_61_59, e_61_62, e_61_65, e_61_66, e_61_69, e_61_72, e_61_73, e_61_74, nl_int, nl_ref, nl_none, cat_int, cat_ref, cat_0, cat_i, cat_r, cat_l, Option.elim_some, Option.elim_none, Option.bind_some, Option.bind_none, Option.toList_some, Option.toList_none, List.cons_append, List.nil_append, Nat.reduceAdd, Nat.reduceLeDiff, if_neg q1, if_pos q2, h.f11, h.f1, h.f3, e, h1.f11, g.f5]
    · have q3 := (q.resolve_left q1).resolve_left q2
      obtain ⟨i, hi, rfl⟩ := inR_t q3 (by omega)
      have f3 : am_fld (wH hp 89 (hSearch ct nw hr hs)) 89 1 3 = some (.ref 93) := g.f3
      have l3 : am_ld (wH hp 89 (hSearch ct nw hr hs)) 93 (nI i) = some (hBe (hSearch ct nw hr hs) i) := g.lb (by omega)
      rw [nI_clamp (by omega)]
      simp (disch := first | exact nl_int | exact nl_ref | exact nl_none | exact Nat.le_of_ble_eq_true rfl | assumption | exact cat_int | exact cat_ref | exact z2 | exact z4 | exact z3 | exact z5 | exact z6 | exact z8 | exact z64) only [e_61_0, e_61_1, e_61_2, e_61_5, e_61_6, e_61_8, e_61_11, e_61_12, e_61_13, e_61_16, e_61_19, e_61_20, e_61_21, e_61_22, e_61_25, e_61_26, e_61_29, e_61_30, e_61_33, e_61_36, e_61_37, e_61_38, e_61_41, e_61_42, e_61_45, e_61_48, e_61_49, e_61_50, e_61_52, e_61_55, e_61_56, e_61_59, e_61_62, e_61_65, e_61_66, e_61_69, e_61_72, e_61_73, e_61_74, nl_int, nl_ref, nl_none, cat_int, cat_ref, cat_0, cat_i, cat_r, cat_l, Option.elim_some, Option.elim_none, Option.bind_some, Option.bind_none, Option.toList_some, Option.toList_none, List.cons_append, List.nil_append, Nat.reduceAdd, Nat.reduceLeDiff, if_neg q1, if_neg q2, s_isPerson h, q3, b2_t, z1, if_false, h.f11, h.f1, h.f3, e, h1.f11, f3, l3]
theorem s_smokes (hS : St hp tx ct nw pm pn ph km kc sH sL sc) (hh : nw.2.2.2.2.2.1 = nI hr) (hl : hr < 2 ^ 31) : am_E (d + 12) 68 0 [some (.ref 0), none, none, none] [] hp = some (some (.int (am_for (aSm nw (cTalk ct nw hr)) 0 (cHs ct) 0)), hp) := by
  obtain ⟨cB, dr, lt, hs, tm, tk, sp, h⟩ := hS
  have hc1 := h.qc.cl
  have hc2 := h.qn.c
  have hh5 := h.qc.hs
  have key := for_res (τ := Unit) (fun j s _ => am_E (d + 12) 68 16 [some (.ref 0), some (.int (cTalk ct nw hr)), some (.int s), some (.int (nI j))] [] hp) (fun _ _ => True) (aSm nw (cTalk ct nw hr)) (cHs ct) (fun s => some (some (.int s), hp)) (fun s _ _ => by
    try dsimp only
    rw [e_68_16]
    simp (disch := first | exact nl_int | exact nl_ref | exact nl_none | exact Nat.le_of_ble_eq_true rfl | assumption | exact cat_int | exact cat_ref | exact z2 | exact z4 | exact z3 | exact z5 | exact z6 | exact z8 | exact z64) only [e_68_0, e_68_1, e_68_4, e_68_5, e_68_8, e_68_11, e_68_12, e_68_13, e_68_14, e_68_15, e_68_17, e_68_18, e_68_21, e_68_24, e_68_27, e_68_28, e_68_31, e_68_32, e_68_33, e_68_36, e_68_39, e_68_40, e_68_41, e_68_42, e_68_43, e_68_44, e_68_45, e_68_48, e_68_51, e_68_52, nl_int, nl_ref, nl_none, cat_int, cat_ref, cat_0, cat_i, cat_r, cat_l, Option.elim_some, Option.elim_none, Option.bind_some, Option.bind_none, Option.toList_some, Option.toList_none, List.cons_append, List.nil_append, Nat.reduceAdd, Nat.reduceLeDiff, h.f1, h.qc.f4, ltF (x := nI (cHs ct)) (c := cHs ct) rfl (Nat.le_refl _) (by omega), if_false]) (fun j s _ hj _ => ⟨trivial, (), by
    try dsimp only
    rw [e_68_16]
    unfold aSm
    cases q : mSmoke nw (nI j) (cTalk ct nw hr) with
    | false => simp (disch := first | exact nl_int | exact nl_ref | exact nl_none | exact Nat.le_of_ble_eq_true rfl | assumption | exact cat_int | exact cat_ref | exact z2 | exact z4 | exact z3 | exact z5 | exact z6 | exact z8 | exact z64) only [e_68_0, e_68_1, e_68_4, e_68_5, e_68_8, e_68_11, e_68_12, e_68_13, e_68_14, e_68_15, e_68_17, e_68_18, e_68_21, e_68_24, e_68_27, e_68_28, e_68_31, e_68_32, e_68_33, e_68_36, e_68_39, e_68_40, e_68_41, e_68_42, e_68_43, e_68_44, e_68_45, e_68_48, e_68_51, e_68_52, nl_int, nl_ref, nl_none, cat_int, cat_ref, cat_0, cat_i, cat_r, cat_l, Option.elim_some, Option.elim_none, Option.bind_some, Option.bind_none, Option.toList_some, Option.toList_none, List.cons_append, List.nil_append, Nat.reduceAdd, Nat.reduceLeDiff, h.f1, h.f3, h.qc.f4, ltT (x := nI (cHs ct)) (c := cHs ct) rfl hj (by omega), if_true, s_hasSmoke h.qn, q, b2_f, z0, nI_1, Bool.false_eq_true, if_false]
    | true => simp (disch := first | exact nl_int | exact nl_ref | exact nl_none | exact Nat.le_of_ble_eq_true rfl | assumption | exact cat_int | exact cat_ref | exact z2 | exact z4 | exact z3 | exact z5 | exact z6 | exact z8 | exact z64) only [e_68_0, e_68_1, e_68_4, e_68_5, e_68_8, e_68_11, e_68_12, e_68_13, e_68_14, e_68_15, e_68_17, e_68_18, e_68_21, e_68_24, e_68_27, e_68_28, e_68_31, e_68_32, e_68_33, e_68_36, e_68_39, e_68_40, e_68_41, e_68_42, e_68_43, e_68_44, e_68_45, e_68_48, e_68_51, e_68_52, nl_int, nl_ref, nl_none, cat_int, cat_ref, cat_0, cat_i, cat_r, cat_l, Option.elim_some, Option.elim_none, Option.bind_some, Option.bind_none, Option.toList_some, Option.toList_none, List.cons_append, List.nil_append, Nat.reduceAdd, Nat.reduceLeDiff, h.f1, h.f3, h.qc.f4, ltT (x := nI (cHs ct)) (c := cHs ct) rfl hj (by omega), if_true, s_hasSmoke h.qn, q, b2_t, z1, nI_1, if_false]⟩) (cHs ct) 0 0 () (Nat.zero_add _) trivial
  simp (disch := first | exact nl_int | exact nl_ref | exact nl_none | exact Nat.le_of_ble_eq_true rfl | assumption | exact cat_int | exact cat_ref | exact z2 | exact z4 | exact z3 | exact z5 | exact z6 | exact z8 | exact z64) only [e_68_0, e_68_1, e_68_4, e_68_5, e_68_8, e_68_11, e_68_12, e_68_13, e_68_14, e_68_15, e_68_17, e_68_18, e_68_21, e_68_24, e_68_27, e_68_28, e_68_31, e_68_32, e_68_33, e_68_36, e_68_39, e_68_40, e_68_41, e_68_42, e_68_43, e_68_44, e_68_45, e_68_48, e_68_51, e_68_52, nl_int, nl_ref, nl_none, cat_int, cat_ref, cat_0, cat_i, cat_r, cat_l, Option.elim_some, Option.elim_none, Option.bind_some, Option.bind_none, Option.toList_some, Option.toList_none, List.cons_append, List.nil_append, Nat.reduceAdd, Nat.reduceLeDiff, h.f1, h.f3, s_talkedOf h.qc h.qn hh hl]
  exact key
end CL7
