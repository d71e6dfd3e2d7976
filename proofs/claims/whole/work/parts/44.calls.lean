/-! THE CALLS, first half -/
def Run (d M : Nat) (L : List (Option Value)) (hp : am_H) (a : Int32) (P : am_H → Prop) : Prop := ∃ hp2, am_E (d + 12) M 0 L [] hp = some (some (.int a), hp2) ∧ P hp2 ∧ Fr hp hp2
section CLS
variable {d : Nat} {hp hp2 : am_H} {cB : Nat} {dr : am_Ci} {lt : am_Mo} {hs : am_Hs} {tm : Nat → am_Mo} {tk : am_Tk} {sp : List Int32} {tx : am_Tx} {ct : am_Ci} {nw : am_Mo} {pm : Nat → am_Mo} {pn ph : Nat} {km : Nat → am_Mo} {kc : Nat} {sH sL : List Int32} {sc i : Nat} {x y : Int32}
theorem St1.nk (h : St1 hp cB dr lt hs tm tk sp tx ct nw pm pn ph km kc sH sL sc) (hi : i < 8) : am_ld hp 25 (nI i) = some (mK nw i) := h.qn.lk hi
theorem St1.no (h : St1 hp cB dr lt hs tm tk sp tx ct nw pm pn ph km kc sH sL sc) (hi : i < 8) : am_ld hp 26 (nI i) = some (mO nw i) := h.qn.lo hi
theorem St1.nt (h : St1 hp cB dr lt hs tm tk sp tx ct nw pm pn ph km kc sH sL sc) (hi : i < 8) : am_ld hp 27 (nI i) = some (mT nw i) := h.qn.lt hi
theorem St1.nh (h : St1 hp cB dr lt hs tm tk sp tx ct nw pm pn ph km kc sH sL sc) (hi : i < 8) : am_ld hp 28 (nI i) = some (mH nw i) := h.qn.lh hi
theorem s_isPerson (h : St1 hp cB dr lt hs tm tk sp tx ct nw pm pn ph km kc sH sL sc) : am_E d 75 0 [some (.ref 0), some (.int x)] [] hp = some (some (.int (b2 (inR x (cPp ct)))), hp) := by
  unfold inR
  have hp8 := h.qc.pp
  by_cases q : x < 0
  · simp (disch := first | exact nl_int | exact nl_ref | exact nl_none | exact Nat.le_of_ble_eq_true rfl | assumption | exact cat_int | exact cat_ref | exact z2 | exact z4 | exact z3 | exact z5 | exact z6 | exact z8 | exact z64) only [e_75_0, e_75_1, e_75_4, e_75_5, e_75_6, e_75_9, e_75_12, e_75_15, e_75_16, e_75_18, e_75_21, e_75_22, e_75_25, e_75_26, e_75_26_1, nl_int, nl_ref, nl_none, cat_int, cat_ref, cat_0, cat_i, cat_r, cat_l, Option.elim_some, Option.elim_none, Option.bind_some, Option.bind_none, Option.toList_some, Option.toList_none, List.cons_append, List.nil_append, Nat.reduceAdd, Nat.reduceLeDiff, if_pos q, b2_f]
  · obtain ⟨j, hj, ej⟩ := nI_of q
    subst ej
    by_cases q2 : j < cPp ct
    · simp (disch := first | exact nl_int | exact nl_ref | exact nl_none | exact Nat.le_of_ble_eq_true rfl | assumption | exact cat_int | exact cat_ref | exact z2 | exact z4 | exact z3 | exact z5 | exact z6 | exact z8 | exact z64) only [e_75_0, e_75_1, e_75_4, e_75_5, e_75_6, e_75_9, e_75_12, e_75_15, e_75_16, e_75_18, e_75_21, e_75_22, e_75_25, e_75_26, e_75_26_1, nl_int, nl_ref, nl_none, cat_int, cat_ref, cat_0, cat_i, cat_r, cat_l, Option.elim_some, Option.elim_none, Option.bind_some, Option.bind_none, Option.toList_some, Option.toList_none, List.cons_append, List.nil_append, Nat.reduceAdd, Nat.reduceLeDiff, h.f1, h.qc.f5, if_neg q, ltT (x := nI (cPp ct)) (c := cPp ct) rfl q2 (by omega), ltT (x := 8) (c := 8) rfl (show j < 8 by omega) (by decide), if_true, decide_true, b2_t]
    · simp (disch := first | exact nl_int | exact nl_ref | exact nl_none | exact Nat.le_of_ble_eq_true rfl | assumption | exact cat_int | exact cat_ref | exact z2 | exact z4 | exact z3 | exact z5 | exact z6 | exact z8 | exact z64) only [e_75_0, e_75_1, e_75_4, e_75_5, e_75_6, e_75_9, e_75_12, e_75_15, e_75_16, e_75_18, e_75_21, e_75_22, e_75_25, e_75_26, e_75_26_1, nl_int, nl_ref, nl_none, cat_int, cat_ref, cat_0, cat_i, cat_r, cat_l, Option.elim_some, Option.elim_none, Option.bind_some, Option.bind_none, Option.toList_some, Option.toList_none, List.cons_append, List.nil_append, Nat.reduceAdd, Nat.reduceLeDiff, h.f1, h.qc.f5, if_neg q, ltF (x := nI (cPp ct)) (c := cPp ct) rfl (Nat.le_of_not_lt q2) hj, if_false, decide_false, b2_f]
theorem s_isHouse (h : St1 hp cB dr lt hs tm tk sp tx ct nw pm pn ph km kc sH sL sc) : am_E d 76 0 [some (.ref 0), some (.int x)] [] hp = some (some (.int (b2 (inR x (cHs ct)))), hp) := by
  unfold inR
  by_cases q : x < 0
  · simp (disch := first | exact nl_int | exact nl_ref | exact nl_none | exact Nat.le_of_ble_eq_true rfl | assumption | exact cat_int | exact cat_ref | exact z2 | exact z4 | exact z3 | exact z5 | exact z6 | exact z8 | exact z64) only [e_76_0, e_76_1, e_76_4, e_76_5, e_76_6, e_76_9, e_76_12, e_76_15, e_76_16, e_76_19, e_76_20, e_76_20_1, nl_int, nl_ref, nl_none, cat_int, cat_ref, cat_0, cat_i, cat_r, cat_l, Option.elim_some, Option.elim_none, Option.bind_some, Option.bind_none, Option.toList_some, Option.toList_none, List.cons_append, List.nil_append, Nat.reduceAdd, Nat.reduceLeDiff, if_pos q, b2_f]
  · by_cases q2 : x < nI (cHs ct)
    · simp (disch := first | exact nl_int | exact nl_ref | exact nl_none | exact Nat.le_of_ble_eq_true rfl | assumption | exact cat_int | exact cat_ref | exact z2 | exact z4 | exact z3 | exact z5 | exact z6 | exact z8 | exact z64) only [e_76_0, e_76_1, e_76_4, e_76_5, e_76_6, e_76_9, e_76_12, e_76_15, e_76_16, e_76_19, e_76_20, e_76_20_1, nl_int, nl_ref, nl_none, cat_int, cat_ref, cat_0, cat_i, cat_r, cat_l, Option.elim_some, Option.elim_none, Option.bind_some, Option.bind_none, Option.toList_some, Option.toList_none, List.cons_append, List.nil_append, Nat.reduceAdd, Nat.reduceLeDiff, h.f1, h.qc.f4, if_neg q, if_pos q2, decide_eq_true q2, b2_t]
    · simp (disch := first | exact nl_int | exact nl_ref | exact nl_none | exact Nat.le_of_ble_eq_true rfl | assumption | exact cat_int | exact cat_ref | exact z2 | exact z4 | exact z3 | exact z5 | exact z6 | exact z8 | exact z64) only [e_76_0, e_76_1, e_76_4, e_76_5, e_76_6, e_76_9, e_76_12, e_76_15, e_76_16, e_76_19, e_76_20, e_76_20_1, nl_int, nl_ref, nl_none, cat_int, cat_ref, cat_0, cat_i, cat_r, cat_l, Option.elim_some, Option.elim_none, Option.bind_some, Option.bind_none, Option.toList_some, Option.toList_none, List.cons_append, List.nil_append, Nat.reduceAdd, Nat.reduceLeDiff, h.f1, h.qc.f4, if_neg q, if_neg q2, decide_eq_false q2, b2_f]
theorem s_isSubject : am_E d 77 0 [some (.int x)] [] hp = some (some (.int (b2 (inR x 5))), hp) := by
  unfold inR
  rw [show nI 5 = 5 from rfl]
  by_cases q : x < 0
  · simp (disch := first | exact nl_int | exact nl_ref | exact nl_none | exact Nat.le_of_ble_eq_true rfl | assumption | exact cat_int | exact cat_ref | exact z2 | exact z4 | exact z3 | exact z5 | exact z6 | exact z8 | exact z64) only [e_77_0, e_77_1, e_77_4, e_77_5, e_77_6, e_77_9, e_77_10, e_77_13, e_77_14, e_77_14_1, nl_int, nl_ref, nl_none, cat_int, cat_ref, cat_0, cat_i, cat_r, cat_l, Option.elim_some, Option.elim_none, Option.bind_some, Option.bind_none, Option.toList_some, Option.toList_none, List.cons_append, List.nil_append, Nat.reduceAdd, Nat.reduceLeDiff, if_pos q, b2_f]
  · by_cases q2 : x < 5
    · simp (disch := first | exact nl_int | exact nl_ref | exact nl_none | exact Nat.le_of_ble_eq_true rfl | assumption | exact cat_int | exact cat_ref | exact z2 | exact z4 | exact z3 | exact z5 | exact z6 | exact z8 | exact z64) only [e_77_0, e_77_1, e_77_4, e_77_5, e_77_6, e_77_9, e_77_10, e_77_13, e_77_14, e_77_14_1, nl_int, nl_ref, nl_none, cat_int, cat_ref, cat_0, cat_i, cat_r, cat_l, Option.elim_some, Option.elim_none, Option.bind_some, Option.bind_none, Option.toList_some, Option.toList_none, List.cons_append, List.nil_append, Nat.reduceAdd, Nat.reduceLeDiff, if_neg q, if_pos q2, decide_eq_true q2, b2_t]
    · simp (disch := first | exact nl_int | exact nl_ref | exact nl_none | exact Nat.le_of_ble_eq_true rfl | assumption | exact cat_int | exact cat_ref | exact z2 | exact z4 | exact z3 | exact z5 | exact z6 | exact z8 | exact z64) only [e_77_0, e_77_1, e_77_4, e_77_5, e_77_6, e_77_9, e_77_10, e_77_13, e_77_14, e_77_14_1, nl_int, nl_ref, nl_none, cat_int, cat_ref, cat_0, cat_i, cat_r, cat_l, Option.elim_some, Option.elim_none, Option.bind_some, Option.bind_none, Option.toList_some, Option.toList_none, List.cons_append, List.nil_append, Nat.reduceAdd, Nat.reduceLeDiff, if_neg q, if_neg q2, decide_eq_false q2, b2_f]
def aWrite (tx : am_Tx) (x : Int32) : Int32 := if x < 32 then -1 else if 126 < x then -1 else if tLn tx < 200 then nI (tLn tx + 1) else -3
def nWrite (tx : am_Tx) (x : Int32) : am_Tx := if x < 32 then tx else if 126 < x then tx else if tLn tx < 200 then tSetLn (tSetC tx (tLn tx) x.toNatClampNeg) (tLn tx + 1) else tx
theorem s_write (hS : St hp tx ct nw pm pn ph km kc sH sL sc) : Run d 46 [some (.ref 0), some (.int x)] hp (aWrite tx x) (fun h => St h (nWrite tx x) ct nw pm pn ph km kc sH sL sc) := by
  have hS2 := hS
  obtain ⟨cB, dr, lt, hs, tm, tk, sp, h⟩ := hS
  unfold aWrite nWrite
  by_cases q1 : x < 32
  · rw [if_pos q1, if_pos q1]
    refine ⟨hp, ?_, hS2, Fr.rfl'⟩
    simp (disch := first | exact nl_int | exact nl_ref | exact nl_none | exact Nat.le_of_ble_eq_true rfl | assumption | exact cat_int | exact cat_ref | exact z2 | exact z4 | exact z3 | exact z5 | exact z6 | exact z8 | exact z64) only [e_46_0, e_46_1, e_46_3, e_46_6, e_46_7, e_46_9, e_46_12, e_46_13, e_46_14, e_46_15, e_46_18, e_46_19, e_46_22, e_46_25, e_46_26, e_46_29, e_46_32, e_46_35, e_46_37, nl_int, nl_ref, nl_none, cat_int, cat_ref, cat_0, cat_i, cat_r, cat_l, Option.elim_some, Option.elim_none, Option.bind_some, Option.bind_none, Option.toList_some, Option.toList_none, List.cons_append, List.nil_append, Nat.reduceAdd, Nat.reduceLeDiff, if_pos q1]
  · rw [if_neg q1, if_neg q1]
    by_cases q2 : 126 < x
    · rw [if_pos q2, if_pos q2]
      refine ⟨hp, ?_, hS2, Fr.rfl'⟩
      simp (disch := first | exact nl_int | exact nl_ref | exact nl_none | exact Nat.le_of_ble_eq_true rfl | assumption | exact cat_int | exact cat_ref | exact z2 | exact z4 | exact z3 | exact z5 | exact z6 | exact z8 | exact z64) only [e_46_0, e_46_1, e_46_3, e_46_6, e_46_7, e_46_9, e_46_12, e_46_13, e_46_14, e_46_15, e_46_18, e_46_19, e_46_22, e_46_25, e_46_26, e_46_29, e_46_32, e_46_35, e_46_37, nl_int, nl_ref, nl_none, cat_int, cat_ref, cat_0, cat_i, cat_r, cat_l, Option.elim_some, Option.elim_none, Option.bind_some, Option.bind_none, Option.toList_some, Option.toList_none, List.cons_append, List.nil_append, Nat.reduceAdd, Nat.reduceLeDiff, if_neg q1, if_pos q2]
    · rw [if_neg q2, if_neg q2]
      have q0 : ¬ x < 0 := fun z => q1 (Int32.lt_trans z (by decide))
      obtain ⟨j, hj⟩ := nI_of q0
      have hj1 : j < 128 := Nat.lt_of_not_le (fun z => q2 (by rw [hj.2]; exact nI_lt (a := 126) (by omega) hj.1))
      have hcl := h.qx.cl
      have ap := s_append (d := d + 11) (x := 1) (n := j) (hp := hp) (t := tx) (by have := h.qlen; omega) h.qx.2.2.2 hj1
      rw [wX_self h.qx] at ap
      have ec : x.toNatClampNeg = j := by rw [hj.2, nI_clamp hj.1]
      rw [ec]
      by_cases q3 : tLn tx < 200
      · rw [if_pos q3, if_pos q3]
        rw [if_pos q3] at ap
        have ok2 : tOK (tSetLn (tSetC tx (tLn tx) j) (tLn tx + 1)) := (h.qx.2.2.2.C hj1).Ln (by omega)
        have x2 : isX (wX hp 1 (tSetLn (tSetC tx (tLn tx) j) (tLn tx + 1))) 1 (tSetLn (tSetC tx (tLn tx) j) (tLn tx + 1)) := isX_wX (by have := h.qlen; omega) ok2
        have h2 := St1_x h (wX_len (hp := hp) (x := 1) (t := tSetLn (tSetC tx (tLn tx) j) (tLn tx + 1))) (fun b hb => wX_get (by omega)) x2
        refine ⟨_, ?_, ⟨_, _, _, _, _, _, _, h2⟩, wX_len, fun b hb => wX_get (by omega)⟩
        simp (disch := first | exact nl_int | exact nl_ref | exact nl_none | exact Nat.le_of_ble_eq_true rfl | assumption | exact cat_int | exact cat_ref | exact z2 | exact z4 | exact z3 | exact z5 | exact z6 | exact z8 | exact z64) only [e_46_0, e_46_1, e_46_3, e_46_6, e_46_7, e_46_9, e_46_12, e_46_13, e_46_14, e_46_15, e_46_18, e_46_19, e_46_22, e_46_25, e_46_26, e_46_29, e_46_32, e_46_35, e_46_37, nl_int, nl_ref, nl_none, cat_int, cat_ref, cat_0, cat_i, cat_r, cat_l, Option.elim_some, Option.elim_none, Option.bind_some, Option.bind_none, Option.toList_some, Option.toList_none, List.cons_append, List.nil_append, Nat.reduceAdd, Nat.reduceLeDiff, if_neg q1, if_neg q2, h.f0, hj.2, ap, z1, if_false, h2.f0, x2.f2]
        rw [← hj.2]
        simp only [if_neg q1, if_neg q2]
        rfl
      · rw [if_neg q3, if_neg q3]
        rw [if_neg q3] at ap
        refine ⟨hp, ?_, hS2, Fr.rfl'⟩
        rw [hj.2] at q1 q2 ⊢
        simp (disch := first | exact nl_int | exact nl_ref | exact nl_none | exact Nat.le_of_ble_eq_true rfl | assumption | exact cat_int | exact cat_ref | exact z2 | exact z4 | exact z3 | exact z5 | exact z6 | exact z8 | exact z64) only [e_46_0, e_46_1, e_46_3, e_46_6, e_46_7, e_46_9, e_46_12, e_46_13, e_46_14, e_46_15, e_46_18, e_46_19, e_46_22, e_46_25, e_46_26, e_46_29, e_46_32, e_46_35, e_46_37, nl_int, nl_ref, nl_none, cat_int, cat_ref, cat_0, cat_i, cat_r, cat_l, Option.elim_some, Option.elim_none, Option.bind_some, Option.bind_none, Option.toList_some, Option.toList_none, List.cons_append, List.nil_append, Nat.reduceAdd, Nat.reduceLeDiff, if_neg q1, if_neg q2, h.f0, ap, z0, if_true]
theorem s_wipe (hS : St hp tx ct nw pm pn ph km kc sH sL sc) : Run d 47 [some (.ref 0), none] hp (nI (tLn tx)) (fun h => St h (tSetLn tx 0) ct nw pm pn ph km kc sH sL sc) := by
  obtain ⟨cB, dr, lt, hs, tm, tk, sp, h⟩ := hS
  have l1 : 1 + 2 < hp.length := by have := h.qlen; omega
  have p1 := wX_p2 (n := 0) l1 h.qx.2.2.2
  rw [wX_self h.qx] at p1
  have h2 := St1_x h (wX_len (hp := hp) (x := 1) (t := tSetLn tx 0)) (fun b hb => wX_get (by omega)) (isX_wX l1 (h.qx.2.2.2.Ln (by omega)))
  refine ⟨_, ?_, ⟨_, _, _, _, _, _, _, h2⟩, wX_len, fun b hb => wX_get (by omega)⟩
  simp (disch := first | exact nl_int | exact nl_ref | exact nl_none | exact Nat.le_of_ble_eq_true rfl | assumption | exact cat_int | exact cat_ref | exact z2 | exact z4 | exact z3 | exact z5 | exact z6 | exact z8 | exact z64) only [e_47_0, e_47_1, e_47_4, e_47_7, e_47_8, e_47_9, e_47_12, e_47_13, e_47_16, e_47_17, nl_int, nl_ref, nl_none, cat_int, cat_ref, cat_0, cat_i, cat_r, cat_l, Option.elim_some, Option.elim_none, Option.bind_some, Option.bind_none, Option.toList_some, Option.toList_none, List.cons_append, List.nil_append, Nat.reduceAdd, Nat.reduceLeDiff, h.f0, h.qx.f2, show (0 : Int32) = nI 0 from rfl, p1]
def aFault (tx : am_Tx) (dr : am_Ci) : Int32 := (tRead 200 (tSetAt tx 0) (cClear dr)).1
end CLS
