/-! PAIRS: acts -/
theorem xb_tab : (List.range 32).all (fun o => (List.range 5).all (fun s => decide (nI o ^^^ ((1 : Int32) <<< (nI s &&& 31)) = nI (nI o ^^^ ((1 : Int32) <<< (nI s &&& 31))).toNatClampNeg ∧ (nI o ^^^ ((1 : Int32) <<< (nI s &&& 31))).toNatClampNeg < 32))) = true := by decide +kernel
theorem xb_at {o s : Nat} (ho : o < 32) (hs : s < 5) : ∃ c, c < 32 ∧ nI o ^^^ ((1 : Int32) <<< (nI s &&& 31)) = nI c := by
  have t := of_decide_eq_true (List.all_eq_true.mp (List.all_eq_true.mp xb_tab o (List.mem_range.mpr ho)) s (List.mem_range.mpr hs))
  exact ⟨_, t.2, t.1⟩
section MDH
variable {d : Nat} {hp hp2 : am_H} {I I2 : Nat → Int32} {A A2 : Nat → List Int32} {i j k n b p hr tt h u : Nat} {x y z t a v : Int32} {B C U : List Int32} {ct : am_Ci} {tx : am_Tx} {nw m : am_Mo} {pm : Nat → am_Mo} {pn ph : Nat} {km : Nat → am_Mo} {kc : Nat} {sH sL : List Int32} {sc : Nat}
theorem St.pmo (hS : St hp tx ct nw pm pn ph km kc sH sL sc) (hi : i < 8) : mOK (pm i) := by
  obtain ⟨cB, dr, lt, hs, tm, tk, sp, h⟩ := hS
  exact (h.qp.2.2.1 i hi).ok
theorem St.kmo (hS : St hp tx ct nw pm pn ph km kc sH sL sc) (hi : i < 2) : mOK (km i) := by
  obtain ⟨cB, dr, lt, hs, tm, tk, sp, h⟩ := hS
  exact (h.kMo hi).ok
theorem mH_setH (hm : mOK nw) (hi : i < 8) : mH (mSetH nw i v) k = if i = k then v else mH nw k := by
  unfold mH mSetH
  exact getD_set (by rw [hm.2.2.2.1]; exact hi)
theorem Rl_H (hm : mOK nw) (hC : C.length = 27) (h8 : cPp ct ≤ 8) (hR : Rl ct nw hr B C) (hi : i < cPp ct) : Rl ct (mSetH nw i v) hr B (C.set (5 + 3 * i) v) := by
  obtain ⟨h1, h2, h3, h4, h5, h6⟩ := hR
  refine ⟨h1, h2, h3, h4, ⟨?_, ?_, ?_⟩, fun k hk => ⟨?_, ?_, ?_⟩⟩
  · rw [getD_set (by omega), if_neg (by omega)]; exact h5.1
  · rw [getD_set (by omega), if_neg (by omega)]; exact h5.2.1
  · rw [getD_set (by omega), if_neg (by omega)]; exact h5.2.2
  · rw [getD_set (by omega), if_neg (by omega)]; exact (h6 k hk).1
  · rw [getD_set (by omega), if_neg (by omega)]; exact (h6 k hk).2.1
  · rw [getD_set (by omega), mH_setH hm (by omega)]
    by_cases e : i = k
    · rw [if_pos (by omega), if_pos e]
    · rw [if_neg (by omega), if_neg e]; exact (h6 k hk).2.2
theorem Nm_H (hm : mOK nw) (hN : Nm ct nw) (hi : i < cPp ct) {g : Nat} (hg : g < cHs ct) (e : v = nI g) : Nm ct (mSetH nw i v) := by
  have h8 := hN.2.2.1
  refine ⟨fun k hk => ?_, fun k h1 h2 => ?_, hN.2.2⟩
  · obtain ⟨o, t1, h, ho, ht1, hh, eo, et, eh⟩ := hN.1 k hk
    by_cases q : i = k
    · exact ⟨o, t1, g, ho, ht1, hg, eo, et, by rw [mH_setH hm (by omega), if_pos q, e]⟩
    · exact ⟨o, t1, h, ho, ht1, hh, eo, et, by rw [mH_setH hm (by omega), if_neg q, eh]⟩
  · rw [mH_setH hm (by omega), if_neg (by omega)]; exact hN.2.1 k h1 h2
theorem Ok7.setH (ok : Ok7 A ct nw hr) (hi : i < cPp ct) {g : Nat} (hg : g < cHs ct) : Ok7 (updA A 1 ((A 1).set (5 + 3 * i) (nI g))) ct (mSetH nw i (nI g)) hr := ⟨updA_ok ok.1 ((List.length_set).trans (ok.1 1 (by decide))), Rl_H ok.2.2.2.2.1 (ok.1 1 (by decide)) ok.p8 ok.2.1 hi, Nm_H ok.2.2.2.2.1 ok.2.2.1 hi hg rfl, ok.2.2.2.1, ok.2.2.2.2.1.H, ok.2.2.2.2.2⟩
theorem Ok7.setO (ok : Ok7 A ct nw hr) (hi : i < cPp ct) {g : Nat} (hg : g < 32) : Ok7 (updA A 1 ((A 1).set (3 + 3 * i) (nI g))) ct (mSetO nw i (nI g)) hr := ⟨updA_ok ok.1 ((List.length_set).trans (ok.1 1 (by decide))), Rl_O ok.2.2.2.2.1 (ok.1 1 (by decide)) ok.p8 ok.2.1 hi, Nm_O ok.2.2.2.2.1 ok.2.2.1 hi hg rfl, ok.2.2.2.1, ok.2.2.2.2.1.O, ok.2.2.2.2.2⟩
theorem Ok7.setRa (ok : Ok7 A ct nw hr) : Ok7 (updA A 1 ((A 1).set 2 v)) ct (mSetRa nw v) hr := by
  have hC : (A 1).length = 27 := ok.1 1 (by decide)
  refine ⟨updA_ok ok.1 ((List.length_set).trans hC), ?_, ok.2.2.1, ok.2.2.2.1, ok.2.2.2.2.1, ok.2.2.2.2.2.1, ok.2.2.2.2.2.2⟩
  obtain ⟨h1, h2, h3, h4, h5, h6⟩ := ok.2.1
  show Rl ct (mSetRa nw v) hr (A 0) ((A 1).set 2 v)
  refine ⟨h1, h2, h3, h4, ⟨?_, ?_, ?_⟩, fun k hk => ⟨?_, ?_, ?_⟩⟩
  · rw [getD_set (by omega), if_neg (by omega)]; exact h5.1
  · rw [getD_set (by omega), if_neg (by omega)]; exact h5.2.1
  · rw [getD_set (by omega), if_pos rfl]; rfl
  · rw [getD_set (by omega), if_neg (by omega)]; exact (h6 k hk).1
  · rw [getD_set (by omega), if_neg (by omega)]; exact (h6 k hk).2.1
  · rw [getD_set (by omega), if_neg (by omega)]; exact (h6 k hk).2.2
theorem Rl_cg {C2 : List Int32} (h8 : cPp ct ≤ 8) (hR : Rl ct nw hr B C) (h : ∀ j, j < 27 → C2.getD j 0 = C.getD j 0) : Rl ct nw hr B C2 := by
  obtain ⟨h1, h2, h3, h4, h5, h6⟩ := hR
  refine ⟨h1, h2, h3, h4, ⟨?_, ?_, ?_⟩, fun k hk => ⟨?_, ?_, ?_⟩⟩
  · rw [h 0 (by omega)]; exact h5.1
  · rw [h 1 (by omega)]; exact h5.2.1
  · rw [h 2 (by omega)]; exact h5.2.2
  · rw [h _ (by omega)]; exact (h6 k hk).1
  · rw [h _ (by omega)]; exact (h6 k hk).2.1
  · rw [h _ (by omega)]; exact (h6 k hk).2.2
theorem Sl.cg {U2 : List Int32} {k2 : Nat} (h : Sl ct B U k m) (e : ∀ j, j < 27 → U2.getD (27 * k2 + j) 0 = U.getD (27 * k + j) 0) : Sl ct B U2 k2 m := by
  obtain ⟨C, r, ra, q1, q2⟩ := h
  exact ⟨C, r, ra, fun j hj => by rw [q1 j hj, e j hj], q2⟩
theorem Sl.copy {f : am_Mo} (h : Sl ct B U k m) (hf : mOK f) : Sl ct B U k (mCopy f m) := by
  obtain ⟨C, r, ra, q1, q2, q3, q4, q5, q6, q7, q8, q9⟩ := h
  exact ⟨C, r, ra, q1, q2, q3, q4, q5, q6, q7, q8, mCopy_ok hf q9⟩
theorem Jr.cur (hj : Jr tx ct nw pm pn ph km kc sH sL sc hr I A) (e : ∀ j, j < 27 → U.getD (27 * k + j) 0 = (A 1).getD j 0) : Sl ct (A 0) U k nw := by
  obtain ⟨ra, h1, h2⟩ := hj.2.2.1
  exact ⟨A 1, hr, ra, fun j hj => (e j hj).symm, hj.1.1 1 (by decide), hj.2.1, hj.1.2.2.2.2.2.2, h1, h2, hj.1.2.1, hj.1.2.2.1, hj.1.2.2.2.2.1⟩
theorem past_notes (hj : Jr tx ct nw pm pn ph km kc sH sL sc hr I A) (hm : mOK (pm pn)) (u1 : ph < 8 → ∀ k j, k < ph → j < 27 → U.getD (27 * k + j) 0 = (A 7).getD (27 * k + j) 0) (u2 : ph = 8 → ∀ k j, k < 7 → j < 27 → U.getD (27 * k + j) 0 = (A 7).getD (27 * (k + 1) + j) 0) (u3 : ∀ j, j < 27 → U.getD (27 * (min ph 7) + j) 0 = (A 1).getD j 0) : nI (min ph 7 + 1) = nI (min (ph + 1) 8) ∧ min (ph + 1) 8 ≤ 8 ∧ (pn + 1) % 8 < 8 ∧ ∀ k, k < min (ph + 1) 8 → Sl ct (A 0) U k (updM pm pn (mCopy (pm pn) nw) (((pn + 1) % 8 + 8 - min (ph + 1) 8 + k) % 8)) := by
  obtain ⟨g1, g2, g3, g4⟩ := hj.2.2.2.2.2.1
  refine ⟨by rw [show min ph 7 + 1 = min (ph + 1) 8 from by omega], by omega, by omega, fun k hk => ?_⟩
  by_cases q : k = min ph 7
  · have e : ((pn + 1) % 8 + 8 - min (ph + 1) 8 + k) % 8 = pn := by omega
    rw [e, show updM pm pn (mCopy (pm pn) nw) pn = mCopy (pm pn) nw from if_pos rfl, q]
    exact (hj.cur u3).copy hm
  · have ne : ((pn + 1) % 8 + 8 - min (ph + 1) 8 + k) % 8 ≠ pn := by omega
    rw [show updM pm pn (mCopy (pm pn) nw) (((pn + 1) % 8 + 8 - min (ph + 1) 8 + k) % 8) = pm (((pn + 1) % 8 + 8 - min (ph + 1) 8 + k) % 8) from if_neg ne]
    by_cases q8 : ph = 8
    · have e : ((pn + 1) % 8 + 8 - min (ph + 1) 8 + k) % 8 = (pn + 8 - ph + (k + 1)) % 8 := by omega
      rw [e]
      exact (g4 (k + 1) (by omega)).cg (fun j hj => u2 q8 k j (by omega) hj)
    · have e : ((pn + 1) % 8 + 8 - min (ph + 1) 8 + k) % 8 = (pn + 8 - ph + k) % 8 := by omega
      rw [e]
      exact (g4 k (by omega)).cg (fun j hj => u1 (by omega) k j (by omega) hj)
theorem mOn_ra : (mOn ct hr n nw).2.2.2.2.2.2 = nw.2.2.2.2.2.2 := for_keep (fun m : am_Mo => m.2.2.2.2.2.2) (fun i s => mGo_ra) n 0 nw
theorem p_pass (hJ : JJ hp) : Pr d 52 [some (.ref 0), some (.int x), none] 123 [some (.ref 141), some (.int x)] hp := by
  obtain ⟨hl, tx, ct, nw, pm, pn, ph, km, kc, sH, sL, sc, hr, I, A, hS, hD, hj⟩ := hJ
  have ok := hj.1
  have h999 := hj.2.1
  by_cases q1 : x < 1 ∨ 30 < x
  · refine Pr_ask hl hD hj (Run.same hS (s_pass0 hS q1)) (fun hp hl => Ask.same ok.1 ?_)
    simp (maxSteps := 1000000) (disch := first | exact nl_int | exact nl_ref | exact nl_none | exact Nat.le_of_ble_eq_true rfl | assumption | exact wD_cl (by assumption) | exact cat_int | exact cat_ref | exact z2 | exact z4 | exact z3 | exact z5 | exact z6 | exact z8 | exact z64) only [e_123_0, e_123_1, e_123_2, e_123_3, e_123_6, e_123_9, e_123_12, e_123_13, e_123_14, e_123_15, e_123_18, e_123_19, e_123_20, e_123_21, e_123_22, e_123_25, e_123_28, e_123_30, e_123_31, e_123_32, e_123_35, e_123_36, e_123_37, e_123_40, e_123_41, e_123_44, e_123_45, e_123_46, nl_int, nl_ref, nl_none, cat_int, cat_ref, cat_0, cat_i, cat_r, cat_l, Option.elim_some, Option.elim_none, Option.bind_some, Option.bind_none, Option.toList_some, Option.toList_none, List.cons_append, List.nil_append, Nat.reduceAdd, Nat.reduceLeDiff, s7_in0 (d := d + 11) (lo := 1) (hi := 30) (a := 1) (c := 30) q1 (by decide) (by decide), z0, if_true]
  · have q2 : ¬ x < 1 := fun w => q1 (Or.inl w)
    have q3 : ¬ 30 < x := fun w => q1 (Or.inr w)
    obtain ⟨n, hn, rfl⟩ := nI_of (fun w => q2 (Int32.lt_trans w (by decide)))
    have n1 : 1 ≤ n := Nat.le_of_not_lt (fun w => q2 (nI_lt (b := 1) w (by decide)))
    have n2 : n ≤ 30 := Nat.le_of_not_lt (fun w => q3 (nI_lt (a := 30) w hn))
    have ein : ∀ hp : am_H, am_E (d + 11) 89 0 [some (.long (nI n).toInt64), none, some (.long 1), none, some (.long 30), none] [] hp = some (some (.int 1), hp) := fun hp => s7_in1 (lo := 1) (hi := 30) q2 q3 (by decide) (by decide)
    by_cases q4 : 999 < hr + n
    · refine Pr_ask hl hD hj (Run.same hS (s_pass1 hS ok.2.2.2.2.2.2 h999 n1 n2 q4)) (fun hp hl => Ask.same ok.1 ?_)
      simp (maxSteps := 1000000) (disch := first | exact nl_int | exact nl_ref | exact nl_none | exact Nat.le_of_ble_eq_true rfl | assumption | exact wD_cl (by assumption) | exact cat_int | exact cat_ref | exact z2 | exact z4 | exact z3 | exact z5 | exact z6 | exact z8 | exact z64) only [e_123_0, e_123_1, e_123_2, e_123_3, e_123_6, e_123_9, e_123_12, e_123_13, e_123_14, e_123_15, e_123_18, e_123_19, e_123_20, e_123_21, e_123_22, e_123_25, e_123_28, e_123_30, e_123_31, e_123_32, e_123_35, e_123_36, e_123_37, e_123_40, e_123_41, e_123_44, e_123_45, e_123_46, nl_int, nl_ref, nl_none, cat_int, cat_ref, cat_0, cat_i, cat_r, cat_l, Option.elim_some, Option.elim_none, Option.bind_some, Option.bind_none, Option.toList_some, Option.toList_none, List.cons_append, List.nil_append, Nat.reduceAdd, Nat.reduceLeDiff, ein, z1, if_false, wD_f1 hl, ok.lhr hl, nI_add, gtT (x := 999) (c := 999) rfl q4 (by omega), if_true]
    · refine Pr_act (hr2 := hr + n) hl hD (s_pass2 hS ok.2.2.2.2.2.2 h999 n1 n2 (by omega)) (fun hp hl => ?_)
      obtain ⟨U, uL, u1, u2, u3, eu⟩ := s7_notes (d := d + 11) hl ok.1 hj.2.2.2.2.2.1.1 hj.2.2.2.2.2.1.2.1
      have pn' := past_notes hj (hS.pmo hj.2.2.2.2.2.1.2.2.1) u1 u2 u3
      have hA1 : aOK (updA A 7 U) := updA_ok ok.1 uL
      have ok1 : Ok7 (updA A 7 U) ct nw hr := ⟨hA1, ok.2⟩
      obtain ⟨A2, ok2, k2, e2⟩ := s7_on (d := d + 6) (I := updI I 13 (nI (min ph 7 + 1))) (n := n) hl ok1 (by omega) (by omega)
      refine ⟨updI I 13 (nI (min ph 7 + 1)), A2, ?_, ok2, by omega, ?_, ?_, ?_, ?_, ?_⟩
      rotate_left
      · rw [mOn_ra]; exact hj.2.2.1
      · rw [k2 2 (by decide) (by decide)]; exact hj.2.2.2.1
      · rw [k2 10 (by decide) (by decide), k2 11 (by decide) (by decide)]; exact hj.2.2.2.2.1
      · rw [k2 7 (by decide) (by decide), k2 0 (by decide) (by decide)]
        exact ⟨pn'.1, pn'.2⟩
      · rw [k2 12 (by decide) (by decide), k2 0 (by decide) (by decide)]; exact hj.2.2.2.2.2.2
      · simp (maxSteps := 1000000) (disch := first | exact nl_int | exact nl_ref | exact nl_none | exact Nat.le_of_ble_eq_true rfl | assumption | exact wD_cl (by assumption) | exact cat_int | exact cat_ref | exact z2 | exact z4 | exact z3 | exact z5 | exact z6 | exact z8 | exact z64) only [e_123_0, e_123_1, e_123_2, e_123_3, e_123_6, e_123_9, e_123_12, e_123_13, e_123_14, e_123_15, e_123_18, e_123_19, e_123_20, e_123_21, e_123_22, e_123_25, e_123_28, e_123_30, e_123_31, e_123_32, e_123_35, e_123_36, e_123_37, e_123_40, e_123_41, e_123_44, e_123_45, e_123_46, nl_int, nl_ref, nl_none, cat_int, cat_ref, cat_0, cat_i, cat_r, cat_l, Option.elim_some, Option.elim_none, Option.bind_some, Option.bind_none, Option.toList_some, Option.toList_none, List.cons_append, List.nil_append, Nat.reduceAdd, Nat.reduceLeDiff, ein, z1, if_false, wD_f1 hl, ok.lhr hl, nI_add, gtF (x := 999) (c := 999) rfl (show hr + n ≤ 999 by omega) (by omega), eu, e2, ok2.lhr hl]
theorem p_move (hJ : JJ hp) : Pr d 53 [some (.ref 0), some (.int x), some (.int y), none] 124 [some (.ref 141), some (.int x), some (.int y), none] hp := by
  obtain ⟨hl, tx, ct, nw, pm, pn, ph, km, kc, sH, sL, sc, hr, I, A, hS, hD, hj⟩ := hJ
  have ok := hj.1
  have p8 := ok.p8
  have h5 := ok.h5
  cases q : (inR x (cPp ct) && inR y (cHs ct)) with
  | false =>
    refine Pr_ask hl hD hj (Run.same hS ((s_move hS).1 q)) (fun hp hl => Ask.same ok.1 ?_)
    cases q1 : inR x (cPp ct) with
    | false => simp (maxSteps := 1000000) (disch := first | exact nl_int | exact nl_ref | exact nl_none | exact Nat.le_of_ble_eq_true rfl | assumption | exact wD_cl (by assumption) | exact cat_int | exact cat_ref | exact z2 | exact z4 | exact z3 | exact z5 | exact z6 | exact z8 | exact z64) only [e_124_0, e_124_1, e_124_2, e_124_5, e_124_8, e_124_9, e_124_10, e_124_13, e_124_16, e_124_17, e_124_18, e_124_19, e_124_22, e_124_23, e_124_24, e_124_27, e_124_28, e_124_29, e_124_32, e_124_33, e_124_34, e_124_35, e_124_36, e_124_37, e_124_38, e_124_39, e_124_40, e_124_41, e_124_42, nl_int, nl_ref, nl_none, cat_int, cat_ref, cat_0, cat_i, cat_r, cat_l, Option.elim_some, Option.elim_none, Option.bind_some, Option.bind_none, Option.toList_some, Option.toList_none, List.cons_append, List.nil_append, Nat.reduceAdd, Nat.reduceLeDiff, s7_ip0 (d := d + 10) hl ok q1, z0, if_true]
    | true =>
      obtain ⟨i, hi, rfl⟩ := inR_t q1 (by omega)
      rw [q1, Bool.true_and] at q
      simp (maxSteps := 1000000) (disch := first | exact nl_int | exact nl_ref | exact nl_none | exact Nat.le_of_ble_eq_true rfl | assumption | exact wD_cl (by assumption) | exact cat_int | exact cat_ref | exact z2 | exact z4 | exact z3 | exact z5 | exact z6 | exact z8 | exact z64) only [e_124_0, e_124_1, e_124_2, e_124_5, e_124_8, e_124_9, e_124_10, e_124_13, e_124_16, e_124_17, e_124_18, e_124_19, e_124_22, e_124_23, e_124_24, e_124_27, e_124_28, e_124_29, e_124_32, e_124_33, e_124_34, e_124_35, e_124_36, e_124_37, e_124_38, e_124_39, e_124_40, e_124_41, e_124_42, nl_int, nl_ref, nl_none, cat_int, cat_ref, cat_0, cat_i, cat_r, cat_l, Option.elim_some, Option.elim_none, Option.bind_some, Option.bind_none, Option.toList_some, Option.toList_none, List.cons_append, List.nil_append, Nat.reduceAdd, Nat.reduceLeDiff, s7_ip1 (d := d + 10) hl ok hi, s7_ih0 (d := d + 10) hl ok q, z0, z1, if_true, if_false]
  | true =>
    obtain ⟨q1, q2⟩ := Bool.and_eq_true_iff.mp q
    obtain ⟨i, hi, rfl⟩ := inR_t q1 (by omega)
    have s6 := (s_move (d := d) (x := 0) hS).2 i hi q2
    obtain ⟨g, hg, rfl⟩ := inR_t q2 (by omega)
    refine Pr_act (hr2 := hr) hl hD s6 (fun hp hl => ?_)
    obtain ⟨U, uL, u1, u2, u3, eu⟩ := s7_notes (d := d + 11) hl ok.1 hj.2.2.2.2.2.1.1 hj.2.2.2.2.2.1.2.1
    have pn' := past_notes hj (hS.pmo hj.2.2.2.2.2.1.2.2.1) u1 u2 u3
    have hA1 : aOK (updA A 7 U) := updA_ok ok.1 uL
    have ok1 : Ok7 (updA A 7 U) ct nw hr := ⟨hA1, ok.2⟩
    have ok2 := ok1.setH hi hg
    have ho := s7_ho (d := d + 11) (I := updI I 13 (nI (min ph 7 + 1))) hl hA1 ok1.2.1 hi p8
    have ix : 3 + 3 * nI i = nI (3 + 3 * i) := ix3 (a := 0)
    have e5 : nI (3 + 3 * i) + 2 = nI (5 + 3 * i) := by rw [nI_2, show 3 + 3 * i + 2 = 5 + 3 * i from by omega]
    have sx : am_sx (wD hp (updI I 13 (nI (min ph 7 + 1))) (updA A 7 U)) 143 (nI (5 + 3 * i)) (nI g) = some (wD hp (updI I 13 (nI (min ph 7 + 1))) (updA (updA A 7 U) 1 ((A 1).set (5 + 3 * i) (nI g)))) := by
      rw [wD_s1 (k := 5 + 3 * i) rfl hl hA1 (by omega)]
      rfl
    refine ⟨updI I 13 (nI (min ph 7 + 1)), updA (updA A 7 U) 1 ((A 1).set (5 + 3 * i) (nI g)), ?_, ok2, hj.2.1, hj.2.2.1, hj.2.2.2.1, hj.2.2.2.2.1, ⟨pn'.1, pn'.2⟩, hj.2.2.2.2.2.2⟩
    simp (maxSteps := 1000000) (disch := first | exact nl_int | exact nl_ref | exact nl_none | exact Nat.le_of_ble_eq_true rfl | assumption | exact wD_cl (by assumption) | exact cat_int | exact cat_ref | exact z2 | exact z4 | exact z3 | exact z5 | exact z6 | exact z8 | exact z64) only [e_124_0, e_124_1, e_124_2, e_124_5, e_124_8, e_124_9, e_124_10, e_124_13, e_124_16, e_124_17, e_124_18, e_124_19, e_124_22, e_124_23, e_124_24, e_124_27, e_124_28, e_124_29, e_124_32, e_124_33, e_124_34, e_124_35, e_124_36, e_124_37, e_124_38, e_124_39, e_124_40, e_124_41, e_124_42, nl_int, nl_ref, nl_none, cat_int, cat_ref, cat_0, cat_i, cat_r, cat_l, Option.elim_some, Option.elim_none, Option.bind_some, Option.bind_none, Option.toList_some, Option.toList_none, List.cons_append, List.nil_append, Nat.reduceAdd, Nat.reduceLeDiff, s7_ip1 (d := d + 10) hl ok hi, s7_ih1 (d := d + 10) hl ok hg, z1, if_false, eu, ho, wD_f1 hl, ix, e5, sx]
theorem s7_is1 {s : Nat} (hs : s < 5) : am_E (d + 1) 95 0 [some (.int (nI s))] [] hp = some (some (.int 1), hp) := by rw [s7_isSubject, inR_n hs (by decide)]; rfl
theorem s7_is0 (q : inR x 5 = false) : am_E (d + 1) 95 0 [some (.int x)] [] hp = some (some (.int 0), hp) := by rw [s7_isSubject, q]; rfl
theorem p_alter (hJ : JJ hp) : Pr d 54 [some (.ref 0), some (.int x), some (.int y)] 125 [some (.ref 141), some (.int x), some (.int y)] hp := by
  obtain ⟨hl, tx, ct, nw, pm, pn, ph, km, kc, sH, sL, sc, hr, I, A, hS, hD, hj⟩ := hJ
  have ok := hj.1
  have p8 := ok.p8
  cases q : (inR x (cPp ct) && inR y 5) with
  | false =>
    refine Pr_ask hl hD hj (Run.same hS ((s_alter hS).1 q)) (fun hp hl => Ask.same ok.1 ?_)
    cases q1 : inR x (cPp ct) with
    | false => simp (maxSteps := 1000000) (disch := first | exact nl_int | exact nl_ref | exact nl_none | exact Nat.le_of_ble_eq_true rfl | assumption | exact wD_cl (by assumption) | exact cat_int | exact cat_ref | exact z2 | exact z4 | exact z3 | exact z5 | exact z6 | exact z8 | exact z64) only [e_125_0, e_125_1, e_125_2, e_125_5, e_125_8, e_125_9, e_125_12, e_125_15, e_125_16, e_125_17, e_125_18, e_125_21, e_125_22, e_125_25, e_125_26, e_125_27, e_125_28, e_125_29, e_125_30, e_125_31, e_125_32, e_125_33, e_125_34, e_125_35, e_125_36, e_125_37, e_125_38, e_125_39, e_125_42, e_125_43, e_125_44, e_125_45, e_125_46, nl_int, nl_ref, nl_none, cat_int, cat_ref, cat_0, cat_i, cat_r, cat_l, Option.elim_some, Option.elim_none, Option.bind_some, Option.bind_none, Option.toList_some, Option.toList_none, List.cons_append, List.nil_append, Nat.reduceAdd, Nat.reduceLeDiff, s7_ip0 (d := d + 10) hl ok q1, z0, if_true]
    | true =>
      obtain ⟨i, hi, rfl⟩ := inR_t q1 (by omega)
      rw [q1, Bool.true_and] at q
      simp (maxSteps := 1000000) (disch := first | exact nl_int | exact nl_ref | exact nl_none | exact Nat.le_of_ble_eq_true rfl | assumption | exact wD_cl (by assumption) | exact cat_int | exact cat_ref | exact z2 | exact z4 | exact z3 | exact z5 | exact z6 | exact z8 | exact z64) only [e_125_0, e_125_1, e_125_2, e_125_5, e_125_8, e_125_9, e_125_12, e_125_15, e_125_16, e_125_17, e_125_18, e_125_21, e_125_22, e_125_25, e_125_26, e_125_27, e_125_28, e_125_29, e_125_30, e_125_31, e_125_32, e_125_33, e_125_34, e_125_35, e_125_36, e_125_37, e_125_38, e_125_39, e_125_42, e_125_43, e_125_44, e_125_45, e_125_46, nl_int, nl_ref, nl_none, cat_int, cat_ref, cat_0, cat_i, cat_r, cat_l, Option.elim_some, Option.elim_none, Option.bind_some, Option.bind_none, Option.toList_some, Option.toList_none, List.cons_append, List.nil_append, Nat.reduceAdd, Nat.reduceLeDiff, s7_ip1 (d := d + 10) hl ok hi, s7_is0 (d := d + 10) q, z0, z1, if_true, if_false]
  | true =>
    obtain ⟨q1, q2⟩ := Bool.and_eq_true_iff.mp q
    obtain ⟨i, hi, rfl⟩ := inR_t q1 (by omega)
    have s6 := (s_alter (d := d) (x := 0) hS).2 i hi q2
    obtain ⟨g, hg, rfl⟩ := inR_t q2 (by omega)
    refine Pr_act (hr2 := hr) hl hD s6 (fun hp hl => ?_)
    obtain ⟨U, uL, u1, u2, u3, eu⟩ := s7_notes (d := d + 11) hl ok.1 hj.2.2.2.2.2.1.1 hj.2.2.2.2.2.1.2.1
    have pn' := past_notes hj (hS.pmo hj.2.2.2.2.2.1.2.2.1) u1 u2 u3
    have hA1 : aOK (updA A 7 U) := updA_ok ok.1 uL
    have ok1 : Ok7 (updA A 7 U) ct nw hr := ⟨hA1, ok.2⟩
    obtain ⟨o, t1, hh, ho, ht1, hhh, eo, et, eh⟩ := ok.2.2.1.1 i hi
    obtain ⟨c, hc, ec⟩ := xb_at ho hg
    have ok2 := ok1.setO hi hc
    have ix : 3 + 3 * nI i = nI (3 + 3 * i) := ix3 (a := 0)
    have sx : am_sx (wD hp (updI I 13 (nI (min ph 7 + 1))) (updA A 7 U)) 143 (nI (3 + 3 * i)) (nI c) = some (wD hp (updI I 13 (nI (min ph 7 + 1))) (updA (updA A 7 U) 1 ((A 1).set (3 + 3 * i) (nI c)))) := by
      rw [wD_s1 (k := 3 + 3 * i) rfl hl hA1 (by omega)]
      rfl
    have lo := ok1.lo (I := updI I 13 (nI (min ph 7 + 1))) hl hi
    have so : am_E (d + 11) 96 0 [some (.ref 141), some (.int (nI i))] [] (wD hp (updI I 13 (nI (min ph 7 + 1))) (updA (updA A 7 U) 1 ((A 1).set (3 + 3 * i) (nI c)))) = some (some (.int (nI c)), wD hp (updI I 13 (nI (min ph 7 + 1))) (updA (updA A 7 U) 1 ((A 1).set (3 + 3 * i) (nI c)))) := by
      have := s7_op (d := d + 11) (I := updI I 13 (nI (min ph 7 + 1))) hl ok2.1 ok2.2.1 hi p8
      rw [mO_setO ok.2.2.2.2.1 (by omega), if_pos rfl] at this
      exact this
    have ew : mO nw i ^^^ ((1 : Int32) <<< (nI g &&& 31)) = nI c := by rw [eo, ec]
    rw [ew]
    refine ⟨updI I 13 (nI (min ph 7 + 1)), updA (updA A 7 U) 1 ((A 1).set (3 + 3 * i) (nI c)), ?_, ok2, hj.2.1, hj.2.2.1, hj.2.2.2.1, hj.2.2.2.2.1, ⟨pn'.1, pn'.2⟩, hj.2.2.2.2.2.2⟩
    simp (maxSteps := 1000000) (disch := first | exact nl_int | exact nl_ref | exact nl_none | exact Nat.le_of_ble_eq_true rfl | assumption | exact wD_cl (by assumption) | exact cat_int | exact cat_ref | exact z2 | exact z4 | exact z3 | exact z5 | exact z6 | exact z8 | exact z64) only [e_125_0, e_125_1, e_125_2, e_125_5, e_125_8, e_125_9, e_125_12, e_125_15, e_125_16, e_125_17, e_125_18, e_125_21, e_125_22, e_125_25, e_125_26, e_125_27, e_125_28, e_125_29, e_125_30, e_125_31, e_125_32, e_125_33, e_125_34, e_125_35, e_125_36, e_125_37, e_125_38, e_125_39, e_125_42, e_125_43, e_125_44, e_125_45, e_125_46, nl_int, nl_ref, nl_none, cat_int, cat_ref, cat_0, cat_i, cat_r, cat_l, Option.elim_some, Option.elim_none, Option.bind_some, Option.bind_none, Option.toList_some, Option.toList_none, List.cons_append, List.nil_append, Nat.reduceAdd, Nat.reduceLeDiff, s7_ip1 (d := d + 10) hl ok hi, s7_is1 (d := d + 10) hg, z1, if_false, eu, wD_f1 hl, ix, lo, ew, sx, so]
theorem p_ration (hJ : JJ hp) : Pr d 55 [some (.ref 0), some (.int x)] 126 [some (.ref 141), some (.int x)] hp := by
  obtain ⟨hl, tx, ct, nw, pm, pn, ph, km, kc, sH, sL, sc, hr, I, A, hS, hD, hj⟩ := hJ
  have ok := hj.1
  cases q : inR x 5 with
  | false =>
    refine Pr_ask hl hD hj (Run.same hS ((s_ration hS).1 q)) (fun hp hl => Ask.same ok.1 ?_)
    simp (maxSteps := 1000000) (disch := first | exact nl_int | exact nl_ref | exact nl_none | exact Nat.le_of_ble_eq_true rfl | assumption | exact wD_cl (by assumption) | exact cat_int | exact cat_ref | exact z2 | exact z4 | exact z3 | exact z5 | exact z6 | exact z8 | exact z64) only [e_126_0, e_126_1, e_126_4, e_126_7, e_126_8, e_126_9, e_126_10, e_126_13, e_126_14, e_126_17, e_126_18, e_126_19, e_126_20, e_126_21, e_126_22, e_126_23, e_126_24, e_126_25, e_126_26, e_126_29, e_126_30, e_126_31, e_126_32, e_126_33, e_126_34, e_126_35, nl_int, nl_ref, nl_none, cat_int, cat_ref, cat_0, cat_i, cat_r, cat_l, Option.elim_some, Option.elim_none, Option.bind_some, Option.bind_none, Option.toList_some, Option.toList_none, List.cons_append, List.nil_append, Nat.reduceAdd, Nat.reduceLeDiff, s7_is0 (d := d + 10) q, z0, if_true]
  | true =>
    have s6 := (s_ration (d := d) hS).2 q
    obtain ⟨g, hg, rfl⟩ := inR_t q (by omega)
    refine Pr_act (hr2 := hr) hl hD s6 (fun hp hl => ?_)
    obtain ⟨U, uL, u1, u2, u3, eu⟩ := s7_notes (d := d + 11) hl ok.1 hj.2.2.2.2.2.1.1 hj.2.2.2.2.2.1.2.1
    have pn' := past_notes hj (hS.pmo hj.2.2.2.2.2.1.2.2.1) u1 u2 u3
    have hA1 : aOK (updA A 7 U) := updA_ok ok.1 uL
    have ok1 : Ok7 (updA A 7 U) ct nw hr := ⟨hA1, ok.2⟩
    obtain ⟨ra, hra, era⟩ := hj.2.2.1
    obtain ⟨c, hc, ec⟩ := xb_at hra hg
    have ok2 := ok1.setRa (v := nI c)
    have sx : am_sx (wD hp (updI I 13 (nI (min ph 7 + 1))) (updA A 7 U)) 143 2 (nI c) = some (wD hp (updI I 13 (nI (min ph 7 + 1))) (updA (updA A 7 U) 1 ((A 1).set 2 (nI c)))) := by
      rw [wD_s1 (x := 2) (k := 2) rfl hl hA1 (by omega)]
      rfl
    have lr := ok1.lra (I := updI I 13 (nI (min ph 7 + 1))) hl
    have lr2 : am_ld (wD hp (updI I 13 (nI (min ph 7 + 1))) (updA (updA A 7 U) 1 ((A 1).set 2 (nI c)))) 143 2 = some (nI c) := ok2.lra (I := updI I 13 (nI (min ph 7 + 1))) hl
    have ew : nw.2.2.2.2.2.2 ^^^ ((1 : Int32) <<< (nI g &&& 31)) = nI c := by rw [era, ec]
    rw [ew]
    refine ⟨updI I 13 (nI (min ph 7 + 1)), updA (updA A 7 U) 1 ((A 1).set 2 (nI c)), ?_, ok2, hj.2.1, ⟨c, hc, rfl⟩, hj.2.2.2.1, hj.2.2.2.2.1, ⟨pn'.1, pn'.2⟩, hj.2.2.2.2.2.2⟩
    simp (maxSteps := 1000000) (disch := first | exact nl_int | exact nl_ref | exact nl_none | exact Nat.le_of_ble_eq_true rfl | assumption | exact wD_cl (by assumption) | exact cat_int | exact cat_ref | exact z2 | exact z4 | exact z3 | exact z5 | exact z6 | exact z8 | exact z64) only [e_126_0, e_126_1, e_126_4, e_126_7, e_126_8, e_126_9, e_126_10, e_126_13, e_126_14, e_126_17, e_126_18, e_126_19, e_126_20, e_126_21, e_126_22, e_126_23, e_126_24, e_126_25, e_126_26, e_126_29, e_126_30, e_126_31, e_126_32, e_126_33, e_126_34, e_126_35, nl_int, nl_ref, nl_none, cat_int, cat_ref, cat_0, cat_i, cat_r, cat_l, Option.elim_some, Option.elim_none, Option.bind_some, Option.bind_none, Option.toList_some, Option.toList_none, List.cons_append, List.nil_append, Nat.reduceAdd, Nat.reduceLeDiff, s7_is1 (d := d + 10) hg, z1, if_false, eu, wD_f1 hl, lr, ew, sx, lr2]
end MDH
