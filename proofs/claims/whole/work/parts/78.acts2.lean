/-! PAIRS: undo, keep, back, seen, forget, write, wipe, may -/
section MDI
variable {d : Nat} {hp hp2 : am_H} {I I2 : Nat → Int32} {A A2 : Nat → List Int32} {i j k n b p hr tt h u : Nat} {x y z t a v : Int32} {B C U : List Int32} {ct : am_Ci} {tx : am_Tx} {nw m : am_Mo} {pm : Nat → am_Mo} {pn ph : Nat} {km : Nat → am_Mo} {kc : Nat} {sH sL : List Int32} {sc : Nat}
/-- a row is taken back: what follows of it -/
theorem Sl.ok7 (ok : Ok7 A ct nw hr) (h : Sl ct (A 0) U k m) (hU : ∀ j, j < 27 → C.getD j 0 = U.getD (27 * k + j) 0) (hC : C.length = 27) {f : am_Mo} (hf : mOK f) : ∃ r, r ≤ 999 ∧ Ok7 (updA A 1 C) ct (mCopy f m) r ∧ ∃ ra, ra < 32 ∧ (mCopy f m).2.2.2.2.2.2 = nI ra := by
  obtain ⟨C2, r, ra, q1, q2, q3, q4, q5, q6, q7, q8, q9⟩ := h
  have hR : Rl ct m r (A 0) C := Rl_cg ok.p8 q7 (fun j hj => by rw [hU j hj, q1 j hj])
  exact ⟨r, q3, ⟨updA_ok ok.1 hC, hR, q8, ok.2.2.2.1, mCopy_ok hf q9, ok.2.2.2.2.2.1, q4⟩, ra, q5, q6⟩
theorem p_undo (hJ : JJ hp) : Pr d 56 [some (.ref 0)] 127 [some (.ref 141), none] hp := by
  obtain ⟨hl, tx, ct, nw, pm, pn, ph, km, kc, sH, sL, sc, hr, I, A, hS, hD, hj⟩ := hJ
  have ok := hj.1
  obtain ⟨g1, g2, g3, g4⟩ := hj.2.2.2.2.2.1
  by_cases q : ph = 0
  · refine Pr_ask hl hD hj (Run.same hS ((s_undo hS).1 q)) (fun hp hl => Ask.same ok.1 ?_)
    have e0 : I 13 = 0 := by rw [g1, q]; rfl
    simp (maxSteps := 1000000) (disch := first | exact nl_int | exact nl_ref | exact nl_none | exact Nat.le_of_ble_eq_true rfl | assumption | exact wD_cl (by assumption) | exact cat_int | exact cat_ref | exact z2 | exact z4 | exact z3 | exact z5 | exact z6 | exact z8 | exact z64) only [e_127_0, e_127_1, e_127_4, e_127_7, e_127_9, e_127_10, e_127_11, e_127_12, e_127_15, e_127_16, e_127_17, e_127_20, e_127_21, e_127_23, e_127_25, e_127_28, e_127_29, e_127_32, e_127_33, e_127_34, e_127_37, e_127_39, e_127_40, e_127_43, e_127_44, e_127_45, e_127_46, e_127_47, e_127_48, e_127_51, e_127_54, e_127_55, e_127_58, nl_int, nl_ref, nl_none, cat_int, cat_ref, cat_0, cat_i, cat_r, cat_l, Option.elim_some, Option.elim_none, Option.bind_some, Option.bind_none, Option.toList_some, Option.toList_none, List.cons_append, List.nil_append, Nat.reduceAdd, Nat.reduceLeDiff, wD_f13 hl, if_pos e0]
  · obtain ⟨u, rfl⟩ : ∃ u, ph = u + 1 := ⟨ph - 1, by omega⟩
    have sl := g4 u (by omega)
    rw [show (pn + 8 - (u + 1) + u) % 8 = (pn + 7) % 8 from by omega] at sl
    have e0 : (nI (u + 1) = 0) = False := eq_false (nI_ne0 (by omega) (by omega))
    obtain ⟨C, hC, hU⟩ : ∃ C : List Int32, C.length = 27 ∧ ∀ j, j < 27 → C.getD j 0 = (A 7).getD (27 * u + j) 0 := by
      obtain ⟨C, r, ra, q1, q2, _⟩ := sl
      exact ⟨C, q2, q1⟩
    obtain ⟨r, hr9, ok2, hra⟩ := sl.ok7 ok hU hC ok.2.2.2.2.1
    refine Pr_act (hr2 := r) hl hD ((s_undo hS).2 (by omega)) (fun hp hl => ?_)
    have k1 : ∀ n j (D : List Int32), j + n = 27 → D.length = 27 → (∀ k, k < j → D.getD k 0 = C.getD k 0) → am_E (d + 12) 127 22 [some (.ref 141), some (.int (nI j))] [] (wD hp (updI I 13 (nI u)) (updA A 1 D)) = some (some (.int (nI u)), wD hp (updI I 13 (nI u)) (updA A 1 C)) := by
      intro n
      induction n with
      | zero =>
        intro j D hj hD h0
        have : D = C := list8 27 hD hC (fun k hk => h0 k (by omega))
        rw [this, e_127_22]
        simp (maxSteps := 1000000) (disch := first | exact nl_int | exact nl_ref | exact nl_none | exact Nat.le_of_ble_eq_true rfl | assumption | exact wD_cl (by assumption) | exact cat_int | exact cat_ref | exact z2 | exact z4 | exact z3 | exact z5 | exact z6 | exact z8 | exact z64) only [e_127_0, e_127_1, e_127_4, e_127_7, e_127_9, e_127_10, e_127_11, e_127_12, e_127_15, e_127_16, e_127_17, e_127_20, e_127_21, e_127_23, e_127_25, e_127_28, e_127_29, e_127_32, e_127_33, e_127_34, e_127_37, e_127_39, e_127_40, e_127_43, e_127_44, e_127_45, e_127_46, e_127_47, e_127_48, e_127_51, e_127_54, e_127_55, e_127_58, nl_int, nl_ref, nl_none, cat_int, cat_ref, cat_0, cat_i, cat_r, cat_l, Option.elim_some, Option.elim_none, Option.bind_some, Option.bind_none, Option.toList_some, Option.toList_none, List.cons_append, List.nil_append, Nat.reduceAdd, Nat.reduceLeDiff, ltF (x := 27) (c := 27) rfl (show 27 ≤ j by omega) (by omega), if_false, wD_f13 hl, updI_s]
      | succ n ih =>
        intro j D hj hD h0
        have hA2 : aOK (updA A 1 D) := updA_ok ok.1 hD
        have lx : am_ld (wD hp (updI I 13 (nI u)) (updA A 1 D)) 149 (nI (27 * u + j)) = some (C.getD j 0) := by
          rw [wD_l7 (k := 27 * u + j) rfl hl hA2 (by omega), hU j (by omega)]
          rfl
        have sx : am_sx (wD hp (updI I 13 (nI u)) (updA A 1 D)) 143 (nI j) (C.getD j 0) = some (wD hp (updI I 13 (nI u)) (updA A 1 (D.set j (C.getD j 0)))) := by
          rw [wD_s1 (k := j) rfl hl hA2 (by omega), updA_updA]
          rfl
        rw [e_127_22]
        simp (maxSteps := 1000000) (disch := first | exact nl_int | exact nl_ref | exact nl_none | exact Nat.le_of_ble_eq_true rfl | assumption | exact wD_cl (by assumption) | exact cat_int | exact cat_ref | exact z2 | exact z4 | exact z3 | exact z5 | exact z6 | exact z8 | exact z64) only [e_127_0, e_127_1, e_127_4, e_127_7, e_127_9, e_127_10, e_127_11, e_127_12, e_127_15, e_127_16, e_127_17, e_127_20, e_127_21, e_127_23, e_127_25, e_127_28, e_127_29, e_127_32, e_127_33, e_127_34, e_127_37, e_127_39, e_127_40, e_127_43, e_127_44, e_127_45, e_127_46, e_127_47, e_127_48, e_127_51, e_127_54, e_127_55, e_127_58, nl_int, nl_ref, nl_none, cat_int, cat_ref, cat_0, cat_i, cat_r, cat_l, Option.elim_some, Option.elim_none, Option.bind_some, Option.bind_none, Option.toList_some, Option.toList_none, List.cons_append, List.nil_append, Nat.reduceAdd, Nat.reduceLeDiff, ltT (x := 27) (c := 27) rfl (show j < 27 by omega) (by omega), if_true, wD_f1 hl, wD_f12 hl, wD_f13 hl, updI_s, ix27, lx, sx, nI_1]
        refine ih (j + 1) _ (by omega) ((List.length_set).trans hD) (fun k hk => ?_)
        rw [getD_set (by omega)]
        by_cases q : j = k
        · rw [if_pos q, q]
        · rw [if_neg q]; exact h0 k (by omega)
    have e := k1 27 0 (A 1) rfl (ok.1 1 (by decide)) (fun k hk => absurd hk (Nat.not_lt_zero k))
    rw [updA_self, show nI 0 = 0 from rfl] at e
    refine ⟨updI I 13 (nI u), updA A 1 C, ?_, ok2, hr9, hra, hj.2.2.2.1, hj.2.2.2.2.1, ⟨rfl, by omega, by omega, fun k hk => ?_⟩, hj.2.2.2.2.2.2⟩
    · rw [show u + 1 - 1 = u from rfl]
      simp (maxSteps := 1000000) (disch := first | exact nl_int | exact nl_ref | exact nl_none | exact Nat.le_of_ble_eq_true rfl | assumption | exact wD_cl (by assumption) | exact cat_int | exact cat_ref | exact z2 | exact z4 | exact z3 | exact z5 | exact z6 | exact z8 | exact z64) only [e_127_0, e_127_1, e_127_4, e_127_7, e_127_9, e_127_10, e_127_11, e_127_12, e_127_15, e_127_16, e_127_17, e_127_20, e_127_21, e_127_23, e_127_25, e_127_28, e_127_29, e_127_32, e_127_33, e_127_34, e_127_37, e_127_39, e_127_40, e_127_43, e_127_44, e_127_45, e_127_46, e_127_47, e_127_48, e_127_51, e_127_54, e_127_55, e_127_58, nl_int, nl_ref, nl_none, cat_int, cat_ref, cat_0, cat_i, cat_r, cat_l, Option.elim_some, Option.elim_none, Option.bind_some, Option.bind_none, Option.toList_some, Option.toList_none, List.cons_append, List.nil_append, Nat.reduceAdd, Nat.reduceLeDiff, wD_f13 hl, g1, e0, if_false, nI_pred, wD_p13 hl, e]
    · rw [show ((pn + 7) % 8 + 8 - (u + 1 - 1) + k) % 8 = (pn + 8 - (u + 1) + k) % 8 from by omega]
      exact g4 k (by omega)
theorem p_keep (hJ : JJ hp) : Pr d 72 [some (.ref 0)] 150 [some (.ref 141), none] hp := by
  obtain ⟨hl, tx, ct, nw, pm, pn, ph, km, kc, sH, sL, sc, hr, I, A, hS, hD, hj⟩ := hJ
  have ok := hj.1
  obtain ⟨g1, g2, g3⟩ := hj.2.2.2.2.2.2
  by_cases q : 2 ≤ kc
  · refine Pr_ask hl hD hj (Run.same hS (s_keep0 hS q)) (fun hp hl => Ask.same ok.1 ?_)
    have e0 : I 22 = 2 := by rw [g1, show kc = 2 from by omega]; rfl
    simp (maxSteps := 1000000) (disch := first | exact nl_int | exact nl_ref | exact nl_none | exact Nat.le_of_ble_eq_true rfl | assumption | exact wD_cl (by assumption) | exact cat_int | exact cat_ref | exact z2 | exact z4 | exact z3 | exact z5 | exact z6 | exact z8 | exact z64) only [e_150_0, e_150_1, e_150_4, e_150_5, e_150_8, e_150_10, e_150_11, e_150_12, e_150_14, e_150_16, e_150_19, e_150_20, e_150_23, e_150_25, e_150_26, e_150_29, e_150_30, e_150_31, e_150_32, e_150_33, e_150_36, e_150_37, e_150_38, e_150_39, e_150_42, e_150_45, e_150_46, e_150_47, e_150_50, e_150_51, e_150_52, e_150_55, e_150_56, e_150_59, nl_int, nl_ref, nl_none, cat_int, cat_ref, cat_0, cat_i, cat_r, cat_l, Option.elim_some, Option.elim_none, Option.bind_some, Option.bind_none, Option.toList_some, Option.toList_none, List.cons_append, List.nil_append, Nat.reduceAdd, Nat.reduceLeDiff, wD_f22 hl, if_pos e0]
  · refine Pr_act (hr2 := hr) hl hD (s_keep1 hS (by omega)) (fun hp hl => ?_)
    have e0 : (nI kc = 2) = False := eq_false (fun w => by have := (nI_eq (b := 2) (by omega) (by decide)).mp w; omega)
    have k2 : ∀ n j (U : List Int32), j + n = 27 → U.length = 54 → (∀ p, p < 54 → U.getD p 0 = if 27 * kc ≤ p ∧ p < 27 * kc + j then (A 1).getD (p - 27 * kc) 0 else (A 12).getD p 0) → ∃ U2 : List Int32, U2.length = 54 ∧ (∀ p, p < 54 → U2.getD p 0 = if 27 * kc ≤ p ∧ p < 27 * kc + 27 then (A 1).getD (p - 27 * kc) 0 else (A 12).getD p 0) ∧ am_E (d + 12) 150 13 [some (.ref 141), some (.int (nI j))] [] (wD hp I (updA A 12 U)) = some (some (.int (nI (kc + 1))), wD hp (updI I 22 (nI (kc + 1))) (updA A 12 U2)) := by
      intro n
      induction n with
      | zero =>
        intro j U hj hU hF
        obtain rfl : j = 27 := by omega
        refine ⟨U, hU, hF, ?_⟩
        rw [e_150_13]
        simp (maxSteps := 1000000) (disch := first | exact nl_int | exact nl_ref | exact nl_none | exact Nat.le_of_ble_eq_true rfl | assumption | exact wD_cl (by assumption) | exact cat_int | exact cat_ref | exact z2 | exact z4 | exact z3 | exact z5 | exact z6 | exact z8 | exact z64) only [e_150_0, e_150_1, e_150_4, e_150_5, e_150_8, e_150_10, e_150_11, e_150_12, e_150_14, e_150_16, e_150_19, e_150_20, e_150_23, e_150_25, e_150_26, e_150_29, e_150_30, e_150_31, e_150_32, e_150_33, e_150_36, e_150_37, e_150_38, e_150_39, e_150_42, e_150_45, e_150_46, e_150_47, e_150_50, e_150_51, e_150_52, e_150_55, e_150_56, e_150_59, nl_int, nl_ref, nl_none, cat_int, cat_ref, cat_0, cat_i, cat_r, cat_l, Option.elim_some, Option.elim_none, Option.bind_some, Option.bind_none, Option.toList_some, Option.toList_none, List.cons_append, List.nil_append, Nat.reduceAdd, Nat.reduceLeDiff, ltF (x := 27) (c := 27) rfl (Nat.le_refl _) (by omega), if_false, wD_f22 hl, g1, nI_1, wD_p22 hl, updI_s]
      | succ n ih =>
        intro j U hj hU hF
        have hA2 : aOK (updA A 12 U) := updA_ok ok.1 hU
        have lx : am_ld (wD hp I (updA A 12 U)) 143 (nI j) = some ((A 1).getD j 0) := by
          rw [wD_l1 (k := j) rfl hl hA2 (by omega)]
          rfl
        have sx : am_sx (wD hp I (updA A 12 U)) 154 (nI (27 * kc + j)) ((A 1).getD j 0) = some (wD hp I (updA A 12 (U.set (27 * kc + j) ((A 1).getD j 0)))) := by
          rw [wD_s12 (k := 27 * kc + j) rfl hl hA2 (by omega), updA_updA]
          rfl
        obtain ⟨U2, a1, a2, a3⟩ := ih (j + 1) (U.set (27 * kc + j) ((A 1).getD j 0)) (by omega) ((List.length_set).trans hU) (fun p hp => by
          rw [getD_set (by omega)]
          by_cases q : 27 * kc + j = p
          · rw [if_pos q, if_pos (by omega), show p - 27 * kc = j from by omega]
          · rw [if_neg q, hF p hp]
            by_cases q2 : 27 * kc ≤ p ∧ p < 27 * kc + j
            · rw [if_pos q2, if_pos (by omega)]
            · rw [if_neg q2, if_neg (by omega)])
        refine ⟨U2, a1, a2, ?_⟩
        rw [← a3, e_150_13]
        simp (maxSteps := 1000000) (disch := first | exact nl_int | exact nl_ref | exact nl_none | exact Nat.le_of_ble_eq_true rfl | assumption | exact wD_cl (by assumption) | exact cat_int | exact cat_ref | exact z2 | exact z4 | exact z3 | exact z5 | exact z6 | exact z8 | exact z64) only [e_150_0, e_150_1, e_150_4, e_150_5, e_150_8, e_150_10, e_150_11, e_150_12, e_150_14, e_150_16, e_150_19, e_150_20, e_150_23, e_150_25, e_150_26, e_150_29, e_150_30, e_150_31, e_150_32, e_150_33, e_150_36, e_150_37, e_150_38, e_150_39, e_150_42, e_150_45, e_150_46, e_150_47, e_150_50, e_150_51, e_150_52, e_150_55, e_150_56, e_150_59, nl_int, nl_ref, nl_none, cat_int, cat_ref, cat_0, cat_i, cat_r, cat_l, Option.elim_some, Option.elim_none, Option.bind_some, Option.bind_none, Option.toList_some, Option.toList_none, List.cons_append, List.nil_append, Nat.reduceAdd, Nat.reduceLeDiff, ltT (x := 27) (c := 27) rfl (show j < 27 by omega) (by omega), if_true, wD_f1 hl, wD_f21 hl, wD_f22 hl, g1, lx, ix27, sx, nI_1]
    obtain ⟨U2, b1, b2, b3⟩ := k2 27 0 (A 12) rfl (ok.1 12 (by decide)) (fun p hp => by rw [if_neg (by omega)])
    rw [updA_self, show nI 0 = 0 from rfl] at b3
    refine ⟨updI I 22 (nI (kc + 1)), updA A 12 U2, ?_, ⟨updA_ok ok.1 b1, ok.2⟩, hj.2.1, hj.2.2.1, hj.2.2.2.1, hj.2.2.2.2.1, hj.2.2.2.2.2.1, ⟨rfl, by omega, fun k hk => ?_⟩⟩
    · simp (maxSteps := 1000000) (disch := first | exact nl_int | exact nl_ref | exact nl_none | exact Nat.le_of_ble_eq_true rfl | assumption | exact wD_cl (by assumption) | exact cat_int | exact cat_ref | exact z2 | exact z4 | exact z3 | exact z5 | exact z6 | exact z8 | exact z64) only [e_150_0, e_150_1, e_150_4, e_150_5, e_150_8, e_150_10, e_150_11, e_150_12, e_150_14, e_150_16, e_150_19, e_150_20, e_150_23, e_150_25, e_150_26, e_150_29, e_150_30, e_150_31, e_150_32, e_150_33, e_150_36, e_150_37, e_150_38, e_150_39, e_150_42, e_150_45, e_150_46, e_150_47, e_150_50, e_150_51, e_150_52, e_150_55, e_150_56, e_150_59, nl_int, nl_ref, nl_none, cat_int, cat_ref, cat_0, cat_i, cat_r, cat_l, Option.elim_some, Option.elim_none, Option.bind_some, Option.bind_none, Option.toList_some, Option.toList_none, List.cons_append, List.nil_append, Nat.reduceAdd, Nat.reduceLeDiff, wD_f22 hl, g1, e0, if_false, b3]
    · show Sl ct (A 0) U2 k (updM km kc (mCopy (km kc) nw) k)
      by_cases e : k = kc
      · subst e
        rw [show updM km k (mCopy (km k) nw) k = mCopy (km k) nw from if_pos rfl]
        refine (hj.cur (fun j hj => ?_)).copy (hS.kmo (by omega))
        rw [b2 _ (by omega), if_pos (by omega), show 27 * k + j - 27 * k = j from by omega]
      · rw [show updM km kc (mCopy (km kc) nw) k = km k from if_neg e]
        refine (g3 k (by omega)).cg (fun j hj => ?_)
        rw [b2 _ (by omega), if_neg (by omega)]
theorem p_back (hJ : JJ hp) : Pr d 73 [some (.ref 0)] 151 [some (.ref 141), none] hp := by
  obtain ⟨hl, tx, ct, nw, pm, pn, ph, km, kc, sH, sL, sc, hr, I, A, hS, hD, hj⟩ := hJ
  have ok := hj.1
  obtain ⟨g1, g2, g4⟩ := hj.2.2.2.2.2.2
  by_cases q : kc = 0
  · refine Pr_ask hl hD hj (Run.same hS (s_back0 hS q)) (fun hp hl => Ask.same ok.1 ?_)
    have e0 : I 22 = 0 := by rw [g1, q]; rfl
    simp (maxSteps := 1000000) (disch := first | exact nl_int | exact nl_ref | exact nl_none | exact Nat.le_of_ble_eq_true rfl | assumption | exact wD_cl (by assumption) | exact cat_int | exact cat_ref | exact z2 | exact z4 | exact z3 | exact z5 | exact z6 | exact z8 | exact z64) only [e_151_0, e_151_1, e_151_4, e_151_7, e_151_9, e_151_10, e_151_11, e_151_12, e_151_15, e_151_16, e_151_17, e_151_20, e_151_21, e_151_23, e_151_25, e_151_28, e_151_29, e_151_32, e_151_33, e_151_34, e_151_37, e_151_39, e_151_40, e_151_43, e_151_44, e_151_45, e_151_46, e_151_47, e_151_48, e_151_51, e_151_54, e_151_55, e_151_56, e_151_59, e_151_60, e_151_63, nl_int, nl_ref, nl_none, cat_int, cat_ref, cat_0, cat_i, cat_r, cat_l, Option.elim_some, Option.elim_none, Option.bind_some, Option.bind_none, Option.toList_some, Option.toList_none, List.cons_append, List.nil_append, Nat.reduceAdd, Nat.reduceLeDiff, wD_f22 hl, if_pos e0]
  · obtain ⟨u, rfl⟩ : ∃ u, kc = u + 1 := ⟨kc - 1, by omega⟩
    have sl := g4 u (by omega)
    have e0 : (nI (u + 1) = 0) = False := eq_false (nI_ne0 (by omega) (by omega))
    obtain ⟨C, hC, hU⟩ : ∃ C : List Int32, C.length = 27 ∧ ∀ j, j < 27 → C.getD j 0 = (A 12).getD (27 * u + j) 0 := by
      obtain ⟨C, r, ra, q1, q2, _⟩ := sl
      exact ⟨C, q2, q1⟩
    obtain ⟨r, hr9, ok2, hra⟩ := sl.ok7 ok hU hC ok.2.2.2.2.1
    refine Pr_act (hr2 := r) hl hD (s_back1 hS (by omega)) (fun hp hl => ?_)
    have k1 : ∀ n j (D : List Int32), j + n = 27 → D.length = 27 → (∀ k, k < j → D.getD k 0 = C.getD k 0) → am_E (d + 12) 151 22 [some (.ref 141), some (.int (nI j))] [] (wD hp (updI I 22 (nI u)) (updA A 1 D)) = some (some (.int (nI u)), wD hp (updI (updI I 22 (nI u)) 13 0) (updA A 1 C)) := by
      intro n
      induction n with
      | zero =>
        intro j D hj hD h0
        have : D = C := list8 27 hD hC (fun k hk => h0 k (by omega))
        have e22 : updI (updI I 22 (nI u)) 13 0 22 = nI u := rfl
        rw [this, e_151_22]
        simp (maxSteps := 1000000) (disch := first | exact nl_int | exact nl_ref | exact nl_none | exact Nat.le_of_ble_eq_true rfl | assumption | exact wD_cl (by assumption) | exact cat_int | exact cat_ref | exact z2 | exact z4 | exact z3 | exact z5 | exact z6 | exact z8 | exact z64) only [e_151_0, e_151_1, e_151_4, e_151_7, e_151_9, e_151_10, e_151_11, e_151_12, e_151_15, e_151_16, e_151_17, e_151_20, e_151_21, e_151_23, e_151_25, e_151_28, e_151_29, e_151_32, e_151_33, e_151_34, e_151_37, e_151_39, e_151_40, e_151_43, e_151_44, e_151_45, e_151_46, e_151_47, e_151_48, e_151_51, e_151_54, e_151_55, e_151_56, e_151_59, e_151_60, e_151_63, nl_int, nl_ref, nl_none, cat_int, cat_ref, cat_0, cat_i, cat_r, cat_l, Option.elim_some, Option.elim_none, Option.bind_some, Option.bind_none, Option.toList_some, Option.toList_none, List.cons_append, List.nil_append, Nat.reduceAdd, Nat.reduceLeDiff, ltF (x := 27) (c := 27) rfl (show 27 ≤ j by omega) (by omega), if_false, wD_f22 hl, wD_p13 hl, e22]
      | succ n ih =>
        intro j D hj hD h0
        have hA2 : aOK (updA A 1 D) := updA_ok ok.1 hD
        have lx : am_ld (wD hp (updI I 22 (nI u)) (updA A 1 D)) 154 (nI (27 * u + j)) = some (C.getD j 0) := by
          rw [wD_l12 (k := 27 * u + j) rfl hl hA2 (by omega), hU j (by omega)]
          rfl
        have sx : am_sx (wD hp (updI I 22 (nI u)) (updA A 1 D)) 143 (nI j) (C.getD j 0) = some (wD hp (updI I 22 (nI u)) (updA A 1 (D.set j (C.getD j 0)))) := by
          rw [wD_s1 (k := j) rfl hl hA2 (by omega), updA_updA]
          rfl
        rw [e_151_22]
        simp (maxSteps := 1000000) (disch := first | exact nl_int | exact nl_ref | exact nl_none | exact Nat.le_of_ble_eq_true rfl | assumption | exact wD_cl (by assumption) | exact cat_int | exact cat_ref | exact z2 | exact z4 | exact z3 | exact z5 | exact z6 | exact z8 | exact z64) only [e_151_0, e_151_1, e_151_4, e_151_7, e_151_9, e_151_10, e_151_11, e_151_12, e_151_15, e_151_16, e_151_17, e_151_20, e_151_21, e_151_23, e_151_25, e_151_28, e_151_29, e_151_32, e_151_33, e_151_34, e_151_37, e_151_39, e_151_40, e_151_43, e_151_44, e_151_45, e_151_46, e_151_47, e_151_48, e_151_51, e_151_54, e_151_55, e_151_56, e_151_59, e_151_60, e_151_63, nl_int, nl_ref, nl_none, cat_int, cat_ref, cat_0, cat_i, cat_r, cat_l, Option.elim_some, Option.elim_none, Option.bind_some, Option.bind_none, Option.toList_some, Option.toList_none, List.cons_append, List.nil_append, Nat.reduceAdd, Nat.reduceLeDiff, ltT (x := 27) (c := 27) rfl (show j < 27 by omega) (by omega), if_true, wD_f1 hl, wD_f21 hl, wD_f22 hl, updI_s, ix27, lx, sx, nI_1]
        refine ih (j + 1) _ (by omega) ((List.length_set).trans hD) (fun k hk => ?_)
        rw [getD_set (by omega)]
        by_cases q : j = k
        · rw [if_pos q, q]
        · rw [if_neg q]; exact h0 k (by omega)
    have e := k1 27 0 (A 1) rfl (ok.1 1 (by decide)) (fun k hk => absurd hk (Nat.not_lt_zero k))
    rw [updA_self, show nI 0 = 0 from rfl] at e
    refine ⟨updI (updI I 22 (nI u)) 13 0, updA A 1 C, ?_, ok2, hr9, hra, hj.2.2.2.1, hj.2.2.2.2.1, ⟨rfl, by omega, hj.2.2.2.2.2.1.2.2.1, fun k hk => absurd hk (Nat.not_lt_zero k)⟩, ⟨rfl, by omega, fun k hk => g4 k (by omega)⟩⟩
    rw [show u + 1 - 1 = u from rfl]
    simp (maxSteps := 1000000) (disch := first | exact nl_int | exact nl_ref | exact nl_none | exact Nat.le_of_ble_eq_true rfl | assumption | exact wD_cl (by assumption) | exact cat_int | exact cat_ref | exact z2 | exact z4 | exact z3 | exact z5 | exact z6 | exact z8 | exact z64) only [e_151_0, e_151_1, e_151_4, e_151_7, e_151_9, e_151_10, e_151_11, e_151_12, e_151_15, e_151_16, e_151_17, e_151_20, e_151_21, e_151_23, e_151_25, e_151_28, e_151_29, e_151_32, e_151_33, e_151_34, e_151_37, e_151_39, e_151_40, e_151_43, e_151_44, e_151_45, e_151_46, e_151_47, e_151_48, e_151_51, e_151_54, e_151_55, e_151_56, e_151_59, e_151_60, e_151_63, nl_int, nl_ref, nl_none, cat_int, cat_ref, cat_0, cat_i, cat_r, cat_l, Option.elim_some, Option.elim_none, Option.bind_some, Option.bind_none, Option.toList_some, Option.toList_none, List.cons_append, List.nil_append, Nat.reduceAdd, Nat.reduceLeDiff, wD_f22 hl, g1, e0, if_false, nI_pred, wD_p22 hl, e]
theorem p_forget (hJ : JJ hp) : Pr d 66 [some (.ref 0), none] 143 [some (.ref 141), none] hp := by
  obtain ⟨hl, tx, ct, nw, pm, pn, ph, km, kc, sH, sL, sc, hr, I, A, hS, hD, hj⟩ := hJ
  have ok := hj.1
  refine Pr_act (hr2 := hr) hl hD (s_forget hS) (fun hp hl => ?_)
  refine ⟨updI I 20 0, A, ?_, ok, hj.2.1, hj.2.2.1, hj.2.2.2.1, ⟨rfl, by omega, fun k hk => absurd hk (Nat.not_lt_zero k)⟩, hj.2.2.2.2.2.1, hj.2.2.2.2.2.2⟩
  simp (maxSteps := 1000000) (disch := first | exact nl_int | exact nl_ref | exact nl_none | exact Nat.le_of_ble_eq_true rfl | assumption | exact wD_cl (by assumption) | exact cat_int | exact cat_ref | exact z2 | exact z4 | exact z3 | exact z5 | exact z6 | exact z8 | exact z64) only [e_143_0, e_143_1, e_143_4, e_143_5, e_143_6, e_143_7, e_143_10, e_143_11, nl_int, nl_ref, nl_none, cat_int, cat_ref, cat_0, cat_i, cat_r, cat_l, Option.elim_some, Option.elim_none, Option.bind_some, Option.bind_none, Option.toList_some, Option.toList_none, List.cons_append, List.nil_append, Nat.reduceAdd, Nat.reduceLeDiff, wD_f20 hl, hj.2.2.2.2.1.1, wD_p20 hl]
theorem p_seen (hJ : JJ hp) : Pr d 65 [some (.ref 0), some (.int x), some (.int y)] 142 [some (.ref 141), some (.int x), some (.int y)] hp := by
  obtain ⟨hl, tx, ct, nw, pm, pn, ph, km, kc, sH, sL, sc, hr, I, A, hS, hD, hj⟩ := hJ
  have ok := hj.1
  have h5 := ok.h5
  obtain ⟨g1, g2, g3⟩ := hj.2.2.2.2.1
  have hs8 : sH.length = 8 ∧ sL.length = 8 := by
    obtain ⟨cB, dr, lt, hs, tm, tk, sp, h⟩ := hS
    exact ⟨h.qs.1.2, h.qs.2.2⟩
  cases q : inR x (cHs ct) with
  | false =>
    refine Pr_ask hl hD hj (Run.same hS (s_seen0 hS (Or.inl q))) (fun hp hl => Ask.same ok.1 ?_)
    simp (maxSteps := 1000000) (disch := first | exact nl_int | exact nl_ref | exact nl_none | exact Nat.le_of_ble_eq_true rfl | assumption | exact wD_cl (by assumption) | exact cat_int | exact cat_ref | exact z2 | exact z4 | exact z3 | exact z5 | exact z6 | exact z8 | exact z64) only [e_142_0, e_142_1, e_142_2, e_142_5, e_142_8, e_142_9, e_142_10, e_142_11, e_142_14, e_142_17, e_142_20, e_142_21, e_142_22, e_142_23, e_142_26, e_142_28, e_142_31, e_142_33, e_142_34, e_142_35, e_142_38, e_142_39, e_142_42, e_142_43, e_142_44, e_142_45, e_142_48, e_142_49, e_142_52, e_142_53, e_142_54, e_142_55, e_142_56, e_142_59, e_142_60, e_142_61, e_142_64, e_142_65, e_142_68, nl_int, nl_ref, nl_none, cat_int, cat_ref, cat_0, cat_i, cat_r, cat_l, Option.elim_some, Option.elim_none, Option.bind_some, Option.bind_none, Option.toList_some, Option.toList_none, List.cons_append, List.nil_append, Nat.reduceAdd, Nat.reduceLeDiff, s7_ih0 (d := d + 10) hl ok q, z0, if_true]
  | true =>
    obtain ⟨g, hg, rfl⟩ := inR_t q (by omega)
    by_cases q1 : y < 0 ∨ 60 < y
    · refine Pr_ask hl hD hj (Run.same hS (s_seen0 hS (Or.inr q1))) (fun hp hl => Ask.same ok.1 ?_)
      simp (maxSteps := 1000000) (disch := first | exact nl_int | exact nl_ref | exact nl_none | exact Nat.le_of_ble_eq_true rfl | assumption | exact wD_cl (by assumption) | exact cat_int | exact cat_ref | exact z2 | exact z4 | exact z3 | exact z5 | exact z6 | exact z8 | exact z64) only [e_142_0, e_142_1, e_142_2, e_142_5, e_142_8, e_142_9, e_142_10, e_142_11, e_142_14, e_142_17, e_142_20, e_142_21, e_142_22, e_142_23, e_142_26, e_142_28, e_142_31, e_142_33, e_142_34, e_142_35, e_142_38, e_142_39, e_142_42, e_142_43, e_142_44, e_142_45, e_142_48, e_142_49, e_142_52, e_142_53, e_142_54, e_142_55, e_142_56, e_142_59, e_142_60, e_142_61, e_142_64, e_142_65, e_142_68, nl_int, nl_ref, nl_none, cat_int, cat_ref, cat_0, cat_i, cat_r, cat_l, Option.elim_some, Option.elim_none, Option.bind_some, Option.bind_none, Option.toList_some, Option.toList_none, List.cons_append, List.nil_append, Nat.reduceAdd, Nat.reduceLeDiff, s7_ih1 (d := d + 10) hl ok hg, z1, if_false, s7_in0 (d := d + 11) (lo := 0) (hi := 60) (a := 0) (c := 60) q1 (by decide) (by decide), z0, if_true]
    · have w1 : ¬ y < 0 := fun w => q1 (Or.inl w)
      have w2 : ¬ 60 < y := fun w => q1 (Or.inr w)
      have ein : ∀ hp : am_H, am_E (d + 11) 89 0 [some (.long y.toInt64), none, some (.long 0), none, some (.long 60), none] [] hp = some (some (.int 1), hp) := fun hp => s7_in1 (lo := 0) (hi := 60) w1 w2 (by decide) (by decide)
      by_cases q3 : 8 ≤ sc
      · refine Pr_ask hl hD hj (Run.same hS (s_seen1 hS q w1 w2 q3)) (fun hp hl => Ask.same ok.1 ?_)
        have e0 : I 20 = 8 := by rw [g1, show sc = 8 from by omega]; rfl
        simp (maxSteps := 1000000) (disch := first | exact nl_int | exact nl_ref | exact nl_none | exact Nat.le_of_ble_eq_true rfl | assumption | exact wD_cl (by assumption) | exact cat_int | exact cat_ref | exact z2 | exact z4 | exact z3 | exact z5 | exact z6 | exact z8 | exact z64) only [e_142_0, e_142_1, e_142_2, e_142_5, e_142_8, e_142_9, e_142_10, e_142_11, e_142_14, e_142_17, e_142_20, e_142_21, e_142_22, e_142_23, e_142_26, e_142_28, e_142_31, e_142_33, e_142_34, e_142_35, e_142_38, e_142_39, e_142_42, e_142_43, e_142_44, e_142_45, e_142_48, e_142_49, e_142_52, e_142_53, e_142_54, e_142_55, e_142_56, e_142_59, e_142_60, e_142_61, e_142_64, e_142_65, e_142_68, nl_int, nl_ref, nl_none, cat_int, cat_ref, cat_0, cat_i, cat_r, cat_l, Option.elim_some, Option.elim_none, Option.bind_some, Option.bind_none, Option.toList_some, Option.toList_none, List.cons_append, List.nil_append, Nat.reduceAdd, Nat.reduceLeDiff, s7_ih1 (d := d + 10) hl ok hg, z1, if_false, ein, wD_f20 hl, if_pos e0]
      · refine Pr_act (hr2 := hr) hl hD (s_seen2 hS q w1 w2 (by omega)) (fun hp hl => ?_)
        have e0 : (nI sc = 8) = False := eq_false (fun w => by have := (nI_eq (b := 8) (by omega) (by decide)).mp w; omega)
        have x1 : ((A 10).set sc (nI g)).length = 8 := (List.length_set).trans (ok.1 10 (by decide))
        have x2 : ((A 11).set sc y).length = 8 := (List.length_set).trans (ok.1 11 (by decide))
        have hA1 : aOK (updA A 10 ((A 10).set sc (nI g))) := updA_ok ok.1 x1
        have s1 := wD_s10 (I := I) (y := nI g) (k := sc) rfl hl ok.1 (by omega)
        have s2 : am_sx (wD hp I (updA A 10 ((A 10).set sc (nI g)))) 153 (nI sc) y = some (wD hp I (updA (updA A 10 ((A 10).set sc (nI g))) 11 ((A 11).set sc y))) := by
          rw [wD_s11 (k := sc) rfl hl hA1 (by omega)]
          rfl
        refine ⟨updI I 20 (nI (sc + 1)), updA (updA A 10 ((A 10).set sc (nI g))) 11 ((A 11).set sc y), ?_, ⟨updA_ok hA1 x2, ok.2⟩, hj.2.1, hj.2.2.1, hj.2.2.2.1, ⟨rfl, by omega, fun k hk => ?_⟩, hj.2.2.2.2.2.1, hj.2.2.2.2.2.2⟩
        · simp (maxSteps := 1000000) (disch := first | exact nl_int | exact nl_ref | exact nl_none | exact Nat.le_of_ble_eq_true rfl | assumption | exact wD_cl (by assumption) | exact cat_int | exact cat_ref | exact z2 | exact z4 | exact z3 | exact z5 | exact z6 | exact z8 | exact z64) only [e_142_0, e_142_1, e_142_2, e_142_5, e_142_8, e_142_9, e_142_10, e_142_11, e_142_14, e_142_17, e_142_20, e_142_21, e_142_22, e_142_23, e_142_26, e_142_28, e_142_31, e_142_33, e_142_34, e_142_35, e_142_38, e_142_39, e_142_42, e_142_43, e_142_44, e_142_45, e_142_48, e_142_49, e_142_52, e_142_53, e_142_54, e_142_55, e_142_56, e_142_59, e_142_60, e_142_61, e_142_64, e_142_65, e_142_68, nl_int, nl_ref, nl_none, cat_int, cat_ref, cat_0, cat_i, cat_r, cat_l, Option.elim_some, Option.elim_none, Option.bind_some, Option.bind_none, Option.toList_some, Option.toList_none, List.cons_append, List.nil_append, Nat.reduceAdd, Nat.reduceLeDiff, s7_ih1 (d := d + 10) hl ok hg, z1, if_false, ein, wD_f18 hl, wD_f19 hl, wD_f20 hl, g1, e0, s1, s2, nI_1, wD_p20 hl, updI_s]
        · show ((A 10).set sc (nI g)).getD k 0 = (sH.set sc (nI g)).getD k 0 ∧ ((A 11).set sc y).getD k 0 = (sL.set sc y).getD k 0 ∧ ∃ h, h < 5 ∧ (sH.set sc (nI g)).getD k 0 = nI h
          have l1 : (A 10).length = 8 := ok.1 10 (by decide)
          have l2 : (A 11).length = 8 := ok.1 11 (by decide)
          rw [getD_set (by omega), getD_set (by omega), getD_set (by omega), getD_set (by omega)]
          by_cases e : sc = k
          · rw [if_pos e, if_pos e, if_pos e, if_pos e]; exact ⟨rfl, rfl, g, by omega, rfl⟩
          · rw [if_neg e, if_neg e, if_neg e, if_neg e]; exact g3 k (by omega)
theorem p_wipe (hJ : JJ hp) : Pr d 47 [some (.ref 0), none] 100 [some (.ref 141), none] hp := by
  obtain ⟨hl, tx, ct, nw, pm, pn, ph, km, kc, sH, sL, sc, hr, I, A, hS, hD, hj⟩ := hJ
  refine Pr_act (hr2 := hr) hl hD (s_wipe hS) (fun hp hl => ?_)
  refine ⟨updI I 3 0, A, ?_, hj.1, hj.2.1, hj.2.2.1, ⟨rfl, Nat.zero_le _, fun k hk => absurd hk (Nat.not_lt_zero k)⟩, hj.2.2.2.2⟩
  rw [s7_wipe hl, hj.2.2.2.1.1]
theorem p_write (hJ : JJ hp) : Pr d 46 [some (.ref 0), some (.int x)] 99 [some (.ref 141), some (.int x)] hp := by
  obtain ⟨hl, tx, ct, nw, pm, pn, ph, km, kc, sH, sL, sc, hr, I, A, hS, hD, hj⟩ := hJ
  have ok := hj.1
  obtain ⟨g1, g2, g3⟩ := hj.2.2.2.1
  have tl : tx.1.length = 200 := by
    obtain ⟨cB, dr, lt, hs, tm, tk, sp, h⟩ := hS
    exact h.qx.2.2.2.1
  have s6 := s_write (d := d) (x := x) hS
  unfold aWrite nWrite at s6
  by_cases q1 : x < 32
  · rw [if_pos q1, if_pos q1] at s6
    exact Pr_ask hl hD hj s6 (fun hp hl => Ask.same ok.1 (s7_write0 hl (Or.inl q1)))
  · rw [if_neg q1, if_neg q1] at s6
    by_cases q2 : 126 < x
    · rw [if_pos q2, if_pos q2] at s6
      exact Pr_ask hl hD hj s6 (fun hp hl => Ask.same ok.1 (s7_write0 hl (Or.inr q2)))
    · rw [if_neg q2, if_neg q2] at s6
      by_cases q3 : tLn tx < 200
      · rw [if_pos q3, if_pos q3] at s6
        refine Pr_act (hr2 := hr) hl hD s6 (fun hp hl => ?_)
        have e2 := s7_write2 (d := d) hl ok.1 q1 q2 g1 q3
        have l2 : (A 2).length = 200 := ok.1 2 (by decide)
        refine ⟨_, _, e2, ⟨updA_ok ok.1 ((List.length_set).trans l2), ok.2⟩, hj.2.1, hj.2.2.1, ⟨rfl, show tLn tx + 1 ≤ 200 by omega, fun k hk => ?_⟩, hj.2.2.2.2⟩
        have hk2 : k < tLn tx + 1 := hk
        show ((A 2).set (tLn tx) x).getD k 0 = nI ((tx.1.set (tLn tx) x.toNatClampNeg).getD k 0)
        rw [getD_set (by omega), getD_setN]
        by_cases e : tLn tx = k
        · rw [if_pos e, if_pos ⟨e, by omega⟩]
          obtain ⟨c, hc, rfl⟩ := nI_of (fun w => q1 (Int32.lt_trans w (by decide)))
          rw [nI_clamp hc]
        · rw [if_neg e, if_neg (fun w => e w.1)]
          exact g3 k (by omega)
      · rw [if_neg q3, if_neg q3] at s6
        exact Pr_ask hl hD hj s6 (fun hp hl => Ask.same ok.1 (s7_write1 hl q1 q2 (by rw [g1, show tLn tx = 200 from by omega])))
end MDI
