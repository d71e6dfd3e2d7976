/-! PAIRS: fault, lay -/
section RDE
variable {d : Nat} {hp hp2 : am_H} {I I2 : Nat → Int32} {A A2 : Nat → List Int32} {i j k n b p a e lo hi : Nat} {x y z v w X Y Z : Int32} {B C : List Int32} {t : am_Tx} {c : am_Ci}
theorem Rj.rfl' : Rj I I := fun _ _ _ _ => rfl
theorem S34.trans {A3 : Nat → List Int32} (h : S34 A A2) (g : S34 A2 A3) : S34 A A3 := fun k a b => (g k a b).trans (h k a b)
theorem s7_flt (hl : 154 < hp.length) : ∀ n t c I A l1, Rd t c I A → tLn t - tAt t ≤ n → ∃ I2 A2, aOK A2 ∧ S34 A A2 ∧ Rj I I2 ∧ am_E (d + 5) 107 60 [some (.ref 141), l1] [] (wD hp I A) = some (some (.int (tRead n t c).1), wD hp I2 A2) ∧ ((tRead n t c).1 = -4 → Rd (tRead n t c).2.1 (tRead n t c).2.2 I2 A2) := by
  intro n
  induction n with
  | zero =>
    intro t c I A l1 hR hn
    have hT := hR.2.1
    have t2 := hT.2.1
    have a9 : tAt t < 1000 := hR.2.2.2.1.2.2.2.1
    refine ⟨I, A, hR.1, S34.rfl', Rj.rfl', ?_, fun _ => hR⟩
    rw [e_107_60, tRead]
    simp (maxSteps := 1000000) (disch := first | exact nl_int | exact nl_ref | exact nl_none | exact Nat.le_of_ble_eq_true rfl | assumption | exact wD_cl (by assumption) | exact cat_int | exact cat_ref | exact z2 | exact z4 | exact z3 | exact z5 | exact z6 | exact z8 | exact z64) only [e_107_0, e_107_1, e_107_3, e_107_5, e_107_8, e_107_9, e_107_12, e_107_13, e_107_14, e_107_17, e_107_18, e_107_21, e_107_22, e_107_23, e_107_26, e_107_29, e_107_30, e_107_32, e_107_34, e_107_37, e_107_38, e_107_41, e_107_42, e_107_43, e_107_44, e_107_47, e_107_50, e_107_51, e_107_52, e_107_55, e_107_56, e_107_57, e_107_61, e_107_64, e_107_65, e_107_68, e_107_71, e_107_72, e_107_75, e_107_76, e_107_77, e_107_80, e_107_83, e_107_84, e_107_85, e_107_88, e_107_90, nl_int, nl_ref, nl_none, cat_int, cat_ref, cat_0, cat_i, cat_r, cat_l, Option.elim_some, Option.elim_none, Option.bind_some, Option.bind_none, Option.toList_some, Option.toList_none, List.cons_append, List.nil_append, Nat.reduceAdd, Nat.reduceLeDiff, wD_f3 hl, wD_f4 hl, hT.1, hR.2.2.1, ltF (x := nI (tLn t)) (c := tLn t) rfl (show tLn t ≤ tAt t by omega) (by omega), if_false]
  | succ n ih =>
    intro t c I A l1 hR hn
    have hT := hR.2.1
    have t2 := hT.2.1
    have a9 : tAt t < 1000 := hR.2.2.2.1.2.2.2.1
    rw [tRead]
    by_cases q : tAt t < tLn t
    · rw [if_pos q]
      have lt' := ltT (x := nI (tLn t)) (c := tLn t) rfl q (by omega)
      have tok := tItem_ok (c := c) hR.2.2.2.1 hR.2.2.2.2.1 q
      rcases s7_item (d := d) hl hR q with ⟨i1, I2, A2, e, s, r, hR2⟩ | ⟨i0, I2, A2, a2, s, r, e⟩
      · rw [if_neg (by rw [i1]; decide)]
        obtain ⟨I3, A3, a3, s3, r3, e3, f3⟩ := ih _ _ I2 A2 (some (.int (nI (tAt t)))) hR2 (by omega)
        refine ⟨I3, A3, a3, s.trans s3, r.trans r3, ?_, f3⟩
        rw [← e3, e_107_60]
        simp (maxSteps := 1000000) (disch := first | exact nl_int | exact nl_ref | exact nl_none | exact Nat.le_of_ble_eq_true rfl | assumption | exact wD_cl (by assumption) | exact cat_int | exact cat_ref | exact z2 | exact z4 | exact z3 | exact z5 | exact z6 | exact z8 | exact z64) only [e_107_0, e_107_1, e_107_3, e_107_5, e_107_8, e_107_9, e_107_12, e_107_13, e_107_14, e_107_17, e_107_18, e_107_21, e_107_22, e_107_23, e_107_26, e_107_29, e_107_30, e_107_32, e_107_34, e_107_37, e_107_38, e_107_41, e_107_42, e_107_43, e_107_44, e_107_47, e_107_50, e_107_51, e_107_52, e_107_55, e_107_56, e_107_57, e_107_61, e_107_64, e_107_65, e_107_68, e_107_71, e_107_72, e_107_75, e_107_76, e_107_77, e_107_80, e_107_83, e_107_84, e_107_85, e_107_88, e_107_90, nl_int, nl_ref, nl_none, cat_int, cat_ref, cat_0, cat_i, cat_r, cat_l, Option.elim_some, Option.elim_none, Option.bind_some, Option.bind_none, Option.toList_some, Option.toList_none, List.cons_append, List.nil_append, Nat.reduceAdd, Nat.reduceLeDiff, wD_f3 hl, wD_f4 hl, hT.1, hR.2.2.1, lt', if_true, e, z1, if_false]
      · rw [if_pos i0]
        refine ⟨I2, A2, a2, s, r, ?_, fun w => absurd (show nI (tAt t) = -4 from w) (fun w => nI_pos (show tAt t < 2 ^ 31 by omega) (by rw [w]; decide))⟩
        rw [e_107_60]
        simp (maxSteps := 1000000) (disch := first | exact nl_int | exact nl_ref | exact nl_none | exact Nat.le_of_ble_eq_true rfl | assumption | exact wD_cl (by assumption) | exact cat_int | exact cat_ref | exact z2 | exact z4 | exact z3 | exact z5 | exact z6 | exact z8 | exact z64) only [e_107_0, e_107_1, e_107_3, e_107_5, e_107_8, e_107_9, e_107_12, e_107_13, e_107_14, e_107_17, e_107_18, e_107_21, e_107_22, e_107_23, e_107_26, e_107_29, e_107_30, e_107_32, e_107_34, e_107_37, e_107_38, e_107_41, e_107_42, e_107_43, e_107_44, e_107_47, e_107_50, e_107_51, e_107_52, e_107_55, e_107_56, e_107_57, e_107_61, e_107_64, e_107_65, e_107_68, e_107_71, e_107_72, e_107_75, e_107_76, e_107_77, e_107_80, e_107_83, e_107_84, e_107_85, e_107_88, e_107_90, nl_int, nl_ref, nl_none, cat_int, cat_ref, cat_0, cat_i, cat_r, cat_l, Option.elim_some, Option.elim_none, Option.bind_some, Option.bind_none, Option.toList_some, Option.toList_none, List.cons_append, List.nil_append, Nat.reduceAdd, Nat.reduceLeDiff, wD_f3 hl, wD_f4 hl, hT.1, hR.2.2.1, lt', if_true, e, z0]
    · rw [if_neg q]
      refine ⟨I, A, hR.1, S34.rfl', Rj.rfl', ?_, fun _ => hR⟩
      rw [e_107_60]
      simp (maxSteps := 1000000) (disch := first | exact nl_int | exact nl_ref | exact nl_none | exact Nat.le_of_ble_eq_true rfl | assumption | exact wD_cl (by assumption) | exact cat_int | exact cat_ref | exact z2 | exact z4 | exact z3 | exact z5 | exact z6 | exact z8 | exact z64) only [e_107_0, e_107_1, e_107_3, e_107_5, e_107_8, e_107_9, e_107_12, e_107_13, e_107_14, e_107_17, e_107_18, e_107_21, e_107_22, e_107_23, e_107_26, e_107_29, e_107_30, e_107_32, e_107_34, e_107_37, e_107_38, e_107_41, e_107_42, e_107_43, e_107_44, e_107_47, e_107_50, e_107_51, e_107_52, e_107_55, e_107_56, e_107_57, e_107_61, e_107_64, e_107_65, e_107_68, e_107_71, e_107_72, e_107_75, e_107_76, e_107_77, e_107_80, e_107_83, e_107_84, e_107_85, e_107_88, e_107_90, nl_int, nl_ref, nl_none, cat_int, cat_ref, cat_0, cat_i, cat_r, cat_l, Option.elim_some, Option.elim_none, Option.bind_some, Option.bind_none, Option.toList_some, Option.toList_none, List.cons_append, List.nil_append, Nat.reduceAdd, Nat.reduceLeDiff, wD_f3 hl, wD_f4 hl, hT.1, hR.2.2.1, ltF (x := nI (tLn t)) (c := tLn t) rfl (show tLn t ≤ tAt t by omega) (by omega), if_false]
theorem s7_fault (hl : 154 < hp.length) (hA : aOK A) (hT : TxR t I A) (ht : tOK t) (hc : cOK c) : ∃ I2 A2, aOK A2 ∧ S34 A A2 ∧ Rj I I2 ∧ am_E (d + 5) 107 0 [some (.ref 141), none] [] (wD hp I A) = some (some (.int (tRead 200 (tSetAt t 0) (cClear c)).1), wD hp I2 A2) ∧ ((tRead 200 (tSetAt t 0) (cClear c)).1 = -4 → Rd (tRead 200 (tSetAt t 0) (cClear c)).2.1 (tRead 200 (tSetAt t 0) (cClear c)).2.2 I2 A2) := by
  have k1 : ∀ n j (D : List Int32), j + n = 29 → D.length = 29 → (∀ k, k < j → D.getD k 0 = if k = 0 then 4 else 0) → ∃ D2 : List Int32, D2.length = 29 ∧ (∀ k, k < 29 → D2.getD k 0 = if k = 0 then 4 else 0) ∧ am_E (d + 5) 107 2 [some (.ref 141), some (.int (nI j))] [] (wD hp I (updA A 3 D)) = am_E (d + 5) 107 29 [some (.ref 141), some (.int (nI 29))] [] (wD hp I (updA A 3 D2)) := by
    intro n
    induction n with
    | zero =>
      intro j D hj hD h0
      obtain rfl : j = 29 := by omega
      refine ⟨D, hD, h0, ?_⟩
      rw [e_107_2]
      simp (maxSteps := 1000000) (disch := first | exact nl_int | exact nl_ref | exact nl_none | exact Nat.le_of_ble_eq_true rfl | assumption | exact wD_cl (by assumption) | exact cat_int | exact cat_ref | exact z2 | exact z4 | exact z3 | exact z5 | exact z6 | exact z8 | exact z64) only [e_107_0, e_107_1, e_107_3, e_107_5, e_107_8, e_107_9, e_107_12, e_107_13, e_107_14, e_107_17, e_107_18, e_107_21, e_107_22, e_107_23, e_107_26, e_107_30, e_107_32, e_107_34, e_107_37, e_107_38, e_107_41, e_107_42, e_107_43, e_107_44, e_107_47, e_107_50, e_107_51, e_107_52, e_107_55, e_107_56, e_107_57, e_107_61, e_107_64, e_107_65, e_107_68, e_107_71, e_107_72, e_107_75, e_107_76, e_107_77, e_107_80, e_107_83, e_107_84, e_107_85, e_107_88, e_107_90, nl_int, nl_ref, nl_none, cat_int, cat_ref, cat_0, cat_i, cat_r, cat_l, Option.elim_some, Option.elim_none, Option.bind_some, Option.bind_none, Option.toList_some, Option.toList_none, List.cons_append, List.nil_append, Nat.reduceAdd, Nat.reduceLeDiff, ltF (x := 29) (c := 29) rfl (Nat.le_refl _) (by decide), if_false]
    | succ n ih =>
      intro j D hj hD h0
      have sx : ∀ z, am_sx (wD hp I (updA A 3 D)) 145 (nI j) z = some (wD hp I (updA A 3 (D.set j z))) := fun z => by
        rw [wD_s3 (k := j) rfl hl (updA_ok hA hD) (by omega), updA_updA]
        rfl
      obtain ⟨D2, a1, a2, a3⟩ := ih (j + 1) (D.set j (if j = 0 then 4 else 0)) (by omega) ((List.length_set).trans hD) (fun k hk => by
        rw [getD_set (by omega)]
        by_cases q : j = k
        · rw [if_pos q, q]
        · rw [if_neg q]; exact h0 k (by omega))
      refine ⟨D2, a1, a2, ?_⟩
      rw [← a3, e_107_2]
      by_cases q : j = 0
      · have q1 : nI j = 0 := by rw [q]; rfl
        rw [if_pos q]
        simp (maxSteps := 1000000) (disch := first | exact nl_int | exact nl_ref | exact nl_none | exact Nat.le_of_ble_eq_true rfl | assumption | exact wD_cl (by assumption) | exact cat_int | exact cat_ref | exact z2 | exact z4 | exact z3 | exact z5 | exact z6 | exact z8 | exact z64) only [e_107_0, e_107_1, e_107_3, e_107_5, e_107_8, e_107_9, e_107_12, e_107_13, e_107_14, e_107_17, e_107_18, e_107_21, e_107_22, e_107_23, e_107_26, e_107_30, e_107_32, e_107_34, e_107_37, e_107_38, e_107_41, e_107_42, e_107_43, e_107_44, e_107_47, e_107_50, e_107_51, e_107_52, e_107_55, e_107_56, e_107_57, e_107_61, e_107_64, e_107_65, e_107_68, e_107_71, e_107_72, e_107_75, e_107_76, e_107_77, e_107_80, e_107_83, e_107_84, e_107_85, e_107_88, e_107_90, nl_int, nl_ref, nl_none, cat_int, cat_ref, cat_0, cat_i, cat_r, cat_l, Option.elim_some, Option.elim_none, Option.bind_some, Option.bind_none, Option.toList_some, Option.toList_none, List.cons_append, List.nil_append, Nat.reduceAdd, Nat.reduceLeDiff, ltT (x := 29) (c := 29) rfl (show j < 29 by omega) (by decide), if_true, wD_f5 hl, if_pos q1, sx, nI_1]
      · have q1 : ¬ nI j = 0 := nI_ne0 (by omega) (by omega)
        rw [if_neg q]
        simp (maxSteps := 1000000) (disch := first | exact nl_int | exact nl_ref | exact nl_none | exact Nat.le_of_ble_eq_true rfl | assumption | exact wD_cl (by assumption) | exact cat_int | exact cat_ref | exact z2 | exact z4 | exact z3 | exact z5 | exact z6 | exact z8 | exact z64) only [e_107_0, e_107_1, e_107_3, e_107_5, e_107_8, e_107_9, e_107_12, e_107_13, e_107_14, e_107_17, e_107_18, e_107_21, e_107_22, e_107_23, e_107_26, e_107_30, e_107_32, e_107_34, e_107_37, e_107_38, e_107_41, e_107_42, e_107_43, e_107_44, e_107_47, e_107_50, e_107_51, e_107_52, e_107_55, e_107_56, e_107_57, e_107_61, e_107_64, e_107_65, e_107_68, e_107_71, e_107_72, e_107_75, e_107_76, e_107_77, e_107_80, e_107_83, e_107_84, e_107_85, e_107_88, e_107_90, nl_int, nl_ref, nl_none, cat_int, cat_ref, cat_0, cat_i, cat_r, cat_l, Option.elim_some, Option.elim_none, Option.bind_some, Option.bind_none, Option.toList_some, Option.toList_none, List.cons_append, List.nil_append, Nat.reduceAdd, Nat.reduceLeDiff, ltT (x := 29) (c := 29) rfl (show j < 29 by omega) (by decide), if_true, wD_f5 hl, if_neg q1, sx, nI_1]
  obtain ⟨D2, a1, a2, a3⟩ := k1 29 0 (A 3) rfl (hA 3 (by decide)) (fun k hk => absurd hk (Nat.not_lt_zero k))
  rw [updA_self, show nI 0 = 0 from rfl] at a3
  have hA2 : aOK (updA A 3 D2) := updA_ok hA a1
  have k2 : ∀ n j (D : List Int32), j + n = 27 → D.length = 27 → (∀ k, k < j → D.getD k 0 = 0) → ∃ D3 : List Int32, D3.length = 27 ∧ (∀ k, k < 27 → D3.getD k 0 = 0) ∧ am_E (d + 5) 107 31 [some (.ref 141), some (.int (nI j))] [] (wD hp I (updA (updA A 3 D2) 4 D)) = am_E (d + 5) 107 50 [some (.ref 141), some (.int (nI 27))] [] (wD hp I (updA (updA A 3 D2) 4 D3)) := by
    intro n
    induction n with
    | zero =>
      intro j D hj hD h0
      obtain rfl : j = 27 := by omega
      refine ⟨D, hD, h0, ?_⟩
      rw [e_107_31]
      simp (maxSteps := 1000000) (disch := first | exact nl_int | exact nl_ref | exact nl_none | exact Nat.le_of_ble_eq_true rfl | assumption | exact wD_cl (by assumption) | exact cat_int | exact cat_ref | exact z2 | exact z4 | exact z3 | exact z5 | exact z6 | exact z8 | exact z64) only [e_107_0, e_107_1, e_107_3, e_107_5, e_107_8, e_107_9, e_107_12, e_107_13, e_107_14, e_107_17, e_107_18, e_107_21, e_107_22, e_107_23, e_107_26, e_107_29, e_107_30, e_107_32, e_107_34, e_107_37, e_107_38, e_107_41, e_107_42, e_107_43, e_107_44, e_107_47, e_107_51, e_107_52, e_107_55, e_107_56, e_107_57, e_107_61, e_107_64, e_107_65, e_107_68, e_107_71, e_107_72, e_107_75, e_107_76, e_107_77, e_107_80, e_107_83, e_107_84, e_107_85, e_107_88, e_107_90, nl_int, nl_ref, nl_none, cat_int, cat_ref, cat_0, cat_i, cat_r, cat_l, Option.elim_some, Option.elim_none, Option.bind_some, Option.bind_none, Option.toList_some, Option.toList_none, List.cons_append, List.nil_append, Nat.reduceAdd, Nat.reduceLeDiff, ltF (x := 27) (c := 27) rfl (Nat.le_refl _) (by decide), if_false]
    | succ n ih =>
      intro j D hj hD h0
      have sx : am_sx (wD hp I (updA (updA A 3 D2) 4 D)) 146 (nI j) 0 = some (wD hp I (updA (updA A 3 D2) 4 (D.set j 0))) := by
        rw [wD_s4 (k := j) rfl hl (updA_ok hA2 hD) (by omega), updA_updA]
        rfl
      obtain ⟨D3, b1, b2, b3⟩ := ih (j + 1) (D.set j 0) (by omega) ((List.length_set).trans hD) (fun k hk => by
        rw [getD_set (by omega)]
        by_cases q : j = k
        · rw [if_pos q]
        · rw [if_neg q]; exact h0 k (by omega))
      refine ⟨D3, b1, b2, ?_⟩
      rw [← b3, e_107_31]
      simp (maxSteps := 1000000) (disch := first | exact nl_int | exact nl_ref | exact nl_none | exact Nat.le_of_ble_eq_true rfl | assumption | exact wD_cl (by assumption) | exact cat_int | exact cat_ref | exact z2 | exact z4 | exact z3 | exact z5 | exact z6 | exact z8 | exact z64) only [e_107_0, e_107_1, e_107_3, e_107_5, e_107_8, e_107_9, e_107_12, e_107_13, e_107_14, e_107_17, e_107_18, e_107_21, e_107_22, e_107_23, e_107_26, e_107_29, e_107_30, e_107_32, e_107_34, e_107_37, e_107_38, e_107_41, e_107_42, e_107_43, e_107_44, e_107_47, e_107_51, e_107_52, e_107_55, e_107_56, e_107_57, e_107_61, e_107_64, e_107_65, e_107_68, e_107_71, e_107_72, e_107_75, e_107_76, e_107_77, e_107_80, e_107_83, e_107_84, e_107_85, e_107_88, e_107_90, nl_int, nl_ref, nl_none, cat_int, cat_ref, cat_0, cat_i, cat_r, cat_l, Option.elim_some, Option.elim_none, Option.bind_some, Option.bind_none, Option.toList_some, Option.toList_none, List.cons_append, List.nil_append, Nat.reduceAdd, Nat.reduceLeDiff, ltT (x := 27) (c := 27) rfl (show j < 27 by omega) (by decide), if_true, wD_f6 hl, sx, nI_1]
  obtain ⟨D3, b1, b2, b3⟩ := k2 27 0 (A 4) rfl (hA 4 (by decide)) (fun k hk => absurd hk (Nat.not_lt_zero k))
  have e4 : updA (updA A 3 D2) 4 (A 4) = updA A 3 D2 := (updA_self (A := updA A 3 D2) (j := 4))
  rw [e4, show nI 0 = 0 from rfl] at b3
  have hA3 : aOK (updA (updA A 3 D2) 4 D3) := updA_ok hA2 b1
  obtain ⟨K, eK⟩ : ∃ K, K = updI (updI I 7 0) 4 0 := ⟨_, rfl⟩
  have rK : Rj I K := fun k q4 q7 q8 => by rw [eK]; unfold updI; rw [if_neg q4, if_neg q7]
  have p1 : am_pf (wD hp I (updA (updA A 3 D2) 4 D3)) 141 7 7 (.int 0) = some (wD hp (updI I 7 0) (updA (updA A 3 D2) 4 D3)) := wD_p7 hl
  have p2 : am_pf (wD hp (updI I 7 0) (updA (updA A 3 D2) 4 D3)) 141 7 4 (.int 0) = some (wD hp K (updA (updA A 3 D2) 4 D3)) := by rw [eK]; exact wD_p4 hl
  have hR : Rd (tSetAt t 0) (cClear c) K (updA (updA A 3 D2) 4 D3) := by
    refine ⟨hA3, (hT.rj rK rfl).tx rfl rfl, by rw [eK]; rfl, ht.At (by decide), cClear_ok hc, ?_, ?_, by rw [eK]; rfl⟩
    · refine ⟨⟨?_, ?_, ?_⟩, fun i hi => absurd hi (Nat.not_lt_zero i), fun i hi => absurd hi (Nat.not_lt_zero i), fun i hi => absurd hi (Nat.not_lt_zero i), ⟨?_, ?_, ?_⟩, fun i hi => absurd hi (Nat.not_lt_zero i)⟩
      · exact a2 0 (by decide)
      · exact a2 1 (by decide)
      · exact a2 2 (by decide)
      · exact b2 0 (by decide)
      · exact b2 1 (by decide)
      · exact b2 2 (by decide)
    · refine ⟨fun i hi => absurd hi (Nat.not_lt_zero i), fun i _ h8 => ?_, show 1 ≤ 4 by decide, fun i hi => absurd hi (Nat.not_lt_zero i), fun i hi => absurd hi (Nat.not_lt_zero i), rfl⟩
      show (List.replicate 8 (-1 : Int32)).getD i 0 = -1
      have tab : ∀ i, i < 8 → (List.replicate 8 (-1 : Int32)).getD i 0 = -1 := by decide
      exact tab i h8
  obtain ⟨I2, A2, c1, c2, c3, c4, c5⟩ := s7_flt (d := d) hl 200 (tSetAt t 0) (cClear c) K _ (some (.int (nI 27))) hR (by show tLn t - 0 ≤ 200; have := hT.2.1; omega)
  have o0 : (0 : Int32) = 0 ∨ (0 : Int32) = 1 := Or.inl rfl
  refine ⟨I2, A2, c1, ((S34.rfl'.upd (k := 3) (by omega)).upd (k := 4) (by omega)).trans c2, rK.trans c3, ?_, c5⟩
  rw [← c4]
  simp (maxSteps := 1000000) (disch := first | exact nl_int | exact nl_ref | exact nl_none | exact Nat.le_of_ble_eq_true rfl | assumption | exact wD_cl (by assumption) | exact cat_int | exact cat_ref | exact z2 | exact z4 | exact z3 | exact z5 | exact z6 | exact z8 | exact z64) only [e_107_0, e_107_1, e_107_3, e_107_5, e_107_8, e_107_9, e_107_12, e_107_13, e_107_14, e_107_17, e_107_18, e_107_21, e_107_22, e_107_23, e_107_26, e_107_29, e_107_30, e_107_32, e_107_34, e_107_37, e_107_38, e_107_41, e_107_42, e_107_43, e_107_44, e_107_47, e_107_50, e_107_51, e_107_52, e_107_55, e_107_56, e_107_57, e_107_61, e_107_64, e_107_65, e_107_68, e_107_71, e_107_72, e_107_75, e_107_76, e_107_77, e_107_80, e_107_83, e_107_84, e_107_85, e_107_88, e_107_90, nl_int, nl_ref, nl_none, cat_int, cat_ref, cat_0, cat_i, cat_r, cat_l, Option.elim_some, Option.elim_none, Option.bind_some, Option.bind_none, Option.toList_some, Option.toList_none, List.cons_append, List.nil_append, Nat.reduceAdd, Nat.reduceLeDiff, a3, b3, p1, p2]
end RDE
section RDF
variable {d : Nat} {hp hp2 : am_H} {I I2 : Nat → Int32} {A A2 : Nat → List Int32} {i j k n b p a e lo hi hr : Nat} {x y z v w X Y Z : Int32} {B C : List Int32} {ct c : am_Ci} {tx T : am_Tx} {nw m : am_Mo} {pm : Nat → am_Mo} {pn ph : Nat} {km : Nat → am_Mo} {kc : Nat} {sH sL : List Int32} {sc : Nat}
theorem St.tok (hS : St hp tx ct nw pm pn ph km kc sH sL sc) : tOK tx := by
  obtain ⟨cB, dr, lt, hs, tm, tk, sp, h⟩ := hS
  exact h.qx.2.2.2
theorem Jr.txr (hj : Jr tx ct nw pm pn ph km kc sH sL sc hr I A) (ht : tOK tx) : TxR tx I A := ⟨hj.2.2.2.1.1, hj.2.2.2.1.2.1, hj.2.2.2.1.2.2, ht.2.2.2.2.1⟩
theorem Jr.txq (hj : Jr tx ct nw pm pn ph km kc sH sL sc hr I A) (e1 : T.1 = tx.1) (e2 : tLn T = tLn tx) : Jr T ct nw pm pn ph km kc sH sL sc hr I A := by
  have ec : ∀ k, tC T k = tC tx k := fun k => by unfold tC; rw [e1]
  obtain ⟨q1, q2, q3, q4, q5⟩ := hj
  exact ⟨q1, q2, q3, ⟨by rw [e2]; exact q4.1, by rw [e2]; exact q4.2.1, fun k hk => by rw [ec]; exact q4.2.2 k (by rw [← e2]; exact hk)⟩, q5⟩
theorem p_fault (hJ : JJ hp) : Pr d 48 [some (.ref 0)] 107 [some (.ref 141), none] hp := by
  obtain ⟨hl, tx, ct, nw, pm, pn, ph, km, kc, sH, sL, sc, hr, I, A, hS, hD, hj⟩ := hJ
  obtain ⟨dr0, hdr, s6⟩ := s_fault (d := d) hS
  have ht := hS.tok
  have tr := tRead_ok 200 (tSetAt tx 0) (cClear dr0) (ht.At (by decide)) (cClear_ok hdr)
  refine Pr_act (hr2 := hr) hl hD s6 (fun hp hl => ?_)
  obtain ⟨I2, A2, a2, s, r, e, f⟩ := s7_fault (d := d + 7) hl hj.1.1 (hj.txr ht) ht hdr
  exact ⟨I2, A2, e, (hj.sq a2 (fun k q3 q4 _ _ _ _ => s k q3 q4) (fun k hk => r k (by omega) (by omega) (by omega))).txq tr.2.2.2 tr.2.2.1⟩
theorem s7_laid (hl : 154 < hp.length) (hR : Rd tx c I A) (h0 : 0 < cPp c) : ∀ n i, i + n = cPp c → (cLaid c i n = true → (∀ k, i ≤ k → k < cPp c → mH c.1 k < nI (cHs c)) ∧ am_E (d + 12) 108 23 [some (.ref 141), some (.int (nI i))] [] (wD hp I A) = am_E (d + 12) 108 63 [some (.ref 141), some (.int (nI (cPp c)))] [] (wD hp I A)) ∧ (cLaid c i n = false → am_E (d + 12) 108 23 [some (.ref 141), some (.int (nI i))] [] (wD hp I A) = some (some (.int (-2)), wD hp I A)) := by
  have p8 : cPp c ≤ 8 := hR.2.2.2.2.1.2.2.2.2.2.1
  have l0 : am_ld (wD hp I A) 146 0 = some (nI (cPp c)) := by rw [wD_l4 (x := 0) (k := 0) rfl hl hR.1 (by decide), hR.2.2.2.2.2.1.2.2.2.2.1.1]
  have l1 : am_ld (wD hp I A) 145 0 = some (nI (cHs c)) := by rw [wD_l3 (x := 0) (k := 0) rfl hl hR.1 (by decide), hR.2.2.2.2.2.1.1.1]
  intro n
  induction n with
  | zero =>
    intro i hi
    obtain rfl : i = cPp c := by omega
    refine ⟨fun _ => ⟨fun k h1 h2 => by omega, ?_⟩, fun w => ?_⟩
    · rw [e_108_23]
      simp (maxSteps := 1000000) (disch := first | exact nl_int | exact nl_ref | exact nl_none | exact Nat.le_of_ble_eq_true rfl | assumption | exact wD_cl (by assumption) | exact cat_int | exact cat_ref | exact z2 | exact z4 | exact z3 | exact z5 | exact z6 | exact z8 | exact z64) only [e_108_0, e_108_1, e_108_4, e_108_6, e_108_9, e_108_10, e_108_13, e_108_14, e_108_15, e_108_18, e_108_20, e_108_21, e_108_22, e_108_24, e_108_25, e_108_28, e_108_29, e_108_30, e_108_33, e_108_34, e_108_37, e_108_38, e_108_39, e_108_40, e_108_41, e_108_42, e_108_43, e_108_44, e_108_45, e_108_46, e_108_49, e_108_50, e_108_51, e_108_54, e_108_56, e_108_57, e_108_60, e_108_64, e_108_66, e_108_68, e_108_71, e_108_72, e_108_75, e_108_76, e_108_77, e_108_80, e_108_81, e_108_82, e_108_83, e_108_86, e_108_89, e_108_90, e_108_92, e_108_94, e_108_97, e_108_98, e_108_101, e_108_102, e_108_103, e_108_106, e_108_107, e_108_108, e_108_109, e_108_112, e_108_115, e_108_116, e_108_117, e_108_120, e_108_121, e_108_122, e_108_125, e_108_126, e_108_127, e_108_130, e_108_131, e_108_134, e_108_135, e_108_136, nl_int, nl_ref, nl_none, cat_int, cat_ref, cat_0, cat_i, cat_r, cat_l, Option.elim_some, Option.elim_none, Option.bind_some, Option.bind_none, Option.toList_some, Option.toList_none, List.cons_append, List.nil_append, Nat.reduceAdd, Nat.reduceLeDiff, wD_f6 hl, l0, ltF (x := nI (cPp c)) (c := cPp c) rfl (Nat.le_refl _) (by omega), if_false]
    · rw [cLaid, decide_eq_true h0] at w; cases w
  | succ n ih =>
    intro i hi
    have lx : am_ld (wD hp I A) 146 (nI (5 + 3 * i)) = some (mH c.1 i) := by rw [wD_l4 (k := 5 + 3 * i) rfl hl hR.1 (by omega), (hR.2.2.2.2.2.1.2.2.2.2.2 i (by omega)).2.2]
    have ix : 3 + 3 * nI i = nI (3 + 3 * i) := ix3 (a := 0)
    have e5 : nI (3 + 3 * i) + 2 = nI (5 + 3 * i) := by rw [nI_2, show 3 + 3 * i + 2 = 5 + 3 * i from by omega]
    have lt' := ltT (x := nI (cPp c)) (c := cPp c) rfl (show i < cPp c by omega) (by omega)
    rw [cLaid]
    by_cases q : mH c.1 i < nI (cHs c)
    · rw [if_pos q]
      obtain ⟨a1, a2⟩ := ih (i + 1) (by omega)
      have st : am_E (d + 12) 108 23 [some (.ref 141), some (.int (nI i))] [] (wD hp I A) = am_E (d + 12) 108 23 [some (.ref 141), some (.int (nI (i + 1)))] [] (wD hp I A) := by
        rw [e_108_23]
        simp (maxSteps := 1000000) (disch := first | exact nl_int | exact nl_ref | exact nl_none | exact Nat.le_of_ble_eq_true rfl | assumption | exact wD_cl (by assumption) | exact cat_int | exact cat_ref | exact z2 | exact z4 | exact z3 | exact z5 | exact z6 | exact z8 | exact z64) only [e_108_0, e_108_1, e_108_4, e_108_6, e_108_9, e_108_10, e_108_13, e_108_14, e_108_15, e_108_18, e_108_20, e_108_21, e_108_22, e_108_24, e_108_25, e_108_28, e_108_29, e_108_30, e_108_33, e_108_34, e_108_37, e_108_38, e_108_39, e_108_40, e_108_41, e_108_42, e_108_43, e_108_44, e_108_45, e_108_46, e_108_49, e_108_50, e_108_51, e_108_54, e_108_56, e_108_57, e_108_60, e_108_64, e_108_66, e_108_68, e_108_71, e_108_72, e_108_75, e_108_76, e_108_77, e_108_80, e_108_81, e_108_82, e_108_83, e_108_86, e_108_89, e_108_90, e_108_92, e_108_94, e_108_97, e_108_98, e_108_101, e_108_102, e_108_103, e_108_106, e_108_107, e_108_108, e_108_109, e_108_112, e_108_115, e_108_116, e_108_117, e_108_120, e_108_121, e_108_122, e_108_125, e_108_126, e_108_127, e_108_130, e_108_131, e_108_134, e_108_135, e_108_136, nl_int, nl_ref, nl_none, cat_int, cat_ref, cat_0, cat_i, cat_r, cat_l, Option.elim_some, Option.elim_none, Option.bind_some, Option.bind_none, Option.toList_some, Option.toList_none, List.cons_append, List.nil_append, Nat.reduceAdd, Nat.reduceLeDiff, wD_f5 hl, wD_f6 hl, l0, lt', if_true, ix, e5, lx, l1, if_pos q, nI_1]
      refine ⟨fun w => ⟨fun k h1 h2 => ?_, by rw [st]; exact (a1 w).2⟩, fun w => by rw [st]; exact a2 w⟩
      by_cases e : k = i
      · rw [e]; exact q
      · exact (a1 w).1 k (by omega) h2
    · rw [if_neg q]
      refine ⟨fun w => (nomatch w), fun _ => ?_⟩
      rw [e_108_23]
      simp (maxSteps := 1000000) (disch := first | exact nl_int | exact nl_ref | exact nl_none | exact Nat.le_of_ble_eq_true rfl | assumption | exact wD_cl (by assumption) | exact cat_int | exact cat_ref | exact z2 | exact z4 | exact z3 | exact z5 | exact z6 | exact z8 | exact z64) only [e_108_0, e_108_1, e_108_4, e_108_6, e_108_9, e_108_10, e_108_13, e_108_14, e_108_15, e_108_18, e_108_20, e_108_21, e_108_22, e_108_24, e_108_25, e_108_28, e_108_29, e_108_30, e_108_33, e_108_34, e_108_37, e_108_38, e_108_39, e_108_40, e_108_41, e_108_42, e_108_43, e_108_44, e_108_45, e_108_46, e_108_49, e_108_50, e_108_51, e_108_54, e_108_56, e_108_57, e_108_60, e_108_64, e_108_66, e_108_68, e_108_71, e_108_72, e_108_75, e_108_76, e_108_77, e_108_80, e_108_81, e_108_82, e_108_83, e_108_86, e_108_89, e_108_90, e_108_92, e_108_94, e_108_97, e_108_98, e_108_101, e_108_102, e_108_103, e_108_106, e_108_107, e_108_108, e_108_109, e_108_112, e_108_115, e_108_116, e_108_117, e_108_120, e_108_121, e_108_122, e_108_125, e_108_126, e_108_127, e_108_130, e_108_131, e_108_134, e_108_135, e_108_136, nl_int, nl_ref, nl_none, cat_int, cat_ref, cat_0, cat_i, cat_r, cat_l, Option.elim_some, Option.elim_none, Option.bind_some, Option.bind_none, Option.toList_some, Option.toList_none, List.cons_append, List.nil_append, Nat.reduceAdd, Nat.reduceLeDiff, wD_f5 hl, wD_f6 hl, l0, lt', if_true, ix, e5, lx, l1, if_neg q]
theorem p_lay (hJ : JJ hp) : Pr d 49 [some (.ref 0)] 108 [some (.ref 141), none] hp := by
  obtain ⟨hl, tx, ct, nw, pm, pn, ph, km, kc, sH, sL, sc, hr, I, A, hS, hD, hj⟩ := hJ
  obtain ⟨dr0, r, hdr, er, s0, s1⟩ := s_lay (d := d) hS
  have ht := hS.tok
  have tr := tRead_ok 200 (tSetAt tx 0) (cClear dr0) (ht.At (by decide)) (cClear_ok hdr)
  rw [← er] at tr
  have flt : ∀ hp : am_H, 154 < hp.length → ∃ I2 A2, aOK A2 ∧ S34 A A2 ∧ Rj I I2 ∧ am_E (d + 11) 107 0 [some (.ref 141), none] [] (wD hp I A) = some (some (.int r.1), wD hp I2 A2) ∧ (r.1 = -4 → Rd r.2.1 r.2.2 I2 A2) := fun hp hl => by
    have := s7_fault (d := d + 6) hl hj.1.1 (hj.txr ht) ht hdr
    rw [← er] at this
    exact this
  cases q : canLay r with
  | false =>
    refine Pr_act (hr2 := hr) hl hD (s0 q) (fun hp hl => ?_)
    obtain ⟨I2, A2, a2, s, rj, e, f⟩ := flt hp hl
    refine ⟨I2, A2, ?_, (hj.sq a2 (fun k q3 q4 _ _ _ _ => s k q3 q4) (fun k hk => rj k (by omega) (by omega) (by omega))).txq tr.2.2.2 tr.2.2.1⟩
    by_cases q1 : r.1 = -4
    · have hR := f q1
      have p8 : cPp r.2.2 ≤ 8 := hR.2.2.2.2.1.2.2.2.2.2.1
      have l0 : am_ld (wD hp I2 A2) 146 0 = some (nI (cPp r.2.2)) := by rw [wD_l4 (x := 0) (k := 0) rfl hl a2 (by decide), hR.2.2.2.2.2.1.2.2.2.2.1.1]
      unfold canLay at q
      rw [if_pos q1] at q
      by_cases q2 : cPp r.2.2 = 0
      · have q3 : nI (cPp r.2.2) = 0 := by rw [q2]; rfl
        simp (maxSteps := 1000000) (disch := first | exact nl_int | exact nl_ref | exact nl_none | exact Nat.le_of_ble_eq_true rfl | assumption | exact wD_cl (by assumption) | exact cat_int | exact cat_ref | exact z2 | exact z4 | exact z3 | exact z5 | exact z6 | exact z8 | exact z64) only [e_108_0, e_108_1, e_108_4, e_108_6, e_108_9, e_108_10, e_108_13, e_108_14, e_108_15, e_108_18, e_108_20, e_108_21, e_108_22, e_108_24, e_108_25, e_108_28, e_108_29, e_108_30, e_108_33, e_108_34, e_108_37, e_108_38, e_108_39, e_108_40, e_108_41, e_108_42, e_108_43, e_108_44, e_108_45, e_108_46, e_108_49, e_108_50, e_108_51, e_108_54, e_108_56, e_108_57, e_108_60, e_108_63, e_108_64, e_108_66, e_108_68, e_108_71, e_108_72, e_108_75, e_108_76, e_108_77, e_108_80, e_108_81, e_108_82, e_108_83, e_108_86, e_108_89, e_108_90, e_108_92, e_108_94, e_108_97, e_108_98, e_108_101, e_108_102, e_108_103, e_108_106, e_108_107, e_108_108, e_108_109, e_108_112, e_108_115, e_108_116, e_108_117, e_108_120, e_108_121, e_108_122, e_108_125, e_108_126, e_108_127, e_108_130, e_108_131, e_108_134, e_108_135, e_108_136, nl_int, nl_ref, nl_none, cat_int, cat_ref, cat_0, cat_i, cat_r, cat_l, Option.elim_some, Option.elim_none, Option.bind_some, Option.bind_none, Option.toList_some, Option.toList_none, List.cons_append, List.nil_append, Nat.reduceAdd, Nat.reduceLeDiff, e, if_pos q1, wD_f6 hl, l0, if_pos q3]
      · have q3 : ¬ nI (cPp r.2.2) = 0 := nI_ne0 (by omega) (by omega)
        have ll := (s7_laid (d := d) hl hR (by omega) (cPp r.2.2) 0 (Nat.zero_add _)).2 q
        rw [show nI 0 = 0 from rfl] at ll
        simp (maxSteps := 1000000) (disch := first | exact nl_int | exact nl_ref | exact nl_none | exact Nat.le_of_ble_eq_true rfl | assumption | exact wD_cl (by assumption) | exact cat_int | exact cat_ref | exact z2 | exact z4 | exact z3 | exact z5 | exact z6 | exact z8 | exact z64) only [e_108_0, e_108_1, e_108_4, e_108_6, e_108_9, e_108_10, e_108_13, e_108_14, e_108_15, e_108_18, e_108_20, e_108_21, e_108_22, e_108_24, e_108_25, e_108_28, e_108_29, e_108_30, e_108_33, e_108_34, e_108_37, e_108_38, e_108_39, e_108_40, e_108_41, e_108_42, e_108_43, e_108_44, e_108_45, e_108_46, e_108_49, e_108_50, e_108_51, e_108_54, e_108_56, e_108_57, e_108_60, e_108_63, e_108_64, e_108_66, e_108_68, e_108_71, e_108_72, e_108_75, e_108_76, e_108_77, e_108_80, e_108_81, e_108_82, e_108_83, e_108_86, e_108_89, e_108_90, e_108_92, e_108_94, e_108_97, e_108_98, e_108_101, e_108_102, e_108_103, e_108_106, e_108_107, e_108_108, e_108_109, e_108_112, e_108_115, e_108_116, e_108_117, e_108_120, e_108_121, e_108_122, e_108_125, e_108_126, e_108_127, e_108_130, e_108_131, e_108_134, e_108_135, e_108_136, nl_int, nl_ref, nl_none, cat_int, cat_ref, cat_0, cat_i, cat_r, cat_l, Option.elim_some, Option.elim_none, Option.bind_some, Option.bind_none, Option.toList_some, Option.toList_none, List.cons_append, List.nil_append, Nat.reduceAdd, Nat.reduceLeDiff, e, if_pos q1, wD_f6 hl, l0, if_neg q3, ll]
    · simp (maxSteps := 1000000) (disch := first | exact nl_int | exact nl_ref | exact nl_none | exact Nat.le_of_ble_eq_true rfl | assumption | exact wD_cl (by assumption) | exact cat_int | exact cat_ref | exact z2 | exact z4 | exact z3 | exact z5 | exact z6 | exact z8 | exact z64) only [e_108_0, e_108_1, e_108_4, e_108_6, e_108_9, e_108_10, e_108_13, e_108_14, e_108_15, e_108_18, e_108_20, e_108_21, e_108_22, e_108_24, e_108_25, e_108_28, e_108_29, e_108_30, e_108_33, e_108_34, e_108_37, e_108_38, e_108_39, e_108_40, e_108_41, e_108_42, e_108_43, e_108_44, e_108_45, e_108_46, e_108_49, e_108_50, e_108_51, e_108_54, e_108_56, e_108_57, e_108_60, e_108_63, e_108_64, e_108_66, e_108_68, e_108_71, e_108_72, e_108_75, e_108_76, e_108_77, e_108_80, e_108_81, e_108_82, e_108_83, e_108_86, e_108_89, e_108_90, e_108_92, e_108_94, e_108_97, e_108_98, e_108_101, e_108_102, e_108_103, e_108_106, e_108_107, e_108_108, e_108_109, e_108_112, e_108_115, e_108_116, e_108_117, e_108_120, e_108_121, e_108_122, e_108_125, e_108_126, e_108_127, e_108_130, e_108_131, e_108_134, e_108_135, e_108_136, nl_int, nl_ref, nl_none, cat_int, cat_ref, cat_0, cat_i, cat_r, cat_l, Option.elim_some, Option.elim_none, Option.bind_some, Option.bind_none, Option.toList_some, Option.toList_none, List.cons_append, List.nil_append, Nat.reduceAdd, Nat.reduceLeDiff, e, if_neg q1]
  | true =>
    refine Pr_act (hr2 := 0) hl hD (s1 q) (fun hp hl => ?_)
    obtain ⟨I2, A2, a2, s, rj, e, f⟩ := flt hp hl
    unfold canLay at q
    by_cases q1 : r.1 = -4
    · rw [if_pos q1] at q
      have hR := f q1
      have hc := hR.2.2.2.2.1
      have hN := hR.2.2.2.2.2.2.1
      have p8 : cPp r.2.2 ≤ 8 := hc.2.2.2.2.2.1
      have l0 : am_ld (wD hp I2 A2) 146 0 = some (nI (cPp r.2.2)) := by rw [wD_l4 (x := 0) (k := 0) rfl hl a2 (by decide), hR.2.2.2.2.2.1.2.2.2.2.1.1]
      have q2 : 0 < cPp r.2.2 := by
        by_cases w : cPp r.2.2 = 0
        · rw [w, cLaid, w] at q; cases q
        · omega
      have q3 : ¬ nI (cPp r.2.2) = 0 := nI_ne0 (by omega) (by omega)
      obtain ⟨lw, ll⟩ := (s7_laid (d := d) hl hR q2 (cPp r.2.2) 0 (Nat.zero_add _)).1 q
      rw [show nI 0 = 0 from rfl] at ll
      have k1 : ∀ n j (D : List Int32), j + n = 29 → D.length = 29 → (∀ k, k < j → D.getD k 0 = (A2 3).getD k 0) → am_E (d + 12) 108 65 [some (.ref 141), some (.int (nI j))] [] (wD hp I2 (updA A2 0 D)) = am_E (d + 12) 108 89 [some (.ref 141), some (.int (nI 29))] [] (wD hp I2 (updA A2 0 (A2 3))) := by
        intro n
        induction n with
        | zero =>
          intro j D hj hD h0
          obtain rfl : j = 29 := by omega
          have : D = A2 3 := list8 29 hD (a2 3 (by decide)) (fun k hk => h0 k hk)
          rw [this, e_108_65]
          simp (maxSteps := 1000000) (disch := first | exact nl_int | exact nl_ref | exact nl_none | exact Nat.le_of_ble_eq_true rfl | assumption | exact wD_cl (by assumption) | exact cat_int | exact cat_ref | exact z2 | exact z4 | exact z3 | exact z5 | exact z6 | exact z8 | exact z64) only [e_108_0, e_108_1, e_108_4, e_108_6, e_108_9, e_108_10, e_108_13, e_108_14, e_108_15, e_108_18, e_108_20, e_108_21, e_108_22, e_108_24, e_108_25, e_108_28, e_108_29, e_108_30, e_108_33, e_108_34, e_108_37, e_108_38, e_108_39, e_108_40, e_108_41, e_108_42, e_108_43, e_108_44, e_108_45, e_108_46, e_108_49, e_108_50, e_108_51, e_108_54, e_108_56, e_108_57, e_108_60, e_108_63, e_108_64, e_108_66, e_108_68, e_108_71, e_108_72, e_108_75, e_108_76, e_108_77, e_108_80, e_108_81, e_108_82, e_108_83, e_108_86, e_108_90, e_108_92, e_108_94, e_108_97, e_108_98, e_108_101, e_108_102, e_108_103, e_108_106, e_108_107, e_108_108, e_108_109, e_108_112, e_108_115, e_108_116, e_108_117, e_108_120, e_108_121, e_108_122, e_108_125, e_108_126, e_108_127, e_108_130, e_108_131, e_108_134, e_108_135, e_108_136, nl_int, nl_ref, nl_none, cat_int, cat_ref, cat_0, cat_i, cat_r, cat_l, Option.elim_some, Option.elim_none, Option.bind_some, Option.bind_none, Option.toList_some, Option.toList_none, List.cons_append, List.nil_append, Nat.reduceAdd, Nat.reduceLeDiff, ltF (x := 29) (c := 29) rfl (Nat.le_refl _) (by omega), if_false]
        | succ n ih =>
          intro j D hj hD h0
          have hA3 : aOK (updA A2 0 D) := updA_ok a2 hD
          have lx : am_ld (wD hp I2 (updA A2 0 D)) 145 (nI j) = some ((A2 3).getD j 0) := by
            rw [wD_l3 (k := j) rfl hl hA3 (by omega)]
            rfl
          have sx : am_sx (wD hp I2 (updA A2 0 D)) 142 (nI j) ((A2 3).getD j 0) = some (wD hp I2 (updA A2 0 (D.set j ((A2 3).getD j 0)))) := by
            rw [wD_s0 (k := j) rfl hl hA3 (by omega), updA_updA]
            rfl
          rw [← ih (j + 1) (D.set j ((A2 3).getD j 0)) (by omega) ((List.length_set).trans hD) (fun k hk => by
            rw [getD_set (by omega)]
            by_cases q : j = k
            · rw [if_pos q, q]
            · rw [if_neg q]; exact h0 k (by omega)), e_108_65]
          simp (maxSteps := 1000000) (disch := first | exact nl_int | exact nl_ref | exact nl_none | exact Nat.le_of_ble_eq_true rfl | assumption | exact wD_cl (by assumption) | exact cat_int | exact cat_ref | exact z2 | exact z4 | exact z3 | exact z5 | exact z6 | exact z8 | exact z64) only [e_108_0, e_108_1, e_108_4, e_108_6, e_108_9, e_108_10, e_108_13, e_108_14, e_108_15, e_108_18, e_108_20, e_108_21, e_108_22, e_108_24, e_108_25, e_108_28, e_108_29, e_108_30, e_108_33, e_108_34, e_108_37, e_108_38, e_108_39, e_108_40, e_108_41, e_108_42, e_108_43, e_108_44, e_108_45, e_108_46, e_108_49, e_108_50, e_108_51, e_108_54, e_108_56, e_108_57, e_108_60, e_108_63, e_108_64, e_108_66, e_108_68, e_108_71, e_108_72, e_108_75, e_108_76, e_108_77, e_108_80, e_108_81, e_108_82, e_108_83, e_108_86, e_108_90, e_108_92, e_108_94, e_108_97, e_108_98, e_108_101, e_108_102, e_108_103, e_108_106, e_108_107, e_108_108, e_108_109, e_108_112, e_108_115, e_108_116, e_108_117, e_108_120, e_108_121, e_108_122, e_108_125, e_108_126, e_108_127, e_108_130, e_108_131, e_108_134, e_108_135, e_108_136, nl_int, nl_ref, nl_none, cat_int, cat_ref, cat_0, cat_i, cat_r, cat_l, Option.elim_some, Option.elim_none, Option.bind_some, Option.bind_none, Option.toList_some, Option.toList_none, List.cons_append, List.nil_append, Nat.reduceAdd, Nat.reduceLeDiff, ltT (x := 29) (c := 29) rfl (show j < 29 by omega) (by omega), if_true, wD_f0 hl, wD_f5 hl, lx, sx, nI_1]
      have e1 := k1 29 0 (A2 0) rfl (a2 0 (by decide)) (fun k hk => absurd hk (Nat.not_lt_zero k))
      rw [updA_self, show nI 0 = 0 from rfl] at e1
      have hA3 : aOK (updA A2 0 (A2 3)) := updA_ok a2 (a2 3 (by decide))
      have k2 : ∀ n j (D : List Int32), j + n = 27 → D.length = 27 → (∀ k, k < j → D.getD k 0 = (A2 4).getD k 0) → am_E (d + 12) 108 91 [some (.ref 141), some (.int (nI j))] [] (wD hp I2 (updA (updA A2 0 (A2 3)) 1 D)) = am_E (d + 12) 108 115 [some (.ref 141), some (.int (nI 27))] [] (wD hp I2 (updA (updA A2 0 (A2 3)) 1 (A2 4))) := by
        intro n
        induction n with
        | zero =>
          intro j D hj hD h0
          obtain rfl : j = 27 := by omega
          have : D = A2 4 := list8 27 hD (a2 4 (by decide)) (fun k hk => h0 k hk)
          rw [this, e_108_91]
          simp (maxSteps := 1000000) (disch := first | exact nl_int | exact nl_ref | exact nl_none | exact Nat.le_of_ble_eq_true rfl | assumption | exact wD_cl (by assumption) | exact cat_int | exact cat_ref | exact z2 | exact z4 | exact z3 | exact z5 | exact z6 | exact z8 | exact z64) only [e_108_0, e_108_1, e_108_4, e_108_6, e_108_9, e_108_10, e_108_13, e_108_14, e_108_15, e_108_18, e_108_20, e_108_21, e_108_22, e_108_24, e_108_25, e_108_28, e_108_29, e_108_30, e_108_33, e_108_34, e_108_37, e_108_38, e_108_39, e_108_40, e_108_41, e_108_42, e_108_43, e_108_44, e_108_45, e_108_46, e_108_49, e_108_50, e_108_51, e_108_54, e_108_56, e_108_57, e_108_60, e_108_63, e_108_64, e_108_66, e_108_68, e_108_71, e_108_72, e_108_75, e_108_76, e_108_77, e_108_80, e_108_81, e_108_82, e_108_83, e_108_86, e_108_89, e_108_90, e_108_92, e_108_94, e_108_97, e_108_98, e_108_101, e_108_102, e_108_103, e_108_106, e_108_107, e_108_108, e_108_109, e_108_112, e_108_116, e_108_117, e_108_120, e_108_121, e_108_122, e_108_125, e_108_126, e_108_127, e_108_130, e_108_131, e_108_134, e_108_135, e_108_136, nl_int, nl_ref, nl_none, cat_int, cat_ref, cat_0, cat_i, cat_r, cat_l, Option.elim_some, Option.elim_none, Option.bind_some, Option.bind_none, Option.toList_some, Option.toList_none, List.cons_append, List.nil_append, Nat.reduceAdd, Nat.reduceLeDiff, ltF (x := 27) (c := 27) rfl (Nat.le_refl _) (by omega), if_false]
        | succ n ih =>
          intro j D hj hD h0
          have hA4 : aOK (updA (updA A2 0 (A2 3)) 1 D) := updA_ok hA3 hD
          have lx : am_ld (wD hp I2 (updA (updA A2 0 (A2 3)) 1 D)) 146 (nI j) = some ((A2 4).getD j 0) := by
            rw [wD_l4 (k := j) rfl hl hA4 (by omega)]
            rfl
          have sx : am_sx (wD hp I2 (updA (updA A2 0 (A2 3)) 1 D)) 143 (nI j) ((A2 4).getD j 0) = some (wD hp I2 (updA (updA A2 0 (A2 3)) 1 (D.set j ((A2 4).getD j 0)))) := by
            rw [wD_s1 (k := j) rfl hl hA4 (by omega), updA_updA]
            rfl
          rw [← ih (j + 1) (D.set j ((A2 4).getD j 0)) (by omega) ((List.length_set).trans hD) (fun k hk => by
            rw [getD_set (by omega)]
            by_cases q : j = k
            · rw [if_pos q, q]
            · rw [if_neg q]; exact h0 k (by omega)), e_108_91]
          simp (maxSteps := 1000000) (disch := first | exact nl_int | exact nl_ref | exact nl_none | exact Nat.le_of_ble_eq_true rfl | assumption | exact wD_cl (by assumption) | exact cat_int | exact cat_ref | exact z2 | exact z4 | exact z3 | exact z5 | exact z6 | exact z8 | exact z64) only [e_108_0, e_108_1, e_108_4, e_108_6, e_108_9, e_108_10, e_108_13, e_108_14, e_108_15, e_108_18, e_108_20, e_108_21, e_108_22, e_108_24, e_108_25, e_108_28, e_108_29, e_108_30, e_108_33, e_108_34, e_108_37, e_108_38, e_108_39, e_108_40, e_108_41, e_108_42, e_108_43, e_108_44, e_108_45, e_108_46, e_108_49, e_108_50, e_108_51, e_108_54, e_108_56, e_108_57, e_108_60, e_108_63, e_108_64, e_108_66, e_108_68, e_108_71, e_108_72, e_108_75, e_108_76, e_108_77, e_108_80, e_108_81, e_108_82, e_108_83, e_108_86, e_108_89, e_108_90, e_108_92, e_108_94, e_108_97, e_108_98, e_108_101, e_108_102, e_108_103, e_108_106, e_108_107, e_108_108, e_108_109, e_108_112, e_108_116, e_108_117, e_108_120, e_108_121, e_108_122, e_108_125, e_108_126, e_108_127, e_108_130, e_108_131, e_108_134, e_108_135, e_108_136, nl_int, nl_ref, nl_none, cat_int, cat_ref, cat_0, cat_i, cat_r, cat_l, Option.elim_some, Option.elim_none, Option.bind_some, Option.bind_none, Option.toList_some, Option.toList_none, List.cons_append, List.nil_append, Nat.reduceAdd, Nat.reduceLeDiff, ltT (x := 27) (c := 27) rfl (show j < 27 by omega) (by omega), if_true, wD_f1 hl, wD_f6 hl, lx, sx, nI_1]
      have e2 := k2 27 0 (A2 1) rfl (a2 1 (by decide)) (fun k hk => absurd hk (Nat.not_lt_zero k))
      rw [show updA (updA A2 0 (A2 3)) 1 (A2 1) = updA A2 0 (A2 3) from updA_self (A := updA A2 0 (A2 3)) (j := 1), show nI 0 = 0 from rfl] at e2
      have hA4 : aOK (updA (updA A2 0 (A2 3)) 1 (A2 4)) := updA_ok hA3 (a2 4 (by decide))
      have lz : ∀ J, am_ld (wD hp J (updA (updA A2 0 (A2 3)) 1 (A2 4))) 143 0 = some (nI (cPp r.2.2)) := fun J => by
        rw [wD_l1 (x := 0) (k := 0) rfl hl hA4 (by decide), ← hR.2.2.2.2.2.1.2.2.2.2.1.1]
        rfl
      have hNm : Nm r.2.2 (mCopy nw r.2.2.1) := by
        refine ⟨fun i hi => ?_, hN.2.1, p8, hc.2.2.2.2.1⟩
        obtain ⟨o, t1, h, ho, ht1, hh, eo, et, eh⟩ := hN.1 i hi
        have h5 : cHs r.2.2 ≤ 5 := hc.2.2.2.2.1
        have := lw i (Nat.zero_le _) hi
        rw [eh] at this
        exact ⟨o, t1, h, ho, ht1, (nI_ltI (by omega) (by omega)).mp this, eo, et, eh⟩
      have ehr : (mCopy nw r.2.2.1).2.2.2.2.2 = (0, 0) := hN.2.2.2.2.2
      refine ⟨updI (updI (updI I2 20 0) 13 0) 22 0, updA (updA A2 0 (A2 3)) 1 (A2 4), ?_, ⟨hA4, hR.2.2.2.2.2.1, hNm, ⟨hN.2.2.2.1, hc.2.2.2.2.2.2.2, q2⟩, mCopy_ok hj.1.2.2.2.2.1 hc.1, ⟨hc.2.2.2.2.2.2.1, hN.2.2.2.2.1⟩, by rw [ehr]; rfl⟩, by decide, ⟨0, by decide, by rw [ehr]; rfl⟩, ?_, ⟨rfl, by omega, fun k hk => absurd hk (Nat.not_lt_zero k)⟩, ⟨rfl, by omega, hj.2.2.2.2.2.1.2.2.1, fun k hk => absurd hk (Nat.not_lt_zero k)⟩, ⟨rfl, by omega, fun k hk => absurd hk (Nat.not_lt_zero k)⟩⟩
      · simp (maxSteps := 1000000) (disch := first | exact nl_int | exact nl_ref | exact nl_none | exact Nat.le_of_ble_eq_true rfl | assumption | exact wD_cl (by assumption) | exact cat_int | exact cat_ref | exact z2 | exact z4 | exact z3 | exact z5 | exact z6 | exact z8 | exact z64) only [e_108_0, e_108_1, e_108_4, e_108_6, e_108_9, e_108_10, e_108_13, e_108_14, e_108_15, e_108_18, e_108_20, e_108_21, e_108_22, e_108_24, e_108_25, e_108_28, e_108_29, e_108_30, e_108_33, e_108_34, e_108_37, e_108_38, e_108_39, e_108_40, e_108_41, e_108_42, e_108_43, e_108_44, e_108_45, e_108_46, e_108_49, e_108_50, e_108_51, e_108_54, e_108_56, e_108_57, e_108_60, e_108_63, e_108_64, e_108_66, e_108_68, e_108_71, e_108_72, e_108_75, e_108_76, e_108_77, e_108_80, e_108_81, e_108_82, e_108_83, e_108_86, e_108_89, e_108_90, e_108_92, e_108_94, e_108_97, e_108_98, e_108_101, e_108_102, e_108_103, e_108_106, e_108_107, e_108_108, e_108_109, e_108_112, e_108_115, e_108_116, e_108_117, e_108_120, e_108_121, e_108_122, e_108_125, e_108_126, e_108_127, e_108_130, e_108_131, e_108_134, e_108_135, e_108_136, nl_int, nl_ref, nl_none, cat_int, cat_ref, cat_0, cat_i, cat_r, cat_l, Option.elim_some, Option.elim_none, Option.bind_some, Option.bind_none, Option.toList_some, Option.toList_none, List.cons_append, List.nil_append, Nat.reduceAdd, Nat.reduceLeDiff, e, if_pos q1, wD_f6 hl, l0, if_neg q3, ll, e1, e2, wD_p20 hl, wD_p13 hl, wD_p22 hl, wD_f1 hl, lz]
      · exact ⟨hR.2.1.1, hR.2.1.2.1, hR.2.1.2.2.1⟩
    · rw [if_neg q1] at q; cases q
end RDF
