/-! PAIRS: count, first, reach, settles -/
theorem sk5_bit : ∀ a b c d e : Bool, ((sk5 a b c d e >>> (nI 0 &&& 31)) &&& 1 = 1 ↔ a = true) ∧ ((sk5 a b c d e >>> (nI 1 &&& 31)) &&& 1 = 1 ↔ b = true) ∧ ((sk5 a b c d e >>> (nI 2 &&& 31)) &&& 1 = 1 ↔ c = true) ∧ ((sk5 a b c d e >>> (nI 3 &&& 31)) &&& 1 = 1 ↔ d = true) ∧ ((sk5 a b c d e >>> (nI 4 &&& 31)) &&& 1 = 1 ↔ e = true) := by decide +kernel
theorem smk_bit {G : Nat → Bool} : ∀ {h : Nat}, h < 5 → ((smk G >>> (nI h &&& 31)) &&& 1 = 1 ↔ G h = true)
  | 0, _ => by rw [smk_sk]; exact (sk5_bit _ _ _ _ _).1
  | 1, _ => by rw [smk_sk]; exact (sk5_bit _ _ _ _ _).2.1
  | 2, _ => by rw [smk_sk]; exact (sk5_bit _ _ _ _ _).2.2.1
  | 3, _ => by rw [smk_sk]; exact (sk5_bit _ _ _ _ _).2.2.2.1
  | 4, _ => by rw [smk_sk]; exact (sk5_bit _ _ _ _ _).2.2.2.2
  | n + 5, q => absurd q (by omega)
theorem smk_cut {G : Nat → Bool} {c : Nat} (hc : c ≤ 5) (h : ∀ g, c ≤ g → g < 5 → G g = false) : smk G = am_for (fun h s => if G h = true then s ||| ((1 : Int32) <<< (nI h &&& 31)) else s) 0 c 0 := by
  have e : smk G = am_for (fun h s => if G h = true then s ||| ((1 : Int32) <<< (nI h &&& 31)) else s) 0 (c + (5 - c)) 0 := by
    unfold smk
    rw [show c + (5 - c) = 5 from by omega]
  rw [e, am_for_add]
  refine am_for_id _ _ _ (fun i s q1 q2 => ?_)
  show (if G i = true then s ||| ((1 : Int32) <<< (nI i &&& 31)) else s) = s
  rw [h i (by omega) (by omega), if_neg (by decide)]
theorem cDark_smk {ct : am_Ci} {m : am_Mo} {t : Int32} (h5 : cHs ct ≤ 5) : cDark ct m t = smk (fun g => decide (g < cHs ct) && decide (mLight m (nI g) t = 0)) := by
  rw [smk_cut h5 (fun g h1 h2 => by rw [decide_eq_false (show ¬ g < cHs ct by omega), Bool.false_and])]
  refine am_for_congr _ _ _ (fun i s q1 q2 => ?_)
  show cDk m t i s = (if (decide (i < cHs ct) && decide (mLight m (nI i) t = 0)) = true then s ||| ((1 : Int32) <<< (nI i &&& 31)) else s)
  unfold cDk
  rw [decide_eq_true (show i < cHs ct by omega), Bool.true_and]
  by_cases q : mLight m (nI i) t = 0
  · rw [if_pos q, decide_eq_true q, if_pos rfl]
  · rw [if_neg q, decide_eq_false q, if_neg (by decide)]
theorem i32_or0 {a b : Int32} : a ||| b = 0 ↔ a = 0 ∧ b = 0 := by
  rw [← Int32.toBitVec_inj, ← Int32.toBitVec_inj, ← Int32.toBitVec_inj]
  show a.toBitVec ||| b.toBitVec = 0#32 ↔ a.toBitVec = 0#32 ∧ b.toBitVec = 0#32
  exact BitVec.or_eq_zero_iff
section MDG
variable {d : Nat} {hp hp2 : am_H} {I I2 : Nat → Int32} {A A2 : Nat → List Int32} {i j k n b p hr tt h u : Nat} {x y z t a : Int32} {B C : List Int32} {ct : am_Ci} {nw : am_Mo}
theorem p_count (hJ : JJ hp) : Pr d 74 [some (.ref 0), some (.int y)] 152 [some (.ref 141), some (.int y)] hp := by
  obtain ⟨hl, tx, ct, nw, pm, pn, ph, km, kc, sH, sL, sc, hr, I, A, hS, hD, hj⟩ := hJ
  have ok := hj.1
  refine Pr_ask hl hD hj (Run.same hS (s_count hS)) (fun hp hl => Ask.same ok.1 ?_)
  obtain ⟨ra, hra, era⟩ := hj.2.2.1
  have em := s7_many (d := d + 11) (hp := wD hp I A) (o := ra) (by omega)
  rw [← era] at em
  unfold aCount
  by_cases y0 : y = 0
  · subst y0
    simp (maxSteps := 1000000) (disch := first | exact nl_int | exact nl_ref | exact nl_none | exact Nat.le_of_ble_eq_true rfl | assumption | exact wD_cl (by assumption) | exact cat_int | exact cat_ref | exact z2 | exact z4 | exact z3 | exact z5 | exact z6 | exact z8 | exact z64) only [e_152_0, e_152_1_0, e_152_1_1, e_152_1_2, e_152_1_3, e_152_1_4, e_152_1_5, e_152_1_6, e_152_1_7, e_152_1_8, e_152_52, e_152_53, e_152_56, e_152_57, e_152_58, e_152_59, e_152_60, e_152_63, e_152_64, e_152_65, e_152_66, e_152_67, e_152_70, e_152_71, e_152_72, e_152_73, e_152_74, e_152_77, e_152_78, e_152_79, e_152_80, e_152_81, e_152_84, e_152_85, e_152_86, e_152_89, e_152_90, e_152_91, e_152_94, e_152_95, e_152_96, e_152_99, e_152_100, e_152_101, e_152_104, e_152_105, e_152_106, e_152_109, e_152_110, e_152_111, nl_int, nl_ref, nl_none, cat_int, cat_ref, cat_0, cat_i, cat_r, cat_l, Option.elim_some, Option.elim_none, Option.bind_some, Option.bind_none, Option.toList_some, Option.toList_none, List.cons_append, List.nil_append, Nat.reduceAdd, Nat.reduceLeDiff, if_true, wD_f1 hl, ok.lp hl]
  · rw [if_neg y0]
    by_cases y1 : y = 1
    · subst y1
      simp (maxSteps := 1000000) (disch := first | exact nl_int | exact nl_ref | exact nl_none | exact Nat.le_of_ble_eq_true rfl | assumption | exact wD_cl (by assumption) | exact cat_int | exact cat_ref | exact z2 | exact z4 | exact z3 | exact z5 | exact z6 | exact z8 | exact z64) only [e_152_0, e_152_1_0, e_152_1_1, e_152_1_2, e_152_1_3, e_152_1_4, e_152_1_5, e_152_1_6, e_152_1_7, e_152_1_8, e_152_52, e_152_53, e_152_56, e_152_57, e_152_58, e_152_59, e_152_60, e_152_63, e_152_64, e_152_65, e_152_66, e_152_67, e_152_70, e_152_71, e_152_72, e_152_73, e_152_74, e_152_77, e_152_78, e_152_79, e_152_80, e_152_81, e_152_84, e_152_85, e_152_86, e_152_89, e_152_90, e_152_91, e_152_94, e_152_95, e_152_96, e_152_99, e_152_100, e_152_101, e_152_104, e_152_105, e_152_106, e_152_109, e_152_110, e_152_111, nl_int, nl_ref, nl_none, cat_int, cat_ref, cat_0, cat_i, cat_r, cat_l, Option.elim_some, Option.elim_none, Option.bind_some, Option.bind_none, Option.toList_some, Option.toList_none, List.cons_append, List.nil_append, Nat.reduceAdd, Nat.reduceLeDiff, if_true, wD_f0 hl, ok.lhs hl]
    · rw [if_neg y1]
      by_cases y2 : y = 2
      · subst y2
        simp (maxSteps := 1000000) (disch := first | exact nl_int | exact nl_ref | exact nl_none | exact Nat.le_of_ble_eq_true rfl | assumption | exact wD_cl (by assumption) | exact cat_int | exact cat_ref | exact z2 | exact z4 | exact z3 | exact z5 | exact z6 | exact z8 | exact z64) only [e_152_0, e_152_1_0, e_152_1_1, e_152_1_2, e_152_1_3, e_152_1_4, e_152_1_5, e_152_1_6, e_152_1_7, e_152_1_8, e_152_52, e_152_53, e_152_56, e_152_57, e_152_58, e_152_59, e_152_60, e_152_63, e_152_64, e_152_65, e_152_66, e_152_67, e_152_70, e_152_71, e_152_72, e_152_73, e_152_74, e_152_77, e_152_78, e_152_79, e_152_80, e_152_81, e_152_84, e_152_85, e_152_86, e_152_89, e_152_90, e_152_91, e_152_94, e_152_95, e_152_96, e_152_99, e_152_100, e_152_101, e_152_104, e_152_105, e_152_106, e_152_109, e_152_110, e_152_111, nl_int, nl_ref, nl_none, cat_int, cat_ref, cat_0, cat_i, cat_r, cat_l, Option.elim_some, Option.elim_none, Option.bind_some, Option.bind_none, Option.toList_some, Option.toList_none, List.cons_append, List.nil_append, Nat.reduceAdd, Nat.reduceLeDiff, if_true, wD_f0 hl, ok.lwk hl]
      · rw [if_neg y2]
        by_cases y3 : y = 3
        · subst y3
          simp (maxSteps := 1000000) (disch := first | exact nl_int | exact nl_ref | exact nl_none | exact Nat.le_of_ble_eq_true rfl | assumption | exact wD_cl (by assumption) | exact cat_int | exact cat_ref | exact z2 | exact z4 | exact z3 | exact z5 | exact z6 | exact z8 | exact z64) only [e_152_0, e_152_1_0, e_152_1_1, e_152_1_2, e_152_1_3, e_152_1_4, e_152_1_5, e_152_1_6, e_152_1_7, e_152_1_8, e_152_52, e_152_53, e_152_56, e_152_57, e_152_58, e_152_59, e_152_60, e_152_63, e_152_64, e_152_65, e_152_66, e_152_67, e_152_70, e_152_71, e_152_72, e_152_73, e_152_74, e_152_77, e_152_78, e_152_79, e_152_80, e_152_81, e_152_84, e_152_85, e_152_86, e_152_89, e_152_90, e_152_91, e_152_94, e_152_95, e_152_96, e_152_99, e_152_100, e_152_101, e_152_104, e_152_105, e_152_106, e_152_109, e_152_110, e_152_111, nl_int, nl_ref, nl_none, cat_int, cat_ref, cat_0, cat_i, cat_r, cat_l, Option.elim_some, Option.elim_none, Option.bind_some, Option.bind_none, Option.toList_some, Option.toList_none, List.cons_append, List.nil_append, Nat.reduceAdd, Nat.reduceLeDiff, if_true, wD_f1 hl, ok.lhr hl, ok.2.2.2.2.2.2]
        · rw [if_neg y3]
          by_cases y4 : y = 4
          · subst y4
            simp (maxSteps := 1000000) (disch := first | exact nl_int | exact nl_ref | exact nl_none | exact Nat.le_of_ble_eq_true rfl | assumption | exact wD_cl (by assumption) | exact cat_int | exact cat_ref | exact z2 | exact z4 | exact z3 | exact z5 | exact z6 | exact z8 | exact z64) only [e_152_0, e_152_1_0, e_152_1_1, e_152_1_2, e_152_1_3, e_152_1_4, e_152_1_5, e_152_1_6, e_152_1_7, e_152_1_8, e_152_52, e_152_53, e_152_56, e_152_57, e_152_58, e_152_59, e_152_60, e_152_63, e_152_64, e_152_65, e_152_66, e_152_67, e_152_70, e_152_71, e_152_72, e_152_73, e_152_74, e_152_77, e_152_78, e_152_79, e_152_80, e_152_81, e_152_84, e_152_85, e_152_86, e_152_89, e_152_90, e_152_91, e_152_94, e_152_95, e_152_96, e_152_99, e_152_100, e_152_101, e_152_104, e_152_105, e_152_106, e_152_109, e_152_110, e_152_111, nl_int, nl_ref, nl_none, cat_int, cat_ref, cat_0, cat_i, cat_r, cat_l, Option.elim_some, Option.elim_none, Option.bind_some, Option.bind_none, Option.toList_some, Option.toList_none, List.cons_append, List.nil_append, Nat.reduceAdd, Nat.reduceLeDiff, if_true, wD_f1 hl, ok.lra hl, em]
          · rw [if_neg y4]
            by_cases y5 : y = 5
            · subst y5
              simp (maxSteps := 1000000) (disch := first | exact nl_int | exact nl_ref | exact nl_none | exact Nat.le_of_ble_eq_true rfl | assumption | exact wD_cl (by assumption) | exact cat_int | exact cat_ref | exact z2 | exact z4 | exact z3 | exact z5 | exact z6 | exact z8 | exact z64) only [e_152_0, e_152_1_0, e_152_1_1, e_152_1_2, e_152_1_3, e_152_1_4, e_152_1_5, e_152_1_6, e_152_1_7, e_152_1_8, e_152_52, e_152_53, e_152_56, e_152_57, e_152_58, e_152_59, e_152_60, e_152_63, e_152_64, e_152_65, e_152_66, e_152_67, e_152_70, e_152_71, e_152_72, e_152_73, e_152_74, e_152_77, e_152_78, e_152_79, e_152_80, e_152_81, e_152_84, e_152_85, e_152_86, e_152_89, e_152_90, e_152_91, e_152_94, e_152_95, e_152_96, e_152_99, e_152_100, e_152_101, e_152_104, e_152_105, e_152_106, e_152_109, e_152_110, e_152_111, nl_int, nl_ref, nl_none, cat_int, cat_ref, cat_0, cat_i, cat_r, cat_l, Option.elim_some, Option.elim_none, Option.bind_some, Option.bind_none, Option.toList_some, Option.toList_none, List.cons_append, List.nil_append, Nat.reduceAdd, Nat.reduceLeDiff, if_true, wD_f20 hl, hj.2.2.2.2.1.1]
            · rw [if_neg y5]
              by_cases y6 : y = 6
              · subst y6
                simp (maxSteps := 1000000) (disch := first | exact nl_int | exact nl_ref | exact nl_none | exact Nat.le_of_ble_eq_true rfl | assumption | exact wD_cl (by assumption) | exact cat_int | exact cat_ref | exact z2 | exact z4 | exact z3 | exact z5 | exact z6 | exact z8 | exact z64) only [e_152_0, e_152_1_0, e_152_1_1, e_152_1_2, e_152_1_3, e_152_1_4, e_152_1_5, e_152_1_6, e_152_1_7, e_152_1_8, e_152_52, e_152_53, e_152_56, e_152_57, e_152_58, e_152_59, e_152_60, e_152_63, e_152_64, e_152_65, e_152_66, e_152_67, e_152_70, e_152_71, e_152_72, e_152_73, e_152_74, e_152_77, e_152_78, e_152_79, e_152_80, e_152_81, e_152_84, e_152_85, e_152_86, e_152_89, e_152_90, e_152_91, e_152_94, e_152_95, e_152_96, e_152_99, e_152_100, e_152_101, e_152_104, e_152_105, e_152_106, e_152_109, e_152_110, e_152_111, nl_int, nl_ref, nl_none, cat_int, cat_ref, cat_0, cat_i, cat_r, cat_l, Option.elim_some, Option.elim_none, Option.bind_some, Option.bind_none, Option.toList_some, Option.toList_none, List.cons_append, List.nil_append, Nat.reduceAdd, Nat.reduceLeDiff, if_true, wD_f13 hl, hj.2.2.2.2.2.1.1]
              · rw [if_neg y6]
                by_cases y7 : y = 7
                · subst y7
                  simp (maxSteps := 1000000) (disch := first | exact nl_int | exact nl_ref | exact nl_none | exact Nat.le_of_ble_eq_true rfl | assumption | exact wD_cl (by assumption) | exact cat_int | exact cat_ref | exact z2 | exact z4 | exact z3 | exact z5 | exact z6 | exact z8 | exact z64) only [e_152_0, e_152_1_0, e_152_1_1, e_152_1_2, e_152_1_3, e_152_1_4, e_152_1_5, e_152_1_6, e_152_1_7, e_152_1_8, e_152_52, e_152_53, e_152_56, e_152_57, e_152_58, e_152_59, e_152_60, e_152_63, e_152_64, e_152_65, e_152_66, e_152_67, e_152_70, e_152_71, e_152_72, e_152_73, e_152_74, e_152_77, e_152_78, e_152_79, e_152_80, e_152_81, e_152_84, e_152_85, e_152_86, e_152_89, e_152_90, e_152_91, e_152_94, e_152_95, e_152_96, e_152_99, e_152_100, e_152_101, e_152_104, e_152_105, e_152_106, e_152_109, e_152_110, e_152_111, nl_int, nl_ref, nl_none, cat_int, cat_ref, cat_0, cat_i, cat_r, cat_l, Option.elim_some, Option.elim_none, Option.bind_some, Option.bind_none, Option.toList_some, Option.toList_none, List.cons_append, List.nil_append, Nat.reduceAdd, Nat.reduceLeDiff, if_true, wD_f22 hl, hj.2.2.2.2.2.2.1]
                · rw [if_neg y7]
                  by_cases y8 : y = 8
                  · subst y8
                    simp (maxSteps := 1000000) (disch := first | exact nl_int | exact nl_ref | exact nl_none | exact Nat.le_of_ble_eq_true rfl | assumption | exact wD_cl (by assumption) | exact cat_int | exact cat_ref | exact z2 | exact z4 | exact z3 | exact z5 | exact z6 | exact z8 | exact z64) only [e_152_0, e_152_1_0, e_152_1_1, e_152_1_2, e_152_1_3, e_152_1_4, e_152_1_5, e_152_1_6, e_152_1_7, e_152_1_8, e_152_52, e_152_53, e_152_56, e_152_57, e_152_58, e_152_59, e_152_60, e_152_63, e_152_64, e_152_65, e_152_66, e_152_67, e_152_70, e_152_71, e_152_72, e_152_73, e_152_74, e_152_77, e_152_78, e_152_79, e_152_80, e_152_81, e_152_84, e_152_85, e_152_86, e_152_89, e_152_90, e_152_91, e_152_94, e_152_95, e_152_96, e_152_99, e_152_100, e_152_101, e_152_104, e_152_105, e_152_106, e_152_109, e_152_110, e_152_111, nl_int, nl_ref, nl_none, cat_int, cat_ref, cat_0, cat_i, cat_r, cat_l, Option.elim_some, Option.elim_none, Option.bind_some, Option.bind_none, Option.toList_some, Option.toList_none, List.cons_append, List.nil_append, Nat.reduceAdd, Nat.reduceLeDiff, if_true, wD_f3 hl, hj.2.2.2.1.1]
                  · rw [if_neg y8]
                    have so : (y.toInt < 0 ∨ 8 < y.toInt) = True := sw_o (n := 8) rfl (fun j hj => by
                      match j, hj with
                      | 0, _ => exact y0
                      | 1, _ => exact y1
                      | 2, _ => exact y2
                      | 3, _ => exact y3
                      | 4, _ => exact y4
                      | 5, _ => exact y5
                      | 6, _ => exact y6
                      | 7, _ => exact y7
                      | 8, _ => exact y8)
                    simp (maxSteps := 1000000) (disch := first | exact nl_int | exact nl_ref | exact nl_none | exact Nat.le_of_ble_eq_true rfl | assumption | exact wD_cl (by assumption) | exact cat_int | exact cat_ref | exact z2 | exact z4 | exact z3 | exact z5 | exact z6 | exact z8 | exact z64) only [e_152_0, e_152_1_0, e_152_1_1, e_152_1_2, e_152_1_3, e_152_1_4, e_152_1_5, e_152_1_6, e_152_1_7, e_152_1_8, e_152_52, e_152_53, e_152_56, e_152_57, e_152_58, e_152_59, e_152_60, e_152_63, e_152_64, e_152_65, e_152_66, e_152_67, e_152_70, e_152_71, e_152_72, e_152_73, e_152_74, e_152_77, e_152_78, e_152_79, e_152_80, e_152_81, e_152_84, e_152_85, e_152_86, e_152_89, e_152_90, e_152_91, e_152_94, e_152_95, e_152_96, e_152_99, e_152_100, e_152_101, e_152_104, e_152_105, e_152_106, e_152_109, e_152_110, e_152_111, nl_int, nl_ref, nl_none, cat_int, cat_ref, cat_0, cat_i, cat_r, cat_l, Option.elim_some, Option.elim_none, Option.bind_some, Option.bind_none, Option.toList_some, Option.toList_none, List.cons_append, List.nil_append, Nat.reduceAdd, Nat.reduceLeDiff, e_152_1_o so]
theorem s7_first (hl : 154 < hp.length) (h9 : hr ≤ 999) {all : Int32} : ∀ n j I A, j + n = 31 → Ok7 A ct nw hr → ∃ I2 A2, Si I I2 ∧ aOK A2 ∧ Sq A A2 ∧ am_E (d + 12) 134 13 [some (.ref 141), some (.int all), some (.int (nI j))] [] (wD hp I A) = some (some (.int (aFirst ct hr all n j (mOn ct hr j nw))), wD hp I2 A2) := by
  intro n
  induction n with
  | zero =>
    intro j I A hj ok
    refine ⟨I, A, Si.rfl', ok.1, Sq.rfl', ?_⟩
    rw [e_134_13, aFirst]
    simp (maxSteps := 1000000) (disch := first | exact nl_int | exact nl_ref | exact nl_none | exact Nat.le_of_ble_eq_true rfl | assumption | exact wD_cl (by assumption) | exact cat_int | exact cat_ref | exact z2 | exact z4 | exact z3 | exact z5 | exact z6 | exact z8 | exact z64) only [e_134_0, e_134_1, e_134_2, e_134_5, e_134_6, e_134_7, e_134_8, e_134_9, e_134_10, e_134_11, e_134_12, e_134_14, e_134_16, e_134_19, e_134_20, e_134_21, e_134_24, e_134_25, e_134_28, e_134_29, e_134_32, e_134_33, e_134_34, e_134_37, e_134_40, e_134_42, nl_int, nl_ref, nl_none, cat_int, cat_ref, cat_0, cat_i, cat_r, cat_l, Option.elim_some, Option.elim_none, Option.bind_some, Option.bind_none, Option.toList_some, Option.toList_none, List.cons_append, List.nil_append, Nat.reduceAdd, Nat.reduceLeDiff, ltF (x := 31) (c := 31) rfl (show 31 ≤ j by omega) (by omega), if_false]
  | succ n ih =>
    intro j I A hj ok
    obtain ⟨I2, A2, s1, a2, s2, hL, eb⟩ := s7_burnsIn (d := d + 5) (I := I) hl ok (n := j) (by omega) (by omega)
    have ok2 := ok.sq a2 s2
    have c0 := wD_cl (I := I) (A := A) hl
    have ea := s7_ali (d := d + 11) (I := I2) hl ok2 hL
    rw [aFirst]
    by_cases q : cLit ct (mOn ct hr j nw) (cTalk ct (mOn ct hr j nw) (hr + j)) = all
    · rw [if_pos q]
      obtain ⟨I3, A3, t1, a3, t2, e3⟩ := ih (j + 1) I2 A2 (by omega) ok2
      have em : mOn ct hr (j + 1) nw = goF ct hr j (mOn ct hr j nw) := mOn_succ
      rw [em] at e3
      refine ⟨I3, A3, s1.trans t1, a3, s2.trans t2, ?_⟩
      rw [e_134_13, ← e3]
      simp (maxSteps := 1000000) (disch := first | exact nl_int | exact nl_ref | exact nl_none | exact Nat.le_of_ble_eq_true rfl | assumption | exact wD_cl (by assumption) | exact cat_int | exact cat_ref | exact z2 | exact z4 | exact z3 | exact z5 | exact z6 | exact z8 | exact z64) only [e_134_0, e_134_1, e_134_2, e_134_5, e_134_6, e_134_7, e_134_8, e_134_9, e_134_10, e_134_11, e_134_12, e_134_14, e_134_16, e_134_19, e_134_20, e_134_21, e_134_24, e_134_25, e_134_28, e_134_29, e_134_32, e_134_33, e_134_34, e_134_37, e_134_40, e_134_42, nl_int, nl_ref, nl_none, cat_int, cat_ref, cat_0, cat_i, cat_r, cat_l, Option.elim_some, Option.elim_none, Option.bind_some, Option.bind_none, Option.toList_some, Option.toList_none, List.cons_append, List.nil_append, Nat.reduceAdd, Nat.reduceLeDiff, ltT (x := 31) (c := 31) rfl (show j < 31 by omega) (by omega), if_true, eb, ea, if_pos q, nI_1]
    · rw [if_neg q]
      refine ⟨I2, A2, s1, a2, s2, ?_⟩
      rw [e_134_13]
      simp (maxSteps := 1000000) (disch := first | exact nl_int | exact nl_ref | exact nl_none | exact Nat.le_of_ble_eq_true rfl | assumption | exact wD_cl (by assumption) | exact cat_int | exact cat_ref | exact z2 | exact z4 | exact z3 | exact z5 | exact z6 | exact z8 | exact z64) only [e_134_0, e_134_1, e_134_2, e_134_5, e_134_6, e_134_7, e_134_8, e_134_9, e_134_10, e_134_11, e_134_12, e_134_14, e_134_16, e_134_19, e_134_20, e_134_21, e_134_24, e_134_25, e_134_28, e_134_29, e_134_32, e_134_33, e_134_34, e_134_37, e_134_40, e_134_42, nl_int, nl_ref, nl_none, cat_int, cat_ref, cat_0, cat_i, cat_r, cat_l, Option.elim_some, Option.elim_none, Option.bind_some, Option.bind_none, Option.toList_some, Option.toList_none, List.cons_append, List.nil_append, Nat.reduceAdd, Nat.reduceLeDiff, ltT (x := 31) (c := 31) rfl (show j < 31 by omega) (by omega), if_true, eb, ea, if_neg q]
theorem p_first (hJ : JJ hp) : Pr d 60 [some (.ref 0), none, none, none] 134 [some (.ref 141), none, none] hp := by
  obtain ⟨hl, tx, ct, nw, pm, pn, ph, km, kc, sH, sL, sc, hr, I, A, hS, hD, hj⟩ := hJ
  have ok := hj.1
  refine Pr_ask hl hD hj (s_first hS ok.2.2.2.2.2.2 hj.2.1) (fun hp hl => ?_)
  obtain ⟨I2, A2, s1, a2, s2, e⟩ := s7_first (d := d) (all := (1 : Int32) <<< (nI (cWk ct) &&& 31) - 1) hl hj.2.1 31 0 I A rfl ok
  refine ⟨I2, A2, s1, a2, s2, ?_⟩
  rw [show mOn ct hr 0 nw = nw from rfl, show nI 0 = 0 from rfl] at e
  simp (maxSteps := 1000000) (disch := first | exact nl_int | exact nl_ref | exact nl_none | exact Nat.le_of_ble_eq_true rfl | assumption | exact wD_cl (by assumption) | exact cat_int | exact cat_ref | exact z2 | exact z4 | exact z3 | exact z5 | exact z6 | exact z8 | exact z64) only [e_134_0, e_134_1, e_134_2, e_134_5, e_134_6, e_134_7, e_134_8, e_134_9, e_134_10, e_134_11, e_134_12, e_134_14, e_134_16, e_134_19, e_134_20, e_134_21, e_134_24, e_134_25, e_134_28, e_134_29, e_134_32, e_134_33, e_134_34, e_134_37, e_134_40, e_134_42, nl_int, nl_ref, nl_none, cat_int, cat_ref, cat_0, cat_i, cat_r, cat_l, Option.elim_some, Option.elim_none, Option.bind_some, Option.bind_none, Option.toList_some, Option.toList_none, List.cons_append, List.nil_append, Nat.reduceAdd, Nat.reduceLeDiff, wD_f0 hl, ok.lwk hl, e]
theorem p_reach (hJ : JJ hp) : Pr d 59 [some (.ref 0), some (.int x), none, none, none] 133 [some (.ref 141), some (.int x), none, none] hp := by
  obtain ⟨hl, tx, ct, nw, pm, pn, ph, km, kc, sH, sL, sc, hr, I, A, hS, hD, hj⟩ := hJ
  have ok := hj.1
  have h999 := hj.2.1
  have h5 := ok.h5
  cases q : inR x (cHs ct) with
  | false =>
    refine Pr_ask hl hD hj (Run.same hS (s_reach0 hS q)) (fun hp hl => Ask.same ok.1 ?_)
    simp (maxSteps := 1000000) (disch := first | exact nl_int | exact nl_ref | exact nl_none | exact Nat.le_of_ble_eq_true rfl | assumption | exact wD_cl (by assumption) | exact cat_int | exact cat_ref | exact z2 | exact z4 | exact z3 | exact z5 | exact z6 | exact z8 | exact z64) only [e_133_0, e_133_1, e_133_2, e_133_5, e_133_8, e_133_9, e_133_10, e_133_11, e_133_12, e_133_15, e_133_18, e_133_19, e_133_20, e_133_21, e_133_23, e_133_24, e_133_27, e_133_28, e_133_29, e_133_32, e_133_33, e_133_36, e_133_37, e_133_38, e_133_41, e_133_42, e_133_43, e_133_44, e_133_45, e_133_46, e_133_47, e_133_50, e_133_53, e_133_54, e_133_56, e_133_59, e_133_60, e_133_63, e_133_64, e_133_65, e_133_68, e_133_69, e_133_70, e_133_71, e_133_72, e_133_73, e_133_74, e_133_77, e_133_80, e_133_81, nl_int, nl_ref, nl_none, cat_int, cat_ref, cat_0, cat_i, cat_r, cat_l, Option.elim_some, Option.elim_none, Option.bind_some, Option.bind_none, Option.toList_some, Option.toList_none, List.cons_append, List.nil_append, Nat.reduceAdd, Nat.reduceLeDiff, s7_ih0 (d := d + 10) hl ok q, z0, if_true]
  | true =>
    obtain ⟨i, hi, rfl⟩ := inR_t q (by omega)
    refine Pr_ask hl hD hj (Run.same hS (s_reach1 hS ok.2.2.2.2.2.2 (by omega) hi)) (fun hp hl => ?_)
    obtain ⟨D, hDl, hL, eb⟩ := s7_bu (d := d + 8) (I := I) hl ok (ok.tk (m := nw) (r := hr))
    have hA2 : aOK (updA A 5 D) := updA_ok ok.1 hDl
    have ok2 : Ok7 (updA A 5 D) ct nw hr := ok.sq hA2 (Sq.upd (k := 5) (by omega))
    have bit : ∀ k, k < cHs ct → ((cDark ct nw (cTalk ct nw hr) >>> (nI k &&& 31)) &&& 1 = 1 ↔ mLight nw (nI k) (cTalk ct nw hr) = 0) := fun k hk => by
      rw [cDark_smk h5, smk_bit (by omega), decide_eq_true hk, Bool.true_and, decide_eq_true_iff]
    obtain ⟨J, eJ⟩ : ∃ J, J = updI I 10 (smk (fun h => mSmoke nw (nI h) (cTalk ct nw hr))) := ⟨_, rfl⟩
    rw [← eJ] at eb
    have lx : ∀ k, k < 5 → am_ld (wD hp J (updA A 5 D)) 147 (nI k) = some (mLight nw (nI k) (cTalk ct nw hr)) := fun k hk => by
      rw [wD_l5 (k := k) rfl hl hA2 hk, ← hL k hk]
      rfl
    have up : ∀ n k r, k + n = cHs ct → ∃ l3, am_E (d + 12) 133 22 [some (.ref 141), some (.int (nI i)), some (.int r), some (.int (nI k))] [] (wD hp J (updA A 5 D)) = am_E (d + 12) 133 53 [some (.ref 141), some (.int (nI i)), some (.int (aUp (cDark ct nw (cTalk ct nw hr)) n k r)), l3] [] (wD hp J (updA A 5 D)) := by
      intro n
      induction n with
      | zero =>
        intro k r hk
        refine ⟨some (.int (nI k)), ?_⟩
        rw [e_133_22, aUp]
        simp (maxSteps := 1000000) (disch := first | exact nl_int | exact nl_ref | exact nl_none | exact Nat.le_of_ble_eq_true rfl | assumption | exact wD_cl (by assumption) | exact cat_int | exact cat_ref | exact z2 | exact z4 | exact z3 | exact z5 | exact z6 | exact z8 | exact z64) only [e_133_0, e_133_1, e_133_2, e_133_5, e_133_8, e_133_9, e_133_10, e_133_11, e_133_12, e_133_15, e_133_18, e_133_19, e_133_20, e_133_21, e_133_23, e_133_24, e_133_27, e_133_28, e_133_29, e_133_32, e_133_33, e_133_36, e_133_37, e_133_38, e_133_41, e_133_42, e_133_43, e_133_44, e_133_45, e_133_46, e_133_47, e_133_50, e_133_54, e_133_56, e_133_59, e_133_60, e_133_63, e_133_64, e_133_65, e_133_68, e_133_69, e_133_70, e_133_71, e_133_72, e_133_73, e_133_74, e_133_77, e_133_80, e_133_81, nl_int, nl_ref, nl_none, cat_int, cat_ref, cat_0, cat_i, cat_r, cat_l, Option.elim_some, Option.elim_none, Option.bind_some, Option.bind_none, Option.toList_some, Option.toList_none, List.cons_append, List.nil_append, Nat.reduceAdd, Nat.reduceLeDiff, wD_f0 hl, ok2.lhs hl, ltF (x := nI (cHs ct)) (c := cHs ct) rfl (show cHs ct ≤ k by omega) (by omega), if_false]
      | succ n ih =>
        intro k r hk
        have k1 : k < cHs ct := by omega
        rw [aUp]
        by_cases w : mLight nw (nI k) (cTalk ct nw hr) = 0
        · obtain ⟨l3, e⟩ := ih (k + 1) (r ||| ((1 : Int32) <<< (nI k &&& 31))) (by omega)
          refine ⟨l3, ?_⟩
          rw [if_pos ((bit k k1).mpr w), ← e, e_133_22]
          simp (maxSteps := 1000000) (disch := first | exact nl_int | exact nl_ref | exact nl_none | exact Nat.le_of_ble_eq_true rfl | assumption | exact wD_cl (by assumption) | exact cat_int | exact cat_ref | exact z2 | exact z4 | exact z3 | exact z5 | exact z6 | exact z8 | exact z64) only [e_133_0, e_133_1, e_133_2, e_133_5, e_133_8, e_133_9, e_133_10, e_133_11, e_133_12, e_133_15, e_133_18, e_133_19, e_133_20, e_133_21, e_133_23, e_133_24, e_133_27, e_133_28, e_133_29, e_133_32, e_133_33, e_133_36, e_133_37, e_133_38, e_133_41, e_133_42, e_133_43, e_133_44, e_133_45, e_133_46, e_133_47, e_133_50, e_133_54, e_133_56, e_133_59, e_133_60, e_133_63, e_133_64, e_133_65, e_133_68, e_133_69, e_133_70, e_133_71, e_133_72, e_133_73, e_133_74, e_133_77, e_133_80, e_133_81, nl_int, nl_ref, nl_none, cat_int, cat_ref, cat_0, cat_i, cat_r, cat_l, Option.elim_some, Option.elim_none, Option.bind_some, Option.bind_none, Option.toList_some, Option.toList_none, List.cons_append, List.nil_append, Nat.reduceAdd, Nat.reduceLeDiff, wD_f0 hl, ok2.lhs hl, ltT (x := nI (cHs ct)) (c := cHs ct) rfl k1 (by omega), if_true, wD_f9 hl, lx k (by omega), if_pos w, nI_1]
        · refine ⟨some (.int (nI k)), ?_⟩
          rw [if_neg (fun z => w ((bit k k1).mp z)), e_133_22]
          simp (maxSteps := 1000000) (disch := first | exact nl_int | exact nl_ref | exact nl_none | exact Nat.le_of_ble_eq_true rfl | assumption | exact wD_cl (by assumption) | exact cat_int | exact cat_ref | exact z2 | exact z4 | exact z3 | exact z5 | exact z6 | exact z8 | exact z64) only [e_133_0, e_133_1, e_133_2, e_133_5, e_133_8, e_133_9, e_133_10, e_133_11, e_133_12, e_133_15, e_133_18, e_133_19, e_133_20, e_133_21, e_133_23, e_133_24, e_133_27, e_133_28, e_133_29, e_133_32, e_133_33, e_133_36, e_133_37, e_133_38, e_133_41, e_133_42, e_133_43, e_133_44, e_133_45, e_133_46, e_133_47, e_133_50, e_133_54, e_133_56, e_133_59, e_133_60, e_133_63, e_133_64, e_133_65, e_133_68, e_133_69, e_133_70, e_133_71, e_133_72, e_133_73, e_133_74, e_133_77, e_133_80, e_133_81, nl_int, nl_ref, nl_none, cat_int, cat_ref, cat_0, cat_i, cat_r, cat_l, Option.elim_some, Option.elim_none, Option.bind_some, Option.bind_none, Option.toList_some, Option.toList_none, List.cons_append, List.nil_append, Nat.reduceAdd, Nat.reduceLeDiff, wD_f0 hl, ok2.lhs hl, ltT (x := nI (cHs ct)) (c := cHs ct) rfl k1 (by omega), if_true, wD_f9 hl, lx k (by omega), if_neg w]
    have dn : ∀ n r, n ≤ cHs ct → am_E (d + 12) 133 55 [some (.ref 141), some (.int (nI i)), some (.int r), some (.int (opD n))] [] (wD hp J (updA A 5 D)) = some (some (.int (aDn (cDark ct nw (cTalk ct nw hr)) n r)), wD hp J (updA A 5 D)) := by
      intro n
      induction n with
      | zero =>
        intro r hn
        rw [e_133_55, aDn]
        simp (maxSteps := 1000000) (disch := first | exact nl_int | exact nl_ref | exact nl_none | exact Nat.le_of_ble_eq_true rfl | assumption | exact wD_cl (by assumption) | exact cat_int | exact cat_ref | exact z2 | exact z4 | exact z3 | exact z5 | exact z6 | exact z8 | exact z64) only [e_133_0, e_133_1, e_133_2, e_133_5, e_133_8, e_133_9, e_133_10, e_133_11, e_133_12, e_133_15, e_133_18, e_133_19, e_133_20, e_133_21, e_133_23, e_133_24, e_133_27, e_133_28, e_133_29, e_133_32, e_133_33, e_133_36, e_133_37, e_133_38, e_133_41, e_133_42, e_133_43, e_133_44, e_133_45, e_133_46, e_133_47, e_133_50, e_133_53, e_133_54, e_133_56, e_133_59, e_133_60, e_133_63, e_133_64, e_133_65, e_133_68, e_133_69, e_133_70, e_133_71, e_133_72, e_133_73, e_133_74, e_133_77, e_133_80, e_133_81, nl_int, nl_ref, nl_none, cat_int, cat_ref, cat_0, cat_i, cat_r, cat_l, Option.elim_some, Option.elim_none, Option.bind_some, Option.bind_none, Option.toList_some, Option.toList_none, List.cons_append, List.nil_append, Nat.reduceAdd, Nat.reduceLeDiff, opD_0, if_true]
      | succ n ih =>
        intro r hn
        have n1 : n < cHs ct := by omega
        rw [aDn, opD_s]
        by_cases w : mLight nw (nI n) (cTalk ct nw hr) = 0
        · rw [if_pos ((bit n n1).mpr w), ← ih _ (by omega), e_133_55]
          simp (maxSteps := 1000000) (disch := first | exact nl_int | exact nl_ref | exact nl_none | exact Nat.le_of_ble_eq_true rfl | assumption | exact wD_cl (by assumption) | exact cat_int | exact cat_ref | exact z2 | exact z4 | exact z3 | exact z5 | exact z6 | exact z8 | exact z64) only [e_133_0, e_133_1, e_133_2, e_133_5, e_133_8, e_133_9, e_133_10, e_133_11, e_133_12, e_133_15, e_133_18, e_133_19, e_133_20, e_133_21, e_133_23, e_133_24, e_133_27, e_133_28, e_133_29, e_133_32, e_133_33, e_133_36, e_133_37, e_133_38, e_133_41, e_133_42, e_133_43, e_133_44, e_133_45, e_133_46, e_133_47, e_133_50, e_133_53, e_133_54, e_133_56, e_133_59, e_133_60, e_133_63, e_133_64, e_133_65, e_133_68, e_133_69, e_133_70, e_133_71, e_133_72, e_133_73, e_133_74, e_133_77, e_133_80, e_133_81, nl_int, nl_ref, nl_none, cat_int, cat_ref, cat_0, cat_i, cat_r, cat_l, Option.elim_some, Option.elim_none, Option.bind_some, Option.bind_none, Option.toList_some, Option.toList_none, List.cons_append, List.nil_append, Nat.reduceAdd, Nat.reduceLeDiff, ngF (show n < 2 ^ 31 by omega), if_false, wD_f9 hl, lx n (by omega), if_pos w]
          rfl
        · rw [if_neg (fun z => w ((bit n n1).mp z)), e_133_55]
          simp (maxSteps := 1000000) (disch := first | exact nl_int | exact nl_ref | exact nl_none | exact Nat.le_of_ble_eq_true rfl | assumption | exact wD_cl (by assumption) | exact cat_int | exact cat_ref | exact z2 | exact z4 | exact z3 | exact z5 | exact z6 | exact z8 | exact z64) only [e_133_0, e_133_1, e_133_2, e_133_5, e_133_8, e_133_9, e_133_10, e_133_11, e_133_12, e_133_15, e_133_18, e_133_19, e_133_20, e_133_21, e_133_23, e_133_24, e_133_27, e_133_28, e_133_29, e_133_32, e_133_33, e_133_36, e_133_37, e_133_38, e_133_41, e_133_42, e_133_43, e_133_44, e_133_45, e_133_46, e_133_47, e_133_50, e_133_53, e_133_54, e_133_56, e_133_59, e_133_60, e_133_63, e_133_64, e_133_65, e_133_68, e_133_69, e_133_70, e_133_71, e_133_72, e_133_73, e_133_74, e_133_77, e_133_80, e_133_81, nl_int, nl_ref, nl_none, cat_int, cat_ref, cat_0, cat_i, cat_r, cat_l, Option.elim_some, Option.elim_none, Option.bind_some, Option.bind_none, Option.toList_some, Option.toList_none, List.cons_append, List.nil_append, Nat.reduceAdd, Nat.reduceLeDiff, ngF (show n < 2 ^ 31 by omega), if_false, wD_f9 hl, lx n (by omega), if_neg w]
    obtain ⟨l3, e1⟩ := up (cHs ct - i) i 0 (by omega)
    have e2 := dn (i + 1) (aUp (cDark ct nw (cTalk ct nw hr)) (cHs ct - i) i 0) (by omega)
    rw [opD_s] at e2
    refine ⟨J, updA A 5 D, by rw [eJ]; exact Si.upd (k := 10) (by omega), hA2, Sq.upd (k := 5) (by omega), ?_⟩
    by_cases ln : am_nl1 l3 = true
    all_goals
      have e3 : am_E (d + 12) 133 53 [some (.ref 141), some (.int (nI i)), some (.int (aUp (cDark ct nw (cTalk ct nw hr)) (cHs ct - i) i 0)), l3] [] (wD hp J (updA A 5 D)) = am_E (d + 12) 133 55 [some (.ref 141), some (.int (nI i)), some (.int (aUp (cDark ct nw (cTalk ct nw hr)) (cHs ct - i) i 0)), some (.int (nI i))] [] (wD hp J (updA A 5 D)) := by
        simp (maxSteps := 1000000) (disch := first | exact nl_int | exact nl_ref | exact nl_none | exact Nat.le_of_ble_eq_true rfl | assumption | exact wD_cl (by assumption) | exact cat_int | exact cat_ref | exact z2 | exact z4 | exact z3 | exact z5 | exact z6 | exact z8 | exact z64) only [e_133_0, e_133_1, e_133_2, e_133_5, e_133_8, e_133_9, e_133_10, e_133_11, e_133_12, e_133_15, e_133_18, e_133_19, e_133_20, e_133_21, e_133_23, e_133_24, e_133_27, e_133_28, e_133_29, e_133_32, e_133_33, e_133_36, e_133_37, e_133_38, e_133_41, e_133_42, e_133_43, e_133_44, e_133_45, e_133_46, e_133_47, e_133_50, e_133_53, e_133_54, e_133_56, e_133_59, e_133_60, e_133_63, e_133_64, e_133_65, e_133_68, e_133_69, e_133_70, e_133_71, e_133_72, e_133_73, e_133_74, e_133_77, e_133_80, e_133_81, nl_int, nl_ref, nl_none, cat_int, cat_ref, cat_0, cat_i, cat_r, cat_l, Option.elim_some, Option.elim_none, Option.bind_some, Option.bind_none, Option.toList_some, Option.toList_none, List.cons_append, List.nil_append, Nat.reduceAdd, Nat.reduceLeDiff]
      simp (maxSteps := 1000000) (disch := first | exact nl_int | exact nl_ref | exact nl_none | exact Nat.le_of_ble_eq_true rfl | assumption | exact wD_cl (by assumption) | exact cat_int | exact cat_ref | exact z2 | exact z4 | exact z3 | exact z5 | exact z6 | exact z8 | exact z64) only [e_133_0, e_133_1, e_133_2, e_133_5, e_133_8, e_133_9, e_133_10, e_133_11, e_133_12, e_133_15, e_133_18, e_133_19, e_133_20, e_133_21, e_133_23, e_133_24, e_133_27, e_133_28, e_133_29, e_133_32, e_133_33, e_133_36, e_133_37, e_133_38, e_133_41, e_133_42, e_133_43, e_133_44, e_133_45, e_133_46, e_133_47, e_133_50, e_133_53, e_133_54, e_133_56, e_133_59, e_133_60, e_133_63, e_133_64, e_133_65, e_133_68, e_133_69, e_133_70, e_133_71, e_133_72, e_133_73, e_133_74, e_133_77, e_133_80, e_133_81, nl_int, nl_ref, nl_none, cat_int, cat_ref, cat_0, cat_i, cat_r, cat_l, Option.elim_some, Option.elim_none, Option.bind_some, Option.bind_none, Option.toList_some, Option.toList_none, List.cons_append, List.nil_append, Nat.reduceAdd, Nat.reduceLeDiff, s7_ih1 (d := d + 10) hl ok hi, z1, if_false, s7_tk (d := d + 11) hl ok (by omega), eb, e1, e3, e2]
theorem mPc_iff {m : am_Mo} {t : Int32} : ∀ n i, mPc m t n i = true ↔ ∀ k, i ≤ k → k < i + n → mFoes m k t = 0 := by
  intro n
  induction n with
  | zero => intro i; exact ⟨fun _ k h1 h2 => by omega, fun _ => rfl⟩
  | succ n ih =>
    intro i
    rw [mPc]
    by_cases q : mFoes m i t = 0
    · rw [if_pos q, ih]
      constructor
      · intro w k h1 h2
        by_cases e : k = i
        · rw [e]; exact q
        · exact w k (by omega) (by omega)
      · intro w k h1 h2
        exact w k (by omega) (by omega)
    · rw [if_neg q]
      constructor
      · intro w; cases w
      · intro w; exact absurd (w i (by omega) (by omega)) q
theorem mPc_pp (hN : Nm ct nw) : mPc nw t 8 0 = true ↔ ∀ k, k < cPp ct → mFoes nw k t = 0 := by
  rw [mPc_iff]
  constructor
  · intro w k h1
    exact w k (by omega) (by have := hN.2.2.1; omega)
  · intro w k _ h2
    by_cases q : k < cPp ct
    · exact w k q
    · unfold mFoes
      exact am_for_id _ _ _ (fun j s _ _ => by
        unfold mFoe
        rw [tog_none hN (by omega) (by omega)]
        split
        · rfl
        · rw [if_pos rfl])
theorem s7_any (hl : 154 < hp.length) (ok : Ok7 A ct nw hr) {W : List Int32} (hW : W.length = 8) {l1 l2 : Option Value} (hn2 : am_nl1 l2 = true) : ∀ n i s, i + n = cPp ct → ∃ s2, (s2 = 0 ↔ s = 0 ∧ ∀ k, i ≤ k → k < cPp ct → W.getD k 0 = 0) ∧ am_E (d + 12) 141 40 [some (.ref 141), l1, l2, some (.int s), some (.int (nI i))] [] (wD hp I (updA A 6 W)) = am_E (d + 12) 141 67 [some (.ref 141), l1, l2, some (.int s2), some (.int (nI (cPp ct)))] [] (wD hp I (updA A 6 W)) := by
  have hA2 : aOK (updA A 6 W) := updA_ok ok.1 hW
  have ok2 : Ok7 (updA A 6 W) ct nw hr := ok.sq hA2 (Sq.upd (k := 6) (by omega))
  have p8 := ok.p8
  intro n
  induction n with
  | zero =>
    intro i s hi
    obtain rfl : i = cPp ct := by omega
    refine ⟨s, ⟨fun q => ⟨q, fun k h1 h2 => by omega⟩, fun q => q.1⟩, ?_⟩
    rw [e_141_40]
    simp (maxSteps := 1000000) (disch := first | exact nl_int | exact nl_ref | exact nl_none | exact Nat.le_of_ble_eq_true rfl | assumption | exact wD_cl (by assumption) | exact cat_int | exact cat_ref | exact z2 | exact z4 | exact z3 | exact z5 | exact z6 | exact z8 | exact z64) only [e_141_0, e_141_1, e_141_4, e_141_6, e_141_7, e_141_8, e_141_10, e_141_12, e_141_15, e_141_16, e_141_18, e_141_21, e_141_22, e_141_23, e_141_26, e_141_29, e_141_30, e_141_32, e_141_35, e_141_36, e_141_37, e_141_38, e_141_42, e_141_43, e_141_46, e_141_47, e_141_48, e_141_51, e_141_52, e_141_53, e_141_56, e_141_58, e_141_59, e_141_60, e_141_61, e_141_64, e_141_68, e_141_71, e_141_72, e_141_75, e_141_76, e_141_77, e_141_80, e_141_83, e_141_84, e_141_87, e_141_88, nl_int, nl_ref, nl_none, cat_int, cat_ref, cat_0, cat_i, cat_r, cat_l, Option.elim_some, Option.elim_none, Option.bind_some, Option.bind_none, Option.toList_some, Option.toList_none, List.cons_append, List.nil_append, Nat.reduceAdd, Nat.reduceLeDiff, wD_f1 hl, ok2.lp hl, ltF (x := nI (cPp ct)) (c := cPp ct) rfl (Nat.le_refl _) (by omega), if_false]
  | succ n ih =>
    intro i s hi
    have lw : am_ld (wD hp I (updA A 6 W)) 148 (nI i) = some (W.getD i 0) := by
      rw [wD_l6 (k := i) rfl hl hA2 (by omega)]
      rfl
    obtain ⟨s2, q1, q2⟩ := ih (i + 1) (s ||| W.getD i 0) (by omega)
    refine ⟨s2, ?_, ?_⟩
    · rw [q1, i32_or0]
      constructor
      · rintro ⟨⟨a1, a2⟩, a3⟩
        refine ⟨a1, fun k h1 h2 => ?_⟩
        by_cases e : k = i
        · rw [e]; exact a2
        · exact a3 k (by omega) h2
      · rintro ⟨a1, a2⟩
        exact ⟨⟨a1, a2 i (by omega) (by omega)⟩, fun k h1 h2 => a2 k (by omega) h2⟩
    · rw [← q2, e_141_40]
      simp (maxSteps := 1000000) (disch := first | exact nl_int | exact nl_ref | exact nl_none | exact Nat.le_of_ble_eq_true rfl | assumption | exact wD_cl (by assumption) | exact cat_int | exact cat_ref | exact z2 | exact z4 | exact z3 | exact z5 | exact z6 | exact z8 | exact z64) only [e_141_0, e_141_1, e_141_4, e_141_6, e_141_7, e_141_8, e_141_10, e_141_12, e_141_15, e_141_16, e_141_18, e_141_21, e_141_22, e_141_23, e_141_26, e_141_29, e_141_30, e_141_32, e_141_35, e_141_36, e_141_37, e_141_38, e_141_42, e_141_43, e_141_46, e_141_47, e_141_48, e_141_51, e_141_52, e_141_53, e_141_56, e_141_58, e_141_59, e_141_60, e_141_61, e_141_64, e_141_68, e_141_71, e_141_72, e_141_75, e_141_76, e_141_77, e_141_80, e_141_83, e_141_84, e_141_87, e_141_88, nl_int, nl_ref, nl_none, cat_int, cat_ref, cat_0, cat_i, cat_r, cat_l, Option.elim_some, Option.elim_none, Option.bind_some, Option.bind_none, Option.toList_some, Option.toList_none, List.cons_append, List.nil_append, Nat.reduceAdd, Nat.reduceLeDiff, wD_f1 hl, wD_f11 hl, ok2.lp hl, lw, ltT (x := nI (cPp ct)) (c := cPp ct) rfl (show i < cPp ct by omega) (by omega), if_true, nI_1]
theorem s7_settles (hl : 154 < hp.length) (h9 : hr ≤ 999) : ∀ n j A m l3 l4, j + n = 60 → Ok7 A ct m (hr + j) → ∃ A2, aOK A2 ∧ (∀ k, k ≠ 1 → k ≠ 6 → A2 k = A k) ∧ am_E (d + 12) 141 9 [some (.ref 141), some (.int (-4)), some (.int (nI (j + 1))), l3, l4] [] (wD hp I A) = some (some (.int (aSettles ct hr n j m)), wD hp I (updA A2 1 (A 8))) := by
  intro n
  induction n with
  | zero =>
    intro j A m l3 l4 hj ok
    refine ⟨A, ok.1, fun _ _ _ => rfl, ?_⟩
    rw [e_141_9, aSettles]
    simp (maxSteps := 1000000) (disch := first | exact nl_int | exact nl_ref | exact nl_none | exact Nat.le_of_ble_eq_true rfl | assumption | exact wD_cl (by assumption) | exact cat_int | exact cat_ref | exact z2 | exact z4 | exact z3 | exact z5 | exact z6 | exact z8 | exact z64) only [e_141_0, e_141_1, e_141_4, e_141_6, e_141_7, e_141_8, e_141_10, e_141_12, e_141_15, e_141_16, e_141_18, e_141_21, e_141_22, e_141_23, e_141_26, e_141_29, e_141_30, e_141_32, e_141_35, e_141_36, e_141_37, e_141_38, e_141_42, e_141_43, e_141_46, e_141_47, e_141_48, e_141_51, e_141_52, e_141_53, e_141_56, e_141_58, e_141_59, e_141_60, e_141_61, e_141_64, e_141_67, e_141_68, e_141_71, e_141_72, e_141_75, e_141_76, e_141_77, e_141_80, e_141_83, e_141_84, e_141_87, e_141_88, nl_int, nl_ref, nl_none, cat_int, cat_ref, cat_0, cat_i, cat_r, cat_l, Option.elim_some, Option.elim_none, Option.bind_some, Option.bind_none, Option.toList_some, Option.toList_none, List.cons_append, List.nil_append, Nat.reduceAdd, Nat.reduceLeDiff, ltF (x := 61) (c := 61) rfl (show 61 ≤ j + 1 by omega) (by omega), if_false, s7_backs (d := d + 11) hl ok.1]
  | succ n ih =>
    intro j A m l3 l4 hj ok
    have c0 := wD_cl (I := I) (A := A) hl
    have tk := s7_tk (d := d + 11) (I := I) hl ok (by omega)
    obtain ⟨A1, ok1, k1, e1⟩ := s7_go (d := d + 7) (I := I) hl ok (ok.tk (m := m) (r := hr + j))
    have eg : goF ct hr j m = mGo m (cTalk ct m (hr + j)) := rfl
    rw [← eg] at ok1
    obtain ⟨W, hW, hF, em⟩ := s7_me (d := d + 8) (I := I) hl ok1 (tk := 31) ⟨31, by decide, rfl⟩
    have hA2 : aOK (updA A1 6 W) := updA_ok ok1.1 hW
    have ok2 : Ok7 (updA A1 6 W) ct (goF ct hr j m) (hr + j + 1) := ok1.sq hA2 (Sq.upd (k := 6) (by omega))
    obtain ⟨s2, q1, q2⟩ := s7_any (d := d) (I := I) hl ok1 hW (l1 := some (.int (-4))) (l2 := some (.int (nI (j + 1)))) nl_int (cPp ct) 0 0 (Nat.zero_add _)
    rw [show nI 0 = 0 from rfl] at q2
    have hz : s2 = 0 ↔ mPc (goF ct hr j m) 31 8 0 = true := by
      rw [q1, mPc_pp ok1.2.2.1]
      constructor
      · rintro ⟨_, a2⟩ k hk
        rw [← hF k hk]; exact a2 k (by omega) hk
      · intro a2
        exact ⟨rfl, fun k _ hk => by rw [hF k hk]; exact a2 k hk⟩
    have k2 : ∀ k, k ≠ 1 → k ≠ 6 → updA A1 6 W k = A k := fun k h1 h6 => by rw [updA_n h6, k1 k h1 h6]
    rw [aSettles]
    cases q : mPc (goF ct hr j m) 31 8 0 with
    | true =>
      rw [if_pos rfl]
      have z0' : s2 = 0 := hz.mpr q
      refine ⟨updA A1 6 W, hA2, k2, ?_⟩
      have n4 : (nI (j + 1) = -4) = False := eq_false (fun w => nI_pos (show j + 1 < 2 ^ 31 by omega) (by rw [w]; decide))
      have fin : am_E (d + 12) 141 9 [some (.ref 141), some (.int (nI (j + 1))), some (.int (nI (j + 1 + 1))), some (.int s2), some (.int (nI (cPp ct)))] [] (wD hp I (updA A1 6 W)) = some (some (.int (nI (j + 1))), wD hp I (updA (updA A1 6 W) 1 (A 8))) := by
        rw [e_141_9, ← k2 8 (by decide) (by decide)]
        by_cases w : j + 1 + 1 < 61
        · simp (maxSteps := 1000000) (disch := first | exact nl_int | exact nl_ref | exact nl_none | exact Nat.le_of_ble_eq_true rfl | assumption | exact wD_cl (by assumption) | exact cat_int | exact cat_ref | exact z2 | exact z4 | exact z3 | exact z5 | exact z6 | exact z8 | exact z64) only [e_141_0, e_141_1, e_141_4, e_141_6, e_141_7, e_141_8, e_141_10, e_141_12, e_141_15, e_141_16, e_141_18, e_141_21, e_141_22, e_141_23, e_141_26, e_141_29, e_141_30, e_141_32, e_141_35, e_141_36, e_141_37, e_141_38, e_141_42, e_141_43, e_141_46, e_141_47, e_141_48, e_141_51, e_141_52, e_141_53, e_141_56, e_141_58, e_141_59, e_141_60, e_141_61, e_141_64, e_141_67, e_141_68, e_141_71, e_141_72, e_141_75, e_141_76, e_141_77, e_141_80, e_141_83, e_141_84, e_141_87, e_141_88, nl_int, nl_ref, nl_none, cat_int, cat_ref, cat_0, cat_i, cat_r, cat_l, Option.elim_some, Option.elim_none, Option.bind_some, Option.bind_none, Option.toList_some, Option.toList_none, List.cons_append, List.nil_append, Nat.reduceAdd, Nat.reduceLeDiff, ltT (x := 61) (c := 61) rfl w (by omega), if_true, n4, if_false, s7_backs (d := d + 11) hl hA2]
        · simp (maxSteps := 1000000) (disch := first | exact nl_int | exact nl_ref | exact nl_none | exact Nat.le_of_ble_eq_true rfl | assumption | exact wD_cl (by assumption) | exact cat_int | exact cat_ref | exact z2 | exact z4 | exact z3 | exact z5 | exact z6 | exact z8 | exact z64) only [e_141_0, e_141_1, e_141_4, e_141_6, e_141_7, e_141_8, e_141_10, e_141_12, e_141_15, e_141_16, e_141_18, e_141_21, e_141_22, e_141_23, e_141_26, e_141_29, e_141_30, e_141_32, e_141_35, e_141_36, e_141_37, e_141_38, e_141_42, e_141_43, e_141_46, e_141_47, e_141_48, e_141_51, e_141_52, e_141_53, e_141_56, e_141_58, e_141_59, e_141_60, e_141_61, e_141_64, e_141_67, e_141_68, e_141_71, e_141_72, e_141_75, e_141_76, e_141_77, e_141_80, e_141_83, e_141_84, e_141_87, e_141_88, nl_int, nl_ref, nl_none, cat_int, cat_ref, cat_0, cat_i, cat_r, cat_l, Option.elim_some, Option.elim_none, Option.bind_some, Option.bind_none, Option.toList_some, Option.toList_none, List.cons_append, List.nil_append, Nat.reduceAdd, Nat.reduceLeDiff, ltF (x := 61) (c := 61) rfl (show 61 ≤ j + 1 + 1 by omega) (by omega), if_false, s7_backs (d := d + 11) hl hA2]
      rw [← fin, e_141_9]
      simp (maxSteps := 1000000) (disch := first | exact nl_int | exact nl_ref | exact nl_none | exact Nat.le_of_ble_eq_true rfl | assumption | exact wD_cl (by assumption) | exact cat_int | exact cat_ref | exact z2 | exact z4 | exact z3 | exact z5 | exact z6 | exact z8 | exact z64) only [e_141_0, e_141_1, e_141_4, e_141_6, e_141_7, e_141_8, e_141_10, e_141_12, e_141_15, e_141_16, e_141_18, e_141_21, e_141_22, e_141_23, e_141_26, e_141_29, e_141_30, e_141_32, e_141_35, e_141_36, e_141_37, e_141_38, e_141_42, e_141_43, e_141_46, e_141_47, e_141_48, e_141_51, e_141_52, e_141_53, e_141_56, e_141_58, e_141_59, e_141_60, e_141_61, e_141_64, e_141_67, e_141_68, e_141_71, e_141_72, e_141_75, e_141_76, e_141_77, e_141_80, e_141_83, e_141_84, e_141_87, e_141_88, nl_int, nl_ref, nl_none, cat_int, cat_ref, cat_0, cat_i, cat_r, cat_l, Option.elim_some, Option.elim_none, Option.bind_some, Option.bind_none, Option.toList_some, Option.toList_none, List.cons_append, List.nil_append, Nat.reduceAdd, Nat.reduceLeDiff, ltT (x := 61) (c := 61) rfl (show j + 1 < 61 by omega) (by omega), if_true, tk, e1, em, q2, if_pos z0', nI_1]
    | false =>
      rw [if_neg (by decide)]
      have z0' : ¬ s2 = 0 := fun w => by rw [hz.mp w] at q; cases q
      obtain ⟨A3, a3, k3, e3⟩ := ih (j + 1) (updA A1 6 W) (goF ct hr j m) (some (.int s2)) (some (.int (nI (cPp ct)))) (by omega) (by rw [show hr + (j + 1) = hr + j + 1 from by omega]; exact ok2)
      rw [k2 8 (by decide) (by decide)] at e3
      refine ⟨A3, a3, fun k h1 h6 => (k3 k h1 h6).trans (k2 k h1 h6), ?_⟩
      rw [← e3, e_141_9]
      simp (maxSteps := 1000000) (disch := first | exact nl_int | exact nl_ref | exact nl_none | exact Nat.le_of_ble_eq_true rfl | assumption | exact wD_cl (by assumption) | exact cat_int | exact cat_ref | exact z2 | exact z4 | exact z3 | exact z5 | exact z6 | exact z8 | exact z64) only [e_141_0, e_141_1, e_141_4, e_141_6, e_141_7, e_141_8, e_141_10, e_141_12, e_141_15, e_141_16, e_141_18, e_141_21, e_141_22, e_141_23, e_141_26, e_141_29, e_141_30, e_141_32, e_141_35, e_141_36, e_141_37, e_141_38, e_141_42, e_141_43, e_141_46, e_141_47, e_141_48, e_141_51, e_141_52, e_141_53, e_141_56, e_141_58, e_141_59, e_141_60, e_141_61, e_141_64, e_141_67, e_141_68, e_141_71, e_141_72, e_141_75, e_141_76, e_141_77, e_141_80, e_141_83, e_141_84, e_141_87, e_141_88, nl_int, nl_ref, nl_none, cat_int, cat_ref, cat_0, cat_i, cat_r, cat_l, Option.elim_some, Option.elim_none, Option.bind_some, Option.bind_none, Option.toList_some, Option.toList_none, List.cons_append, List.nil_append, Nat.reduceAdd, Nat.reduceLeDiff, ltT (x := 61) (c := 61) rfl (show j + 1 < 61 by omega) (by omega), if_true, tk, e1, em, q2, if_neg z0', nI_1]
theorem p_settles (hJ : JJ hp) : Pr d 64 [some (.ref 0), none] 141 [some (.ref 141), none, none, none, none] hp := by
  obtain ⟨hl, tx, ct, nw, pm, pn, ph, km, kc, sH, sL, sc, hr, I, A, hS, hD, hj⟩ := hJ
  have ok := hj.1
  refine Pr_ask hl hD hj (s_settles hS ok.2.2.2.2.2.2 hj.2.1) (fun hp hl => ?_)
  have hA1 : aOK (updA A 8 (A 1)) := updA_ok ok.1 (ok.1 1 (by decide))
  obtain ⟨A2, a2, k2, e2⟩ := s7_settles (d := d) (I := I) hl hj.2.1 60 0 (updA A 8 (A 1)) nw none none rfl (ok.sq hA1 (Sq.upd (k := 8) (by omega)))
  rw [updA_s, show nI (0 + 1) = 1 from rfl] at e2
  refine ⟨I, updA A2 1 (A 1), Si.rfl', updA_ok a2 (ok.1 1 (by decide)), fun k q3 q4 q5 q6 q8 q9 => ?_, ?_⟩
  · by_cases q1 : k = 1
    · subst q1; rfl
    · rw [updA_n q1, k2 k q1 q6, updA_n q8]
  · simp (maxSteps := 1000000) (disch := first | exact nl_int | exact nl_ref | exact nl_none | exact Nat.le_of_ble_eq_true rfl | assumption | exact wD_cl (by assumption) | exact cat_int | exact cat_ref | exact z2 | exact z4 | exact z3 | exact z5 | exact z6 | exact z8 | exact z64) only [e_141_0, e_141_1, e_141_4, e_141_6, e_141_7, e_141_8, e_141_10, e_141_12, e_141_15, e_141_16, e_141_18, e_141_21, e_141_22, e_141_23, e_141_26, e_141_29, e_141_30, e_141_32, e_141_35, e_141_36, e_141_37, e_141_38, e_141_42, e_141_43, e_141_46, e_141_47, e_141_48, e_141_51, e_141_52, e_141_53, e_141_56, e_141_58, e_141_59, e_141_60, e_141_61, e_141_64, e_141_67, e_141_68, e_141_71, e_141_72, e_141_75, e_141_76, e_141_77, e_141_80, e_141_83, e_141_84, e_141_87, e_141_88, nl_int, nl_ref, nl_none, cat_int, cat_ref, cat_0, cat_i, cat_r, cat_l, Option.elim_some, Option.elim_none, Option.bind_some, Option.bind_none, Option.toList_some, Option.toList_none, List.cons_append, List.nil_append, Nat.reduceAdd, Nat.reduceLeDiff, s7_asides (d := d + 11) hl ok.1, e2]
end MDG
