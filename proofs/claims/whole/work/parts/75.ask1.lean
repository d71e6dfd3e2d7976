/-! PAIRS: person, work, light, lit, first, reach, smokes -/
section MDF
variable {d : Nat} {hp hp2 : am_H} {I I2 : Nat → Int32} {A A2 : Nat → List Int32} {i j k n b p hr tt h u : Nat} {x y z t a : Int32} {B C : List Int32} {ct : am_Ci} {nw : am_Mo}
theorem b2N {b : Bool} (h : b = false) : b2 b = 0 := by rw [h]; rfl
theorem b2Y {b : Bool} (h : b = true) : b2 b = 1 := by rw [h]; rfl
theorem s7_ip0 (hl : 154 < hp.length) (h : Ok7 A ct nw hr) (q : inR x (cPp ct) = false) : am_E (d + 1) 93 0 [some (.ref 141), some (.int x)] [] (wD hp I A) = some (some (.int 0), wD hp I A) := by rw [s7_ip hl h, q]; rfl
theorem s7_ip1 (hl : 154 < hp.length) (h : Ok7 A ct nw hr) (hi : i < cPp ct) : am_E (d + 1) 93 0 [some (.ref 141), some (.int (nI i))] [] (wD hp I A) = some (some (.int 1), wD hp I A) := by rw [s7_ip hl h, inR_n hi (by have := h.p8; omega)]; rfl
theorem s7_ih0 (hl : 154 < hp.length) (h : Ok7 A ct nw hr) (q : inR x (cHs ct) = false) : am_E (d + 1) 94 0 [some (.ref 141), some (.int x)] [] (wD hp I A) = some (some (.int 0), wD hp I A) := by rw [s7_ih hl h, q]; rfl
theorem s7_ih1 (hl : 154 < hp.length) (h : Ok7 A ct nw hr) (hi : i < cHs ct) : am_E (d + 1) 94 0 [some (.ref 141), some (.int (nI i))] [] (wD hp I A) = some (some (.int 1), wD hp I A) := by rw [s7_ih hl h, inR_n hi (by have := h.h5; omega)]; rfl
theorem s7_me (hl : 154 < hp.length) (h : Ok7 A ct nw hr) {tk : Int32} (ht : ∃ tt, tt < 32 ∧ tk = nI tt) : ∃ W : List Int32, W.length = 8 ∧ (∀ i, i < cPp ct → W.getD i 0 = mFoes nw i tk) ∧ am_E (d + 3) 117 0 [some (.ref 141), some (.int tk), none, none] [] (wD hp I A) = some (none, wD hp I (updA A 6 W)) := by
  obtain ⟨tt, h32, rfl⟩ := ht
  exact s7_meets hl h.1 h.2.1 h.2.2.1 h32
theorem p_person (hJ : JJ hp) : Pr d 50 [some (.ref 0), some (.int x), some (.int y)] 120 [some (.ref 141), some (.int x), some (.int y)] hp := by
  obtain ⟨hl, tx, ct, nw, pm, pn, ph, km, kc, sH, sL, sc, hr, I, A, hS, hD, hj⟩ := hJ
  have ok := hj.1
  have h999 := hj.2.1
  have p8 := ok.p8
  refine Pr_ask hl hD hj (Run.same hS (s_person hS ok.2.2.2.2.2.2 (by omega))) (fun hp hl => ?_)
  have c0 := wD_cl (I := I) (A := A) hl
  unfold aPerson
  cases q : inR x (cPp ct) with
  | false =>
    rw [if_pos rfl]
    refine Ask.same ok.1 ?_
    simp (maxSteps := 1000000) (disch := first | exact nl_int | exact nl_ref | exact nl_none | exact Nat.le_of_ble_eq_true rfl | assumption | exact wD_cl (by assumption) | exact cat_int | exact cat_ref | exact z2 | exact z4 | exact z3 | exact z5 | exact z6 | exact z8 | exact z64) only [e_120_0, e_120_1, e_120_2, e_120_5, e_120_8, e_120_9, e_120_10, e_120_11, e_120_14, e_120_17, e_120_20, e_120_21, e_120_22, e_120_23, e_120_24, e_120_27, e_120_28, e_120_29, e_120_32, e_120_35, e_120_36, e_120_39, e_120_40, e_120_41, e_120_42, e_120_43, e_120_46, e_120_47, e_120_50, e_120_51, e_120_52, e_120_53, e_120_54, e_120_57, e_120_58, e_120_61, e_120_62, e_120_63, e_120_64, e_120_65, e_120_66, e_120_67, e_120_68, e_120_69, e_120_70, e_120_71, nl_int, nl_ref, nl_none, cat_int, cat_ref, cat_0, cat_i, cat_r, cat_l, Option.elim_some, Option.elim_none, Option.bind_some, Option.bind_none, Option.toList_some, Option.toList_none, List.cons_append, List.nil_append, Nat.reduceAdd, Nat.reduceLeDiff, s7_ip0 (d := d + 10) hl ok q, z0, if_true]
  | true =>
    rw [if_neg (by decide)]
    obtain ⟨i, hi, rfl⟩ := inR_t q (by omega)
    rw [nI_clamp (by omega)]
    have e1 := s7_ip1 (d := d + 10) (I := I) hl ok hi
    by_cases q1 : y < 0 ∨ 4 < y
    · have ny : ∀ v : Int32, ¬ v < 0 → ¬ 4 < v → ¬ y = v := fun v a b e => by rw [e] at q1; exact q1.elim a b
      rw [if_neg (ny 0 (by decide) (by decide)), if_neg (ny 1 (by decide) (by decide)), if_neg (ny 2 (by decide) (by decide)), if_neg (ny 3 (by decide) (by decide)), if_neg (ny 4 (by decide) (by decide))]
      refine Ask.same ok.1 ?_
      simp (maxSteps := 1000000) (disch := first | exact nl_int | exact nl_ref | exact nl_none | exact Nat.le_of_ble_eq_true rfl | assumption | exact wD_cl (by assumption) | exact cat_int | exact cat_ref | exact z2 | exact z4 | exact z3 | exact z5 | exact z6 | exact z8 | exact z64) only [e_120_0, e_120_1, e_120_2, e_120_5, e_120_8, e_120_9, e_120_10, e_120_11, e_120_14, e_120_17, e_120_20, e_120_21, e_120_22, e_120_23, e_120_24, e_120_27, e_120_28, e_120_29, e_120_32, e_120_35, e_120_36, e_120_39, e_120_40, e_120_41, e_120_42, e_120_43, e_120_46, e_120_47, e_120_50, e_120_51, e_120_52, e_120_53, e_120_54, e_120_57, e_120_58, e_120_61, e_120_62, e_120_63, e_120_64, e_120_65, e_120_66, e_120_67, e_120_68, e_120_69, e_120_70, e_120_71, nl_int, nl_ref, nl_none, cat_int, cat_ref, cat_0, cat_i, cat_r, cat_l, Option.elim_some, Option.elim_none, Option.bind_some, Option.bind_none, Option.toList_some, Option.toList_none, List.cons_append, List.nil_append, Nat.reduceAdd, Nat.reduceLeDiff, e1, z1, if_false, s7_in0 (d := d + 11) (lo := 0) (hi := 4) (a := 0) (c := 4) q1 (by decide) (by decide), z0, if_true]
    · obtain ⟨v, hv, rfl⟩ := inC_t (m := 4) (inC_n (fun w => q1 (Or.inl w)) (fun w => q1 (Or.inr w))) (by decide)
      have ein := s7_in1 (d := d + 11) (hp := wD hp I A) (x := nI v) (lo := 0) (hi := 4) (a := 0) (c := 4) (nI_pos (by omega)) (nI_nlt (b := v) (a := 4) hv (by decide)) (by decide) (by decide)
      have ix : 3 + 3 * nI i = nI (3 + 3 * i) := ix3 (a := 0)
      rcases (show v = 0 ∨ v = 1 ∨ v = 2 ∨ v = 3 ∨ v = 4 by omega) with rfl | rfl | rfl | rfl | rfl
      · rw [if_pos (by decide)]
        refine Ask.same ok.1 ?_
        simp (maxSteps := 1000000) (disch := first | exact nl_int | exact nl_ref | exact nl_none | exact Nat.le_of_ble_eq_true rfl | assumption | exact wD_cl (by assumption) | exact cat_int | exact cat_ref | exact z2 | exact z4 | exact z3 | exact z5 | exact z6 | exact z8 | exact z64) only [e_120_0, e_120_1, e_120_2, e_120_5, e_120_8, e_120_9, e_120_10, e_120_11, e_120_14, e_120_17, e_120_20, e_120_21, e_120_22, e_120_23, e_120_24, e_120_27, e_120_28, e_120_29, e_120_32, e_120_35, e_120_36, e_120_39, e_120_40, e_120_41, e_120_42, e_120_43, e_120_46, e_120_47, e_120_50, e_120_51, e_120_52, e_120_53, e_120_54, e_120_57, e_120_58, e_120_61, e_120_62, e_120_63, e_120_64, e_120_65, e_120_66, e_120_67, e_120_68, e_120_69, e_120_70, e_120_71, nl_int, nl_ref, nl_none, cat_int, cat_ref, cat_0, cat_i, cat_r, cat_l, Option.elim_some, Option.elim_none, Option.bind_some, Option.bind_none, Option.toList_some, Option.toList_none, List.cons_append, List.nil_append, Nat.reduceAdd, Nat.reduceLeDiff, e1, z1, if_false, ein, show (nI 0 = 4) = False from by decide, show (nI 0 = 0) = True from by decide, if_true, wD_f0 hl, ix3a, ok.lk hl hi]
      · rw [if_neg (by decide), if_pos (by decide)]
        refine Ask.same ok.1 ?_
        simp (maxSteps := 1000000) (disch := first | exact nl_int | exact nl_ref | exact nl_none | exact Nat.le_of_ble_eq_true rfl | assumption | exact wD_cl (by assumption) | exact cat_int | exact cat_ref | exact z2 | exact z4 | exact z3 | exact z5 | exact z6 | exact z8 | exact z64) only [e_120_0, e_120_1, e_120_2, e_120_5, e_120_8, e_120_9, e_120_10, e_120_11, e_120_14, e_120_17, e_120_20, e_120_21, e_120_22, e_120_23, e_120_24, e_120_27, e_120_28, e_120_29, e_120_32, e_120_35, e_120_36, e_120_39, e_120_40, e_120_41, e_120_42, e_120_43, e_120_46, e_120_47, e_120_50, e_120_51, e_120_52, e_120_53, e_120_54, e_120_57, e_120_58, e_120_61, e_120_62, e_120_63, e_120_64, e_120_65, e_120_66, e_120_67, e_120_68, e_120_69, e_120_70, e_120_71, nl_int, nl_ref, nl_none, cat_int, cat_ref, cat_0, cat_i, cat_r, cat_l, Option.elim_some, Option.elim_none, Option.bind_some, Option.bind_none, Option.toList_some, Option.toList_none, List.cons_append, List.nil_append, Nat.reduceAdd, Nat.reduceLeDiff, e1, z1, if_false, ein, show (nI 1 = 4) = False from by decide, show (nI 1 = 0) = False from by decide, wD_f1 hl, ix, show nI (3 + 3 * i) + nI 1 - 1 = nI (3 + 3 * i) from by rw [nI_add, nI_pred], ok.lo hl hi]
      · rw [if_neg (by decide), if_neg (by decide), if_pos (by decide)]
        refine Ask.same ok.1 ?_
        simp (maxSteps := 1000000) (disch := first | exact nl_int | exact nl_ref | exact nl_none | exact Nat.le_of_ble_eq_true rfl | assumption | exact wD_cl (by assumption) | exact cat_int | exact cat_ref | exact z2 | exact z4 | exact z3 | exact z5 | exact z6 | exact z8 | exact z64) only [e_120_0, e_120_1, e_120_2, e_120_5, e_120_8, e_120_9, e_120_10, e_120_11, e_120_14, e_120_17, e_120_20, e_120_21, e_120_22, e_120_23, e_120_24, e_120_27, e_120_28, e_120_29, e_120_32, e_120_35, e_120_36, e_120_39, e_120_40, e_120_41, e_120_42, e_120_43, e_120_46, e_120_47, e_120_50, e_120_51, e_120_52, e_120_53, e_120_54, e_120_57, e_120_58, e_120_61, e_120_62, e_120_63, e_120_64, e_120_65, e_120_66, e_120_67, e_120_68, e_120_69, e_120_70, e_120_71, nl_int, nl_ref, nl_none, cat_int, cat_ref, cat_0, cat_i, cat_r, cat_l, Option.elim_some, Option.elim_none, Option.bind_some, Option.bind_none, Option.toList_some, Option.toList_none, List.cons_append, List.nil_append, Nat.reduceAdd, Nat.reduceLeDiff, e1, z1, if_false, ein, show (nI 2 = 4) = False from by decide, show (nI 2 = 0) = False from by decide, wD_f1 hl, ix, show nI (3 + 3 * i) + nI 2 - 1 = nI (4 + 3 * i) from by rw [nI_add, show 3 + 3 * i + 2 = (4 + 3 * i) + 1 from by omega, nI_pred], ok.lt hl hi]
      · rw [if_neg (by decide), if_neg (by decide), if_neg (by decide), if_pos (by decide)]
        refine Ask.same ok.1 ?_
        simp (maxSteps := 1000000) (disch := first | exact nl_int | exact nl_ref | exact nl_none | exact Nat.le_of_ble_eq_true rfl | assumption | exact wD_cl (by assumption) | exact cat_int | exact cat_ref | exact z2 | exact z4 | exact z3 | exact z5 | exact z6 | exact z8 | exact z64) only [e_120_0, e_120_1, e_120_2, e_120_5, e_120_8, e_120_9, e_120_10, e_120_11, e_120_14, e_120_17, e_120_20, e_120_21, e_120_22, e_120_23, e_120_24, e_120_27, e_120_28, e_120_29, e_120_32, e_120_35, e_120_36, e_120_39, e_120_40, e_120_41, e_120_42, e_120_43, e_120_46, e_120_47, e_120_50, e_120_51, e_120_52, e_120_53, e_120_54, e_120_57, e_120_58, e_120_61, e_120_62, e_120_63, e_120_64, e_120_65, e_120_66, e_120_67, e_120_68, e_120_69, e_120_70, e_120_71, nl_int, nl_ref, nl_none, cat_int, cat_ref, cat_0, cat_i, cat_r, cat_l, Option.elim_some, Option.elim_none, Option.bind_some, Option.bind_none, Option.toList_some, Option.toList_none, List.cons_append, List.nil_append, Nat.reduceAdd, Nat.reduceLeDiff, e1, z1, if_false, ein, show (nI 3 = 4) = False from by decide, show (nI 3 = 0) = False from by decide, wD_f1 hl, ix, show nI (3 + 3 * i) + nI 3 - 1 = nI (5 + 3 * i) from by rw [nI_add, show 3 + 3 * i + 3 = (5 + 3 * i) + 1 from by omega, nI_pred], ok.lh hl hi]
      · rw [if_neg (by decide), if_neg (by decide), if_neg (by decide), if_neg (by decide), if_pos (by decide)]
        obtain ⟨W, hW, hF, em⟩ := s7_me (d := d + 8) (I := I) hl ok (ok.tk (m := nw) (r := hr))
        have hA2 : aOK (updA A 6 W) := updA_ok ok.1 hW
        have lw : am_ld (wD hp I (updA A 6 W)) 148 (nI i) = some (mFoes nw i (cTalk ct nw hr)) := by
          rw [wD_l6 (k := i) rfl hl hA2 (by omega), ← hF i hi]
          rfl
        refine ⟨I, updA A 6 W, Si.rfl', hA2, Sq.upd (k := 6) (by omega), ?_⟩
        simp (maxSteps := 1000000) (disch := first | exact nl_int | exact nl_ref | exact nl_none | exact Nat.le_of_ble_eq_true rfl | assumption | exact wD_cl (by assumption) | exact cat_int | exact cat_ref | exact z2 | exact z4 | exact z3 | exact z5 | exact z6 | exact z8 | exact z64) only [e_120_0, e_120_1, e_120_2, e_120_5, e_120_8, e_120_9, e_120_10, e_120_11, e_120_14, e_120_17, e_120_20, e_120_21, e_120_22, e_120_23, e_120_24, e_120_27, e_120_28, e_120_29, e_120_32, e_120_35, e_120_36, e_120_39, e_120_40, e_120_41, e_120_42, e_120_43, e_120_46, e_120_47, e_120_50, e_120_51, e_120_52, e_120_53, e_120_54, e_120_57, e_120_58, e_120_61, e_120_62, e_120_63, e_120_64, e_120_65, e_120_66, e_120_67, e_120_68, e_120_69, e_120_70, e_120_71, nl_int, nl_ref, nl_none, cat_int, cat_ref, cat_0, cat_i, cat_r, cat_l, Option.elim_some, Option.elim_none, Option.bind_some, Option.bind_none, Option.toList_some, Option.toList_none, List.cons_append, List.nil_append, Nat.reduceAdd, Nat.reduceLeDiff, e1, z1, if_false, ein, show (nI 4 = 4) = True from by decide, if_true, s7_tk (d := d + 11) hl ok (by omega), em, wD_f11 hl, lw]
theorem p_work (hJ : JJ hp) : Pr d 51 [some (.ref 0), some (.int x), some (.int y)] 121 [some (.ref 141), some (.int x), some (.int y)] hp := by
  obtain ⟨hl, tx, ct, nw, pm, pn, ph, km, kc, sH, sL, sc, hr, I, A, hS, hD, hj⟩ := hJ
  have ok := hj.1
  have h999 := hj.2.1
  have w5 := ok.w5
  refine Pr_ask hl hD hj (Run.same hS (s_work hS ok.2.2.2.2.2.2 (by omega))) (fun hp hl => ?_)
  have c0 := wD_cl (I := I) (A := A) hl
  unfold aWork
  have ein := s7_in (d := d + 11) (hp := wD hp I A) (x := x) (lo := 0) (hi := nI (cWk ct) - 1) (a := 0) (c := (nI (cWk ct) - 1).toInt64) (by decide) rfl
  rw [inC_R (by omega)] at ein
  cases q : inR x (cWk ct) with
  | false =>
    rw [if_pos rfl]
    rw [q] at ein
    refine Ask.same ok.1 ?_
    simp (maxSteps := 1000000) (disch := first | exact nl_int | exact nl_ref | exact nl_none | exact Nat.le_of_ble_eq_true rfl | assumption | exact wD_cl (by assumption) | exact cat_int | exact cat_ref | exact z2 | exact z4 | exact z3 | exact z5 | exact z6 | exact z8 | exact z64) only [e_121_0, e_121_1, e_121_2, e_121_3, e_121_4, e_121_7, e_121_8, e_121_9, e_121_10, e_121_11, e_121_12, e_121_15, e_121_18, e_121_19, e_121_20, e_121_21, e_121_24, e_121_27, e_121_30, e_121_31, e_121_32, e_121_33, e_121_34, e_121_37, e_121_40, e_121_41, e_121_42, e_121_45, e_121_46, e_121_49, e_121_51, e_121_52, e_121_53, e_121_54, e_121_55, e_121_56, e_121_57, e_121_58, e_121_61, e_121_62, e_121_65, e_121_66, e_121_67, e_121_68, e_121_69, nl_int, nl_ref, nl_none, cat_int, cat_ref, cat_0, cat_i, cat_r, cat_l, Option.elim_some, Option.elim_none, Option.bind_some, Option.bind_none, Option.toList_some, Option.toList_none, List.cons_append, List.nil_append, Nat.reduceAdd, Nat.reduceLeDiff, wD_f0 hl, ok.lwk hl, ein, b2_f, z0, if_true]
  | true =>
    rw [if_neg (by decide)]
    rw [q] at ein
    obtain ⟨i, hi, rfl⟩ := inR_t q (by omega)
    rw [nI_clamp (by omega)]
    by_cases q1 : y < 0 ∨ 2 < y
    · have ny : ∀ v : Int32, ¬ v < 0 → ¬ 2 < v → ¬ y = v := fun v a b e => by rw [e] at q1; exact q1.elim a b
      rw [if_neg (ny 0 (by decide) (by decide)), if_neg (ny 1 (by decide) (by decide)), if_neg (ny 2 (by decide) (by decide))]
      refine Ask.same ok.1 ?_
      simp (maxSteps := 1000000) (disch := first | exact nl_int | exact nl_ref | exact nl_none | exact Nat.le_of_ble_eq_true rfl | assumption | exact wD_cl (by assumption) | exact cat_int | exact cat_ref | exact z2 | exact z4 | exact z3 | exact z5 | exact z6 | exact z8 | exact z64) only [e_121_0, e_121_1, e_121_2, e_121_3, e_121_4, e_121_7, e_121_8, e_121_9, e_121_10, e_121_11, e_121_12, e_121_15, e_121_18, e_121_19, e_121_20, e_121_21, e_121_24, e_121_27, e_121_30, e_121_31, e_121_32, e_121_33, e_121_34, e_121_37, e_121_40, e_121_41, e_121_42, e_121_45, e_121_46, e_121_49, e_121_51, e_121_52, e_121_53, e_121_54, e_121_55, e_121_56, e_121_57, e_121_58, e_121_61, e_121_62, e_121_65, e_121_66, e_121_67, e_121_68, e_121_69, nl_int, nl_ref, nl_none, cat_int, cat_ref, cat_0, cat_i, cat_r, cat_l, Option.elim_some, Option.elim_none, Option.bind_some, Option.bind_none, Option.toList_some, Option.toList_none, List.cons_append, List.nil_append, Nat.reduceAdd, Nat.reduceLeDiff, wD_f0 hl, ok.lwk hl, ein, b2_t, z1, if_false, s7_in0 (d := d + 11) (lo := 0) (hi := 2) (a := 0) (c := 2) q1 (by decide) (by decide), z0, if_true]
    · obtain ⟨v, hv, rfl⟩ := inC_t (m := 2) (inC_n (fun w => q1 (Or.inl w)) (fun w => q1 (Or.inr w))) (by decide)
      have ei2 := s7_in1 (d := d + 11) (hp := wD hp I A) (x := nI v) (lo := 0) (hi := 2) (a := 0) (c := 2) (nI_pos (by omega)) (nI_nlt (b := v) (a := 2) hv (by decide)) (by decide) (by decide)
      obtain ⟨D, hDl, hL, eb⟩ := s7_bu (d := d + 8) (I := I) hl ok (ok.tk (m := nw) (r := hr))
      have hA2 : aOK (updA A 5 D) := updA_ok ok.1 hDl
      have ok2 : Ok7 (updA A 5 D) ct nw hr := ok.sq hA2 (Sq.upd (by omega))
      have c1 := wD_cl (I := updI I 10 (smk (fun h => mSmoke nw (nI h) (cTalk ct nw hr)))) (A := updA A 5 D) hl
      have tk := s7_tk (d := d + 11) (I := I) hl ok (by omega)
      have ix : 11 + 2 * nI i = nI (11 + 2 * i) := ix11
      rcases (show v = 0 ∨ v = 1 ∨ v = 2 by omega) with rfl | rfl | rfl
      · rw [if_pos (by decide)]
        refine ⟨updI I 10 (smk (fun h => mSmoke nw (nI h) (cTalk ct nw hr))), updA A 5 D, Si.upd (k := 10) (by omega), hA2, Sq.upd (k := 5) (by omega), ?_⟩
        simp (maxSteps := 1000000) (disch := first | exact nl_int | exact nl_ref | exact nl_none | exact Nat.le_of_ble_eq_true rfl | assumption | exact wD_cl (by assumption) | exact cat_int | exact cat_ref | exact z2 | exact z4 | exact z3 | exact z5 | exact z6 | exact z8 | exact z64) only [e_121_0, e_121_1, e_121_2, e_121_3, e_121_4, e_121_7, e_121_8, e_121_9, e_121_10, e_121_11, e_121_12, e_121_15, e_121_18, e_121_19, e_121_20, e_121_21, e_121_24, e_121_27, e_121_30, e_121_31, e_121_32, e_121_33, e_121_34, e_121_37, e_121_40, e_121_41, e_121_42, e_121_45, e_121_46, e_121_49, e_121_51, e_121_52, e_121_53, e_121_54, e_121_55, e_121_56, e_121_57, e_121_58, e_121_61, e_121_62, e_121_65, e_121_66, e_121_67, e_121_68, e_121_69, nl_int, nl_ref, nl_none, cat_int, cat_ref, cat_0, cat_i, cat_r, cat_l, Option.elim_some, Option.elim_none, Option.bind_some, Option.bind_none, Option.toList_some, Option.toList_none, List.cons_append, List.nil_append, Nat.reduceAdd, Nat.reduceLeDiff, wD_f0 hl, ok.lwk hl, ein, b2_t, z1, if_false, ei2, tk, eb, show (nI 0 < 2) = True from by decide, if_true, ix, show nI (11 + 2 * i) + nI 0 = nI (11 + 2 * i) from by rw [nI_add, Nat.add_zero], ok2.lwh hl hi]
      · rw [if_neg (by decide), if_pos (by decide)]
        refine ⟨updI I 10 (smk (fun h => mSmoke nw (nI h) (cTalk ct nw hr))), updA A 5 D, Si.upd (k := 10) (by omega), hA2, Sq.upd (k := 5) (by omega), ?_⟩
        simp (maxSteps := 1000000) (disch := first | exact nl_int | exact nl_ref | exact nl_none | exact Nat.le_of_ble_eq_true rfl | assumption | exact wD_cl (by assumption) | exact cat_int | exact cat_ref | exact z2 | exact z4 | exact z3 | exact z5 | exact z6 | exact z8 | exact z64) only [e_121_0, e_121_1, e_121_2, e_121_3, e_121_4, e_121_7, e_121_8, e_121_9, e_121_10, e_121_11, e_121_12, e_121_15, e_121_18, e_121_19, e_121_20, e_121_21, e_121_24, e_121_27, e_121_30, e_121_31, e_121_32, e_121_33, e_121_34, e_121_37, e_121_40, e_121_41, e_121_42, e_121_45, e_121_46, e_121_49, e_121_51, e_121_52, e_121_53, e_121_54, e_121_55, e_121_56, e_121_57, e_121_58, e_121_61, e_121_62, e_121_65, e_121_66, e_121_67, e_121_68, e_121_69, nl_int, nl_ref, nl_none, cat_int, cat_ref, cat_0, cat_i, cat_r, cat_l, Option.elim_some, Option.elim_none, Option.bind_some, Option.bind_none, Option.toList_some, Option.toList_none, List.cons_append, List.nil_append, Nat.reduceAdd, Nat.reduceLeDiff, wD_f0 hl, ok.lwk hl, ein, b2_t, z1, if_false, ei2, tk, eb, show (nI 1 < 2) = True from by decide, if_true, ix, show nI (11 + 2 * i) + nI 1 = nI (12 + 2 * i) from by rw [nI_add, show 11 + 2 * i + 1 = 12 + 2 * i from by omega], ok2.lwn hl hi]
      · rw [if_neg (by decide), if_neg (by decide), if_pos (by decide)]
        refine ⟨updI I 10 (smk (fun h => mSmoke nw (nI h) (cTalk ct nw hr))), updA A 5 D, Si.upd (k := 10) (by omega), hA2, Sq.upd (k := 5) (by omega), ?_⟩
        simp (maxSteps := 1000000) (disch := first | exact nl_int | exact nl_ref | exact nl_none | exact Nat.le_of_ble_eq_true rfl | assumption | exact wD_cl (by assumption) | exact cat_int | exact cat_ref | exact z2 | exact z4 | exact z3 | exact z5 | exact z6 | exact z8 | exact z64) only [e_121_0, e_121_1, e_121_2, e_121_3, e_121_4, e_121_7, e_121_8, e_121_9, e_121_10, e_121_11, e_121_12, e_121_15, e_121_18, e_121_19, e_121_20, e_121_21, e_121_24, e_121_27, e_121_30, e_121_31, e_121_32, e_121_33, e_121_34, e_121_37, e_121_40, e_121_41, e_121_42, e_121_45, e_121_46, e_121_49, e_121_51, e_121_52, e_121_53, e_121_54, e_121_55, e_121_56, e_121_57, e_121_58, e_121_61, e_121_62, e_121_65, e_121_66, e_121_67, e_121_68, e_121_69, nl_int, nl_ref, nl_none, cat_int, cat_ref, cat_0, cat_i, cat_r, cat_l, Option.elim_some, Option.elim_none, Option.bind_some, Option.bind_none, Option.toList_some, Option.toList_none, List.cons_append, List.nil_append, Nat.reduceAdd, Nat.reduceLeDiff, wD_f0 hl, ok.lwk hl, ein, b2_t, z1, if_false, ei2, tk, eb, show (nI 2 < 2) = False from by decide, s7_ali (d := d + 11) hl ok2 (m := nw) (t := cTalk ct nw hr) hL]
theorem p_lit (hJ : JJ hp) : Pr d 58 [some (.ref 0), some (.int y)] 132 [some (.ref 141), some (.int y)] hp := by
  obtain ⟨hl, tx, ct, nw, pm, pn, ph, km, kc, sH, sL, sc, hr, I, A, hS, hD, hj⟩ := hJ
  have ok := hj.1
  have h999 := hj.2.1
  by_cases q1 : y < 0 ∨ 30 < y
  · refine Pr_ask hl hD hj (Run.same hS (s_lit0 q1)) (fun hp hl => Ask.same ok.1 ?_)
    have c0 := wD_cl (I := I) (A := A) hl
    simp (maxSteps := 1000000) (disch := first | exact nl_int | exact nl_ref | exact nl_none | exact Nat.le_of_ble_eq_true rfl | assumption | exact wD_cl (by assumption) | exact cat_int | exact cat_ref | exact z2 | exact z4 | exact z3 | exact z5 | exact z6 | exact z8 | exact z64) only [e_132_0, e_132_1, e_132_2, e_132_3, e_132_6, e_132_9, e_132_12, e_132_13, e_132_14, e_132_15, e_132_16, e_132_19, e_132_20, e_132_23, nl_int, nl_ref, nl_none, cat_int, cat_ref, cat_0, cat_i, cat_r, cat_l, Option.elim_some, Option.elim_none, Option.bind_some, Option.bind_none, Option.toList_some, Option.toList_none, List.cons_append, List.nil_append, Nat.reduceAdd, Nat.reduceLeDiff, s7_in0 (d := d + 11) (lo := 0) (hi := 30) (a := 0) (c := 30) q1 (by decide) (by decide), z0, if_true]
  · obtain ⟨n, hn, rfl⟩ := inC_t (m := 30) (inC_n (fun w => q1 (Or.inl w)) (fun w => q1 (Or.inr w))) (by decide)
    refine Pr_ask hl hD hj (s_lit1 hS ok.2.2.2.2.2.2 h999 hn) (fun hp hl => ?_)
    have c0 := wD_cl (I := I) (A := A) hl
    have ein := s7_in1 (d := d + 11) (hp := wD hp I A) (x := nI n) (lo := 0) (hi := 30) (a := 0) (c := 30) (nI_pos (by omega)) (nI_nlt (b := n) (a := 30) hn (by decide)) (by decide) (by decide)
    obtain ⟨I2, A2, s1, a2, s2, hL, eb⟩ := s7_burnsIn (d := d + 5) (I := I) hl ok (n := n) (by omega) (by omega)
    have c1 := wD_cl (I := I2) (A := A2) hl
    refine ⟨I2, A2, s1, a2, s2, ?_⟩
    simp (maxSteps := 1000000) (disch := first | exact nl_int | exact nl_ref | exact nl_none | exact Nat.le_of_ble_eq_true rfl | assumption | exact wD_cl (by assumption) | exact cat_int | exact cat_ref | exact z2 | exact z4 | exact z3 | exact z5 | exact z6 | exact z8 | exact z64) only [e_132_0, e_132_1, e_132_2, e_132_3, e_132_6, e_132_9, e_132_12, e_132_13, e_132_14, e_132_15, e_132_16, e_132_19, e_132_20, e_132_23, nl_int, nl_ref, nl_none, cat_int, cat_ref, cat_0, cat_i, cat_r, cat_l, Option.elim_some, Option.elim_none, Option.bind_some, Option.bind_none, Option.toList_some, Option.toList_none, List.cons_append, List.nil_append, Nat.reduceAdd, Nat.reduceLeDiff, ein, z1, if_false, eb, s7_ali (d := d + 11) hl (ok.sq a2 s2) hL]
theorem p_light (hJ : JJ hp) : Pr d 57 [some (.ref 0), some (.int x), some (.int y), none] 131 [some (.ref 141), some (.int x), some (.int y)] hp := by
  obtain ⟨hl, tx, ct, nw, pm, pn, ph, km, kc, sH, sL, sc, hr, I, A, hS, hD, hj⟩ := hJ
  have ok := hj.1
  have h999 := hj.2.1
  have h5 := ok.h5
  have hin : ∀ hp : am_H, am_E (d + 11) 89 0 [some (.long x.toInt64), none, some (.long (-1)), none, some (.long (nI (cHs ct) - 1).toInt64), none] [] hp = some (some (.int (b2 (decide (x = -1) || inR x (cHs ct)))), hp) := fun hp => by
    rw [s7_in (lo := -1) (hi := nI (cHs ct) - 1) (by decide) rfl]
    have : inC x (-1) (nI (cHs ct) - 1) = (decide (x = -1) || inR x (cHs ct)) := by
      rw [← inC_R (by omega)]
      by_cases e : x = -1
      · subst e
        rw [decide_eq_true rfl, Bool.true_or]
        have hne : ¬ (nI (cHs ct) - 1 < -1) := by
          cases hc : cHs ct with
          | zero => decide
          | succ m => rw [nI_pred]; exact fun w => nI_pos (show m < 2 ^ 31 by omega) (Int32.lt_trans w (by decide))
        exact inC_g (by decide) hne
      · rw [decide_eq_false e, Bool.false_or]
        unfold inC
        by_cases q : x < 0
        · have q2 : x < -1 := by
            rw [Int32.lt_iff_toInt_lt] at q ⊢
            have e2 : x.toInt ≠ -1 := fun w => e (Int32.toInt_inj.mp (by rw [w]; decide))
            have : (0 : Int32).toInt = 0 := by decide
            have : (-1 : Int32).toInt = -1 := by decide
            omega
          rw [if_pos q, if_pos q2]
        · have q2 : ¬ x < -1 := fun w => q (Int32.lt_trans w (by decide))
          rw [if_neg q, if_neg q2]
    rw [this]
  by_cases q0 : (x ≠ -1 ∧ inR x (cHs ct) = false) ∨ y < 0 ∨ 30 < y
  · refine Pr_ask hl hD hj (Run.same hS (s_light0 hS q0)) (fun hp hl => Ask.same ok.1 ?_)
    have c0 := wD_cl (I := I) (A := A) hl
    by_cases q2 : x ≠ -1 ∧ inR x (cHs ct) = false
    · have e := hin (wD hp I A)
      rw [decide_eq_false q2.1, q2.2] at e
      simp (maxSteps := 1000000) (disch := first | exact nl_int | exact nl_ref | exact nl_none | exact Nat.le_of_ble_eq_true rfl | assumption | exact wD_cl (by assumption) | exact cat_int | exact cat_ref | exact z2 | exact z4 | exact z3 | exact z5 | exact z6 | exact z8 | exact z64) only [e_131_0, e_131_1, e_131_2, e_131_5, e_131_6, e_131_9, e_131_10, e_131_11, e_131_12, e_131_13, e_131_14, e_131_17, e_131_20, e_131_21, e_131_22, e_131_23, e_131_26, e_131_29, e_131_32, e_131_33, e_131_34, e_131_35, e_131_36, e_131_39, e_131_40, e_131_43, e_131_44, e_131_47, e_131_50, e_131_51, e_131_54, e_131_55, e_131_56, nl_int, nl_ref, nl_none, cat_int, cat_ref, cat_0, cat_i, cat_r, cat_l, Option.elim_some, Option.elim_none, Option.bind_some, Option.bind_none, Option.toList_some, Option.toList_none, List.cons_append, List.nil_append, Nat.reduceAdd, Nat.reduceLeDiff, wD_f0 hl, ok.lhs hl, e, Bool.or_false, b2_f, z0, if_true]
    · have q1 := q0.resolve_left q2
      have e := hin (wD hp I A)
      have e3 : (decide (x = -1) || inR x (cHs ct)) = true := by
        by_cases w : x = -1
        · rw [decide_eq_true w, Bool.true_or]
        · cases w2 : inR x (cHs ct) with
          | true => rw [Bool.or_true]
          | false => exact absurd ⟨w, w2⟩ q2
      rw [e3] at e
      simp (maxSteps := 1000000) (disch := first | exact nl_int | exact nl_ref | exact nl_none | exact Nat.le_of_ble_eq_true rfl | assumption | exact wD_cl (by assumption) | exact cat_int | exact cat_ref | exact z2 | exact z4 | exact z3 | exact z5 | exact z6 | exact z8 | exact z64) only [e_131_0, e_131_1, e_131_2, e_131_5, e_131_6, e_131_9, e_131_10, e_131_11, e_131_12, e_131_13, e_131_14, e_131_17, e_131_20, e_131_21, e_131_22, e_131_23, e_131_26, e_131_29, e_131_32, e_131_33, e_131_34, e_131_35, e_131_36, e_131_39, e_131_40, e_131_43, e_131_44, e_131_47, e_131_50, e_131_51, e_131_54, e_131_55, e_131_56, nl_int, nl_ref, nl_none, cat_int, cat_ref, cat_0, cat_i, cat_r, cat_l, Option.elim_some, Option.elim_none, Option.bind_some, Option.bind_none, Option.toList_some, Option.toList_none, List.cons_append, List.nil_append, Nat.reduceAdd, Nat.reduceLeDiff, wD_f0 hl, ok.lhs hl, e, b2_t, z1, if_false, s7_in0 (d := d + 11) (lo := 0) (hi := 30) (a := 0) (c := 30) q1 (by decide) (by decide), z0, if_true]
  · have q1 : ¬ (y < 0 ∨ 30 < y) := fun w => q0 (Or.inr w)
    obtain ⟨n, hn, rfl⟩ := inC_t (m := 30) (inC_n (fun w => q1 (Or.inl w)) (fun w => q1 (Or.inr w))) (by decide)
    have q2 : x = -1 ∨ inR x (cHs ct) = true := by
      by_cases w : x = -1
      · exact Or.inl w
      · cases w2 : inR x (cHs ct) with
        | true => exact Or.inr rfl
        | false => exact absurd (Or.inl ⟨w, w2⟩) q0
    refine Pr_ask hl hD hj (s_light1 hS ok.2.2.2.2.2.2 h999 hn q2) (fun hp hl => ?_)
    have c0 := wD_cl (I := I) (A := A) hl
    have ein := s7_in1 (d := d + 11) (hp := wD hp I A) (x := nI n) (lo := 0) (hi := 30) (a := 0) (c := 30) (nI_pos (by omega)) (nI_nlt (b := n) (a := 30) hn (by decide)) (by decide) (by decide)
    obtain ⟨I2, A2, s1, a2, s2, hL, eb⟩ := s7_burnsIn (d := d + 5) (I := I) hl ok (n := n) (by omega) (by omega)
    have c1 := wD_cl (I := I2) (A := A2) hl
    refine ⟨I2, A2, s1, a2, s2, ?_⟩
    have e := hin (wD hp I A)
    by_cases w : x = -1
    · rw [if_pos w]
      subst w
      rw [decide_eq_true rfl, Bool.true_or] at e
      simp (maxSteps := 1000000) (disch := first | exact nl_int | exact nl_ref | exact nl_none | exact Nat.le_of_ble_eq_true rfl | assumption | exact wD_cl (by assumption) | exact cat_int | exact cat_ref | exact z2 | exact z4 | exact z3 | exact z5 | exact z6 | exact z8 | exact z64) only [e_131_0, e_131_1, e_131_2, e_131_5, e_131_6, e_131_9, e_131_10, e_131_11, e_131_12, e_131_13, e_131_14, e_131_17, e_131_20, e_131_21, e_131_22, e_131_23, e_131_26, e_131_29, e_131_32, e_131_33, e_131_34, e_131_35, e_131_36, e_131_39, e_131_40, e_131_43, e_131_44, e_131_47, e_131_50, e_131_51, e_131_54, e_131_55, e_131_56, nl_int, nl_ref, nl_none, cat_int, cat_ref, cat_0, cat_i, cat_r, cat_l, Option.elim_some, Option.elim_none, Option.bind_some, Option.bind_none, Option.toList_some, Option.toList_none, List.cons_append, List.nil_append, Nat.reduceAdd, Nat.reduceLeDiff, wD_f0 hl, ok.lhs hl, e, b2_t, z1, if_false, ein, eb, show ((-1 : Int32) < 0) = True from by decide, if_true, s7_al (d := d + 11) hl (ok.sq a2 s2) hL]
    · rw [if_neg w]
      have q3 := q2.resolve_left w
      obtain ⟨g, hg, rfl⟩ := inR_t q3 (by omega)
      rw [q3, Bool.or_true] at e
      have lx : am_ld (wD hp I2 A2) 147 (nI g) = some (mLight (mOn ct hr n nw) (nI g) (cTalk ct (mOn ct hr n nw) (hr + n))) := by rw [wD_l5 (k := g) rfl hl a2 (by omega), hL g (by omega)]
      simp (maxSteps := 1000000) (disch := first | exact nl_int | exact nl_ref | exact nl_none | exact Nat.le_of_ble_eq_true rfl | assumption | exact wD_cl (by assumption) | exact cat_int | exact cat_ref | exact z2 | exact z4 | exact z3 | exact z5 | exact z6 | exact z8 | exact z64) only [e_131_0, e_131_1, e_131_2, e_131_5, e_131_6, e_131_9, e_131_10, e_131_11, e_131_12, e_131_13, e_131_14, e_131_17, e_131_20, e_131_21, e_131_22, e_131_23, e_131_26, e_131_29, e_131_32, e_131_33, e_131_34, e_131_35, e_131_36, e_131_39, e_131_40, e_131_43, e_131_44, e_131_47, e_131_50, e_131_51, e_131_54, e_131_55, e_131_56, nl_int, nl_ref, nl_none, cat_int, cat_ref, cat_0, cat_i, cat_r, cat_l, Option.elim_some, Option.elim_none, Option.bind_some, Option.bind_none, Option.toList_some, Option.toList_none, List.cons_append, List.nil_append, Nat.reduceAdd, Nat.reduceLeDiff, wD_f0 hl, ok.lhs hl, e, b2_t, z1, if_false, ein, eb, ngF (show g < 2 ^ 31 by omega), wD_f9 hl, lx]
theorem p_smokes (hJ : JJ hp) : Pr d 68 [some (.ref 0), none, none, none] 145 [some (.ref 141)] hp := by
  obtain ⟨hl, tx, ct, nw, pm, pn, ph, km, kc, sH, sL, sc, hr, I, A, hS, hD, hj⟩ := hJ
  have ok := hj.1
  have h999 := hj.2.1
  have h5 := ok.h5
  refine Pr_ask hl hD hj (Run.same hS (s_smokes hS ok.2.2.2.2.2.2 (by omega))) (fun hp hl => ?_)
  have c0 := wD_cl (I := I) (A := A) hl
  obtain ⟨D, hDl, hL, eb⟩ := s7_bu (d := d + 8) (I := I) hl ok (ok.tk (m := nw) (r := hr))
  refine ⟨updI I 10 (smk (fun h => mSmoke nw (nI h) (cTalk ct nw hr))), updA A 5 D, Si.upd (k := 10) (by omega), updA_ok ok.1 hDl, Sq.upd (k := 5) (by omega), ?_⟩
  have nos : ∀ g, cHs ct ≤ g → g < 5 → mSmoke nw (nI g) (cTalk ct nw hr) = false := fun g h1 h2 => by
    have nn : ∀ i, i < 8 → ¬ mH nw i = nI g := fun i hi w => by
      by_cases q : i < cPp ct
      · obtain ⟨o, t1, hh, ho, ht1, hhh, eo, et, eh⟩ := ok.2.2.1.1 i q
        rw [eh] at w
        have := (nI_eq (by omega) (by omega)).mp w
        omega
      · rw [ok.2.2.1.2.1 i (by omega) hi] at w
        exact nI_ne1 (by omega) w
    have k1 : ∀ n i, i + n = 8 → mSm1 nw (nI g) (cTalk ct nw hr) i n = false := by
      intro n
      induction n with
      | zero => intro i _; rfl
      | succ n ih => intro i hi; rw [mSm1, if_neg (nn i (by omega))]; exact ih (i + 1) (by omega)
    exact k1 8 0 rfl
  have es : smk (fun g => mSmoke nw (nI g) (cTalk ct nw hr)) = am_for (aSm nw (cTalk ct nw hr)) 0 (cHs ct) 0 := by
    unfold smk
    rw [show (5 : Nat) = cHs ct + (5 - cHs ct) from by omega, am_for_add]
    rw [am_for_id _ _ _ (fun i s q1 q2 => by
      show (if mSmoke nw (nI i) (cTalk ct nw hr) = true then s ||| ((1 : Int32) <<< (nI i &&& 31)) else s) = s
      rw [nos i (by omega) (by omega), if_neg (by decide)])]
    rfl
  rw [← es]
  simp (maxSteps := 1000000) (disch := first | exact nl_int | exact nl_ref | exact nl_none | exact Nat.le_of_ble_eq_true rfl | assumption | exact wD_cl (by assumption) | exact cat_int | exact cat_ref | exact z2 | exact z4 | exact z3 | exact z5 | exact z6 | exact z8 | exact z64) only [e_145_0, e_145_1, e_145_2, e_145_5, e_145_8, e_145_9, e_145_12, nl_int, nl_ref, nl_none, cat_int, cat_ref, cat_0, cat_i, cat_r, cat_l, Option.elim_some, Option.elim_none, Option.bind_some, Option.bind_none, Option.toList_some, Option.toList_none, List.cons_append, List.nil_append, Nat.reduceAdd, Nat.reduceLeDiff, s7_tk (d := d + 11) hl ok (by omega), eb, wD_f10 hl, updI_s]
end MDF
