/-! READING: a number and the sign behind it -/
def pn (t : am_Tx) (a e : Nat) : Option (Nat × Nat) := match tNum t a with
  | none => none
  | some q => if q.2 < tLn t ∧ tC t q.2 = e then some (q.1, q.2 + 1) else none
def pnr (t : am_Tx) (a e lo hi : Nat) : Option (Nat × Nat) := match pn t a e with
  | none => none
  | some q => if lo ≤ q.1 ∧ q.1 ≤ hi then some q else none
def TxR (t : am_Tx) (I : Nat → Int32) (A : Nat → List Int32) : Prop := I 3 = nI (tLn t) ∧ tLn t ≤ 200 ∧ (∀ k, k < tLn t → (A 2).getD k 0 = nI (tC t k)) ∧ (∀ i, tC t i < 128)
/-- the reader's own numbers alone differ -/
def Ri (I I2 : Nat → Int32) : Prop := ∀ k, k ≠ 4 → k ≠ 8 → I2 k = I k
def Rj (I I2 : Nat → Int32) : Prop := ∀ k, k ≠ 4 → k ≠ 7 → k ≠ 8 → I2 k = I k
section RDA
variable {d : Nat} {hp hp2 : am_H} {I I2 : Nat → Int32} {A A2 : Nat → List Int32} {i j k n b p a e lo hi : Nat} {x y z v w : Int32} {t : am_Tx} {c : am_Ci}
theorem Ri.rfl' : Ri I I := fun _ _ _ => rfl
theorem Ri.trans {I3 : Nat → Int32} (h : Ri I I2) (g : Ri I2 I3) : Ri I I3 := fun k a b => (g k a b).trans (h k a b)
theorem Ri.jj (h : Ri I I2) : Rj I I2 := fun k a _ b => h k a b
theorem Rj.trans {I3 : Nat → Int32} (h : Rj I I2) (g : Rj I2 I3) : Rj I I3 := fun k a b c => (g k a b c).trans (h k a b c)
theorem u84 : updI I 8 x 4 = I 4 := rfl
theorem u48 : updI I 4 x 8 = I 8 := rfl
theorem u83 : updI I 8 x 3 = I 3 := rfl
theorem u43 : updI I 4 x 3 = I 3 := rfl
theorem pn_lt {q : Nat × Nat} (h : pn t a e = some q) : q.1 < 100 ∧ a < q.2 ∧ q.2 ≤ a + 3 ∧ q.2 ≤ tLn t ∧ a + 2 ≤ q.2 := by
  unfold pn at h
  cases e1 : tNum t a with
  | none => rw [e1] at h; cases h
  | some r =>
    rw [e1] at h
    dsimp only at h
    have := tNum_lt e1
    by_cases w : r.2 < tLn t ∧ tC t r.2 = e
    · rw [if_pos w] at h
      cases h
      have := w.1
      refine ⟨?_, ?_, ?_, ?_, ?_⟩ <;> dsimp only <;> omega
    · rw [if_neg w] at h; cases h
theorem inC_d (hlo : lo < 2 ^ 31) (hhi : hi < 2 ^ 31) (hn : n < 2 ^ 31) : inC (nI n) (nI lo) (nI hi) = decide (lo ≤ n ∧ n ≤ hi) := by
  unfold inC
  by_cases q1 : n < lo
  · rw [if_pos (nI_lt q1 hlo), decide_eq_false (by omega)]
  · rw [if_neg (nI_nlt (by omega) hn)]
    by_cases q2 : hi < n
    · rw [if_pos (nI_lt q2 hn), decide_eq_false (by omega)]
    · rw [if_neg (nI_nlt (by omega) hhi), decide_eq_true (by omega)]
theorem s7_fig (hl : 154 < hp.length) (hA : aOK A) (hT : TxR t I A) (h4 : I 4 = nI a) (ha : a < 1000) : am_E (d + 1) 101 0 [some (.ref 141)] [] (wD hp I A) = some (some (.int (b2 (tFig t a).isSome)), wD hp I A) := by
  obtain ⟨t1, t2, t3, t4⟩ := hT
  unfold tFig
  by_cases q : a < tLn t
  · have lx : am_ld (wD hp I A) 144 (nI a) = some (nI (tC t a)) := by rw [wD_l2 (k := a) rfl hl hA (by omega), t3 a q]
    have ein := s7_in (d := d) (hp := wD hp I A) (x := nI (tC t a)) (lo := 48) (hi := 57) (a := 48) (c := 57) (by decide) (by decide)
    have c1 := t4 a
    rw [show inC (nI (tC t a)) 48 57 = decide (48 ≤ tC t a ∧ tC t a ≤ 57) from inC_d (lo := 48) (hi := 57) (by decide) (by decide) (by omega)] at ein
    have lt' := ltT (x := nI (tLn t)) (c := tLn t) rfl q (by omega)
    by_cases q2 : 48 ≤ tC t a ∧ tC t a ≤ 57
    · rw [decide_eq_true q2, b2_t] at ein
      rw [if_pos ⟨q, q2⟩, Option.isSome_some, b2_t]
      simp (maxSteps := 1000000) (disch := first | exact nl_int | exact nl_ref | exact nl_none | exact Nat.le_of_ble_eq_true rfl | assumption | exact wD_cl (by assumption) | exact cat_int | exact cat_ref | exact z2 | exact z4 | exact z3 | exact z5 | exact z6 | exact z8 | exact z64) only [e_101_0, e_101_1, e_101_4, e_101_5, e_101_8, e_101_11, e_101_12, e_101_15, e_101_16, e_101_19, e_101_20, e_101_21, e_101_24, e_101_27, e_101_30, e_101_33, e_101_34, e_101_37, e_101_38, e_101_38_1, nl_int, nl_ref, nl_none, cat_int, cat_ref, cat_0, cat_i, cat_r, cat_l, Option.elim_some, Option.elim_none, Option.bind_some, Option.bind_none, Option.toList_some, Option.toList_none, List.cons_append, List.nil_append, Nat.reduceAdd, Nat.reduceLeDiff, wD_f2 hl, wD_f3 hl, wD_f4 hl, t1, h4, lt', if_true, lx, ein, z1, if_false]
    · rw [decide_eq_false q2, b2_f] at ein
      rw [if_neg (fun w => q2 w.2), Option.isSome_none, b2_f]
      simp (maxSteps := 1000000) (disch := first | exact nl_int | exact nl_ref | exact nl_none | exact Nat.le_of_ble_eq_true rfl | assumption | exact wD_cl (by assumption) | exact cat_int | exact cat_ref | exact z2 | exact z4 | exact z3 | exact z5 | exact z6 | exact z8 | exact z64) only [e_101_0, e_101_1, e_101_4, e_101_5, e_101_8, e_101_11, e_101_12, e_101_15, e_101_16, e_101_19, e_101_20, e_101_21, e_101_24, e_101_27, e_101_30, e_101_33, e_101_34, e_101_37, e_101_38, e_101_38_1, nl_int, nl_ref, nl_none, cat_int, cat_ref, cat_0, cat_i, cat_r, cat_l, Option.elim_some, Option.elim_none, Option.bind_some, Option.bind_none, Option.toList_some, Option.toList_none, List.cons_append, List.nil_append, Nat.reduceAdd, Nat.reduceLeDiff, wD_f2 hl, wD_f3 hl, wD_f4 hl, t1, h4, lt', if_true, lx, ein, z0]
  · rw [if_neg (fun w => q w.1), Option.isSome_none, b2_f]
    simp (maxSteps := 1000000) (disch := first | exact nl_int | exact nl_ref | exact nl_none | exact Nat.le_of_ble_eq_true rfl | assumption | exact wD_cl (by assumption) | exact cat_int | exact cat_ref | exact z2 | exact z4 | exact z3 | exact z5 | exact z6 | exact z8 | exact z64) only [e_101_0, e_101_1, e_101_4, e_101_5, e_101_8, e_101_11, e_101_12, e_101_15, e_101_16, e_101_19, e_101_20, e_101_21, e_101_24, e_101_27, e_101_30, e_101_33, e_101_34, e_101_37, e_101_38, e_101_38_1, nl_int, nl_ref, nl_none, cat_int, cat_ref, cat_0, cat_i, cat_r, cat_l, Option.elim_some, Option.elim_none, Option.bind_some, Option.bind_none, Option.toList_some, Option.toList_none, List.cons_append, List.nil_append, Nat.reduceAdd, Nat.reduceLeDiff, wD_f3 hl, wD_f4 hl, t1, h4, ltF (x := nI (tLn t)) (c := tLn t) rfl (show tLn t ≤ a by omega) (by omega), if_false]
/-- behind the figures: the number's bounds, the sign -/
theorem s7_numE (hl : 154 < hp.length) (hA : aOK A) (hT : TxR t I A) (h4 : I 4 = nI a) (ha : a < 1000) (h8 : I 8 = nI n) (hn : n < 100) (hlo : lo < 100) (hhi : hi < 100) (he : e < 100) : am_E (d + 2) 102 76 [some (.ref 141), some (.int (nI lo)), some (.int (nI hi)), some (.int (nI e)), none] [] (wD hp I A) = some (some (.int (b2 (decide ((lo ≤ n ∧ n ≤ hi) ∧ a < tLn t ∧ tC t a = e)))), wD hp (updI I 4 (nI (a + 1))) A) := by
  obtain ⟨t1, t2, t3, t4⟩ := hT
  have ein := s7_in (d := d + 1) (hp := wD hp I A) (x := nI n) (lo := nI lo) (hi := nI hi) rfl rfl
  rw [inC_d (by omega) (by omega) (by omega)] at ein
  by_cases q1 : lo ≤ n ∧ n ≤ hi
  · rw [decide_eq_true q1, b2_t] at ein
    by_cases q2 : a < tLn t
    · have lx : am_ld (wD hp I A) 144 (nI a) = some (nI (tC t a)) := by rw [wD_l2 (k := a) rfl hl hA (by omega), t3 a q2]
      have lt' := ltT (x := nI (tLn t)) (c := tLn t) rfl q2 (by omega)
      have c1 := t4 a
      by_cases q3 : tC t a = e
      · have q4 : nI (tC t a) = nI e := by rw [q3]
        rw [decide_eq_true ⟨q1, q2, q3⟩, b2_t]
        simp (maxSteps := 1000000) (disch := first | exact nl_int | exact nl_ref | exact nl_none | exact Nat.le_of_ble_eq_true rfl | assumption | exact wD_cl (by assumption) | exact cat_int | exact cat_ref | exact z2 | exact z4 | exact z3 | exact z5 | exact z6 | exact z8 | exact z64) only [e_102_0, e_102_1, e_102_4, e_102_7, e_102_8, e_102_8_1, e_102_9, e_102_10, e_102_11, e_102_14, e_102_15, e_102_18, e_102_19, e_102_21, e_102_22, e_102_25, e_102_26, e_102_27, e_102_30, e_102_31, e_102_32, e_102_35, e_102_36, e_102_39, e_102_42, e_102_43, e_102_45, e_102_46, e_102_49, e_102_50, e_102_51, e_102_54, e_102_55, e_102_58, e_102_59, e_102_60, e_102_62, e_102_63, e_102_66, e_102_67, e_102_68, e_102_71, e_102_72, e_102_73, e_102_76, e_102_77, e_102_80, e_102_81, e_102_82, e_102_83, e_102_84, e_102_85, e_102_88, e_102_91, e_102_92, e_102_95, e_102_96, e_102_99, e_102_102, e_102_103, e_102_106, e_102_107, e_102_110, e_102_111, e_102_112, e_102_115, e_102_116, e_102_119, e_102_120, e_102_122, e_102_123, e_102_124, e_102_127, e_102_128, e_102_129, e_102_132, e_102_134, e_102_134_1, nl_int, nl_ref, nl_none, cat_int, cat_ref, cat_0, cat_i, cat_r, cat_l, Option.elim_some, Option.elim_none, Option.bind_some, Option.bind_none, Option.toList_some, Option.toList_none, List.cons_append, List.nil_append, Nat.reduceAdd, Nat.reduceLeDiff, wD_f2 hl, wD_f3 hl, wD_f4 hl, wD_f8 hl, t1, h4, h8, ein, z1, if_false, lt', if_true, lx, if_pos q4, nI_1, wD_p4 hl]
      · have q4 : ¬ nI (tC t a) = nI e := fun w => q3 ((nI_eq (by omega) (by omega)).mp w)
        rw [decide_eq_false (fun w => q3 w.2.2), b2_f]
        simp (maxSteps := 1000000) (disch := first | exact nl_int | exact nl_ref | exact nl_none | exact Nat.le_of_ble_eq_true rfl | assumption | exact wD_cl (by assumption) | exact cat_int | exact cat_ref | exact z2 | exact z4 | exact z3 | exact z5 | exact z6 | exact z8 | exact z64) only [e_102_0, e_102_1, e_102_4, e_102_7, e_102_8, e_102_8_1, e_102_9, e_102_10, e_102_11, e_102_14, e_102_15, e_102_18, e_102_19, e_102_21, e_102_22, e_102_25, e_102_26, e_102_27, e_102_30, e_102_31, e_102_32, e_102_35, e_102_36, e_102_39, e_102_42, e_102_43, e_102_45, e_102_46, e_102_49, e_102_50, e_102_51, e_102_54, e_102_55, e_102_58, e_102_59, e_102_60, e_102_62, e_102_63, e_102_66, e_102_67, e_102_68, e_102_71, e_102_72, e_102_73, e_102_76, e_102_77, e_102_80, e_102_81, e_102_82, e_102_83, e_102_84, e_102_85, e_102_88, e_102_91, e_102_92, e_102_95, e_102_96, e_102_99, e_102_102, e_102_103, e_102_106, e_102_107, e_102_110, e_102_111, e_102_112, e_102_115, e_102_116, e_102_119, e_102_120, e_102_122, e_102_123, e_102_124, e_102_127, e_102_128, e_102_129, e_102_132, e_102_134, e_102_134_1, nl_int, nl_ref, nl_none, cat_int, cat_ref, cat_0, cat_i, cat_r, cat_l, Option.elim_some, Option.elim_none, Option.bind_some, Option.bind_none, Option.toList_some, Option.toList_none, List.cons_append, List.nil_append, Nat.reduceAdd, Nat.reduceLeDiff, wD_f2 hl, wD_f3 hl, wD_f4 hl, wD_f8 hl, t1, h4, h8, ein, z1, if_false, lt', if_true, lx, if_neg q4, nI_1, wD_p4 hl]
    · rw [decide_eq_false (fun w => q2 w.2.1), b2_f]
      simp (maxSteps := 1000000) (disch := first | exact nl_int | exact nl_ref | exact nl_none | exact Nat.le_of_ble_eq_true rfl | assumption | exact wD_cl (by assumption) | exact cat_int | exact cat_ref | exact z2 | exact z4 | exact z3 | exact z5 | exact z6 | exact z8 | exact z64) only [e_102_0, e_102_1, e_102_4, e_102_7, e_102_8, e_102_8_1, e_102_9, e_102_10, e_102_11, e_102_14, e_102_15, e_102_18, e_102_19, e_102_21, e_102_22, e_102_25, e_102_26, e_102_27, e_102_30, e_102_31, e_102_32, e_102_35, e_102_36, e_102_39, e_102_42, e_102_43, e_102_45, e_102_46, e_102_49, e_102_50, e_102_51, e_102_54, e_102_55, e_102_58, e_102_59, e_102_60, e_102_62, e_102_63, e_102_66, e_102_67, e_102_68, e_102_71, e_102_72, e_102_73, e_102_76, e_102_77, e_102_80, e_102_81, e_102_82, e_102_83, e_102_84, e_102_85, e_102_88, e_102_91, e_102_92, e_102_95, e_102_96, e_102_99, e_102_102, e_102_103, e_102_106, e_102_107, e_102_110, e_102_111, e_102_112, e_102_115, e_102_116, e_102_119, e_102_120, e_102_122, e_102_123, e_102_124, e_102_127, e_102_128, e_102_129, e_102_132, e_102_134, e_102_134_1, nl_int, nl_ref, nl_none, cat_int, cat_ref, cat_0, cat_i, cat_r, cat_l, Option.elim_some, Option.elim_none, Option.bind_some, Option.bind_none, Option.toList_some, Option.toList_none, List.cons_append, List.nil_append, Nat.reduceAdd, Nat.reduceLeDiff, wD_f3 hl, wD_f4 hl, wD_f8 hl, t1, h4, h8, ein, z1, if_false, ltF (x := nI (tLn t)) (c := tLn t) rfl (show tLn t ≤ a by omega) (by omega), nI_1, wD_p4 hl]
  · rw [decide_eq_false q1, b2_f] at ein
    rw [decide_eq_false (fun w => q1 w.1), b2_f]
    simp (maxSteps := 1000000) (disch := first | exact nl_int | exact nl_ref | exact nl_none | exact Nat.le_of_ble_eq_true rfl | assumption | exact wD_cl (by assumption) | exact cat_int | exact cat_ref | exact z2 | exact z4 | exact z3 | exact z5 | exact z6 | exact z8 | exact z64) only [e_102_0, e_102_1, e_102_4, e_102_7, e_102_8, e_102_8_1, e_102_9, e_102_10, e_102_11, e_102_14, e_102_15, e_102_18, e_102_19, e_102_21, e_102_22, e_102_25, e_102_26, e_102_27, e_102_30, e_102_31, e_102_32, e_102_35, e_102_36, e_102_39, e_102_42, e_102_43, e_102_45, e_102_46, e_102_49, e_102_50, e_102_51, e_102_54, e_102_55, e_102_58, e_102_59, e_102_60, e_102_62, e_102_63, e_102_66, e_102_67, e_102_68, e_102_71, e_102_72, e_102_73, e_102_76, e_102_77, e_102_80, e_102_81, e_102_82, e_102_83, e_102_84, e_102_85, e_102_88, e_102_91, e_102_92, e_102_95, e_102_96, e_102_99, e_102_102, e_102_103, e_102_106, e_102_107, e_102_110, e_102_111, e_102_112, e_102_115, e_102_116, e_102_119, e_102_120, e_102_122, e_102_123, e_102_124, e_102_127, e_102_128, e_102_129, e_102_132, e_102_134, e_102_134_1, nl_int, nl_ref, nl_none, cat_int, cat_ref, cat_0, cat_i, cat_r, cat_l, Option.elim_some, Option.elim_none, Option.bind_some, Option.bind_none, Option.toList_some, Option.toList_none, List.cons_append, List.nil_append, Nat.reduceAdd, Nat.reduceLeDiff, wD_f4 hl, wD_f8 hl, h4, h8, ein, z0, if_true, nI_1, wD_p4 hl]
theorem s7_num0 (hl : 154 < hp.length) (hA : aOK A) (hT : TxR t I A) (h4 : I 4 = nI a) (ha : a < 900) (hlo : lo < 100) (hhi : hi < 100) (he : e < 100) : (tNum t a = none → am_E (d + 2) 102 0 [some (.ref 141), some (.int (nI lo)), some (.int (nI hi)), some (.int (nI e)), none] [] (wD hp I A) = some (some (.int 0), wD hp I A)) ∧ (∀ q, tNum t a = some q → ∃ I2, I2 8 = nI q.1 ∧ I2 4 = nI (q.2 + 1) ∧ Ri I I2 ∧ am_E (d + 2) 102 0 [some (.ref 141), some (.int (nI lo)), some (.int (nI hi)), some (.int (nI e)), none] [] (wD hp I A) = some (some (.int (b2 (decide ((lo ≤ q.1 ∧ q.1 ≤ hi) ∧ q.2 < tLn t ∧ tC t q.2 = e)))), wD hp I2 A)) := by
  have f1 := s7_fig (d := d) hl hA hT h4 (by omega)
  obtain ⟨t1, t2, t3, t4⟩ := hT
  unfold tNum
  cases g1 : tFig t a with
  | none =>
    refine ⟨fun _ => ?_, fun q h => nomatch h⟩
    rw [g1, Option.isSome_none, b2_f] at f1
    simp (maxSteps := 1000000) (disch := first | exact nl_int | exact nl_ref | exact nl_none | exact Nat.le_of_ble_eq_true rfl | assumption | exact wD_cl (by assumption) | exact cat_int | exact cat_ref | exact z2 | exact z4 | exact z3 | exact z5 | exact z6 | exact z8 | exact z64) only [e_102_0, e_102_1, e_102_4, e_102_7, e_102_8, e_102_8_1, e_102_9, e_102_10, e_102_11, e_102_14, e_102_15, e_102_18, e_102_19, e_102_21, e_102_22, e_102_25, e_102_26, e_102_27, e_102_30, e_102_31, e_102_32, e_102_35, e_102_36, e_102_39, e_102_42, e_102_43, e_102_45, e_102_46, e_102_49, e_102_50, e_102_51, e_102_54, e_102_55, e_102_58, e_102_59, e_102_60, e_102_62, e_102_63, e_102_66, e_102_67, e_102_68, e_102_71, e_102_72, e_102_73, e_102_76, e_102_77, e_102_80, e_102_81, e_102_82, e_102_83, e_102_84, e_102_85, e_102_88, e_102_91, e_102_92, e_102_95, e_102_96, e_102_99, e_102_102, e_102_103, e_102_106, e_102_107, e_102_110, e_102_111, e_102_112, e_102_115, e_102_116, e_102_119, e_102_120, e_102_122, e_102_123, e_102_124, e_102_127, e_102_128, e_102_129, e_102_132, e_102_134, e_102_134_1, nl_int, nl_ref, nl_none, cat_int, cat_ref, cat_0, cat_i, cat_r, cat_l, Option.elim_some, Option.elim_none, Option.bind_some, Option.bind_none, Option.toList_some, Option.toList_none, List.cons_append, List.nil_append, Nat.reduceAdd, Nat.reduceLeDiff, f1, z0, if_true]
  | some u =>
    rw [g1, Option.isSome_some, b2_t] at f1
    obtain ⟨u9, al, ec⟩ := tFig_lt g1
    have lx : am_ld (wD hp I A) 144 (nI a) = some (nI (u + 48)) := by rw [wD_l2 (k := a) rfl hl hA (by omega), t3 a al, ec]
    have e1 : nI (u + 48) - 48 = nI u := by
      have := pk_sub (a := u + 48) (b := 48) (by omega)
      rw [show u + 48 - 48 = u from by omega] at this
      exact this
    have hT1 : TxR t (updI (updI I 8 (nI u)) 4 (nI (a + 1))) A := ⟨t1, t2, t3, t4⟩
    have f2 := s7_fig (d := d) hl hA hT1 (a := a + 1) rfl (by omega)
    have nn : ¬ ((match tFig t (a + 1) with
      | none => some (u, a + 1)
      | some v => some (10 * u + v, a + 2)) = (none : Option (Nat × Nat))) := fun h => by
      cases g2 : tFig t (a + 1) with
      | none => rw [g2] at h; cases h
      | some v => rw [g2] at h; cases h
    refine ⟨fun h => absurd h nn, ?_⟩
    dsimp only
    cases g2 : tFig t (a + 1) with
    | none =>
      rw [g2, Option.isSome_none, b2_f] at f2
      intro q hq
      cases hq
      refine ⟨updI (updI (updI I 8 (nI u)) 4 (nI (a + 1))) 4 (nI (a + 1 + 1)), rfl, rfl, fun k h4 h8 => ?_, ?_⟩
      · unfold updI; rw [if_neg h4, if_neg h4, if_neg h8]
      · have eE := s7_numE (d := d) (n := u) (lo := lo) (hi := hi) (e := e) hl hA hT1 (a := a + 1) rfl (by omega) rfl (by omega) hlo hhi he
        rw [← eE]
        simp (maxSteps := 1000000) (disch := first | exact nl_int | exact nl_ref | exact nl_none | exact Nat.le_of_ble_eq_true rfl | assumption | exact wD_cl (by assumption) | exact cat_int | exact cat_ref | exact z2 | exact z4 | exact z3 | exact z5 | exact z6 | exact z8 | exact z64) only [e_102_0, e_102_1, e_102_4, e_102_7, e_102_8, e_102_8_1, e_102_9, e_102_10, e_102_11, e_102_14, e_102_15, e_102_18, e_102_19, e_102_21, e_102_22, e_102_25, e_102_26, e_102_27, e_102_30, e_102_31, e_102_32, e_102_35, e_102_36, e_102_39, e_102_42, e_102_43, e_102_45, e_102_46, e_102_49, e_102_50, e_102_51, e_102_54, e_102_55, e_102_58, e_102_59, e_102_60, e_102_62, e_102_63, e_102_66, e_102_67, e_102_68, e_102_71, e_102_72, e_102_73, e_102_77, e_102_80, e_102_81, e_102_82, e_102_83, e_102_84, e_102_85, e_102_88, e_102_91, e_102_92, e_102_95, e_102_96, e_102_99, e_102_102, e_102_103, e_102_106, e_102_107, e_102_110, e_102_111, e_102_112, e_102_115, e_102_116, e_102_119, e_102_120, e_102_122, e_102_123, e_102_124, e_102_127, e_102_128, e_102_129, e_102_132, e_102_134, e_102_134_1, nl_int, nl_ref, nl_none, cat_int, cat_ref, cat_0, cat_i, cat_r, cat_l, Option.elim_some, Option.elim_none, Option.bind_some, Option.bind_none, Option.toList_some, Option.toList_none, List.cons_append, List.nil_append, Nat.reduceAdd, Nat.reduceLeDiff, f1, z1, if_false, wD_f2 hl, wD_f4 hl, h4, lx, e1, wD_p8 hl, u84, nI_1, wD_p4 hl, f2, z0, if_true]
    | some v =>
      rw [g2, Option.isSome_some, b2_t] at f2
      obtain ⟨v9, al2, ec2⟩ := tFig_lt g2
      have lx2 : am_ld (wD hp (updI (updI I 8 (nI u)) 4 (nI (a + 1))) A) 144 (nI (a + 1)) = some (nI (v + 48)) := by rw [wD_l2 (k := a + 1) rfl hl hA (by omega), t3 (a + 1) al2, ec2]
      have e2 : 10 * nI u + nI (v + 48) - 48 = nI (10 * u + v) := by
        have := pk_sub (a := 10 * u + (v + 48)) (b := 48) (by omega)
        rw [show 10 * u + (v + 48) - 48 = 10 * u + v from by omega, ← nI_add, ← pk_mul] at this
        exact this
      intro q hq
      cases hq
      have hT2 : TxR t (updI (updI (updI (updI I 8 (nI u)) 4 (nI (a + 1))) 8 (nI (10 * u + v))) 4 (nI (a + 1 + 1))) A := ⟨t1, t2, t3, t4⟩
      refine ⟨updI (updI (updI (updI (updI I 8 (nI u)) 4 (nI (a + 1))) 8 (nI (10 * u + v))) 4 (nI (a + 1 + 1))) 4 (nI (a + 2 + 1)), rfl, rfl, fun k h4 h8 => ?_, ?_⟩
      · unfold updI; rw [if_neg h4, if_neg h4, if_neg h8, if_neg h4, if_neg h8]
      · have eE := s7_numE (d := d) (n := 10 * u + v) (lo := lo) (hi := hi) (e := e) hl hA hT2 (a := a + 2) rfl (by omega) rfl (by omega) hlo hhi he
        rw [← eE]
        simp (maxSteps := 1000000) (disch := first | exact nl_int | exact nl_ref | exact nl_none | exact Nat.le_of_ble_eq_true rfl | assumption | exact wD_cl (by assumption) | exact cat_int | exact cat_ref | exact z2 | exact z4 | exact z3 | exact z5 | exact z6 | exact z8 | exact z64) only [e_102_0, e_102_1, e_102_4, e_102_7, e_102_8, e_102_8_1, e_102_9, e_102_10, e_102_11, e_102_14, e_102_15, e_102_18, e_102_19, e_102_21, e_102_22, e_102_25, e_102_26, e_102_27, e_102_30, e_102_31, e_102_32, e_102_35, e_102_36, e_102_39, e_102_42, e_102_43, e_102_45, e_102_46, e_102_49, e_102_50, e_102_51, e_102_54, e_102_55, e_102_58, e_102_59, e_102_60, e_102_62, e_102_63, e_102_66, e_102_67, e_102_68, e_102_71, e_102_72, e_102_73, e_102_77, e_102_80, e_102_81, e_102_82, e_102_83, e_102_84, e_102_85, e_102_88, e_102_91, e_102_92, e_102_95, e_102_96, e_102_99, e_102_102, e_102_103, e_102_106, e_102_107, e_102_110, e_102_111, e_102_112, e_102_115, e_102_116, e_102_119, e_102_120, e_102_122, e_102_123, e_102_124, e_102_127, e_102_128, e_102_129, e_102_132, e_102_134, e_102_134_1, nl_int, nl_ref, nl_none, cat_int, cat_ref, cat_0, cat_i, cat_r, cat_l, Option.elim_some, Option.elim_none, Option.bind_some, Option.bind_none, Option.toList_some, Option.toList_none, List.cons_append, List.nil_append, Nat.reduceAdd, Nat.reduceLeDiff, f1, z1, if_false, wD_f2 hl, wD_f4 hl, wD_f8 hl, h4, lx, e1, wD_p8 hl, u84, u48, updI_s, nI_1, wD_p4 hl, f2, lx2, e2]
/-- number(lo, hi, e) -/
theorem s7_num (hl : 154 < hp.length) (hA : aOK A) (hT : TxR t I A) (h4 : I 4 = nI a) (ha : a < 900) (hlo : lo < 100) (hhi : hi < 100) (he : e < 100) : (pnr t a e lo hi = none → ∃ I2, Ri I I2 ∧ am_E (d + 2) 102 0 [some (.ref 141), some (.int (nI lo)), some (.int (nI hi)), some (.int (nI e)), none] [] (wD hp I A) = some (some (.int 0), wD hp I2 A)) ∧ (∀ q, pnr t a e lo hi = some q → ∃ I2, I2 8 = nI q.1 ∧ I2 4 = nI q.2 ∧ Ri I I2 ∧ am_E (d + 2) 102 0 [some (.ref 141), some (.int (nI lo)), some (.int (nI hi)), some (.int (nI e)), none] [] (wD hp I A) = some (some (.int 1), wD hp I2 A)) := by
  obtain ⟨n0, n1⟩ := s7_num0 (d := d) hl hA hT h4 ha hlo hhi he
  unfold pnr pn
  cases g : tNum t a with
  | none => exact ⟨fun _ => ⟨I, Ri.rfl', n0 g⟩, fun q h => nomatch h⟩
  | some q =>
    obtain ⟨I2, a1, a2, a3, a4⟩ := n1 q g
    dsimp only
    by_cases w : q.2 < tLn t ∧ tC t q.2 = e
    · rw [if_pos w]
      dsimp only
      by_cases w2 : lo ≤ q.1 ∧ q.1 ≤ hi
      · rw [if_pos w2]
        rw [decide_eq_true ⟨w2, w⟩, b2_t] at a4
        exact ⟨fun h => (nomatch h), fun r hr => by cases hr; exact ⟨I2, a1, a2, a3, a4⟩⟩
      · rw [if_neg w2]
        rw [decide_eq_false (fun z => w2 z.1), b2_f] at a4
        exact ⟨fun _ => ⟨I2, a3, a4⟩, fun r hr => nomatch hr⟩
    · rw [if_neg w]
      rw [decide_eq_false (fun z => w z.2), b2_f] at a4
      exact ⟨fun _ => ⟨I2, a3, a4⟩, fun r hr => nomatch hr⟩
theorem TxR.rj (h : TxR t I A) (hr : Rj I I2) (e : A2 2 = A 2) : TxR t I2 A2 := ⟨by rw [hr 3 (by decide) (by decide) (by decide)]; exact h.1, h.2.1, by rw [e]; exact h.2.2.1, h.2.2.2⟩
theorem TxR.ri (h : TxR t I A) (hr : Ri I I2) (e : A2 2 = A 2) : TxR t I2 A2 := h.rj hr.jj e
end RDA
