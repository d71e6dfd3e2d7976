/-! THE REFERENCE: the loops of an hour, cut at the people -/
section MD8
variable {d : Nat} {hp hp2 : am_H} {I : Nat → Int32} {A : Nat → List Int32} {i j k n b p hr tt : Nat} {x y t : Int32} {B C : List Int32} {ct : am_Ci} {m : am_Mo}
theorem tog_out (hN : Nm ct m) (hi : i < cPp ct) (hj : cPp ct ≤ j) (h8 : j < 8) : mTog m i j = false := by
  obtain ⟨o, t1, h, ho, ht, hh, eo, et, eh⟩ := hN.1 i hi
  rw [mTog_eq hN hi, hN.2.1 j hj h8, eh]
  exact decide_eq_false (fun z => nI_pos (show h < 2 ^ 31 by have := hN.2.2.2; omega) (by rw [z]; decide))
theorem tog_none (hN : Nm ct m) (hi : cPp ct ≤ i) (h8 : i < 8) : mTog m i j = false := by
  unfold mTog
  rw [if_pos (hN.2.1 i hi h8)]
theorem mCT2_no (h : mTog m i j = false) : mCT2 i j m = m := by unfold mCT2; rw [h, if_pos rfl]
theorem mCO2_no (h : mTog m i j = false) : mCO2 i j m = m := by unfold mCO2; rw [h, if_pos rfl]
theorem mCT1_no (h : ∀ j, mTog m i j = false) : mCT1 i m = m := by
  unfold mCT1
  exact am_for_id2 _ _ _ (fun j _ _ => mCT2_no (h j))
theorem mCO1_no (h : ∀ j, mTog m i j = false) : mCO1 i m = m := by
  unfold mCO1
  exact am_for_id2 _ _ _ (fun j _ _ => mCO2_no (h j))
theorem mCT1_cut (hi : i < cPp ct) (h8 : cPp ct ≤ 8) (hN : Nm ct (am_for (mCT2 i) (i + 1) (cPp ct - 1 - i) m)) : mCT1 i m = am_for (mCT2 i) (i + 1) (cPp ct - 1 - i) m := by
  unfold mCT1
  rw [show 7 - i = (cPp ct - 1 - i) + (8 - cPp ct) from by omega, am_for_add]
  exact am_for_id2 _ _ _ (fun j h1 h2 => mCT2_no (tog_out hN hi (by omega) (by omega)))
theorem mCO1_cut (hi : i < cPp ct) (h8 : cPp ct ≤ 8) (hN : Nm ct (am_for (mCO2 i) (i + 1) (cPp ct - 1 - i) m)) : mCO1 i m = am_for (mCO2 i) (i + 1) (cPp ct - 1 - i) m := by
  unfold mCO1
  rw [show 7 - i = (cPp ct - 1 - i) + (8 - cPp ct) from by omega, am_for_add]
  exact am_for_id2 _ _ _ (fun j h1 h2 => mCO2_no (tog_out hN hi (by omega) (by omega)))
theorem mCT_cut (hN : Nm ct (am_for mCT1 0 (cPp ct) m)) : mCT m = am_for mCT1 0 (cPp ct) m := by
  have h8 := hN.2.2.1
  unfold mCT
  rw [show (8 : Nat) = cPp ct + (8 - cPp ct) from by omega, am_for_add]
  exact am_for_id2 _ _ _ (fun i h1 h2 => mCT1_no (fun j => tog_none hN (by omega) (by omega)))
theorem mCO_cut (hN : Nm ct (am_for mCO1 0 (cPp ct) m)) : mCO m = am_for mCO1 0 (cPp ct) m := by
  have h8 := hN.2.2.1
  unfold mCO
  rw [show (8 : Nat) = cPp ct + (8 - cPp ct) from by omega, am_for_add]
  exact am_for_id2 _ _ _ (fun i h1 h2 => mCO1_no (fun j => tog_none hN (by omega) (by omega)))
theorem s7_cts (hl : 154 < hp.length) (hA : aOK A) : ∀ n i (m : am_Mo) (C : List Int32) l3 l4, i + n = cPp ct → Hv ct hr A m C → ∃ C2 l5 l6, Hv ct hr A (am_for mCT1 i n m) C2 ∧ am_E (d + 4) 118 7 [some (.ref 141), some (.int x), some (.int (nI i)), l3, l4] [] (wD hp I (updA A 1 C)) = am_E (d + 4) 118 91 [some (.ref 141), some (.int x), some (.int (nI (cPp ct))), l5, l6] [] (wD hp I (updA A 1 C2)) := by
  intro n
  induction n with
  | zero =>
    intro i m C l3 l4 hi hv
    refine ⟨C, l3, l4, hv, ?_⟩
    obtain rfl : i = cPp ct := by omega
    have h8 := hv.2.1.2.2.1
    have hA2 : aOK (updA A 1 C) := updA_ok hA hv.2.2.2.1
    have m0 : am_ld (wD hp I (updA A 1 C)) 143 0 = some (nI (cPp ct)) := by
      rw [wD_l1 (x := 0) (k := 0) rfl hl hA2 (by decide)]
      exact congrArg some hv.2.2.1.2.2.2.2.1.1
    rw [e_118_7]
    simp (disch := first | exact nl_int | exact nl_ref | exact nl_none | exact Nat.le_of_ble_eq_true rfl | assumption | exact cat_int | exact cat_ref | exact z2 | exact z4 | exact z3 | exact z5 | exact z6 | exact z8 | exact z64) only [e_118_0, e_118_1, e_118_2, e_118_5, e_118_6, e_118_8, e_118_9, e_118_12, e_118_13, e_118_14, e_118_17, e_118_18, e_118_19, e_118_20, e_118_22, e_118_23, e_118_26, e_118_27, e_118_28, e_118_31, e_118_32, e_118_33, e_118_36, e_118_37, e_118_38, e_118_41, e_118_44, e_118_45, e_118_48, e_118_49, e_118_50, e_118_51, e_118_52, e_118_53, e_118_54, e_118_55, e_118_58, e_118_59, e_118_62, e_118_63, e_118_65, e_118_66, e_118_67, e_118_69, e_118_72, e_118_73, e_118_74, e_118_76, e_118_79, e_118_82, e_118_85, e_118_88, e_118_92, e_118_94, e_118_95, e_118_98, e_118_99, e_118_100, e_118_103, e_118_104, e_118_105, e_118_106, e_118_108, e_118_109, e_118_112, e_118_113, e_118_114, e_118_117, e_118_118, e_118_119, e_118_122, e_118_123, e_118_124, e_118_127, e_118_128, e_118_130, e_118_131, e_118_132, e_118_135, e_118_136, e_118_137, e_118_140, e_118_143, e_118_144, e_118_145, e_118_148, e_118_151, e_118_152, e_118_153, e_118_156, e_118_159, e_118_160, e_118_163, e_118_164, e_118_165, e_118_166, e_118_167, e_118_168, e_118_171, e_118_172, e_118_175, e_118_176, e_118_177, e_118_178, e_118_179, e_118_180, e_118_181, e_118_182, e_118_184, e_118_186, e_118_187, e_118_188, e_118_189, e_118_190, e_118_193, e_118_196, e_118_199, e_118_202, e_118_203, e_118_206, e_118_207, e_118_208, e_118_209, e_118_210, e_118_211, e_118_212, nl_int, nl_ref, nl_none, cat_int, cat_ref, cat_0, cat_i, cat_r, cat_l, Option.elim_some, Option.elim_none, Option.bind_some, Option.bind_none, Option.toList_some, Option.toList_none, List.cons_append, List.nil_append, Nat.reduceAdd, Nat.reduceLeDiff, wD_f1 hl, m0, ltF (x := nI (cPp ct)) (c := cPp ct) rfl (Nat.le_refl _) (by omega), if_false]
  | succ n ih =>
    intro i m C l3 l4 hin hv
    have h8 := hv.2.1.2.2.1
    have hi : i < cPp ct := by omega
    have hA2 : aOK (updA A 1 C) := updA_ok hA hv.2.2.2.1
    have m0 : am_ld (wD hp I (updA A 1 C)) 143 0 = some (nI (cPp ct)) := by
      rw [wD_l1 (x := 0) (k := 0) rfl hl hA2 (by decide)]
      exact congrArg some hv.2.2.1.2.2.2.2.1.1
    obtain ⟨C1, l7, hv1, e1⟩ := s7_ct (d := d) (I := I) (x := x) hl hA hi (cPp ct - 1 - i) (i + 1) m C l4 (by omega) hv
    rw [← mCT1_cut hi h8 hv1.2.1] at hv1
    obtain ⟨C2, l5, l6, hv2, e2⟩ := ih (i + 1) (mCT1 i m) C1 (some (.int (nI (cPp ct)))) l7 (by omega) hv1
    refine ⟨C2, l5, l6, by rw [am_for]; exact hv2, ?_⟩
    rw [← e2, e_118_7]
    simp (disch := first | exact nl_int | exact nl_ref | exact nl_none | exact Nat.le_of_ble_eq_true rfl | assumption | exact cat_int | exact cat_ref | exact z2 | exact z4 | exact z3 | exact z5 | exact z6 | exact z8 | exact z64) only [e_118_0, e_118_1, e_118_2, e_118_5, e_118_6, e_118_8, e_118_9, e_118_12, e_118_13, e_118_14, e_118_17, e_118_18, e_118_19, e_118_20, e_118_22, e_118_23, e_118_26, e_118_27, e_118_28, e_118_31, e_118_32, e_118_33, e_118_36, e_118_37, e_118_38, e_118_41, e_118_44, e_118_45, e_118_48, e_118_49, e_118_50, e_118_51, e_118_52, e_118_53, e_118_54, e_118_55, e_118_58, e_118_59, e_118_62, e_118_63, e_118_65, e_118_66, e_118_67, e_118_69, e_118_72, e_118_73, e_118_74, e_118_76, e_118_79, e_118_82, e_118_85, e_118_88, e_118_92, e_118_94, e_118_95, e_118_98, e_118_99, e_118_100, e_118_103, e_118_104, e_118_105, e_118_106, e_118_108, e_118_109, e_118_112, e_118_113, e_118_114, e_118_117, e_118_118, e_118_119, e_118_122, e_118_123, e_118_124, e_118_127, e_118_128, e_118_130, e_118_131, e_118_132, e_118_135, e_118_136, e_118_137, e_118_140, e_118_143, e_118_144, e_118_145, e_118_148, e_118_151, e_118_152, e_118_153, e_118_156, e_118_159, e_118_160, e_118_163, e_118_164, e_118_165, e_118_166, e_118_167, e_118_168, e_118_171, e_118_172, e_118_175, e_118_176, e_118_177, e_118_178, e_118_179, e_118_180, e_118_181, e_118_182, e_118_184, e_118_186, e_118_187, e_118_188, e_118_189, e_118_190, e_118_193, e_118_196, e_118_199, e_118_202, e_118_203, e_118_206, e_118_207, e_118_208, e_118_209, e_118_210, e_118_211, e_118_212, nl_int, nl_ref, nl_none, cat_int, cat_ref, cat_0, cat_i, cat_r, cat_l, Option.elim_some, Option.elim_none, Option.bind_some, Option.bind_none, Option.toList_some, Option.toList_none, List.cons_append, List.nil_append, Nat.reduceAdd, Nat.reduceLeDiff, wD_f1 hl, m0, ltT (x := nI (cPp ct)) (c := cPp ct) rfl hi (by omega), if_true, nI_1, e1]
theorem s7_cos (hl : 154 < hp.length) (hA : aOK A) : ∀ n i (m : am_Mo) (C : List Int32) l3 l4, i + n = cPp ct → Hv ct hr A m C → ∃ C2 l5 l6, Hv ct hr A (am_for mCO1 i n m) C2 ∧ am_E (d + 4) 118 93 [some (.ref 141), some (.int x), some (.int (nI i)), l3, l4] [] (wD hp I (updA A 1 C)) = am_E (d + 4) 118 202 [some (.ref 141), some (.int x), some (.int (nI (cPp ct))), l5, l6] [] (wD hp I (updA A 1 C2)) := by
  intro n
  induction n with
  | zero =>
    intro i m C l3 l4 hi hv
    refine ⟨C, l3, l4, hv, ?_⟩
    obtain rfl : i = cPp ct := by omega
    have h8 := hv.2.1.2.2.1
    have hA2 : aOK (updA A 1 C) := updA_ok hA hv.2.2.2.1
    have m0 : am_ld (wD hp I (updA A 1 C)) 143 0 = some (nI (cPp ct)) := by
      rw [wD_l1 (x := 0) (k := 0) rfl hl hA2 (by decide)]
      exact congrArg some hv.2.2.1.2.2.2.2.1.1
    rw [e_118_93]
    simp (disch := first | exact nl_int | exact nl_ref | exact nl_none | exact Nat.le_of_ble_eq_true rfl | assumption | exact cat_int | exact cat_ref | exact z2 | exact z4 | exact z3 | exact z5 | exact z6 | exact z8 | exact z64) only [e_118_0, e_118_1, e_118_2, e_118_5, e_118_6, e_118_8, e_118_9, e_118_12, e_118_13, e_118_14, e_118_17, e_118_18, e_118_19, e_118_20, e_118_22, e_118_23, e_118_26, e_118_27, e_118_28, e_118_31, e_118_32, e_118_33, e_118_36, e_118_37, e_118_38, e_118_41, e_118_44, e_118_45, e_118_48, e_118_49, e_118_50, e_118_51, e_118_52, e_118_53, e_118_54, e_118_55, e_118_58, e_118_59, e_118_62, e_118_63, e_118_65, e_118_66, e_118_67, e_118_69, e_118_72, e_118_73, e_118_74, e_118_76, e_118_79, e_118_82, e_118_85, e_118_88, e_118_91, e_118_92, e_118_94, e_118_95, e_118_98, e_118_99, e_118_100, e_118_103, e_118_104, e_118_105, e_118_106, e_118_108, e_118_109, e_118_112, e_118_113, e_118_114, e_118_117, e_118_118, e_118_119, e_118_122, e_118_123, e_118_124, e_118_127, e_118_128, e_118_130, e_118_131, e_118_132, e_118_135, e_118_136, e_118_137, e_118_140, e_118_143, e_118_144, e_118_145, e_118_148, e_118_151, e_118_152, e_118_153, e_118_156, e_118_159, e_118_160, e_118_163, e_118_164, e_118_165, e_118_166, e_118_167, e_118_168, e_118_171, e_118_172, e_118_175, e_118_176, e_118_177, e_118_178, e_118_179, e_118_180, e_118_181, e_118_182, e_118_184, e_118_186, e_118_187, e_118_188, e_118_189, e_118_190, e_118_193, e_118_196, e_118_199, e_118_203, e_118_206, e_118_207, e_118_208, e_118_209, e_118_210, e_118_211, e_118_212, nl_int, nl_ref, nl_none, cat_int, cat_ref, cat_0, cat_i, cat_r, cat_l, Option.elim_some, Option.elim_none, Option.bind_some, Option.bind_none, Option.toList_some, Option.toList_none, List.cons_append, List.nil_append, Nat.reduceAdd, Nat.reduceLeDiff, wD_f1 hl, m0, ltF (x := nI (cPp ct)) (c := cPp ct) rfl (Nat.le_refl _) (by omega), if_false]
  | succ n ih =>
    intro i m C l3 l4 hin hv
    have h8 := hv.2.1.2.2.1
    have hi : i < cPp ct := by omega
    have hA2 : aOK (updA A 1 C) := updA_ok hA hv.2.2.2.1
    have m0 : am_ld (wD hp I (updA A 1 C)) 143 0 = some (nI (cPp ct)) := by
      rw [wD_l1 (x := 0) (k := 0) rfl hl hA2 (by decide)]
      exact congrArg some hv.2.2.1.2.2.2.2.1.1
    obtain ⟨C1, l7, hv1, e1⟩ := s7_co (d := d) (I := I) (x := x) hl hA hi (cPp ct - 1 - i) (i + 1) m C l4 (by omega) hv
    rw [← mCO1_cut hi h8 hv1.2.1] at hv1
    obtain ⟨C2, l5, l6, hv2, e2⟩ := ih (i + 1) (mCO1 i m) C1 (some (.int (nI (cPp ct)))) l7 (by omega) hv1
    refine ⟨C2, l5, l6, by rw [am_for]; exact hv2, ?_⟩
    rw [← e2, e_118_93]
    simp (disch := first | exact nl_int | exact nl_ref | exact nl_none | exact Nat.le_of_ble_eq_true rfl | assumption | exact cat_int | exact cat_ref | exact z2 | exact z4 | exact z3 | exact z5 | exact z6 | exact z8 | exact z64) only [e_118_0, e_118_1, e_118_2, e_118_5, e_118_6, e_118_8, e_118_9, e_118_12, e_118_13, e_118_14, e_118_17, e_118_18, e_118_19, e_118_20, e_118_22, e_118_23, e_118_26, e_118_27, e_118_28, e_118_31, e_118_32, e_118_33, e_118_36, e_118_37, e_118_38, e_118_41, e_118_44, e_118_45, e_118_48, e_118_49, e_118_50, e_118_51, e_118_52, e_118_53, e_118_54, e_118_55, e_118_58, e_118_59, e_118_62, e_118_63, e_118_65, e_118_66, e_118_67, e_118_69, e_118_72, e_118_73, e_118_74, e_118_76, e_118_79, e_118_82, e_118_85, e_118_88, e_118_91, e_118_92, e_118_94, e_118_95, e_118_98, e_118_99, e_118_100, e_118_103, e_118_104, e_118_105, e_118_106, e_118_108, e_118_109, e_118_112, e_118_113, e_118_114, e_118_117, e_118_118, e_118_119, e_118_122, e_118_123, e_118_124, e_118_127, e_118_128, e_118_130, e_118_131, e_118_132, e_118_135, e_118_136, e_118_137, e_118_140, e_118_143, e_118_144, e_118_145, e_118_148, e_118_151, e_118_152, e_118_153, e_118_156, e_118_159, e_118_160, e_118_163, e_118_164, e_118_165, e_118_166, e_118_167, e_118_168, e_118_171, e_118_172, e_118_175, e_118_176, e_118_177, e_118_178, e_118_179, e_118_180, e_118_181, e_118_182, e_118_184, e_118_186, e_118_187, e_118_188, e_118_189, e_118_190, e_118_193, e_118_196, e_118_199, e_118_203, e_118_206, e_118_207, e_118_208, e_118_209, e_118_210, e_118_211, e_118_212, nl_int, nl_ref, nl_none, cat_int, cat_ref, cat_0, cat_i, cat_r, cat_l, Option.elim_some, Option.elim_none, Option.bind_some, Option.bind_none, Option.toList_some, Option.toList_none, List.cons_append, List.nil_append, Nat.reduceAdd, Nat.reduceLeDiff, wD_f1 hl, m0, ltT (x := nI (cPp ct)) (c := cPp ct) rfl hi (by omega), if_true, nI_1, e1]
end MD8
