/-! THE REFERENCE: goesBy -/
section MD9
variable {d : Nat} {hp hp2 : am_H} {I : Nat → Int32} {A : Nat → List Int32} {i j k n b p hr tt : Nat} {x y t : Int32} {B C : List Int32} {ct : am_Ci} {nw : am_Mo}
theorem s7_goesBy (hl : 154 < hp.length) (hA : aOK A) (hR : Rl ct nw hr (A 0) (A 1)) (hN : Nm ct nw) (hm : mOK nw) (ht : tt < 32) : ∃ A2, aOK A2 ∧ Rl ct (mGo nw (nI tt)) (hr + 1) (A2 0) (A2 1) ∧ Nm ct (mGo nw (nI tt)) ∧ (∀ k, k ≠ 1 → k ≠ 6 → A2 k = A k) ∧ am_E (d + 4) 118 0 [some (.ref 141), some (.int (nI tt)), none, none, none] [] (wD hp I A) = some (none, wD hp I A2) := by
  have h8 := hN.2.2.1
  have hcl := wD_cl (I := I) (A := A) hl
  obtain ⟨W, hW, hF, em⟩ := s7_meets (d := d) (I := I) hl hA hR hN ht
  have hA1 : aOK (updA A 6 W) := updA_ok hA hW
  have e1 : am_for (mGF (nI tt)) 0 8 nw = mNf nw ((List.range 8).map (fun i => mFoes nw i (nI tt))) := by
    have := mGF_nf (t := nI tt) 8 0 nw nw.2.2.2.2.1
    rw [mFx_all hm.2.2.2.2] at this
    exact this
  have v0 : Hv ct hr (updA A 6 W) (mNf nw ((List.range 8).map (fun i => mFoes nw i (nI tt)))) (A 1) := by
    refine ⟨by rw [← e1]; exact mGF_ok hm, hN, hR, hA 1 (by decide), fun k hk => ?_⟩
    show W.getD k 0 = ((List.range 8).map (fun i => mFoes nw i (nI tt))).getD k 0
    rw [hF k hk]
    simp [List.getD_eq_getElem?_getD, List.getElem?_map, List.getElem?_range (show k < 8 by omega)]
  have eA : updA (updA A 6 W) 1 (A 1) = updA A 6 W := by
    funext k
    unfold updA
    by_cases q : k = 1
    · subst q; rfl
    · rw [if_neg q]
  obtain ⟨C2, l5, l6, v2, e2⟩ := s7_cts (d := d) (I := I) (x := nI tt) hl hA1 (cPp ct) 0 _ _ none none (Nat.zero_add _) v0
  rw [eA] at e2
  obtain ⟨C3, l7, l8, v3, e3⟩ := s7_cos (d := d) (I := I) (x := nI tt) hl hA1 (cPp ct) 0 _ _ l5 l6 (Nat.zero_add _) v2
  rw [← mCT_cut v2.2.1] at v3
  rw [← mCO_cut v3.2.1, ← e1] at v3
  obtain ⟨X, eX⟩ : ∃ X, X = mCO (mCT (am_for (mGF (nI tt)) 0 8 nw)) := ⟨_, rfl⟩
  rw [← eX] at v3
  have eG : mGo nw (nI tt) = mSetHr X (X.2.2.2.2.2.1 + 1) := by unfold mGo; rw [← eX]
  rw [eG]
  rw [show nI 0 = 0 from rfl] at e2 e3
  have hA3 : aOK (updA (updA A 6 W) 1 C3) := updA_ok hA1 v3.2.2.2.1
  have l1 : am_ld (wD hp I (updA (updA A 6 W) 1 C3)) 143 1 = some (nI hr) := by
    rw [wD_l1 (x := 1) (k := 1) rfl hl hA3 (by decide)]
    exact congrArg some v3.2.2.1.2.2.2.2.1.2.1
  have s1 : am_sx (wD hp I (updA (updA A 6 W) 1 C3)) 143 1 (nI (hr + 1)) = some (wD hp I (updA (updA A 6 W) 1 (C3.set 1 (nI (hr + 1))))) := by
    rw [wD_s1 (x := 1) (k := 1) rfl hl hA3 (by decide), updA_updA]
    rfl
  have hC3 := v3.2.2.2.1
  obtain ⟨g1, g2, g3, g4, g5, g6⟩ := v3.2.2.1
  refine ⟨updA (updA A 6 W) 1 (C3.set 1 (nI (hr + 1))), updA_ok hA1 ((List.length_set).trans hC3), ?_, v3.2.1, fun k q1 q6 => ?_, ?_⟩
  · show Rl ct (mSetHr X (X.2.2.2.2.2.1 + 1)) (hr + 1) (A 0) (C3.set 1 (nI (hr + 1)))
    refine ⟨g1, g2, g3, g4, ⟨?_, ?_, ?_⟩, fun k hk => ⟨?_, ?_, ?_⟩⟩
    · rw [getD_set (by omega), if_neg (by omega)]; exact g5.1
    · rw [getD_set (by omega), if_pos rfl]
    · rw [getD_set (by omega), if_neg (by omega)]; exact g5.2.2
    · rw [getD_set (by omega), if_neg (by omega)]; exact (g6 k hk).1
    · rw [getD_set (by omega), if_neg (by omega)]; exact (g6 k hk).2.1
    · rw [getD_set (by omega), if_neg (by omega)]; exact (g6 k hk).2.2
  · unfold updA
    rw [if_neg q1, if_neg q6]
  · simp (disch := first | exact nl_int | exact nl_ref | exact nl_none | exact Nat.le_of_ble_eq_true rfl | assumption | exact cat_int | exact cat_ref | exact z2 | exact z4 | exact z3 | exact z5 | exact z6 | exact z8 | exact z64) only [e_118_0, e_118_1, e_118_2, e_118_5, e_118_6, e_118_8, e_118_9, e_118_12, e_118_13, e_118_14, e_118_17, e_118_18, e_118_19, e_118_20, e_118_22, e_118_23, e_118_26, e_118_27, e_118_28, e_118_31, e_118_32, e_118_33, e_118_36, e_118_37, e_118_38, e_118_41, e_118_44, e_118_45, e_118_48, e_118_49, e_118_50, e_118_51, e_118_52, e_118_53, e_118_54, e_118_55, e_118_58, e_118_59, e_118_62, e_118_63, e_118_65, e_118_66, e_118_67, e_118_69, e_118_72, e_118_73, e_118_74, e_118_76, e_118_79, e_118_82, e_118_85, e_118_88, e_118_91, e_118_92, e_118_94, e_118_95, e_118_98, e_118_99, e_118_100, e_118_103, e_118_104, e_118_105, e_118_106, e_118_108, e_118_109, e_118_112, e_118_113, e_118_114, e_118_117, e_118_118, e_118_119, e_118_122, e_118_123, e_118_124, e_118_127, e_118_128, e_118_130, e_118_131, e_118_132, e_118_135, e_118_136, e_118_137, e_118_140, e_118_143, e_118_144, e_118_145, e_118_148, e_118_151, e_118_152, e_118_153, e_118_156, e_118_159, e_118_160, e_118_163, e_118_164, e_118_165, e_118_166, e_118_167, e_118_168, e_118_171, e_118_172, e_118_175, e_118_176, e_118_177, e_118_178, e_118_179, e_118_180, e_118_181, e_118_182, e_118_184, e_118_186, e_118_187, e_118_188, e_118_189, e_118_190, e_118_193, e_118_196, e_118_199, e_118_202, e_118_203, e_118_206, e_118_207, e_118_208, e_118_209, e_118_210, e_118_211, e_118_212, nl_int, nl_ref, nl_none, cat_int, cat_ref, cat_0, cat_i, cat_r, cat_l, Option.elim_some, Option.elim_none, Option.bind_some, Option.bind_none, Option.toList_some, Option.toList_none, List.cons_append, List.nil_append, Nat.reduceAdd, Nat.reduceLeDiff, em, e2, e3, wD_f1 hl, l1, nI_1, s1]
end MD9
