/-! THE REFERENCE: an hour goes by -/
theorem am_for_id2 {σ : Type} {f : Nat → σ → σ} : ∀ (n j : Nat) (s : σ), (∀ i, j ≤ i → i < j + n → f i s = s) → am_for f j n s = s := by
  intro n
  induction n with
  | zero => intro j s _; rfl
  | succ n ih =>
    intro j s h
    rw [am_for, h j (by omega) (by omega)]
    exact ih (j + 1) s (fun i h1 h2 => h i (by omega) (by omega))
/-- what the two sides keep while an hour goes by -/
def Hv (ct : am_Ci) (hr : Nat) (A : Nat → List Int32) (m : am_Mo) (C : List Int32) : Prop := mOK m ∧ Nm ct m ∧ Rl ct m hr (A 0) C ∧ C.length = 27 ∧ ∀ k, k < cPp ct → (A 6).getD k 0 = mF m k
section MD6
variable {d : Nat} {hp hp2 : am_H} {I : Nat → Int32} {A : Nat → List Int32} {i j k n b p hr tt : Nat} {x y t : Int32} {B C : List Int32} {ct : am_Ci} {m : am_Mo}
theorem Hv_T (h : Hv ct hr A m C) (hi : i < cPp ct) (hy : y = 1 ∨ y = -1) : Hv ct hr A (mTem m i y) (C.set (4 + 3 * i) (vT m i y)) := by
  obtain ⟨h1, h2, h3, h4, h5⟩ := h
  obtain ⟨o, t1, g, ho, ht1, hh, eo, et, eh⟩ := h2.1 i hi
  obtain ⟨t2, ht2, e2⟩ := vT_nI et ht1 hy
  exact ⟨h1.T, Nm_T h1 h2 hi ht2 e2, Rl_T h1 h4 h2.2.2.1 h3 hi, (List.length_set).trans h4, h5⟩
theorem s7_ct (hl : 154 < hp.length) (hA : aOK A) (hi : i < cPp ct) : ∀ n j (m : am_Mo) (C : List Int32) l4, j + n = cPp ct → Hv ct hr A m C → ∃ C2 l5, Hv ct hr A (am_for (mCT2 i) j n m) C2 ∧ am_E (d + 4) 118 21 [some (.ref 141), some (.int x), some (.int (nI i)), some (.int (nI j)), l4] [] (wD hp I (updA A 1 C)) = am_E (d + 4) 118 85 [some (.ref 141), some (.int x), some (.int (nI i)), some (.int (nI (cPp ct))), l5] [] (wD hp I (updA A 1 C2)) := by
  intro n
  induction n with
  | zero =>
    intro j m C l4 hj hv
    refine ⟨C, l4, hv, ?_⟩
    obtain rfl : j = cPp ct := by omega
    have h8 := hv.2.1.2.2.1
    have hA2 : aOK (updA A 1 C) := updA_ok hA hv.2.2.2.1
    have m0 : am_ld (wD hp I (updA A 1 C)) 143 0 = some (nI (cPp ct)) := by
      rw [wD_l1 (x := 0) (k := 0) rfl hl hA2 (by decide)]
      exact congrArg some hv.2.2.1.2.2.2.2.1.1
    rw [e_118_21]
    simp (disch := first | exact nl_int | exact nl_ref | exact nl_none | exact Nat.le_of_ble_eq_true rfl | assumption | exact cat_int | exact cat_ref | exact z2 | exact z4 | exact z3 | exact z5 | exact z6 | exact z8 | exact z64) only [e_118_0, e_118_1, e_118_2, e_118_5, e_118_6, e_118_8, e_118_9, e_118_12, e_118_13, e_118_14, e_118_17, e_118_18, e_118_19, e_118_20, e_118_22, e_118_23, e_118_26, e_118_27, e_118_28, e_118_31, e_118_32, e_118_33, e_118_36, e_118_37, e_118_38, e_118_41, e_118_44, e_118_45, e_118_48, e_118_49, e_118_50, e_118_51, e_118_52, e_118_53, e_118_54, e_118_55, e_118_58, e_118_59, e_118_62, e_118_63, e_118_65, e_118_66, e_118_67, e_118_69, e_118_72, e_118_73, e_118_74, e_118_76, e_118_79, e_118_82, e_118_88, e_118_91, e_118_92, e_118_94, e_118_95, e_118_98, e_118_99, e_118_100, e_118_103, e_118_104, e_118_105, e_118_106, e_118_108, e_118_109, e_118_112, e_118_113, e_118_114, e_118_117, e_118_118, e_118_119, e_118_122, e_118_123, e_118_124, e_118_127, e_118_128, e_118_130, e_118_131, e_118_132, e_118_135, e_118_136, e_118_137, e_118_140, e_118_143, e_118_144, e_118_145, e_118_148, e_118_151, e_118_152, e_118_153, e_118_156, e_118_159, e_118_160, e_118_163, e_118_164, e_118_165, e_118_166, e_118_167, e_118_168, e_118_171, e_118_172, e_118_175, e_118_176, e_118_177, e_118_178, e_118_179, e_118_180, e_118_181, e_118_182, e_118_184, e_118_186, e_118_187, e_118_188, e_118_189, e_118_190, e_118_193, e_118_196, e_118_199, e_118_202, e_118_203, e_118_206, e_118_207, e_118_208, e_118_209, e_118_210, e_118_211, e_118_212, nl_int, nl_ref, nl_none, cat_int, cat_ref, cat_0, cat_i, cat_r, cat_l, Option.elim_some, Option.elim_none, Option.bind_some, Option.bind_none, Option.toList_some, Option.toList_none, List.cons_append, List.nil_append, Nat.reduceAdd, Nat.reduceLeDiff, wD_f1 hl, m0, ltF (x := nI (cPp ct)) (c := cPp ct) rfl (Nat.le_refl _) (by omega), if_false]
  | succ n ih =>
    intro j m C l4 hj hv
    have h8 := hv.2.1.2.2.1
    have j8 : j < cPp ct := by omega
    have hA2 : aOK (updA A 1 C) := updA_ok hA hv.2.2.2.1
    have hR : Rl ct m hr ((updA A 1 C) 0) ((updA A 1 C) 1) := hv.2.2.1
    have hcl := wD_cl (I := I) (A := updA A 1 C) hl
    have m0 : am_ld (wD hp I (updA A 1 C)) 143 0 = some (nI (cPp ct)) := by
      rw [wD_l1 (x := 0) (k := 0) rfl hl hA2 (by decide)]
      exact congrArg some hv.2.2.1.2.2.2.2.1.1
    have a1 := ltT (x := nI (cPp ct)) (c := cPp ct) rfl j8 (by omega)
    rw [am_for, e_118_21]
    by_cases q : mH m i = mH m j
    · have eT : mCT2 i j m = mTem (mTem m i (mBy m i j)) j (mBy m i j) := by
        unfold mCT2
        rw [mTog_eq hv.2.1 hi, decide_eq_true q, if_neg (by decide)]
      have lw : am_ld (wD hp I (updA A 1 C)) 148 (nI i) = some (mF m i) := by
        rw [wD_l6 (k := i) rfl hl hA2 (by omega)]
        exact congrArg some (hv.2.2.2.2 i hi)
      have hy : mBy m i j = 1 ∨ mBy m i j = -1 := by unfold mBy; split <;> simp
      have v1 := Hv_T hv hi hy
      have v2 := Hv_T v1 j8 hy
      have hA3 : aOK (updA A 1 (C.set (4 + 3 * i) (vT m i (mBy m i j)))) := updA_ok hA v1.2.2.2.1
      have R3 : Rl ct (mTem m i (mBy m i j)) hr ((updA A 1 (C.set (4 + 3 * i) (vT m i (mBy m i j)))) 0) ((updA A 1 (C.set (4 + 3 * i) (vT m i (mBy m i j)))) 1) := v1.2.2.1
      have hcl3 := wD_cl (I := I) (A := updA A 1 (C.set (4 + 3 * i) (vT m i (mBy m i j)))) hl
      have g1 := s7_angers (d := d + 3) (I := I) (y := mBy m i j) hl hA2 hR h8 hi
      have g2 := s7_angers (d := d + 3) (I := I) (y := mBy m i j) hl hA3 R3 h8 j8
      rw [updA_updA] at g1 g2
      have g1b : am_E (d + 3) 116 0 [some (.ref 141), some (.int (nI i)), some (.int (mBy m i j)), none] [] (wD hp I (updA A 1 C)) = some (none, wD hp I (updA A 1 (C.set (4 + 3 * i) (vT m i (mBy m i j))))) := g1
      have g2b : am_E (d + 3) 116 0 [some (.ref 141), some (.int (nI j)), some (.int (mBy m i j)), none] [] (wD hp I (updA A 1 (C.set (4 + 3 * i) (vT m i (mBy m i j))))) = some (none, wD hp I (updA A 1 ((C.set (4 + 3 * i) (vT m i (mBy m i j))).set (4 + 3 * j) (vT (mTem m i (mBy m i j)) j (mBy m i j))))) := g2
      obtain ⟨C2, l5, hv2, e⟩ := ih (j + 1) _ _ (some (.int (mBy m i j))) (by omega) v2
      refine ⟨C2, l5, by rw [eT]; exact hv2, ?_⟩
      rw [← e]
      unfold mBy at g1b g2b hcl3 ⊢
      by_cases r : (mF m i >>> (nI j &&& 31)) &&& 1 = 1
      · simp only [if_pos r] at g1b g2b hcl3 ⊢
        simp (disch := first | exact nl_int | exact nl_ref | exact nl_none | exact Nat.le_of_ble_eq_true rfl | assumption | exact cat_int | exact cat_ref | exact z2 | exact z4 | exact z3 | exact z5 | exact z6 | exact z8 | exact z64) only [e_118_0, e_118_1, e_118_2, e_118_5, e_118_6, e_118_8, e_118_9, e_118_12, e_118_13, e_118_14, e_118_17, e_118_18, e_118_19, e_118_20, e_118_22, e_118_23, e_118_26, e_118_27, e_118_28, e_118_31, e_118_32, e_118_33, e_118_36, e_118_37, e_118_38, e_118_41, e_118_44, e_118_45, e_118_48, e_118_49, e_118_50, e_118_51, e_118_52, e_118_53, e_118_54, e_118_55, e_118_58, e_118_59, e_118_62, e_118_63, e_118_65, e_118_66, e_118_67, e_118_69, e_118_72, e_118_73, e_118_74, e_118_76, e_118_79, e_118_82, e_118_85, e_118_88, e_118_91, e_118_92, e_118_94, e_118_95, e_118_98, e_118_99, e_118_100, e_118_103, e_118_104, e_118_105, e_118_106, e_118_108, e_118_109, e_118_112, e_118_113, e_118_114, e_118_117, e_118_118, e_118_119, e_118_122, e_118_123, e_118_124, e_118_127, e_118_128, e_118_130, e_118_131, e_118_132, e_118_135, e_118_136, e_118_137, e_118_140, e_118_143, e_118_144, e_118_145, e_118_148, e_118_151, e_118_152, e_118_153, e_118_156, e_118_159, e_118_160, e_118_163, e_118_164, e_118_165, e_118_166, e_118_167, e_118_168, e_118_171, e_118_172, e_118_175, e_118_176, e_118_177, e_118_178, e_118_179, e_118_180, e_118_181, e_118_182, e_118_184, e_118_186, e_118_187, e_118_188, e_118_189, e_118_190, e_118_193, e_118_196, e_118_199, e_118_202, e_118_203, e_118_206, e_118_207, e_118_208, e_118_209, e_118_210, e_118_211, e_118_212, nl_int, nl_ref, nl_none, cat_int, cat_ref, cat_0, cat_i, cat_r, cat_l, Option.elim_some, Option.elim_none, Option.bind_some, Option.bind_none, Option.toList_some, Option.toList_none, List.cons_append, List.nil_append, Nat.reduceAdd, Nat.reduceLeDiff, wD_f1 hl, wD_f11 hl, m0, a1, if_true, s7_ho hl hA2 hR hi h8, s7_ho hl hA2 hR j8 h8, if_pos q, lw, if_pos r, g1b, g2b, nI_1]
      · simp only [if_neg r] at g1b g2b hcl3 ⊢
        simp (disch := first | exact nl_int | exact nl_ref | exact nl_none | exact Nat.le_of_ble_eq_true rfl | assumption | exact cat_int | exact cat_ref | exact z2 | exact z4 | exact z3 | exact z5 | exact z6 | exact z8 | exact z64) only [e_118_0, e_118_1, e_118_2, e_118_5, e_118_6, e_118_8, e_118_9, e_118_12, e_118_13, e_118_14, e_118_17, e_118_18, e_118_19, e_118_20, e_118_22, e_118_23, e_118_26, e_118_27, e_118_28, e_118_31, e_118_32, e_118_33, e_118_36, e_118_37, e_118_38, e_118_41, e_118_44, e_118_45, e_118_48, e_118_49, e_118_50, e_118_51, e_118_52, e_118_53, e_118_54, e_118_55, e_118_58, e_118_59, e_118_62, e_118_63, e_118_65, e_118_66, e_118_67, e_118_69, e_118_72, e_118_73, e_118_74, e_118_76, e_118_79, e_118_82, e_118_85, e_118_88, e_118_91, e_118_92, e_118_94, e_118_95, e_118_98, e_118_99, e_118_100, e_118_103, e_118_104, e_118_105, e_118_106, e_118_108, e_118_109, e_118_112, e_118_113, e_118_114, e_118_117, e_118_118, e_118_119, e_118_122, e_118_123, e_118_124, e_118_127, e_118_128, e_118_130, e_118_131, e_118_132, e_118_135, e_118_136, e_118_137, e_118_140, e_118_143, e_118_144, e_118_145, e_118_148, e_118_151, e_118_152, e_118_153, e_118_156, e_118_159, e_118_160, e_118_163, e_118_164, e_118_165, e_118_166, e_118_167, e_118_168, e_118_171, e_118_172, e_118_175, e_118_176, e_118_177, e_118_178, e_118_179, e_118_180, e_118_181, e_118_182, e_118_184, e_118_186, e_118_187, e_118_188, e_118_189, e_118_190, e_118_193, e_118_196, e_118_199, e_118_202, e_118_203, e_118_206, e_118_207, e_118_208, e_118_209, e_118_210, e_118_211, e_118_212, nl_int, nl_ref, nl_none, cat_int, cat_ref, cat_0, cat_i, cat_r, cat_l, Option.elim_some, Option.elim_none, Option.bind_some, Option.bind_none, Option.toList_some, Option.toList_none, List.cons_append, List.nil_append, Nat.reduceAdd, Nat.reduceLeDiff, wD_f1 hl, wD_f11 hl, m0, a1, if_true, s7_ho hl hA2 hR hi h8, s7_ho hl hA2 hR j8 h8, if_pos q, lw, if_neg r, g1b, g2b, nI_1]
    · have eT : mCT2 i j m = m := by
        unfold mCT2
        rw [mTog_eq hv.2.1 hi, decide_eq_false q, if_pos rfl]
      obtain ⟨C2, l5, hv2, e⟩ := ih (j + 1) m C l4 (by omega) hv
      refine ⟨C2, l5, by rw [eT]; exact hv2, ?_⟩
      rw [← e]
      simp (disch := first | exact nl_int | exact nl_ref | exact nl_none | exact Nat.le_of_ble_eq_true rfl | assumption | exact cat_int | exact cat_ref | exact z2 | exact z4 | exact z3 | exact z5 | exact z6 | exact z8 | exact z64) only [e_118_0, e_118_1, e_118_2, e_118_5, e_118_6, e_118_8, e_118_9, e_118_12, e_118_13, e_118_14, e_118_17, e_118_18, e_118_19, e_118_20, e_118_22, e_118_23, e_118_26, e_118_27, e_118_28, e_118_31, e_118_32, e_118_33, e_118_36, e_118_37, e_118_38, e_118_41, e_118_44, e_118_45, e_118_48, e_118_49, e_118_50, e_118_51, e_118_52, e_118_53, e_118_54, e_118_55, e_118_58, e_118_59, e_118_62, e_118_63, e_118_65, e_118_66, e_118_67, e_118_69, e_118_72, e_118_73, e_118_74, e_118_76, e_118_79, e_118_82, e_118_85, e_118_88, e_118_91, e_118_92, e_118_94, e_118_95, e_118_98, e_118_99, e_118_100, e_118_103, e_118_104, e_118_105, e_118_106, e_118_108, e_118_109, e_118_112, e_118_113, e_118_114, e_118_117, e_118_118, e_118_119, e_118_122, e_118_123, e_118_124, e_118_127, e_118_128, e_118_130, e_118_131, e_118_132, e_118_135, e_118_136, e_118_137, e_118_140, e_118_143, e_118_144, e_118_145, e_118_148, e_118_151, e_118_152, e_118_153, e_118_156, e_118_159, e_118_160, e_118_163, e_118_164, e_118_165, e_118_166, e_118_167, e_118_168, e_118_171, e_118_172, e_118_175, e_118_176, e_118_177, e_118_178, e_118_179, e_118_180, e_118_181, e_118_182, e_118_184, e_118_186, e_118_187, e_118_188, e_118_189, e_118_190, e_118_193, e_118_196, e_118_199, e_118_202, e_118_203, e_118_206, e_118_207, e_118_208, e_118_209, e_118_210, e_118_211, e_118_212, nl_int, nl_ref, nl_none, cat_int, cat_ref, cat_0, cat_i, cat_r, cat_l, Option.elim_some, Option.elim_none, Option.bind_some, Option.bind_none, Option.toList_some, Option.toList_none, List.cons_append, List.nil_append, Nat.reduceAdd, Nat.reduceLeDiff, wD_f1 hl, m0, a1, if_true, s7_ho hl hA2 hR hi h8, s7_ho hl hA2 hR j8 h8, if_neg q, nI_1]
end MD6
