/-! THE REFERENCE: burns, held against the class -/
theorem for_tri {σ : Type} {f : Nat → Nat → σ → σ} {p : Nat} (h8 : p ≤ 8) (h1 : ∀ i j s, i < p → p ≤ j → j < 8 → f i j s = s) (h2 : ∀ i j s, p ≤ i → i < 8 → f i j s = s) (s : σ) : am_for (fun i => am_for (f i) (i + 1) (7 - i)) 0 8 s = am_for (fun i => am_for (f i) (i + 1) (p - 1 - i)) 0 p s := by
  rw [show (8 : Nat) = p + (8 - p) from by omega, am_for_add, am_for_id]
  · refine am_for_congr _ _ _ (fun i s _ hi => ?_)
    rw [show 7 - i = (p - 1 - i) + (8 - p) from by omega, am_for_add]
    exact am_for_id _ _ _ (fun j s q1 q2 => h1 i j s (by omega) (by omega) (by omega))
  · intro i s q1 q2
    exact am_for_id _ _ _ (fun j s _ _ => h2 i j s (by omega) (by omega))
section MDC
variable {d : Nat} {hp hp2 : am_H} {I : Nat → Int32} {A : Nat → List Int32} {i j k n b p hr tt h : Nat} {x y t : Int32} {B C : List Int32} {ct : am_Ci} {nw : am_Mo}
theorem nI_ne1 (hh : h < 2 ^ 31) : ¬ (-1 : Int32) = nI h := fun z => nI_pos hh (by rw [← z]; decide)
theorem pl_cut (hN : Nm ct nw) (h5 : h < 5) : am_for (plG nw h (cPp ct) t) 0 (cPp ct) 0 = am_for (mLi1 nw (nI h) t) 0 8 0 := by
  have e := for_tri (f := plF nw h t) (p := cPp ct) hN.2.2.1 (fun i j s hi q1 q2 => by
    unfold plF mLi2
    rw [if_neg (show ¬ mH nw j = nI h from by rw [hN.2.1 j q1 q2]; exact nI_ne1 (by omega))]
    split <;> rfl) (fun i j s q1 q2 => by
    unfold plF
    rw [if_neg (by rw [hN.2.1 i q1 q2]; exact nI_ne1 (by omega))]) 0
  unfold plG
  rw [← e]
  refine am_for_congr _ _ _ (fun i s _ _ => ?_)
  unfold mLi1
  by_cases q : mH nw i = nI h
  · rw [if_pos q]
    exact am_for_congr _ _ _ (fun j s _ _ => by unfold plF; rw [if_pos q])
  · rw [if_neg q]
    exact am_for_id _ _ _ (fun j s _ _ => by unfold plF; rw [if_neg q])
theorem ps_2 : ∀ (n j : Nat) (b : Bool), am_for (psF nw h t i) j n b = (b || (decide (mH nw i = nI h) && mSm2 nw (nI h) t i j n)) := by
  intro n
  induction n with
  | zero => intro j b; rw [am_for, mSm2, Bool.and_false, Bool.or_false]
  | succ n ih =>
    intro j b
    rw [am_for, ih, mSm2]
    unfold psF
    by_cases q1 : mH nw i = nI h
    · by_cases q2 : mH nw j = nI h
      · rw [decide_eq_true q1, decide_eq_true q2, if_pos q2]
        cases q3 : mFP nw i j with
        | false => rw [if_pos rfl]; cases b <;> rfl
        | true =>
          rw [if_neg (by decide)]
          by_cases q4 : mQ nw i j t = 0
          · rw [if_pos q4, decide_eq_true q4]; cases b <;> rfl
          · rw [if_neg q4, decide_eq_false q4]; cases b <;> rfl
      · rw [decide_eq_true q1, decide_eq_false q2, if_neg q2]
        cases b <;> rfl
    · rw [decide_eq_false q1]
      cases b <;> rfl
theorem ps_1 : ∀ (n i : Nat) (b : Bool), am_for (fun i => am_for (psF nw h t i) (i + 1) (7 - i)) i n b = (b || mSm1 nw (nI h) t i n) := by
  intro n
  induction n with
  | zero => intro i b; rw [am_for, mSm1, Bool.or_false]
  | succ n ih =>
    intro i b
    rw [am_for, ih, ps_2, mSm1]
    by_cases q1 : mH nw i = nI h
    · rw [decide_eq_true q1, if_pos q1]
      cases q2 : mSm2 nw (nI h) t i (i + 1) (7 - i) with
      | true => rw [if_pos rfl]; cases b <;> rfl
      | false => rw [if_neg (by decide)]; cases b <;> rfl
    · rw [decide_eq_false q1, if_neg q1]
      cases b <;> rfl
theorem ps_cut (hN : Nm ct nw) (h5 : h < 5) : am_for (psG nw h (cPp ct) t) 0 (cPp ct) false = mSmoke nw (nI h) t := by
  have e := for_tri (f := psF nw h t) (p := cPp ct) hN.2.2.1 (fun i j s hi q1 q2 => by
    unfold psF
    rw [decide_eq_false (show ¬ mH nw j = nI h from by rw [hN.2.1 j q1 q2]; exact nI_ne1 (by omega)), Bool.false_and, Bool.and_false, Bool.or_false]) (fun i j s q1 q2 => by
    unfold psF
    rw [decide_eq_false (show ¬ mH nw i = nI h from by rw [hN.2.1 i q1 q2]; exact nI_ne1 (by omega)), Bool.false_and, Bool.or_false]) false
  unfold psG mSmoke
  rw [← e, ps_1, Bool.false_or]
theorem s7_burns (hl : 154 < hp.length) (hA : aOK A) (hR : Rl ct nw hr (A 0) (A 1)) (hN : Nm ct nw) (ht : tt < 32) : ∃ D : List Int32, D.length = 5 ∧ Lg nw (nI tt) D ∧ am_E (d + 3) 113 0 [some (.ref 141), some (.int (nI tt)), none, none, none, none, none] [] (wD hp I A) = some (none, wD hp (updI I 10 (smk (fun h => mSmoke nw (nI h) (nI tt)))) (updA A 5 D)) := by
  have h8 := hN.2.2.1
  have k1 : ∀ n j (D : List Int32), j + n = 5 → D.length = 5 → (∀ k, k < j → D.getD k 0 = 0) → ∃ D2 : List Int32, D2.length = 5 ∧ (∀ k, k < 5 → D2.getD k 0 = 0) ∧ am_E (d + 3) 113 2 [some (.ref 141), some (.int (nI tt)), some (.int (nI j)), none, none, none, none] [] (wD hp I (updA A 5 D)) = am_E (d + 3) 113 20 [some (.ref 141), some (.int (nI tt)), some (.int (nI 5)), none, none, none, none] [] (wD hp I (updA A 5 D2)) := by
    intro n
    induction n with
    | zero =>
      intro j D hj hD h0
      obtain rfl : j = 5 := by omega
      refine ⟨D, hD, h0, ?_⟩
      rw [e_113_2]
      simp (maxSteps := 1000000) (disch := first | exact nl_int | exact nl_ref | exact nl_none | exact Nat.le_of_ble_eq_true rfl | assumption | exact wD_cl (by assumption) | exact cat_int | exact cat_ref | exact z2 | exact z4 | exact z3 | exact z5 | exact z6 | exact z8 | exact z64) only [e_113_0, e_113_1, e_113_3, e_113_4, e_113_7, e_113_8, e_113_11, e_113_12, e_113_13, e_113_14, e_113_17, e_113_21, e_113_22, e_113_25, e_113_26, e_113_28, e_113_29, e_113_32, e_113_33, e_113_34, e_113_37, e_113_38, e_113_39, e_113_40, e_113_42, e_113_43, e_113_46, e_113_47, e_113_48, e_113_51, e_113_52, e_113_53, e_113_54, e_113_55, e_113_58, e_113_60, e_113_61, e_113_64, e_113_65, e_113_66, e_113_67, e_113_68, e_113_69, e_113_72, e_113_73, e_113_76, e_113_77, e_113_78, e_113_79, e_113_80, e_113_81, e_113_84, e_113_85, e_113_88, e_113_89, e_113_91, e_113_93, e_113_94, e_113_95, e_113_98, e_113_99, e_113_100, e_113_103, e_113_104, e_113_105, e_113_106, e_113_107, e_113_108, e_113_109, e_113_111, e_113_112, e_113_115, e_113_116, e_113_117, e_113_120, e_113_121, e_113_122, e_113_124, e_113_127, e_113_129, e_113_130, e_113_131, e_113_134, e_113_136, e_113_137, e_113_138, e_113_139, e_113_140, e_113_143, e_113_145, e_113_148, e_113_150, e_113_153, e_113_154, e_113_155, e_113_156, e_113_159, e_113_160, e_113_163, e_113_164, e_113_165, e_113_168, e_113_171, e_113_174, e_113_177, e_113_180, e_113_181, e_113_183, e_113_184, e_113_187, e_113_188, e_113_191, e_113_192, e_113_193, e_113_196, e_113_197, e_113_198, e_113_200, e_113_203, e_113_205, e_113_208, e_113_209, e_113_212, e_113_213, e_113_214, e_113_215, e_113_218, e_113_221, nl_int, nl_ref, nl_none, cat_int, cat_ref, cat_0, cat_i, cat_r, cat_l, Option.elim_some, Option.elim_none, Option.bind_some, Option.bind_none, Option.toList_some, Option.toList_none, List.cons_append, List.nil_append, Nat.reduceAdd, Nat.reduceLeDiff, ltF (x := 5) (c := 5) rfl (Nat.le_refl 5) (by decide), if_false]
    | succ n ih =>
      intro j D hj hD h0
      obtain ⟨D2, a1, a2, a3⟩ := ih (j + 1) (D.set j 0) (by omega) ((List.length_set).trans hD) (fun k hk => by
        rw [getD_set (by omega)]
        by_cases q : j = k
        · rw [if_pos q]
        · rw [if_neg q]; exact h0 k (by omega))
      have sx : am_sx (wD hp I (updA A 5 D)) 147 (nI j) 0 = some (wD hp I (updA A 5 (D.set j 0))) := by
        rw [wD_s5 (k := j) rfl hl (updA_ok hA hD) (by omega), updA_updA]
        rfl
      refine ⟨D2, a1, a2, ?_⟩
      rw [← a3, e_113_2]
      simp (maxSteps := 1000000) (disch := first | exact nl_int | exact nl_ref | exact nl_none | exact Nat.le_of_ble_eq_true rfl | assumption | exact wD_cl (by assumption) | exact cat_int | exact cat_ref | exact z2 | exact z4 | exact z3 | exact z5 | exact z6 | exact z8 | exact z64) only [e_113_0, e_113_1, e_113_3, e_113_4, e_113_7, e_113_8, e_113_11, e_113_12, e_113_13, e_113_14, e_113_17, e_113_20, e_113_21, e_113_22, e_113_25, e_113_26, e_113_28, e_113_29, e_113_32, e_113_33, e_113_34, e_113_37, e_113_38, e_113_39, e_113_40, e_113_42, e_113_43, e_113_46, e_113_47, e_113_48, e_113_51, e_113_52, e_113_53, e_113_54, e_113_55, e_113_58, e_113_60, e_113_61, e_113_64, e_113_65, e_113_66, e_113_67, e_113_68, e_113_69, e_113_72, e_113_73, e_113_76, e_113_77, e_113_78, e_113_79, e_113_80, e_113_81, e_113_84, e_113_85, e_113_88, e_113_89, e_113_91, e_113_93, e_113_94, e_113_95, e_113_98, e_113_99, e_113_100, e_113_103, e_113_104, e_113_105, e_113_106, e_113_107, e_113_108, e_113_109, e_113_111, e_113_112, e_113_115, e_113_116, e_113_117, e_113_120, e_113_121, e_113_122, e_113_124, e_113_127, e_113_129, e_113_130, e_113_131, e_113_134, e_113_136, e_113_137, e_113_138, e_113_139, e_113_140, e_113_143, e_113_145, e_113_148, e_113_150, e_113_153, e_113_154, e_113_155, e_113_156, e_113_159, e_113_160, e_113_163, e_113_164, e_113_165, e_113_168, e_113_171, e_113_174, e_113_177, e_113_180, e_113_181, e_113_183, e_113_184, e_113_187, e_113_188, e_113_191, e_113_192, e_113_193, e_113_196, e_113_197, e_113_198, e_113_200, e_113_203, e_113_205, e_113_208, e_113_209, e_113_212, e_113_213, e_113_214, e_113_215, e_113_218, e_113_221, nl_int, nl_ref, nl_none, cat_int, cat_ref, cat_0, cat_i, cat_r, cat_l, Option.elim_some, Option.elim_none, Option.bind_some, Option.bind_none, Option.toList_some, Option.toList_none, List.cons_append, List.nil_append, Nat.reduceAdd, Nat.reduceLeDiff, ltT (x := 5) (c := 5) rfl (show j < 5 by omega) (by decide), if_true, wD_f9 hl, sx, nI_1]
  have k3 : ∀ n j (D E : List Int32) I' l3 l4 l5 l6, j + n = 5 → D.length = 5 → (∀ k, k < 5 → D.getD k 0 = if k < j then imin (E.getD k 0) 60 else E.getD k 0) → ∃ D2 : List Int32, D2.length = 5 ∧ (∀ k, k < 5 → D2.getD k 0 = imin (E.getD k 0) 60) ∧ am_E (d + 3) 113 182 [some (.ref 141), some (.int (nI tt)), some (.int (nI j)), l3, l4, l5, l6] [] (wD hp I' (updA A 5 D)) = some (none, wD hp I' (updA A 5 D2)) := by
    intro n
    induction n with
    | zero =>
      intro j D E I' l3 l4 l5 l6 hj hD hE
      refine ⟨D, hD, fun k hk => by rw [hE k hk, if_pos (by omega)], ?_⟩
      obtain rfl : j = 5 := by omega
      rw [e_113_182]
      simp (maxSteps := 1000000) (disch := first | exact nl_int | exact nl_ref | exact nl_none | exact Nat.le_of_ble_eq_true rfl | assumption | exact wD_cl (by assumption) | exact cat_int | exact cat_ref | exact z2 | exact z4 | exact z3 | exact z5 | exact z6 | exact z8 | exact z64) only [e_113_0, e_113_1, e_113_3, e_113_4, e_113_7, e_113_8, e_113_11, e_113_12, e_113_13, e_113_14, e_113_17, e_113_20, e_113_21, e_113_22, e_113_25, e_113_26, e_113_28, e_113_29, e_113_32, e_113_33, e_113_34, e_113_37, e_113_38, e_113_39, e_113_40, e_113_42, e_113_43, e_113_46, e_113_47, e_113_48, e_113_51, e_113_52, e_113_53, e_113_54, e_113_55, e_113_58, e_113_60, e_113_61, e_113_64, e_113_65, e_113_66, e_113_67, e_113_68, e_113_69, e_113_72, e_113_73, e_113_76, e_113_77, e_113_78, e_113_79, e_113_80, e_113_81, e_113_84, e_113_85, e_113_88, e_113_89, e_113_91, e_113_93, e_113_94, e_113_95, e_113_98, e_113_99, e_113_100, e_113_103, e_113_104, e_113_105, e_113_106, e_113_107, e_113_108, e_113_109, e_113_111, e_113_112, e_113_115, e_113_116, e_113_117, e_113_120, e_113_121, e_113_122, e_113_124, e_113_127, e_113_129, e_113_130, e_113_131, e_113_134, e_113_136, e_113_137, e_113_138, e_113_139, e_113_140, e_113_143, e_113_145, e_113_148, e_113_150, e_113_153, e_113_154, e_113_155, e_113_156, e_113_159, e_113_160, e_113_163, e_113_164, e_113_165, e_113_168, e_113_171, e_113_174, e_113_177, e_113_180, e_113_181, e_113_183, e_113_184, e_113_187, e_113_188, e_113_191, e_113_192, e_113_193, e_113_196, e_113_197, e_113_198, e_113_200, e_113_203, e_113_205, e_113_208, e_113_209, e_113_212, e_113_213, e_113_214, e_113_215, e_113_218, e_113_221, nl_int, nl_ref, nl_none, cat_int, cat_ref, cat_0, cat_i, cat_r, cat_l, Option.elim_some, Option.elim_none, Option.bind_some, Option.bind_none, Option.toList_some, Option.toList_none, List.cons_append, List.nil_append, Nat.reduceAdd, Nat.reduceLeDiff, ltF (x := 5) (c := 5) rfl (Nat.le_refl 5) (by decide), if_false]
    | succ n ih =>
      intro j D E I' l3 l4 l5 l6 hj hD hE
      have j5 : j < 5 := by omega
      have ej : D.getD j 0 = E.getD j 0 := by rw [hE j j5, if_neg (by omega)]
      obtain ⟨D2, a1, a2, a3⟩ := ih (j + 1) (D.set j (imin (E.getD j 0) 60)) E I' l3 l4 l5 l6 (by omega) ((List.length_set).trans hD) (fun k hk => by
        rw [getD_set (by omega)]
        by_cases q : j = k
        · subst q; rw [if_pos rfl, if_pos (by omega)]
        · rw [if_neg q, hE k hk]
          by_cases q2 : k < j
          · rw [if_pos q2, if_pos (by omega)]
          · rw [if_neg q2, if_neg (by omega)])
      have sx : ∀ z, am_sx (wD hp I' (updA A 5 D)) 147 (nI j) z = some (wD hp I' (updA A 5 (D.set j z))) := fun z => by
        rw [wD_s5 (k := j) rfl hl (updA_ok hA hD) (by omega), updA_updA]
        rfl
      have lx : am_ld (wD hp I' (updA A 5 D)) 147 (nI j) = some (E.getD j 0) := by
        rw [wD_l5 (k := j) rfl hl (updA_ok hA hD) (by omega), ← ej]
        rfl
      refine ⟨D2, a1, a2, ?_⟩
      rw [← a3, e_113_182]
      unfold imin
      by_cases q : 60 < E.getD j 0
      · rw [if_pos q]
        simp (maxSteps := 1000000) (disch := first | exact nl_int | exact nl_ref | exact nl_none | exact Nat.le_of_ble_eq_true rfl | assumption | exact wD_cl (by assumption) | exact cat_int | exact cat_ref | exact z2 | exact z4 | exact z3 | exact z5 | exact z6 | exact z8 | exact z64) only [e_113_0, e_113_1, e_113_3, e_113_4, e_113_7, e_113_8, e_113_11, e_113_12, e_113_13, e_113_14, e_113_17, e_113_20, e_113_21, e_113_22, e_113_25, e_113_26, e_113_28, e_113_29, e_113_32, e_113_33, e_113_34, e_113_37, e_113_38, e_113_39, e_113_40, e_113_42, e_113_43, e_113_46, e_113_47, e_113_48, e_113_51, e_113_52, e_113_53, e_113_54, e_113_55, e_113_58, e_113_60, e_113_61, e_113_64, e_113_65, e_113_66, e_113_67, e_113_68, e_113_69, e_113_72, e_113_73, e_113_76, e_113_77, e_113_78, e_113_79, e_113_80, e_113_81, e_113_84, e_113_85, e_113_88, e_113_89, e_113_91, e_113_93, e_113_94, e_113_95, e_113_98, e_113_99, e_113_100, e_113_103, e_113_104, e_113_105, e_113_106, e_113_107, e_113_108, e_113_109, e_113_111, e_113_112, e_113_115, e_113_116, e_113_117, e_113_120, e_113_121, e_113_122, e_113_124, e_113_127, e_113_129, e_113_130, e_113_131, e_113_134, e_113_136, e_113_137, e_113_138, e_113_139, e_113_140, e_113_143, e_113_145, e_113_148, e_113_150, e_113_153, e_113_154, e_113_155, e_113_156, e_113_159, e_113_160, e_113_163, e_113_164, e_113_165, e_113_168, e_113_171, e_113_174, e_113_177, e_113_180, e_113_181, e_113_183, e_113_184, e_113_187, e_113_188, e_113_191, e_113_192, e_113_193, e_113_196, e_113_197, e_113_198, e_113_200, e_113_203, e_113_205, e_113_208, e_113_209, e_113_212, e_113_213, e_113_214, e_113_215, e_113_218, e_113_221, nl_int, nl_ref, nl_none, cat_int, cat_ref, cat_0, cat_i, cat_r, cat_l, Option.elim_some, Option.elim_none, Option.bind_some, Option.bind_none, Option.toList_some, Option.toList_none, List.cons_append, List.nil_append, Nat.reduceAdd, Nat.reduceLeDiff, ltT (x := 5) (c := 5) rfl j5 (by decide), if_true, wD_f9 hl, lx, if_pos q, sx, nI_1]
      · rw [if_neg q]
        simp (maxSteps := 1000000) (disch := first | exact nl_int | exact nl_ref | exact nl_none | exact Nat.le_of_ble_eq_true rfl | assumption | exact wD_cl (by assumption) | exact cat_int | exact cat_ref | exact z2 | exact z4 | exact z3 | exact z5 | exact z6 | exact z8 | exact z64) only [e_113_0, e_113_1, e_113_3, e_113_4, e_113_7, e_113_8, e_113_11, e_113_12, e_113_13, e_113_14, e_113_17, e_113_20, e_113_21, e_113_22, e_113_25, e_113_26, e_113_28, e_113_29, e_113_32, e_113_33, e_113_34, e_113_37, e_113_38, e_113_39, e_113_40, e_113_42, e_113_43, e_113_46, e_113_47, e_113_48, e_113_51, e_113_52, e_113_53, e_113_54, e_113_55, e_113_58, e_113_60, e_113_61, e_113_64, e_113_65, e_113_66, e_113_67, e_113_68, e_113_69, e_113_72, e_113_73, e_113_76, e_113_77, e_113_78, e_113_79, e_113_80, e_113_81, e_113_84, e_113_85, e_113_88, e_113_89, e_113_91, e_113_93, e_113_94, e_113_95, e_113_98, e_113_99, e_113_100, e_113_103, e_113_104, e_113_105, e_113_106, e_113_107, e_113_108, e_113_109, e_113_111, e_113_112, e_113_115, e_113_116, e_113_117, e_113_120, e_113_121, e_113_122, e_113_124, e_113_127, e_113_129, e_113_130, e_113_131, e_113_134, e_113_136, e_113_137, e_113_138, e_113_139, e_113_140, e_113_143, e_113_145, e_113_148, e_113_150, e_113_153, e_113_154, e_113_155, e_113_156, e_113_159, e_113_160, e_113_163, e_113_164, e_113_165, e_113_168, e_113_171, e_113_174, e_113_177, e_113_180, e_113_181, e_113_183, e_113_184, e_113_187, e_113_188, e_113_191, e_113_192, e_113_193, e_113_196, e_113_197, e_113_198, e_113_200, e_113_203, e_113_205, e_113_208, e_113_209, e_113_212, e_113_213, e_113_214, e_113_215, e_113_218, e_113_221, nl_int, nl_ref, nl_none, cat_int, cat_ref, cat_0, cat_i, cat_r, cat_l, Option.elim_some, Option.elim_none, Option.bind_some, Option.bind_none, Option.toList_some, Option.toList_none, List.cons_append, List.nil_append, Nat.reduceAdd, Nat.reduceLeDiff, ltT (x := 5) (c := 5) rfl j5 (by decide), if_true, wD_f9 hl, lx, if_neg q, sx, nI_1]
  obtain ⟨D1, a1, a2, a3⟩ := k1 5 0 (A 5) rfl (hA 5 (by decide)) (fun k hk => absurd hk (Nat.not_lt_zero k))
  rw [updA_self] at a3
  obtain ⟨D2, G2, m3, m4, m5, m6, q1, q2, q3, q4⟩ := s7_bi (d := d) (I := I) hl hA hR hN ht (cPp ct) 0 D1 (fun _ => false) none none none none (Nat.zero_add _) a1
  obtain ⟨D3, c1, c2, c3⟩ := k3 5 0 D2 D2 (updI I 10 (smk G2)) m3 m4 m5 m6 rfl q1 (fun k hk => by rw [if_neg (Nat.not_lt_zero k)])
  refine ⟨D3, c1, fun h h5 => ?_, ?_⟩
  · rw [c2 h h5, q2 h h5, a2 h h5, pl_cut hN h5]
    rfl
  · have eG : smk G2 = smk (fun h => mSmoke nw (nI h) (nI tt)) := smk_congr (fun h h5 => by rw [q3 h h5, ps_cut hN h5])
    rw [smk_0] at q4
    rw [← eG, ← c3]
    rw [show nI 0 = 0 from rfl] at a3 q4 ⊢
    simp (maxSteps := 1000000) (disch := first | exact nl_int | exact nl_ref | exact nl_none | exact Nat.le_of_ble_eq_true rfl | assumption | exact wD_cl (by assumption) | exact cat_int | exact cat_ref | exact z2 | exact z4 | exact z3 | exact z5 | exact z6 | exact z8 | exact z64) only [e_113_0, e_113_1, e_113_3, e_113_4, e_113_7, e_113_8, e_113_11, e_113_12, e_113_13, e_113_14, e_113_17, e_113_20, e_113_21, e_113_22, e_113_25, e_113_26, e_113_28, e_113_29, e_113_32, e_113_33, e_113_34, e_113_37, e_113_38, e_113_39, e_113_40, e_113_42, e_113_43, e_113_46, e_113_47, e_113_48, e_113_51, e_113_52, e_113_53, e_113_54, e_113_55, e_113_58, e_113_60, e_113_61, e_113_64, e_113_65, e_113_66, e_113_67, e_113_68, e_113_69, e_113_72, e_113_73, e_113_76, e_113_77, e_113_78, e_113_79, e_113_80, e_113_81, e_113_84, e_113_85, e_113_88, e_113_89, e_113_91, e_113_93, e_113_94, e_113_95, e_113_98, e_113_99, e_113_100, e_113_103, e_113_104, e_113_105, e_113_106, e_113_107, e_113_108, e_113_109, e_113_111, e_113_112, e_113_115, e_113_116, e_113_117, e_113_120, e_113_121, e_113_122, e_113_124, e_113_127, e_113_129, e_113_130, e_113_131, e_113_134, e_113_136, e_113_137, e_113_138, e_113_139, e_113_140, e_113_143, e_113_145, e_113_148, e_113_150, e_113_153, e_113_154, e_113_155, e_113_156, e_113_159, e_113_160, e_113_163, e_113_164, e_113_165, e_113_168, e_113_171, e_113_174, e_113_177, e_113_180, e_113_181, e_113_183, e_113_184, e_113_187, e_113_188, e_113_191, e_113_192, e_113_193, e_113_196, e_113_197, e_113_198, e_113_200, e_113_203, e_113_205, e_113_208, e_113_209, e_113_212, e_113_213, e_113_214, e_113_215, e_113_218, e_113_221, nl_int, nl_ref, nl_none, cat_int, cat_ref, cat_0, cat_i, cat_r, cat_l, Option.elim_some, Option.elim_none, Option.bind_some, Option.bind_none, Option.toList_some, Option.toList_none, List.cons_append, List.nil_append, Nat.reduceAdd, Nat.reduceLeDiff, a3, wD_p10 hl, q4]
end MDC
