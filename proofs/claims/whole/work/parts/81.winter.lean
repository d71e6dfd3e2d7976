/-! PAIRS: winter -/
theorem sk5_cnt : ∀ a b c d e : Bool, bitc (sk5 a b c d e) = (if a = true then 1 else 0) + (if b = true then 1 else 0) + (if c = true then 1 else 0) + (if d = true then 1 else 0) + (if e = true then 1 else 0) := by decide +kernel
theorem sk5_nI : ∀ a b c d e : Bool, sk5 a b c d e = nI (sk5 a b c d e).toNatClampNeg ∧ (sk5 a b c d e).toNatClampNeg < 32 := by decide +kernel
theorem smk_nI (G : Nat → Bool) : ∃ o, o < 32 ∧ smk G = nI o := by
  rw [smk_sk]
  exact ⟨_, (sk5_nI _ _ _ _ _).2, (sk5_nI _ _ _ _ _).1⟩
theorem smk_cnt (G : Nat → Bool) (s : Int32) : am_for (fun h s => s + (if G h = true then 1 else 0)) 0 5 s = s + bitc (smk G) := by
  rw [smk_sk, sk5_cnt]
  show s + (if G 0 = true then 1 else 0) + (if G 1 = true then 1 else 0) + (if G 2 = true then 1 else 0) + (if G 3 = true then 1 else 0) + (if G 4 = true then 1 else 0) = _
  simp only [Int32.add_assoc]
theorem cLit_smk {ct : am_Ci} {m : am_Mo} {t : Int32} (h5 : cWk ct ≤ 5) : cLit ct m t = smk (fun g => decide (g < cWk ct) && !decide (mLight m (cWH ct g) t < cWN ct g)) := by
  rw [smk_cut h5 (fun g h1 h2 => by rw [decide_eq_false (show ¬ g < cWk ct by omega), Bool.false_and])]
  refine am_for_congr _ _ _ (fun i s q1 q2 => ?_)
  show cWl ct m t i s = (if (decide (i < cWk ct) && !decide (mLight m (cWH ct i) t < cWN ct i)) = true then s ||| ((1 : Int32) <<< (nI i &&& 31)) else s)
  unfold cWl
  rw [decide_eq_true (show i < cWk ct by omega), Bool.true_and]
  by_cases q : mLight m (cWH ct i) t < cWN ct i
  · rw [if_pos q, decide_eq_true q, if_neg (by decide)]
  · rw [if_neg q, decide_eq_false q, if_pos rfl]
section MDL2
variable {d : Nat} {hp hp2 : am_H} {I I2 : Nat → Int32} {A A2 : Nat → List Int32} {i j k n b p hr tt h u N : Nat} {x y z t a v w : Int32} {B C U : List Int32} {ct : am_Ci} {tx : am_Tx} {nw m : am_Mo}
theorem cLit_nI (h5 : cWk ct ≤ 5) : ∃ o, o < 32 ∧ cLit ct m t = nI o := by
  rw [cLit_smk h5]
  exact smk_nI _
theorem s7_dk (hl : 154 < hp.length) (ok : Ok7 A ct nw hr) (hL : Lg m t (A 5)) {a1 a2 a3 a4 a6 a7 a8 a9 : Option Value} (h4 : am_nl1 a4 = true) (h9 : am_nl1 a9 = true) : ∀ n k s, k + n = cHs ct → am_E (d + 12) 149 152 [some (.ref 141), a1, a2, a3, a4, some (.int s), a6, a7, a8, a9, some (.int (nI k))] [] (wD hp I A) = am_E (d + 12) 149 189 [some (.ref 141), a1, a2, a3, a4, some (.int (am_for (fun h s => s + (if (decide (mLight m (nI h) t = 0)) = true then 1 else 0)) k n s)), a6, a7, a8, a9, some (.int (nI (cHs ct)))] [] (wD hp I A) := by
  have h5 := ok.h5
  intro n
  induction n with
  | zero =>
    intro k s hk
    obtain rfl : k = cHs ct := by omega
    rw [e_149_152, am_for]
    simp (maxSteps := 1000000) (disch := first | exact nl_int | exact nl_ref | exact nl_none | exact Nat.le_of_ble_eq_true rfl | assumption | exact wD_cl (by assumption) | exact cat_int | exact cat_ref | exact z2 | exact z4 | exact z3 | exact z5 | exact z6 | exact z8 | exact z64) only [e_149_0, e_149_1, e_149_2, e_149_3, e_149_6, e_149_9, e_149_12, e_149_13, e_149_14, e_149_15, e_149_18, e_149_21, e_149_24, e_149_25, e_149_26, e_149_27, e_149_28, e_149_31, e_149_34, e_149_35, e_149_36, e_149_37, e_149_40, e_149_41, e_149_43, e_149_44, e_149_46, e_149_47, e_149_51, e_149_52, e_149_55, e_149_58, e_149_59, e_149_60, e_149_61, e_149_64, e_149_66, e_149_67, e_149_68, e_149_69, e_149_70, e_149_71, e_149_73, e_149_75, e_149_77, e_149_78, e_149_81, e_149_82, e_149_85, e_149_86, e_149_87, e_149_89, e_149_91, e_149_93, e_149_94, e_149_95, e_149_96, e_149_99, e_149_100, e_149_103, e_149_104, e_149_105, e_149_107, e_149_108, e_149_111, e_149_112, e_149_113, e_149_114, e_149_115, e_149_116, e_149_117, e_149_118, e_149_119, e_149_121, e_149_123, e_149_124, e_149_125, e_149_126, e_149_127, e_149_128, e_149_129, e_149_130, e_149_131, e_149_134, e_149_137, e_149_139, e_149_140, e_149_143, e_149_146, e_149_147, e_149_149, e_149_150, e_149_154, e_149_155, e_149_158, e_149_159, e_149_160, e_149_163, e_149_165, e_149_166, e_149_169, e_149_171, e_149_172, e_149_175, e_149_176, e_149_179, e_149_180, e_149_181, e_149_183, e_149_186, e_149_190, e_149_191, e_149_194, e_149_197, e_149_200, e_149_203, e_149_204, e_149_207, e_149_208, e_149_211, e_149_213, e_149_216, e_149_218, nl_int, nl_ref, nl_none, cat_int, cat_ref, cat_0, cat_i, cat_r, cat_l, Option.elim_some, Option.elim_none, Option.bind_some, Option.bind_none, Option.toList_some, Option.toList_none, List.cons_append, List.nil_append, Nat.reduceAdd, Nat.reduceLeDiff, wD_f0 hl, ok.lhs hl, ltF (x := nI (cHs ct)) (c := cHs ct) rfl (Nat.le_refl _) (by omega), if_false]
  | succ n ih =>
    intro k s hk
    have lx : am_ld (wD hp I A) 147 (nI k) = some (mLight m (nI k) t) := by rw [wD_l5 (k := k) rfl hl ok.1 (by omega), hL k (by omega)]
    have lt' := ltT (x := nI (cHs ct)) (c := cHs ct) rfl (show k < cHs ct by omega) (by omega)
    rw [am_for, ← ih (k + 1) _ (by omega), e_149_152]
    by_cases q : mLight m (nI k) t = 0
    · rw [decide_eq_true q]
      simp (maxSteps := 1000000) (disch := first | exact nl_int | exact nl_ref | exact nl_none | exact Nat.le_of_ble_eq_true rfl | assumption | exact wD_cl (by assumption) | exact cat_int | exact cat_ref | exact z2 | exact z4 | exact z3 | exact z5 | exact z6 | exact z8 | exact z64) only [e_149_0, e_149_1, e_149_2, e_149_3, e_149_6, e_149_9, e_149_12, e_149_13, e_149_14, e_149_15, e_149_18, e_149_21, e_149_24, e_149_25, e_149_26, e_149_27, e_149_28, e_149_31, e_149_34, e_149_35, e_149_36, e_149_37, e_149_40, e_149_41, e_149_43, e_149_44, e_149_46, e_149_47, e_149_51, e_149_52, e_149_55, e_149_58, e_149_59, e_149_60, e_149_61, e_149_64, e_149_66, e_149_67, e_149_68, e_149_69, e_149_70, e_149_71, e_149_73, e_149_75, e_149_77, e_149_78, e_149_81, e_149_82, e_149_85, e_149_86, e_149_87, e_149_89, e_149_91, e_149_93, e_149_94, e_149_95, e_149_96, e_149_99, e_149_100, e_149_103, e_149_104, e_149_105, e_149_107, e_149_108, e_149_111, e_149_112, e_149_113, e_149_114, e_149_115, e_149_116, e_149_117, e_149_118, e_149_119, e_149_121, e_149_123, e_149_124, e_149_125, e_149_126, e_149_127, e_149_128, e_149_129, e_149_130, e_149_131, e_149_134, e_149_137, e_149_139, e_149_140, e_149_143, e_149_146, e_149_147, e_149_149, e_149_150, e_149_154, e_149_155, e_149_158, e_149_159, e_149_160, e_149_163, e_149_165, e_149_166, e_149_169, e_149_171, e_149_172, e_149_175, e_149_176, e_149_179, e_149_180, e_149_181, e_149_183, e_149_186, e_149_190, e_149_191, e_149_194, e_149_197, e_149_200, e_149_203, e_149_204, e_149_207, e_149_208, e_149_211, e_149_213, e_149_216, e_149_218, nl_int, nl_ref, nl_none, cat_int, cat_ref, cat_0, cat_i, cat_r, cat_l, Option.elim_some, Option.elim_none, Option.bind_some, Option.bind_none, Option.toList_some, Option.toList_none, List.cons_append, List.nil_append, Nat.reduceAdd, Nat.reduceLeDiff, wD_f0 hl, wD_f9 hl, ok.lhs hl, lt', if_true, lx, if_pos q, nI_1]
    · rw [decide_eq_false q]
      simp (maxSteps := 1000000) (disch := first | exact nl_int | exact nl_ref | exact nl_none | exact Nat.le_of_ble_eq_true rfl | assumption | exact wD_cl (by assumption) | exact cat_int | exact cat_ref | exact z2 | exact z4 | exact z3 | exact z5 | exact z6 | exact z8 | exact z64) only [e_149_0, e_149_1, e_149_2, e_149_3, e_149_6, e_149_9, e_149_12, e_149_13, e_149_14, e_149_15, e_149_18, e_149_21, e_149_24, e_149_25, e_149_26, e_149_27, e_149_28, e_149_31, e_149_34, e_149_35, e_149_36, e_149_37, e_149_40, e_149_41, e_149_43, e_149_44, e_149_46, e_149_47, e_149_51, e_149_52, e_149_55, e_149_58, e_149_59, e_149_60, e_149_61, e_149_64, e_149_66, e_149_67, e_149_68, e_149_69, e_149_70, e_149_71, e_149_73, e_149_75, e_149_77, e_149_78, e_149_81, e_149_82, e_149_85, e_149_86, e_149_87, e_149_89, e_149_91, e_149_93, e_149_94, e_149_95, e_149_96, e_149_99, e_149_100, e_149_103, e_149_104, e_149_105, e_149_107, e_149_108, e_149_111, e_149_112, e_149_113, e_149_114, e_149_115, e_149_116, e_149_117, e_149_118, e_149_119, e_149_121, e_149_123, e_149_124, e_149_125, e_149_126, e_149_127, e_149_128, e_149_129, e_149_130, e_149_131, e_149_134, e_149_137, e_149_139, e_149_140, e_149_143, e_149_146, e_149_147, e_149_149, e_149_150, e_149_154, e_149_155, e_149_158, e_149_159, e_149_160, e_149_163, e_149_165, e_149_166, e_149_169, e_149_171, e_149_172, e_149_175, e_149_176, e_149_179, e_149_180, e_149_181, e_149_183, e_149_186, e_149_190, e_149_191, e_149_194, e_149_197, e_149_200, e_149_203, e_149_204, e_149_207, e_149_208, e_149_211, e_149_213, e_149_216, e_149_218, nl_int, nl_ref, nl_none, cat_int, cat_ref, cat_0, cat_i, cat_r, cat_l, Option.elim_some, Option.elim_none, Option.bind_some, Option.bind_none, Option.toList_some, Option.toList_none, List.cons_append, List.nil_append, Nat.reduceAdd, Nat.reduceLeDiff, wD_f0 hl, wD_f9 hl, ok.lhs hl, lt', if_true, lx, if_neg q, nI_1, Bool.false_eq_true, if_false]
theorem cDark_cnt (h5 : cHs ct ≤ 5) (s : Int32) : am_for (fun h s => s + (if (decide (mLight m (nI h) t = 0)) = true then 1 else 0)) 0 (cHs ct) s = s + bitc (cDark ct m t) := by
  rw [cDark_smk h5, ← smk_cnt]
  have e : (5 : Nat) = cHs ct + (5 - cHs ct) := by omega
  rw [show am_for (fun (h : Nat) (s : Int32) => s + (if (decide (h < cHs ct) && decide (mLight m (nI h) t = 0)) = true then 1 else 0)) 0 5 s = am_for (fun (h : Nat) (s : Int32) => s + (if (decide (h < cHs ct) && decide (mLight m (nI h) t = 0)) = true then 1 else 0)) 0 (cHs ct + (5 - cHs ct)) s from by rw [← e], am_for_add]
  rw [am_for_id (f := fun (h : Nat) (s : Int32) => s + (if (decide (h < cHs ct) && decide (mLight m (nI h) t = 0)) = true then 1 else 0)) (5 - cHs ct) _ _ (fun i s q1 q2 => by
    show s + (if (decide (i < cHs ct) && decide (mLight m (nI i) t = 0)) = true then 1 else 0) = s
    rw [decide_eq_false (show ¬ i < cHs ct by omega), Bool.false_and, if_neg (by decide), Int32.add_zero])]
  exact am_for_congr _ _ _ (fun i s q1 q2 => by
    show s + (if (decide (mLight m (nI i) t = 0)) = true then 1 else 0) = s + (if (decide (i < cHs ct) && decide (mLight m (nI i) t = 0)) = true then 1 else 0)
    rw [decide_eq_true (show i < cHs ct by omega), Bool.true_and])
theorem drw_nI {x : Int64} (h0 : ∃ n : Nat, n < 65521 ∧ x = Int64.ofNat n) : ∃ n : Nat, n < 32761 ∧ (x / 2).toInt32 = nI n := by
  obtain ⟨n, hn, rfl⟩ := h0
  refine ⟨n / 2, by omega, ?_⟩
  have e : Int64.ofNat n / 2 = Int64.ofNat (n / 2) := by
    apply Int64.toInt_inj.mp
    rw [Int64.toInt_div_of_ne_right _ _ (by decide), Int64.toInt_ofNat_of_lt (by omega), Int64.toInt_ofNat_of_lt (by omega), show (2 : Int64).toInt = 2 from by decide]
    omega
  rw [e]
  exact lN_i _
end MDL2
