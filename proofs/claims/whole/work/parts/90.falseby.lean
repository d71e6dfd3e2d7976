/-! PAIRS: falseBy -/
theorem gcd_step {p q : Nat} : Nat.gcd q (p % q) = Nat.gcd p q := by
  rw [Nat.gcd_comm q (p % q), ← Nat.gcd_rec, Nat.gcd_comm]
section MDO
variable {d : Nat} {hp hp2 : am_H} {I I2 : Nat → Int32} {A A2 : Nat → List Int32} {i j k n b p hr tt g h u N L s X Y : Nat} {x y z t a v w : Int32} {ct : am_Ci} {nw m : am_Mo}
theorem mRes_sm8 : mRes nw x = sm8 (fun i => decide (mH nw i = x)) := by
  refine am_for_congr _ _ _ (fun i s _ _ => ?_)
  unfold mRe
  show _ = (if decide (mH nw i = x) = true then s ||| ((1 : Int32) <<< (nI i &&& 31)) else s)
  by_cases q : mH nw i = x
  · rw [if_pos q, decide_eq_true q, if_pos rfl]
  · rw [if_neg q, decide_eq_false q, if_neg (by decide)]
def gB (L X Y : Nat) (j : Nat) : Nat := if sbN L j 8 = true then wt L j X Y 8 else 0
def gA (nw : am_Mo) (g : Nat) (t : Int32) (L X Y : Nat) (j : Nat) : Nat := if sbN L j 8 = true then (if mSmoke (mDraw nw (nI j) nw) (nI g) t = true then wt L j X Y 8 else 0) else 0
theorem aChs_nI (hL : L < 256) (eL : mRes nw (nI g) = nI L) (hX : X + Y = 10) : aChs nw (nI g) (nI X) t = nI (suN (gA nw g t L X Y) 256) := by
  unfold aChs
  rw [eL, bcn_at hL]
  have := am_for_inv (f := aCh nw (nI g) (nI X) t (nI L) (nI (cnb (fun i => L.testBit i) 8))) (fun k s => s = nI (suN (gA nw g t L X Y) k)) 256 0 0 rfl (fun j s _ hj es => by
    have hj2 : j < 256 := by omega
    unfold aCh
    rw [suN]
    have sb := sb_and hj2 hL
    by_cases q : nI j &&& (nI L ^^^ -1) = 0
    · rw [if_pos q]
      have sq := sb.mp q
      by_cases q2 : mSmoke (mDraw nw (nI j) nw) (nI g) t = true
      · rw [if_pos q2]
        have eg : gA nw g t L X Y j = wt L j X Y 8 := by unfold gA; rw [if_pos sq, if_pos q2]
        have cs := cnb_split 8 sq
        have l1 := cnb_le (P := fun i => j.testBit i) 8
        have l2 := cnb_le (P := fun i => L.testBit i && !j.testBit i) 8
        rw [eg, es, bcn_at hj2, show (10 : Int32) - nI X = nI Y from by
          have := pk_sub (a := 10) (b := X) (by omega)
          rw [show 10 - X = Y from by omega] at this
          exact this, pk_sub (by omega), cs, show cnb (fun i => j.testBit i) 8 + cnb (fun i => L.testBit i && !j.testBit i) 8 - cnb (fun i => j.testBit i) 8 = cnb (fun i => L.testBit i && !j.testBit i) 8 from by omega, aPow_nI (by omega), aPow_nI (by omega), pk_mul, nI_add, wt_pow 8 sq]
      · rw [if_neg q2]
        have eg : gA nw g t L X Y j = 0 := by unfold gA; rw [if_pos sq, if_neg q2]
        rw [eg, Nat.add_zero]; exact es
    · rw [if_neg q]
      have eg : gA nw g t L X Y j = 0 := by unfold gA; rw [if_neg (fun w => q (sb.mpr w))]
      rw [eg, Nat.add_zero]; exact es)
  rw [Nat.zero_add] at this
  exact this
theorem gA_cut (hL : L < 256) : suN (gA nw g t L X Y) 256 = suN (gA nw g t L X Y) (L + 1) := by
  have hz : suN (fun j => gA nw g t L X Y (L + 1 + j)) (255 - L) = 0 := suN_zero _ (fun j hj => by
    show gA nw g t L X Y (L + 1 + j) = 0
    unfold gA
    rw [if_neg (fun w => by have := sb_le (by omega) w; omega)])
  have e := suN_add (g := gA nw g t L X Y) (L + 1) (255 - L)
  rw [show L + 1 + (255 - L) = 256 from by omega, hz, Nat.add_zero] at e
  exact e
theorem gB_cut (hL : L < 256) : suN (gB L X Y) 256 = suN (gB L X Y) (L + 1) := by
  have hz : suN (fun j => gB L X Y (L + 1 + j)) (255 - L) = 0 := suN_zero _ (fun j hj => by
    show gB L X Y (L + 1 + j) = 0
    unfold gB
    rw [if_neg (fun w => by have := sb_le (by omega) w; omega)])
  have e := suN_add (g := gB L X Y) (L + 1) (255 - L)
  rw [show L + 1 + (255 - L) = 256 from by omega, hz, Nat.add_zero] at e
  exact e
theorem s7_live (hl : 154 < hp.length) (ok : Ok7 A ct nw hr) {l1 l2 l3 l7 l8 l9 l10 : Option Value} : ∀ n i v, i + n = cPp ct → am_E (d + 12) 148 44 [some (.ref 141), some (.int (nI g)), l2, l3, some (.int t), some (.int v), some (.int (nI i)), l7, l8, l9, l10] [] (wD hp I A) = am_E (d + 12) 148 84 [some (.ref 141), some (.int (nI g)), l2, l3, some (.int t), some (.int (am_for (mRe nw (nI g)) i n v)), some (.int (nI (cPp ct))), l7, l8, l9, l10] [] (wD hp I A) := by
  have p8 := ok.p8
  intro n
  induction n with
  | zero =>
    intro i v hi
    obtain rfl : i = cPp ct := by omega
    rw [e_148_44, am_for]
    simp (maxSteps := 1000000) (disch := first | exact nl_int | exact nl_ref | exact nl_none | exact Nat.le_of_ble_eq_true rfl | assumption | exact wD_cl (by assumption) | exact cat_int | exact cat_ref | exact z2 | exact z4 | exact z3 | exact z5 | exact z6 | exact z8 | exact z64) only [e_148_0, e_148_1, e_148_2, e_148_5, e_148_8, e_148_9, e_148_10, e_148_11, e_148_14, e_148_17, e_148_20, e_148_21, e_148_22, e_148_23, e_148_24, e_148_27, e_148_30, e_148_31, e_148_32, e_148_33, e_148_36, e_148_38, e_148_39, e_148_41, e_148_42, e_148_46, e_148_47, e_148_50, e_148_51, e_148_52, e_148_55, e_148_57, e_148_58, e_148_60, e_148_63, e_148_64, e_148_67, e_148_68, e_148_70, e_148_71, e_148_74, e_148_75, e_148_76, e_148_78, e_148_81, e_148_85, e_148_87, e_148_88, e_148_90, e_148_91, e_148_95, e_148_97, e_148_100, e_148_102, e_148_104, e_148_105, e_148_106, e_148_107, e_148_110, e_148_111, e_148_113, e_148_114, e_148_118, e_148_119, e_148_122, e_148_123, e_148_124, e_148_127, e_148_129, e_148_131, e_148_133, e_148_134, e_148_135, e_148_136, e_148_139, e_148_140, e_148_143, e_148_145, e_148_147, e_148_148, e_148_149, e_148_150, e_148_151, e_148_154, e_148_155, e_148_158, e_148_160, e_148_161, e_148_162, e_148_163, e_148_165, e_148_168, e_148_171, e_148_173, e_148_175, e_148_176, e_148_178, e_148_180, e_148_181, e_148_182, e_148_184, e_148_186, e_148_189, e_148_192, e_148_194, e_148_197, e_148_198, e_148_199, e_148_201, e_148_204, e_148_207, e_148_209, e_148_211, e_148_213, e_148_217, e_148_220, e_148_222, e_148_224, e_148_225, e_148_227, e_148_229, e_148_231, e_148_233, e_148_235, e_148_238, e_148_239, e_148_242, e_148_244, e_148_246, e_148_247, e_148_250, e_148_252, e_148_254, e_148_255, nl_int, nl_ref, nl_none, cat_int, cat_ref, cat_0, cat_i, cat_r, cat_l, Option.elim_some, Option.elim_none, Option.bind_some, Option.bind_none, Option.toList_some, Option.toList_none, List.cons_append, List.nil_append, Nat.reduceAdd, Nat.reduceLeDiff, wD_f1 hl, ok.lp hl, ltF (x := nI (cPp ct)) (c := cPp ct) rfl (Nat.le_refl _) (by omega), if_false]
  | succ n ih =>
    intro i v hi
    have i8 : i < cPp ct := by omega
    have lt' := ltT (x := nI (cPp ct)) (c := cPp ct) rfl i8 (by omega)
    have ho := s7_ho (d := d + 11) (I := I) hl ok.1 ok.2.1 i8 p8
    rw [am_for, ← ih (i + 1) _ (by omega), e_148_44]
    unfold mRe
    by_cases q : mH nw i = nI g
    · rw [if_pos q]
      simp (maxSteps := 1000000) (disch := first | exact nl_int | exact nl_ref | exact nl_none | exact Nat.le_of_ble_eq_true rfl | assumption | exact wD_cl (by assumption) | exact cat_int | exact cat_ref | exact z2 | exact z4 | exact z3 | exact z5 | exact z6 | exact z8 | exact z64) only [e_148_0, e_148_1, e_148_2, e_148_5, e_148_8, e_148_9, e_148_10, e_148_11, e_148_14, e_148_17, e_148_20, e_148_21, e_148_22, e_148_23, e_148_24, e_148_27, e_148_30, e_148_31, e_148_32, e_148_33, e_148_36, e_148_38, e_148_39, e_148_41, e_148_42, e_148_46, e_148_47, e_148_50, e_148_51, e_148_52, e_148_55, e_148_57, e_148_58, e_148_60, e_148_63, e_148_64, e_148_67, e_148_68, e_148_70, e_148_71, e_148_74, e_148_75, e_148_76, e_148_78, e_148_81, e_148_85, e_148_87, e_148_88, e_148_90, e_148_91, e_148_95, e_148_97, e_148_100, e_148_102, e_148_104, e_148_105, e_148_106, e_148_107, e_148_110, e_148_111, e_148_113, e_148_114, e_148_118, e_148_119, e_148_122, e_148_123, e_148_124, e_148_127, e_148_129, e_148_131, e_148_133, e_148_134, e_148_135, e_148_136, e_148_139, e_148_140, e_148_143, e_148_145, e_148_147, e_148_148, e_148_149, e_148_150, e_148_151, e_148_154, e_148_155, e_148_158, e_148_160, e_148_161, e_148_162, e_148_163, e_148_165, e_148_168, e_148_171, e_148_173, e_148_175, e_148_176, e_148_178, e_148_180, e_148_181, e_148_182, e_148_184, e_148_186, e_148_189, e_148_192, e_148_194, e_148_197, e_148_198, e_148_199, e_148_201, e_148_204, e_148_207, e_148_209, e_148_211, e_148_213, e_148_217, e_148_220, e_148_222, e_148_224, e_148_225, e_148_227, e_148_229, e_148_231, e_148_233, e_148_235, e_148_238, e_148_239, e_148_242, e_148_244, e_148_246, e_148_247, e_148_250, e_148_252, e_148_254, e_148_255, nl_int, nl_ref, nl_none, cat_int, cat_ref, cat_0, cat_i, cat_r, cat_l, Option.elim_some, Option.elim_none, Option.bind_some, Option.bind_none, Option.toList_some, Option.toList_none, List.cons_append, List.nil_append, Nat.reduceAdd, Nat.reduceLeDiff, wD_f1 hl, ok.lp hl, lt', if_true, ho, if_pos q, nI_1]
    · rw [if_neg q]
      simp (maxSteps := 1000000) (disch := first | exact nl_int | exact nl_ref | exact nl_none | exact Nat.le_of_ble_eq_true rfl | assumption | exact wD_cl (by assumption) | exact cat_int | exact cat_ref | exact z2 | exact z4 | exact z3 | exact z5 | exact z6 | exact z8 | exact z64) only [e_148_0, e_148_1, e_148_2, e_148_5, e_148_8, e_148_9, e_148_10, e_148_11, e_148_14, e_148_17, e_148_20, e_148_21, e_148_22, e_148_23, e_148_24, e_148_27, e_148_30, e_148_31, e_148_32, e_148_33, e_148_36, e_148_38, e_148_39, e_148_41, e_148_42, e_148_46, e_148_47, e_148_50, e_148_51, e_148_52, e_148_55, e_148_57, e_148_58, e_148_60, e_148_63, e_148_64, e_148_67, e_148_68, e_148_70, e_148_71, e_148_74, e_148_75, e_148_76, e_148_78, e_148_81, e_148_85, e_148_87, e_148_88, e_148_90, e_148_91, e_148_95, e_148_97, e_148_100, e_148_102, e_148_104, e_148_105, e_148_106, e_148_107, e_148_110, e_148_111, e_148_113, e_148_114, e_148_118, e_148_119, e_148_122, e_148_123, e_148_124, e_148_127, e_148_129, e_148_131, e_148_133, e_148_134, e_148_135, e_148_136, e_148_139, e_148_140, e_148_143, e_148_145, e_148_147, e_148_148, e_148_149, e_148_150, e_148_151, e_148_154, e_148_155, e_148_158, e_148_160, e_148_161, e_148_162, e_148_163, e_148_165, e_148_168, e_148_171, e_148_173, e_148_175, e_148_176, e_148_178, e_148_180, e_148_181, e_148_182, e_148_184, e_148_186, e_148_189, e_148_192, e_148_194, e_148_197, e_148_198, e_148_199, e_148_201, e_148_204, e_148_207, e_148_209, e_148_211, e_148_213, e_148_217, e_148_220, e_148_222, e_148_224, e_148_225, e_148_227, e_148_229, e_148_231, e_148_233, e_148_235, e_148_238, e_148_239, e_148_242, e_148_244, e_148_246, e_148_247, e_148_250, e_148_252, e_148_254, e_148_255, nl_int, nl_ref, nl_none, cat_int, cat_ref, cat_0, cat_i, cat_r, cat_l, Option.elim_some, Option.elim_none, Option.bind_some, Option.bind_none, Option.toList_some, Option.toList_none, List.cons_append, List.nil_append, Nat.reduceAdd, Nat.reduceLeDiff, wD_f1 hl, ok.lp hl, lt', if_true, ho, if_neg q, Int32.or_zero, nI_1]
theorem s7_one (hl : 154 < hp.length) (ok : Ok7 A ct nw hr) (hL : L < 256) (hs : s < 256) (hX : X + Y = 10) {l1 l3 l4 l6 l7 : Option Value} : ∀ n i, i + n = cPp ct → am_E (d + 12) 148 116 [some (.ref 141), l1, some (.int (nI X)), l3, l4, some (.int (nI L)), l6, l7, some (.int (nI s)), some (.int (nI (wt L s X Y i))), some (.int (nI i))] [] (wD hp I A) = am_E (d + 12) 148 171 [some (.ref 141), l1, some (.int (nI X)), l3, l4, some (.int (nI L)), l6, l7, some (.int (nI s)), some (.int (nI (wt L s X Y (cPp ct)))), some (.int (nI (cPp ct)))] [] (wD hp I A) := by
  have p8 := ok.p8
  intro n
  induction n with
  | zero =>
    intro i hi
    obtain rfl : i = cPp ct := by omega
    rw [e_148_116]
    simp (maxSteps := 1000000) (disch := first | exact nl_int | exact nl_ref | exact nl_none | exact Nat.le_of_ble_eq_true rfl | assumption | exact wD_cl (by assumption) | exact cat_int | exact cat_ref | exact z2 | exact z4 | exact z3 | exact z5 | exact z6 | exact z8 | exact z64) only [e_148_0, e_148_1, e_148_2, e_148_5, e_148_8, e_148_9, e_148_10, e_148_11, e_148_14, e_148_17, e_148_20, e_148_21, e_148_22, e_148_23, e_148_24, e_148_27, e_148_30, e_148_31, e_148_32, e_148_33, e_148_36, e_148_38, e_148_39, e_148_41, e_148_42, e_148_46, e_148_47, e_148_50, e_148_51, e_148_52, e_148_55, e_148_57, e_148_58, e_148_60, e_148_63, e_148_64, e_148_67, e_148_68, e_148_70, e_148_71, e_148_74, e_148_75, e_148_76, e_148_78, e_148_81, e_148_84, e_148_85, e_148_87, e_148_88, e_148_90, e_148_91, e_148_95, e_148_97, e_148_100, e_148_102, e_148_104, e_148_105, e_148_106, e_148_107, e_148_110, e_148_111, e_148_113, e_148_114, e_148_118, e_148_119, e_148_122, e_148_123, e_148_124, e_148_127, e_148_129, e_148_131, e_148_133, e_148_134, e_148_135, e_148_136, e_148_139, e_148_140, e_148_143, e_148_145, e_148_147, e_148_148, e_148_149, e_148_150, e_148_151, e_148_154, e_148_155, e_148_158, e_148_160, e_148_161, e_148_162, e_148_163, e_148_165, e_148_168, e_148_173, e_148_175, e_148_176, e_148_178, e_148_180, e_148_181, e_148_182, e_148_184, e_148_186, e_148_189, e_148_192, e_148_194, e_148_197, e_148_198, e_148_199, e_148_201, e_148_204, e_148_207, e_148_209, e_148_211, e_148_213, e_148_217, e_148_220, e_148_222, e_148_224, e_148_225, e_148_227, e_148_229, e_148_231, e_148_233, e_148_235, e_148_238, e_148_239, e_148_242, e_148_244, e_148_246, e_148_247, e_148_250, e_148_252, e_148_254, e_148_255, nl_int, nl_ref, nl_none, cat_int, cat_ref, cat_0, cat_i, cat_r, cat_l, Option.elim_some, Option.elim_none, Option.bind_some, Option.bind_none, Option.toList_some, Option.toList_none, List.cons_append, List.nil_append, Nat.reduceAdd, Nat.reduceLeDiff, wD_f1 hl, ok.lp hl, ltF (x := nI (cPp ct)) (c := cPp ct) rfl (Nat.le_refl _) (by omega), if_false]
  | succ n ih =>
    intro i hi
    have i8 : i < cPp ct := by omega
    have lt' := ltT (x := nI (cPp ct)) (c := cPp ct) rfl i8 (by omega)
    have b1 := bj_at (i := i) hL (by omega)
    have b2' := bj_at (i := i) hs (by omega)
    rw [← ih (i + 1) (by omega), e_148_116, wt]
    unfold wtF
    cases e1 : L.testBit i with
    | false =>
      rw [e1] at b1
      rw [if_pos rfl, Nat.mul_one]
      simp (maxSteps := 1000000) (disch := first | exact nl_int | exact nl_ref | exact nl_none | exact Nat.le_of_ble_eq_true rfl | assumption | exact wD_cl (by assumption) | exact cat_int | exact cat_ref | exact z2 | exact z4 | exact z3 | exact z5 | exact z6 | exact z8 | exact z64) only [e_148_0, e_148_1, e_148_2, e_148_5, e_148_8, e_148_9, e_148_10, e_148_11, e_148_14, e_148_17, e_148_20, e_148_21, e_148_22, e_148_23, e_148_24, e_148_27, e_148_30, e_148_31, e_148_32, e_148_33, e_148_36, e_148_38, e_148_39, e_148_41, e_148_42, e_148_46, e_148_47, e_148_50, e_148_51, e_148_52, e_148_55, e_148_57, e_148_58, e_148_60, e_148_63, e_148_64, e_148_67, e_148_68, e_148_70, e_148_71, e_148_74, e_148_75, e_148_76, e_148_78, e_148_81, e_148_84, e_148_85, e_148_87, e_148_88, e_148_90, e_148_91, e_148_95, e_148_97, e_148_100, e_148_102, e_148_104, e_148_105, e_148_106, e_148_107, e_148_110, e_148_111, e_148_113, e_148_114, e_148_118, e_148_119, e_148_122, e_148_123, e_148_124, e_148_127, e_148_129, e_148_131, e_148_133, e_148_134, e_148_135, e_148_136, e_148_139, e_148_140, e_148_143, e_148_145, e_148_147, e_148_148, e_148_149, e_148_150, e_148_151, e_148_154, e_148_155, e_148_158, e_148_160, e_148_161, e_148_162, e_148_163, e_148_165, e_148_168, e_148_173, e_148_175, e_148_176, e_148_178, e_148_180, e_148_181, e_148_182, e_148_184, e_148_186, e_148_189, e_148_192, e_148_194, e_148_197, e_148_198, e_148_199, e_148_201, e_148_204, e_148_207, e_148_209, e_148_211, e_148_213, e_148_217, e_148_220, e_148_222, e_148_224, e_148_225, e_148_227, e_148_229, e_148_231, e_148_233, e_148_235, e_148_238, e_148_239, e_148_242, e_148_244, e_148_246, e_148_247, e_148_250, e_148_252, e_148_254, e_148_255, nl_int, nl_ref, nl_none, cat_int, cat_ref, cat_0, cat_i, cat_r, cat_l, Option.elim_some, Option.elim_none, Option.bind_some, Option.bind_none, Option.toList_some, Option.toList_none, List.cons_append, List.nil_append, Nat.reduceAdd, Nat.reduceLeDiff, wD_f1 hl, ok.lp hl, lt', if_true, b1, bI_f, z0, Int32.mul_one, nI_1]
    | true =>
      rw [e1] at b1
      rw [if_neg (show ¬ (true = false) by decide)]
      cases e2 : s.testBit i with
      | true =>
        rw [e2] at b2'
        rw [if_pos rfl]
        simp (maxSteps := 1000000) (disch := first | exact nl_int | exact nl_ref | exact nl_none | exact Nat.le_of_ble_eq_true rfl | assumption | exact wD_cl (by assumption) | exact cat_int | exact cat_ref | exact z2 | exact z4 | exact z3 | exact z5 | exact z6 | exact z8 | exact z64) only [e_148_0, e_148_1, e_148_2, e_148_5, e_148_8, e_148_9, e_148_10, e_148_11, e_148_14, e_148_17, e_148_20, e_148_21, e_148_22, e_148_23, e_148_24, e_148_27, e_148_30, e_148_31, e_148_32, e_148_33, e_148_36, e_148_38, e_148_39, e_148_41, e_148_42, e_148_46, e_148_47, e_148_50, e_148_51, e_148_52, e_148_55, e_148_57, e_148_58, e_148_60, e_148_63, e_148_64, e_148_67, e_148_68, e_148_70, e_148_71, e_148_74, e_148_75, e_148_76, e_148_78, e_148_81, e_148_84, e_148_85, e_148_87, e_148_88, e_148_90, e_148_91, e_148_95, e_148_97, e_148_100, e_148_102, e_148_104, e_148_105, e_148_106, e_148_107, e_148_110, e_148_111, e_148_113, e_148_114, e_148_118, e_148_119, e_148_122, e_148_123, e_148_124, e_148_127, e_148_129, e_148_131, e_148_133, e_148_134, e_148_135, e_148_136, e_148_139, e_148_140, e_148_143, e_148_145, e_148_147, e_148_148, e_148_149, e_148_150, e_148_151, e_148_154, e_148_155, e_148_158, e_148_160, e_148_161, e_148_162, e_148_163, e_148_165, e_148_168, e_148_173, e_148_175, e_148_176, e_148_178, e_148_180, e_148_181, e_148_182, e_148_184, e_148_186, e_148_189, e_148_192, e_148_194, e_148_197, e_148_198, e_148_199, e_148_201, e_148_204, e_148_207, e_148_209, e_148_211, e_148_213, e_148_217, e_148_220, e_148_222, e_148_224, e_148_225, e_148_227, e_148_229, e_148_231, e_148_233, e_148_235, e_148_238, e_148_239, e_148_242, e_148_244, e_148_246, e_148_247, e_148_250, e_148_252, e_148_254, e_148_255, nl_int, nl_ref, nl_none, cat_int, cat_ref, cat_0, cat_i, cat_r, cat_l, Option.elim_some, Option.elim_none, Option.bind_some, Option.bind_none, Option.toList_some, Option.toList_none, List.cons_append, List.nil_append, Nat.reduceAdd, Nat.reduceLeDiff, wD_f1 hl, ok.lp hl, lt', if_true, b1, b2', bI_t, z1, if_false, pk_mul, nI_1]
      | false =>
        rw [e2] at b2'
        rw [if_neg (show ¬ (false = true) by decide)]
        have ey : (10 : Int32) - nI X = nI Y := by
          have := pk_sub (a := 10) (b := X) (by omega)
          rw [show 10 - X = Y from by omega] at this
          exact this
        simp (maxSteps := 1000000) (disch := first | exact nl_int | exact nl_ref | exact nl_none | exact Nat.le_of_ble_eq_true rfl | assumption | exact wD_cl (by assumption) | exact cat_int | exact cat_ref | exact z2 | exact z4 | exact z3 | exact z5 | exact z6 | exact z8 | exact z64) only [e_148_0, e_148_1, e_148_2, e_148_5, e_148_8, e_148_9, e_148_10, e_148_11, e_148_14, e_148_17, e_148_20, e_148_21, e_148_22, e_148_23, e_148_24, e_148_27, e_148_30, e_148_31, e_148_32, e_148_33, e_148_36, e_148_38, e_148_39, e_148_41, e_148_42, e_148_46, e_148_47, e_148_50, e_148_51, e_148_52, e_148_55, e_148_57, e_148_58, e_148_60, e_148_63, e_148_64, e_148_67, e_148_68, e_148_70, e_148_71, e_148_74, e_148_75, e_148_76, e_148_78, e_148_81, e_148_84, e_148_85, e_148_87, e_148_88, e_148_90, e_148_91, e_148_95, e_148_97, e_148_100, e_148_102, e_148_104, e_148_105, e_148_106, e_148_107, e_148_110, e_148_111, e_148_113, e_148_114, e_148_118, e_148_119, e_148_122, e_148_123, e_148_124, e_148_127, e_148_129, e_148_131, e_148_133, e_148_134, e_148_135, e_148_136, e_148_139, e_148_140, e_148_143, e_148_145, e_148_147, e_148_148, e_148_149, e_148_150, e_148_151, e_148_154, e_148_155, e_148_158, e_148_160, e_148_161, e_148_162, e_148_163, e_148_165, e_148_168, e_148_173, e_148_175, e_148_176, e_148_178, e_148_180, e_148_181, e_148_182, e_148_184, e_148_186, e_148_189, e_148_192, e_148_194, e_148_197, e_148_198, e_148_199, e_148_201, e_148_204, e_148_207, e_148_209, e_148_211, e_148_213, e_148_217, e_148_220, e_148_222, e_148_224, e_148_225, e_148_227, e_148_229, e_148_231, e_148_233, e_148_235, e_148_238, e_148_239, e_148_242, e_148_244, e_148_246, e_148_247, e_148_250, e_148_252, e_148_254, e_148_255, nl_int, nl_ref, nl_none, cat_int, cat_ref, cat_0, cat_i, cat_r, cat_l, Option.elim_some, Option.elim_none, Option.bind_some, Option.bind_none, Option.toList_some, Option.toList_none, List.cons_append, List.nil_append, Nat.reduceAdd, Nat.reduceLeDiff, wD_f1 hl, ok.lp hl, lt', if_true, b1, b2', bI_t, bI_f, z1, show ((0 : Int32) = 1) = False from by decide, if_false, ey, pk_mul, nI_1]
theorem s7_sets (hl : 154 < hp.length) (ok : Ok7 A ct nw hr) (hL : L < 256) (hLp : ∀ i, cPp ct ≤ i → i < 8 → L.testBit i = false) (hX : X + Y = 10) (ht : tt < 32) (hg : g < 5) {l3 : Option Value} : ∀ n s l9 l10, s + n = L + 1 → ∃ m9 m10, am_E (d + 12) 148 93 [some (.ref 141), some (.int (nI g)), some (.int (nI X)), l3, some (.int (nI tt)), some (.int (nI L)), some (.int (nI (suN (gA nw g (nI tt) L X Y) s))), some (.int (nI (suN (gB L X Y) s))), some (.int (nI s)), l9, l10] [] (wD hp I A) = am_E (d + 12) 148 207 [some (.ref 141), some (.int (nI g)), some (.int (nI X)), l3, some (.int (nI tt)), some (.int (nI L)), some (.int (nI (suN (gA nw g (nI tt) L X Y) (L + 1)))), some (.int (nI (suN (gB L X Y) (L + 1)))), some (.int (nI (L + 1))), m9, m10] [] (wD hp I A) := by
  have p8 := ok.p8
  intro n
  induction n with
  | zero =>
    intro s l9 l10 hs
    obtain rfl : s = L + 1 := by omega
    refine ⟨l9, l10, ?_⟩
    rw [e_148_93]
    simp (maxSteps := 1000000) (disch := first | exact nl_int | exact nl_ref | exact nl_none | exact Nat.le_of_ble_eq_true rfl | assumption | exact wD_cl (by assumption) | exact cat_int | exact cat_ref | exact z2 | exact z4 | exact z3 | exact z5 | exact z6 | exact z8 | exact z64) only [e_148_0, e_148_1, e_148_2, e_148_5, e_148_8, e_148_9, e_148_10, e_148_11, e_148_14, e_148_17, e_148_20, e_148_21, e_148_22, e_148_23, e_148_24, e_148_27, e_148_30, e_148_31, e_148_32, e_148_33, e_148_36, e_148_38, e_148_39, e_148_41, e_148_42, e_148_46, e_148_47, e_148_50, e_148_51, e_148_52, e_148_55, e_148_57, e_148_58, e_148_60, e_148_63, e_148_64, e_148_67, e_148_68, e_148_70, e_148_71, e_148_74, e_148_75, e_148_76, e_148_78, e_148_81, e_148_84, e_148_85, e_148_87, e_148_88, e_148_90, e_148_91, e_148_95, e_148_97, e_148_100, e_148_102, e_148_104, e_148_105, e_148_106, e_148_107, e_148_110, e_148_111, e_148_113, e_148_114, e_148_118, e_148_119, e_148_122, e_148_123, e_148_124, e_148_127, e_148_129, e_148_131, e_148_133, e_148_134, e_148_135, e_148_136, e_148_139, e_148_140, e_148_143, e_148_145, e_148_147, e_148_148, e_148_149, e_148_150, e_148_151, e_148_154, e_148_155, e_148_158, e_148_160, e_148_161, e_148_162, e_148_163, e_148_165, e_148_168, e_148_171, e_148_173, e_148_175, e_148_176, e_148_178, e_148_180, e_148_181, e_148_182, e_148_184, e_148_186, e_148_189, e_148_192, e_148_194, e_148_197, e_148_198, e_148_199, e_148_201, e_148_204, e_148_209, e_148_211, e_148_213, e_148_217, e_148_220, e_148_222, e_148_224, e_148_225, e_148_227, e_148_229, e_148_231, e_148_233, e_148_235, e_148_238, e_148_239, e_148_242, e_148_244, e_148_246, e_148_247, e_148_250, e_148_252, e_148_254, e_148_255, nl_int, nl_ref, nl_none, cat_int, cat_ref, cat_0, cat_i, cat_r, cat_l, Option.elim_some, Option.elim_none, Option.bind_some, Option.bind_none, Option.toList_some, Option.toList_none, List.cons_append, List.nil_append, Nat.reduceAdd, Nat.reduceLeDiff, gtT (x := nI L) (c := L) rfl (show L < L + 1 by omega) (by omega), if_true]
  | succ n ih =>
    intro s l9 l10 hs
    have s8 : s < 256 := by omega
    have gt' := gtF (x := nI L) (c := L) rfl (show s ≤ L by omega) (by omega)
    have sb := sb_and s8 hL
    by_cases q : nI s &&& (nI L ^^^ -1) = 0
    · have sq := sb.mp q
      have e1 := s7_one (d := d) (I := I) (l1 := some (.int (nI g))) (l3 := l3) (l4 := some (.int (nI tt))) (l6 := some (.int (nI (suN (gA nw g (nI tt) L X Y) s)))) (l7 := some (.int (nI (suN (gB L X Y) s)))) hl ok hL s8 hX (cPp ct) 0 (Nat.zero_add _)
      rw [wt, show nI 0 = 0 from rfl, show nI 1 = 1 from rfl] at e1
      have wc : wt L s X Y (cPp ct) = wt L s X Y 8 := by
        have := wt_cut (L := L) (j := s) (X := X) (Y := Y) hLp (8 - cPp ct) (by omega)
        rw [show cPp ct + (8 - cPp ct) = 8 from by omega] at this
        exact this.symm
      rw [wc] at e1
      have sm := s7_isSmoke (d := d) (I := I) hl ok s8 ht hg
      obtain ⟨m9, m10, e⟩ := ih (s + 1) (some (.int (nI (wt L s X Y 8)))) (some (.int (nI (cPp ct)))) (by omega)
      refine ⟨m9, m10, ?_⟩
      have eB : gB L X Y s = wt L s X Y 8 := by unfold gB; rw [if_pos sq]
      rw [← e, e_148_93, suN, suN, eB]
      cases q2 : mSmoke (mDraw nw (nI s) nw) (nI g) (nI tt) with
      | true =>
        rw [q2] at sm
        have eA : gA nw g (nI tt) L X Y s = wt L s X Y 8 := by unfold gA; rw [if_pos sq, if_pos q2]
        rw [eA]
        simp (maxSteps := 1000000) (disch := first | exact nl_int | exact nl_ref | exact nl_none | exact Nat.le_of_ble_eq_true rfl | assumption | exact wD_cl (by assumption) | exact cat_int | exact cat_ref | exact z2 | exact z4 | exact z3 | exact z5 | exact z6 | exact z8 | exact z64) only [e_148_0, e_148_1, e_148_2, e_148_5, e_148_8, e_148_9, e_148_10, e_148_11, e_148_14, e_148_17, e_148_20, e_148_21, e_148_22, e_148_23, e_148_24, e_148_27, e_148_30, e_148_31, e_148_32, e_148_33, e_148_36, e_148_38, e_148_39, e_148_41, e_148_42, e_148_46, e_148_47, e_148_50, e_148_51, e_148_52, e_148_55, e_148_57, e_148_58, e_148_60, e_148_63, e_148_64, e_148_67, e_148_68, e_148_70, e_148_71, e_148_74, e_148_75, e_148_76, e_148_78, e_148_81, e_148_84, e_148_85, e_148_87, e_148_88, e_148_90, e_148_91, e_148_95, e_148_97, e_148_100, e_148_102, e_148_104, e_148_105, e_148_106, e_148_107, e_148_110, e_148_111, e_148_113, e_148_114, e_148_118, e_148_119, e_148_122, e_148_123, e_148_124, e_148_127, e_148_129, e_148_131, e_148_133, e_148_134, e_148_135, e_148_136, e_148_139, e_148_140, e_148_143, e_148_145, e_148_147, e_148_148, e_148_149, e_148_150, e_148_151, e_148_154, e_148_155, e_148_158, e_148_160, e_148_161, e_148_162, e_148_163, e_148_165, e_148_168, e_148_171, e_148_173, e_148_175, e_148_176, e_148_178, e_148_180, e_148_181, e_148_182, e_148_184, e_148_186, e_148_189, e_148_192, e_148_194, e_148_197, e_148_198, e_148_199, e_148_201, e_148_204, e_148_209, e_148_211, e_148_213, e_148_217, e_148_220, e_148_222, e_148_224, e_148_225, e_148_227, e_148_229, e_148_231, e_148_233, e_148_235, e_148_238, e_148_239, e_148_242, e_148_244, e_148_246, e_148_247, e_148_250, e_148_252, e_148_254, e_148_255, nl_int, nl_ref, nl_none, cat_int, cat_ref, cat_0, cat_i, cat_r, cat_l, Option.elim_some, Option.elim_none, Option.bind_some, Option.bind_none, Option.toList_some, Option.toList_none, List.cons_append, List.nil_append, Nat.reduceAdd, Nat.reduceLeDiff, gt', if_false, if_pos q, e1, sm, b2_t, z1, nI_add, nI_1]
      | false =>
        rw [q2] at sm
        have eA : gA nw g (nI tt) L X Y s = 0 := by unfold gA; rw [if_pos sq, if_neg (by rw [q2]; decide)]
        rw [eA]
        simp (maxSteps := 1000000) (disch := first | exact nl_int | exact nl_ref | exact nl_none | exact Nat.le_of_ble_eq_true rfl | assumption | exact wD_cl (by assumption) | exact cat_int | exact cat_ref | exact z2 | exact z4 | exact z3 | exact z5 | exact z6 | exact z8 | exact z64) only [e_148_0, e_148_1, e_148_2, e_148_5, e_148_8, e_148_9, e_148_10, e_148_11, e_148_14, e_148_17, e_148_20, e_148_21, e_148_22, e_148_23, e_148_24, e_148_27, e_148_30, e_148_31, e_148_32, e_148_33, e_148_36, e_148_38, e_148_39, e_148_41, e_148_42, e_148_46, e_148_47, e_148_50, e_148_51, e_148_52, e_148_55, e_148_57, e_148_58, e_148_60, e_148_63, e_148_64, e_148_67, e_148_68, e_148_70, e_148_71, e_148_74, e_148_75, e_148_76, e_148_78, e_148_81, e_148_84, e_148_85, e_148_87, e_148_88, e_148_90, e_148_91, e_148_95, e_148_97, e_148_100, e_148_102, e_148_104, e_148_105, e_148_106, e_148_107, e_148_110, e_148_111, e_148_113, e_148_114, e_148_118, e_148_119, e_148_122, e_148_123, e_148_124, e_148_127, e_148_129, e_148_131, e_148_133, e_148_134, e_148_135, e_148_136, e_148_139, e_148_140, e_148_143, e_148_145, e_148_147, e_148_148, e_148_149, e_148_150, e_148_151, e_148_154, e_148_155, e_148_158, e_148_160, e_148_161, e_148_162, e_148_163, e_148_165, e_148_168, e_148_171, e_148_173, e_148_175, e_148_176, e_148_178, e_148_180, e_148_181, e_148_182, e_148_184, e_148_186, e_148_189, e_148_192, e_148_194, e_148_197, e_148_198, e_148_199, e_148_201, e_148_204, e_148_209, e_148_211, e_148_213, e_148_217, e_148_220, e_148_222, e_148_224, e_148_225, e_148_227, e_148_229, e_148_231, e_148_233, e_148_235, e_148_238, e_148_239, e_148_242, e_148_244, e_148_246, e_148_247, e_148_250, e_148_252, e_148_254, e_148_255, nl_int, nl_ref, nl_none, cat_int, cat_ref, cat_0, cat_i, cat_r, cat_l, Option.elim_some, Option.elim_none, Option.bind_some, Option.bind_none, Option.toList_some, Option.toList_none, List.cons_append, List.nil_append, Nat.reduceAdd, Nat.reduceLeDiff, gt', if_false, if_pos q, e1, sm, b2_f, z0, if_true, nI_add, nI_1, Int32.add_zero, Nat.add_zero]
    · have eB : gB L X Y s = 0 := by unfold gB; rw [if_neg (fun w => q (sb.mpr w))]
      have eA : gA nw g (nI tt) L X Y s = 0 := by unfold gA; rw [if_neg (fun w => q (sb.mpr w))]
      obtain ⟨m9, m10, e⟩ := ih (s + 1) l9 l10 (by omega)
      refine ⟨m9, m10, ?_⟩
      rw [← e, e_148_93, suN, suN, eA, eB]
      simp (maxSteps := 1000000) (disch := first | exact nl_int | exact nl_ref | exact nl_none | exact Nat.le_of_ble_eq_true rfl | assumption | exact wD_cl (by assumption) | exact cat_int | exact cat_ref | exact z2 | exact z4 | exact z3 | exact z5 | exact z6 | exact z8 | exact z64) only [e_148_0, e_148_1, e_148_2, e_148_5, e_148_8, e_148_9, e_148_10, e_148_11, e_148_14, e_148_17, e_148_20, e_148_21, e_148_22, e_148_23, e_148_24, e_148_27, e_148_30, e_148_31, e_148_32, e_148_33, e_148_36, e_148_38, e_148_39, e_148_41, e_148_42, e_148_46, e_148_47, e_148_50, e_148_51, e_148_52, e_148_55, e_148_57, e_148_58, e_148_60, e_148_63, e_148_64, e_148_67, e_148_68, e_148_70, e_148_71, e_148_74, e_148_75, e_148_76, e_148_78, e_148_81, e_148_84, e_148_85, e_148_87, e_148_88, e_148_90, e_148_91, e_148_95, e_148_97, e_148_100, e_148_102, e_148_104, e_148_105, e_148_106, e_148_107, e_148_110, e_148_111, e_148_113, e_148_114, e_148_118, e_148_119, e_148_122, e_148_123, e_148_124, e_148_127, e_148_129, e_148_131, e_148_133, e_148_134, e_148_135, e_148_136, e_148_139, e_148_140, e_148_143, e_148_145, e_148_147, e_148_148, e_148_149, e_148_150, e_148_151, e_148_154, e_148_155, e_148_158, e_148_160, e_148_161, e_148_162, e_148_163, e_148_165, e_148_168, e_148_171, e_148_173, e_148_175, e_148_176, e_148_178, e_148_180, e_148_181, e_148_182, e_148_184, e_148_186, e_148_189, e_148_192, e_148_194, e_148_197, e_148_198, e_148_199, e_148_201, e_148_204, e_148_209, e_148_211, e_148_213, e_148_217, e_148_220, e_148_222, e_148_224, e_148_225, e_148_227, e_148_229, e_148_231, e_148_233, e_148_235, e_148_238, e_148_239, e_148_242, e_148_244, e_148_246, e_148_247, e_148_250, e_148_252, e_148_254, e_148_255, nl_int, nl_ref, nl_none, cat_int, cat_ref, cat_0, cat_i, cat_r, cat_l, Option.elim_some, Option.elim_none, Option.bind_some, Option.bind_none, Option.toList_some, Option.toList_none, List.cons_append, List.nil_append, Nat.reduceAdd, Nat.reduceLeDiff, gt', if_false, if_neg q, nI_1, Nat.add_zero]
theorem s7_gcd {l1 l2 l4 l5 : Option Value} {P Q : Nat} (hP : P < 2 ^ 31) (hQ : Q < 2 ^ 31) : ∀ q p l10, p < 2 ^ 31 → q < 2 ^ 31 → 0 < Nat.gcd p q → am_E (d + 12) 148 215 [some (.ref 141), l1, l2, some (.int z), l4, l5, some (.int (nI P)), some (.int (nI Q)), some (.int (nI p)), some (.int (nI q)), l10] [] hp = some (some (.int (if z = 0 then nI (P / Nat.gcd p q) else nI (Q / Nat.gcd p q))), hp) := by
  intro q
  induction q using Nat.strongRecOn with
  | ind q ih =>
    intro p l10 h1 h2 h3
    rw [e_148_215]
    by_cases q0 : q = 0
    · subst q0
      rw [Nat.gcd_zero_right] at h3 ⊢
      have pz : (nI p = 0) = False := eq_false (nI_ne0 h3 h1)
      by_cases w : z = 0
      · rw [if_pos w]
        simp (maxSteps := 1000000) (disch := first | exact nl_int | exact nl_ref | exact nl_none | exact Nat.le_of_ble_eq_true rfl | assumption | exact wD_cl (by assumption) | exact cat_int | exact cat_ref | exact z2 | exact z4 | exact z3 | exact z5 | exact z6 | exact z8 | exact z64) only [e_148_0, e_148_1, e_148_2, e_148_5, e_148_8, e_148_9, e_148_10, e_148_11, e_148_14, e_148_17, e_148_20, e_148_21, e_148_22, e_148_23, e_148_24, e_148_27, e_148_30, e_148_31, e_148_32, e_148_33, e_148_36, e_148_38, e_148_39, e_148_41, e_148_42, e_148_46, e_148_47, e_148_50, e_148_51, e_148_52, e_148_55, e_148_57, e_148_58, e_148_60, e_148_63, e_148_64, e_148_67, e_148_68, e_148_70, e_148_71, e_148_74, e_148_75, e_148_76, e_148_78, e_148_81, e_148_84, e_148_85, e_148_87, e_148_88, e_148_90, e_148_91, e_148_95, e_148_97, e_148_100, e_148_102, e_148_104, e_148_105, e_148_106, e_148_107, e_148_110, e_148_111, e_148_113, e_148_114, e_148_118, e_148_119, e_148_122, e_148_123, e_148_124, e_148_127, e_148_129, e_148_131, e_148_133, e_148_134, e_148_135, e_148_136, e_148_139, e_148_140, e_148_143, e_148_145, e_148_147, e_148_148, e_148_149, e_148_150, e_148_151, e_148_154, e_148_155, e_148_158, e_148_160, e_148_161, e_148_162, e_148_163, e_148_165, e_148_168, e_148_171, e_148_173, e_148_175, e_148_176, e_148_178, e_148_180, e_148_181, e_148_182, e_148_184, e_148_186, e_148_189, e_148_192, e_148_194, e_148_197, e_148_198, e_148_199, e_148_201, e_148_204, e_148_207, e_148_209, e_148_211, e_148_213, e_148_217, e_148_220, e_148_222, e_148_224, e_148_225, e_148_227, e_148_229, e_148_231, e_148_233, e_148_235, e_148_238, e_148_239, e_148_242, e_148_244, e_148_246, e_148_247, e_148_250, e_148_252, e_148_254, e_148_255, nl_int, nl_ref, nl_none, cat_int, cat_ref, cat_0, cat_i, cat_r, cat_l, Option.elim_some, Option.elim_none, Option.bind_some, Option.bind_none, Option.toList_some, Option.toList_none, List.cons_append, List.nil_append, Nat.reduceAdd, Nat.reduceLeDiff, show (nI 0 = 0) = True from by decide, if_true, if_pos w, pk_div hP h3 h1]
      · rw [if_neg w]
        simp (maxSteps := 1000000) (disch := first | exact nl_int | exact nl_ref | exact nl_none | exact Nat.le_of_ble_eq_true rfl | assumption | exact wD_cl (by assumption) | exact cat_int | exact cat_ref | exact z2 | exact z4 | exact z3 | exact z5 | exact z6 | exact z8 | exact z64) only [e_148_0, e_148_1, e_148_2, e_148_5, e_148_8, e_148_9, e_148_10, e_148_11, e_148_14, e_148_17, e_148_20, e_148_21, e_148_22, e_148_23, e_148_24, e_148_27, e_148_30, e_148_31, e_148_32, e_148_33, e_148_36, e_148_38, e_148_39, e_148_41, e_148_42, e_148_46, e_148_47, e_148_50, e_148_51, e_148_52, e_148_55, e_148_57, e_148_58, e_148_60, e_148_63, e_148_64, e_148_67, e_148_68, e_148_70, e_148_71, e_148_74, e_148_75, e_148_76, e_148_78, e_148_81, e_148_84, e_148_85, e_148_87, e_148_88, e_148_90, e_148_91, e_148_95, e_148_97, e_148_100, e_148_102, e_148_104, e_148_105, e_148_106, e_148_107, e_148_110, e_148_111, e_148_113, e_148_114, e_148_118, e_148_119, e_148_122, e_148_123, e_148_124, e_148_127, e_148_129, e_148_131, e_148_133, e_148_134, e_148_135, e_148_136, e_148_139, e_148_140, e_148_143, e_148_145, e_148_147, e_148_148, e_148_149, e_148_150, e_148_151, e_148_154, e_148_155, e_148_158, e_148_160, e_148_161, e_148_162, e_148_163, e_148_165, e_148_168, e_148_171, e_148_173, e_148_175, e_148_176, e_148_178, e_148_180, e_148_181, e_148_182, e_148_184, e_148_186, e_148_189, e_148_192, e_148_194, e_148_197, e_148_198, e_148_199, e_148_201, e_148_204, e_148_207, e_148_209, e_148_211, e_148_213, e_148_217, e_148_220, e_148_222, e_148_224, e_148_225, e_148_227, e_148_229, e_148_231, e_148_233, e_148_235, e_148_238, e_148_239, e_148_242, e_148_244, e_148_246, e_148_247, e_148_250, e_148_252, e_148_254, e_148_255, nl_int, nl_ref, nl_none, cat_int, cat_ref, cat_0, cat_i, cat_r, cat_l, Option.elim_some, Option.elim_none, Option.bind_some, Option.bind_none, Option.toList_some, Option.toList_none, List.cons_append, List.nil_append, Nat.reduceAdd, Nat.reduceLeDiff, show (nI 0 = 0) = True from by decide, if_true, if_neg w, pk_div hQ h3 h1]
    · have hq : 0 < q := by omega
      have qz : (nI q = 0) = False := eq_false (nI_ne0 hq h2)
      have hm := Nat.mod_lt p hq
      have e := ih (p % q) hm q (some (.int (nI (p % q)))) h2 (by omega) (by rw [gcd_step]; exact h3)
      rw [gcd_step] at e
      rw [← e]
      simp (maxSteps := 1000000) (disch := first | exact nl_int | exact nl_ref | exact nl_none | exact Nat.le_of_ble_eq_true rfl | assumption | exact wD_cl (by assumption) | exact cat_int | exact cat_ref | exact z2 | exact z4 | exact z3 | exact z5 | exact z6 | exact z8 | exact z64) only [e_148_0, e_148_1, e_148_2, e_148_5, e_148_8, e_148_9, e_148_10, e_148_11, e_148_14, e_148_17, e_148_20, e_148_21, e_148_22, e_148_23, e_148_24, e_148_27, e_148_30, e_148_31, e_148_32, e_148_33, e_148_36, e_148_38, e_148_39, e_148_41, e_148_42, e_148_46, e_148_47, e_148_50, e_148_51, e_148_52, e_148_55, e_148_57, e_148_58, e_148_60, e_148_63, e_148_64, e_148_67, e_148_68, e_148_70, e_148_71, e_148_74, e_148_75, e_148_76, e_148_78, e_148_81, e_148_84, e_148_85, e_148_87, e_148_88, e_148_90, e_148_91, e_148_95, e_148_97, e_148_100, e_148_102, e_148_104, e_148_105, e_148_106, e_148_107, e_148_110, e_148_111, e_148_113, e_148_114, e_148_118, e_148_119, e_148_122, e_148_123, e_148_124, e_148_127, e_148_129, e_148_131, e_148_133, e_148_134, e_148_135, e_148_136, e_148_139, e_148_140, e_148_143, e_148_145, e_148_147, e_148_148, e_148_149, e_148_150, e_148_151, e_148_154, e_148_155, e_148_158, e_148_160, e_148_161, e_148_162, e_148_163, e_148_165, e_148_168, e_148_171, e_148_173, e_148_175, e_148_176, e_148_178, e_148_180, e_148_181, e_148_182, e_148_184, e_148_186, e_148_189, e_148_192, e_148_194, e_148_197, e_148_198, e_148_199, e_148_201, e_148_204, e_148_207, e_148_209, e_148_211, e_148_213, e_148_217, e_148_220, e_148_222, e_148_224, e_148_225, e_148_227, e_148_229, e_148_231, e_148_233, e_148_235, e_148_238, e_148_239, e_148_242, e_148_244, e_148_246, e_148_247, e_148_250, e_148_252, e_148_254, e_148_255, nl_int, nl_ref, nl_none, cat_int, cat_ref, cat_0, cat_i, cat_r, cat_l, Option.elim_some, Option.elim_none, Option.bind_some, Option.bind_none, Option.toList_some, Option.toList_none, List.cons_append, List.nil_append, Nat.reduceAdd, Nat.reduceLeDiff, qz, if_false, pk_rem h1 hq h2]
theorem p_falseBy (hJ : JJ hp) : Pr d 70 [some (.ref 0), some (.int y), some (.int x), some (.int z), none, none] 148 [some (.ref 141), some (.int y), some (.int x), some (.int z), none, none, none, none, none, none, none] hp := by
  obtain ⟨hl, tx, ct, nw, pm, pn, ph, km, kc, sH, sL, sc, hr, I, A, hS, hD, hj⟩ := hJ
  have ok := hj.1
  have p8 := ok.p8
  have h5 := ok.h5
  have h9 := hj.2.1
  by_cases q : inR y (cHs ct) = false ∨ x < 0 ∨ 10 < x ∨ z < 0 ∨ 1 < z
  · refine Pr_ask hl hD hj (Run.same hS (s_falseBy0 hS q)) (fun hp hl => Ask.same ok.1 ?_)
    cases q1 : inR y (cHs ct) with
    | false => simp (maxSteps := 1000000) (disch := first | exact nl_int | exact nl_ref | exact nl_none | exact Nat.le_of_ble_eq_true rfl | assumption | exact wD_cl (by assumption) | exact cat_int | exact cat_ref | exact z2 | exact z4 | exact z3 | exact z5 | exact z6 | exact z8 | exact z64) only [e_148_0, e_148_1, e_148_2, e_148_5, e_148_8, e_148_9, e_148_10, e_148_11, e_148_14, e_148_17, e_148_20, e_148_21, e_148_22, e_148_23, e_148_24, e_148_27, e_148_30, e_148_31, e_148_32, e_148_33, e_148_36, e_148_38, e_148_39, e_148_41, e_148_42, e_148_46, e_148_47, e_148_50, e_148_51, e_148_52, e_148_55, e_148_57, e_148_58, e_148_60, e_148_63, e_148_64, e_148_67, e_148_68, e_148_70, e_148_71, e_148_74, e_148_75, e_148_76, e_148_78, e_148_81, e_148_84, e_148_85, e_148_87, e_148_88, e_148_90, e_148_91, e_148_95, e_148_97, e_148_100, e_148_102, e_148_104, e_148_105, e_148_106, e_148_107, e_148_110, e_148_111, e_148_113, e_148_114, e_148_118, e_148_119, e_148_122, e_148_123, e_148_124, e_148_127, e_148_129, e_148_131, e_148_133, e_148_134, e_148_135, e_148_136, e_148_139, e_148_140, e_148_143, e_148_145, e_148_147, e_148_148, e_148_149, e_148_150, e_148_151, e_148_154, e_148_155, e_148_158, e_148_160, e_148_161, e_148_162, e_148_163, e_148_165, e_148_168, e_148_171, e_148_173, e_148_175, e_148_176, e_148_178, e_148_180, e_148_181, e_148_182, e_148_184, e_148_186, e_148_189, e_148_192, e_148_194, e_148_197, e_148_198, e_148_199, e_148_201, e_148_204, e_148_207, e_148_209, e_148_211, e_148_213, e_148_217, e_148_220, e_148_222, e_148_224, e_148_225, e_148_227, e_148_229, e_148_231, e_148_233, e_148_235, e_148_238, e_148_239, e_148_242, e_148_244, e_148_246, e_148_247, e_148_250, e_148_252, e_148_254, e_148_255, nl_int, nl_ref, nl_none, cat_int, cat_ref, cat_0, cat_i, cat_r, cat_l, Option.elim_some, Option.elim_none, Option.bind_some, Option.bind_none, Option.toList_some, Option.toList_none, List.cons_append, List.nil_append, Nat.reduceAdd, Nat.reduceLeDiff, s7_ih0 (d := d + 10) hl ok q1, z0, if_true]
    | true =>
      obtain ⟨g, hg, rfl⟩ := inR_t q1 (by omega)
      have q2 := q.resolve_left (by rw [q1]; decide)
      by_cases q3 : x < 0 ∨ 10 < x
      · simp (maxSteps := 1000000) (disch := first | exact nl_int | exact nl_ref | exact nl_none | exact Nat.le_of_ble_eq_true rfl | assumption | exact wD_cl (by assumption) | exact cat_int | exact cat_ref | exact z2 | exact z4 | exact z3 | exact z5 | exact z6 | exact z8 | exact z64) only [e_148_0, e_148_1, e_148_2, e_148_5, e_148_8, e_148_9, e_148_10, e_148_11, e_148_14, e_148_17, e_148_20, e_148_21, e_148_22, e_148_23, e_148_24, e_148_27, e_148_30, e_148_31, e_148_32, e_148_33, e_148_36, e_148_38, e_148_39, e_148_41, e_148_42, e_148_46, e_148_47, e_148_50, e_148_51, e_148_52, e_148_55, e_148_57, e_148_58, e_148_60, e_148_63, e_148_64, e_148_67, e_148_68, e_148_70, e_148_71, e_148_74, e_148_75, e_148_76, e_148_78, e_148_81, e_148_84, e_148_85, e_148_87, e_148_88, e_148_90, e_148_91, e_148_95, e_148_97, e_148_100, e_148_102, e_148_104, e_148_105, e_148_106, e_148_107, e_148_110, e_148_111, e_148_113, e_148_114, e_148_118, e_148_119, e_148_122, e_148_123, e_148_124, e_148_127, e_148_129, e_148_131, e_148_133, e_148_134, e_148_135, e_148_136, e_148_139, e_148_140, e_148_143, e_148_145, e_148_147, e_148_148, e_148_149, e_148_150, e_148_151, e_148_154, e_148_155, e_148_158, e_148_160, e_148_161, e_148_162, e_148_163, e_148_165, e_148_168, e_148_171, e_148_173, e_148_175, e_148_176, e_148_178, e_148_180, e_148_181, e_148_182, e_148_184, e_148_186, e_148_189, e_148_192, e_148_194, e_148_197, e_148_198, e_148_199, e_148_201, e_148_204, e_148_207, e_148_209, e_148_211, e_148_213, e_148_217, e_148_220, e_148_222, e_148_224, e_148_225, e_148_227, e_148_229, e_148_231, e_148_233, e_148_235, e_148_238, e_148_239, e_148_242, e_148_244, e_148_246, e_148_247, e_148_250, e_148_252, e_148_254, e_148_255, nl_int, nl_ref, nl_none, cat_int, cat_ref, cat_0, cat_i, cat_r, cat_l, Option.elim_some, Option.elim_none, Option.bind_some, Option.bind_none, Option.toList_some, Option.toList_none, List.cons_append, List.nil_append, Nat.reduceAdd, Nat.reduceLeDiff, s7_ih1 (d := d + 10) hl ok hg, z1, if_false, s7_in0 (d := d + 11) (lo := 0) (hi := 10) (a := 0) (c := 10) q3 (by decide) (by decide), z0, if_true]
      · have w1 : ¬ x < 0 := fun w => q3 (Or.inl w)
        have w2 : ¬ 10 < x := fun w => q3 (Or.inr w)
        have q4 := (q2.resolve_left w1).resolve_left w2
        simp (maxSteps := 1000000) (disch := first | exact nl_int | exact nl_ref | exact nl_none | exact Nat.le_of_ble_eq_true rfl | assumption | exact wD_cl (by assumption) | exact cat_int | exact cat_ref | exact z2 | exact z4 | exact z3 | exact z5 | exact z6 | exact z8 | exact z64) only [e_148_0, e_148_1, e_148_2, e_148_5, e_148_8, e_148_9, e_148_10, e_148_11, e_148_14, e_148_17, e_148_20, e_148_21, e_148_22, e_148_23, e_148_24, e_148_27, e_148_30, e_148_31, e_148_32, e_148_33, e_148_36, e_148_38, e_148_39, e_148_41, e_148_42, e_148_46, e_148_47, e_148_50, e_148_51, e_148_52, e_148_55, e_148_57, e_148_58, e_148_60, e_148_63, e_148_64, e_148_67, e_148_68, e_148_70, e_148_71, e_148_74, e_148_75, e_148_76, e_148_78, e_148_81, e_148_84, e_148_85, e_148_87, e_148_88, e_148_90, e_148_91, e_148_95, e_148_97, e_148_100, e_148_102, e_148_104, e_148_105, e_148_106, e_148_107, e_148_110, e_148_111, e_148_113, e_148_114, e_148_118, e_148_119, e_148_122, e_148_123, e_148_124, e_148_127, e_148_129, e_148_131, e_148_133, e_148_134, e_148_135, e_148_136, e_148_139, e_148_140, e_148_143, e_148_145, e_148_147, e_148_148, e_148_149, e_148_150, e_148_151, e_148_154, e_148_155, e_148_158, e_148_160, e_148_161, e_148_162, e_148_163, e_148_165, e_148_168, e_148_171, e_148_173, e_148_175, e_148_176, e_148_178, e_148_180, e_148_181, e_148_182, e_148_184, e_148_186, e_148_189, e_148_192, e_148_194, e_148_197, e_148_198, e_148_199, e_148_201, e_148_204, e_148_207, e_148_209, e_148_211, e_148_213, e_148_217, e_148_220, e_148_222, e_148_224, e_148_225, e_148_227, e_148_229, e_148_231, e_148_233, e_148_235, e_148_238, e_148_239, e_148_242, e_148_244, e_148_246, e_148_247, e_148_250, e_148_252, e_148_254, e_148_255, nl_int, nl_ref, nl_none, cat_int, cat_ref, cat_0, cat_i, cat_r, cat_l, Option.elim_some, Option.elim_none, Option.bind_some, Option.bind_none, Option.toList_some, Option.toList_none, List.cons_append, List.nil_append, Nat.reduceAdd, Nat.reduceLeDiff, s7_ih1 (d := d + 10) hl ok hg, z1, if_false, s7_in1 (d := d + 11) (lo := 0) (hi := 10) (a := 0) (c := 10) w1 w2 (by decide) (by decide), s7_in0 (d := d + 11) (lo := 0) (hi := 1) (a := 0) (c := 1) q4 (by decide) (by decide), z0, if_true]
  · have q1 : inR y (cHs ct) = true := by
      cases w : inR y (cHs ct) with
      | true => rfl
      | false => exact absurd (Or.inl w) q
    have w1 : ¬ x < 0 := fun w => q (Or.inr (Or.inl w))
    have w2 : ¬ 10 < x := fun w => q (Or.inr (Or.inr (Or.inl w)))
    have w3 : ¬ z < 0 := fun w => q (Or.inr (Or.inr (Or.inr (Or.inl w))))
    have w4 : ¬ 1 < z := fun w => q (Or.inr (Or.inr (Or.inr (Or.inr w))))
    refine Pr_ask hl hD hj (s_falseBy1 hS ok.2.2.2.2.2.2 (by omega) q1 w1 w2 w3 w4) (fun hp hl => Ask.same ok.1 ?_)
    obtain ⟨g, hg, rfl⟩ := inR_t q1 (by omega)
    obtain ⟨X, hX, rfl⟩ := inC_t (m := 10) (inC_n w1 w2) (by decide)
    obtain ⟨tt, htt, ett⟩ := ok.tk (m := nw) (r := hr)
    have tk := s7_tk (d := d + 11) (I := I) hl ok (by omega)
    rw [ett] at tk ⊢
    obtain ⟨L, hL, eL, bL⟩ := sm8_nI (fun i => decide (mH nw i = nI g))
    have eR : mRes nw (nI g) = nI L := by rw [mRes_sm8, eL]
    have hLp : ∀ i, cPp ct ≤ i → i < 8 → L.testBit i = false := fun i h1 h2 => by
      rw [bL i h2]
      exact decide_eq_false (by rw [ok.2.2.1.2.1 i h1 h2]; exact nI_ne1 (by omega))
    have eRp : am_for (mRe nw (nI g)) 0 (cPp ct) 0 = nI L := by
      rw [← eR]
      have e8 : mRes nw (nI g) = am_for (mRe nw (nI g)) 0 (cPp ct + (8 - cPp ct)) 0 := by
        unfold mRes
        rw [show cPp ct + (8 - cPp ct) = 8 from by omega]
      rw [e8, am_for_add]
      exact (am_for_id _ _ _ (fun i s h1 h2 => by
        unfold mRe
        rw [if_neg (by rw [ok.2.2.1.2.1 i (by omega) (by omega)]; exact nI_ne1 (by omega))])).symm
    have hXY : X + (10 - X) = 10 := by omega
    have sB : suN (gB L X (10 - X)) (L + 1) = 10 ^ cnb (fun i => L.testBit i) 8 := by
      rw [← gB_cut hL]
      exact wt_sum hXY 8
    have hc := cnb_le (P := fun i => L.testBit i) 8
    have sA : suN (gA nw g (nI tt) L X (10 - X)) (L + 1) ≤ suN (gB L X (10 - X)) (L + 1) := suN_le _ (fun j _ => by
      unfold gA gB
      by_cases w : sbN L j 8 = true
      · rw [if_pos w, if_pos w]
        split
        · exact Nat.le_refl _
        · exact Nat.zero_le _
      · rw [if_neg w, if_neg w]
        exact Nat.le_refl _)
    have t10 : 10 ^ cnb (fun i => L.testBit i) 8 ≤ 10 ^ 8 := Nat.pow_le_pow_right (by decide) hc
    have bB : suN (gB L X (10 - X)) (L + 1) < 2 ^ 31 := by rw [sB]; exact Nat.lt_of_le_of_lt t10 (by decide)
    have gp : 0 < Nat.gcd (suN (gA nw g (nI tt) L X (10 - X)) (L + 1)) (suN (gB L X (10 - X)) (L + 1)) := Nat.gcd_pos_of_pos_right _ (by rw [sB]; exact Nat.pow_pos (by decide))
    have e1 := s7_live (d := d) (I := I) (g := g) (t := nI tt) (l1 := none) (l2 := some (.int (nI X))) (l3 := some (.int z)) (l7 := none) (l8 := none) (l9 := none) (l10 := none) hl ok (cPp ct) 0 0 (Nat.zero_add _)
    rw [eRp, show nI 0 = 0 from rfl] at e1
    obtain ⟨m9, m10, e2⟩ := s7_sets (d := d) (I := I) (l3 := some (.int z)) hl ok hL hLp hXY htt (show g < 5 by omega) (L + 1) 0 none none (Nat.zero_add _)
    rw [suN, suN, show nI 0 = 0 from rfl] at e2
    have e3 := s7_gcd (d := d) (z := z) (hp := wD hp I A) (l1 := some (.int (nI g))) (l2 := some (.int (nI X))) (l4 := some (.int (nI tt))) (l5 := some (.int (nI L))) (P := suN (gA nw g (nI tt) L X (10 - X)) (L + 1)) (Q := suN (gB L X (10 - X)) (L + 1)) (by omega) bB (suN (gB L X (10 - X)) (L + 1)) (suN (gA nw g (nI tt) L X (10 - X)) (L + 1)) m10 (by omega) bB gp
    have ans : aLow (aChs nw (nI g) (nI X) (nI tt), aPow 10 (bitc (mRes nw (nI g)))) = (nI (suN (gA nw g (nI tt) L X (10 - X)) (L + 1) / Nat.gcd (suN (gA nw g (nI tt) L X (10 - X)) (L + 1)) (suN (gB L X (10 - X)) (L + 1))), nI (suN (gB L X (10 - X)) (L + 1) / Nat.gcd (suN (gA nw g (nI tt) L X (10 - X)) (L + 1)) (suN (gB L X (10 - X)) (L + 1)))) := by
      rw [aChs_nI hL eR hXY, gA_cut hL, eR, bcn_at hL, show (10 : Int32) = nI 10 from rfl, aPow_nI (by omega), ← sB]
      rw [aLow_nI (p := (suN (gA nw g (nI tt) L X (10 - X)) (L + 1), suN (gB L X (10 - X)) (L + 1))) (show suN (gA nw g (nI tt) L X (10 - X)) (L + 1) < 2 ^ 31 by omega) bB, sB, low_gcd hc]
    rw [ans, ← e3]
    simp (maxSteps := 1000000) (disch := first | exact nl_int | exact nl_ref | exact nl_none | exact Nat.le_of_ble_eq_true rfl | assumption | exact wD_cl (by assumption) | exact cat_int | exact cat_ref | exact z2 | exact z4 | exact z3 | exact z5 | exact z6 | exact z8 | exact z64) only [e_148_0, e_148_1, e_148_2, e_148_5, e_148_8, e_148_9, e_148_10, e_148_11, e_148_14, e_148_17, e_148_20, e_148_21, e_148_22, e_148_23, e_148_24, e_148_27, e_148_30, e_148_31, e_148_32, e_148_33, e_148_36, e_148_38, e_148_39, e_148_41, e_148_42, e_148_46, e_148_47, e_148_50, e_148_51, e_148_52, e_148_55, e_148_57, e_148_58, e_148_60, e_148_63, e_148_64, e_148_67, e_148_68, e_148_70, e_148_71, e_148_74, e_148_75, e_148_76, e_148_78, e_148_81, e_148_84, e_148_85, e_148_87, e_148_88, e_148_90, e_148_91, e_148_95, e_148_97, e_148_100, e_148_102, e_148_104, e_148_105, e_148_106, e_148_107, e_148_110, e_148_111, e_148_113, e_148_114, e_148_118, e_148_119, e_148_122, e_148_123, e_148_124, e_148_127, e_148_129, e_148_131, e_148_133, e_148_134, e_148_135, e_148_136, e_148_139, e_148_140, e_148_143, e_148_145, e_148_147, e_148_148, e_148_149, e_148_150, e_148_151, e_148_154, e_148_155, e_148_158, e_148_160, e_148_161, e_148_162, e_148_163, e_148_165, e_148_168, e_148_171, e_148_173, e_148_175, e_148_176, e_148_178, e_148_180, e_148_181, e_148_182, e_148_184, e_148_186, e_148_189, e_148_192, e_148_194, e_148_197, e_148_198, e_148_199, e_148_201, e_148_204, e_148_207, e_148_209, e_148_211, e_148_213, e_148_217, e_148_220, e_148_222, e_148_224, e_148_225, e_148_227, e_148_229, e_148_231, e_148_233, e_148_235, e_148_238, e_148_239, e_148_242, e_148_244, e_148_246, e_148_247, e_148_250, e_148_252, e_148_254, e_148_255, nl_int, nl_ref, nl_none, cat_int, cat_ref, cat_0, cat_i, cat_r, cat_l, Option.elim_some, Option.elim_none, Option.bind_some, Option.bind_none, Option.toList_some, Option.toList_none, List.cons_append, List.nil_append, Nat.reduceAdd, Nat.reduceLeDiff, s7_ih1 (d := d + 10) hl ok hg, z1, if_false, s7_in1 (d := d + 11) (lo := 0) (hi := 10) (a := 0) (c := 10) w1 w2 (by decide) (by decide), s7_in1 (d := d + 11) (lo := 0) (hi := 1) (a := 0) (c := 1) w3 w4 (by decide) (by decide), tk, e1, e2]
end MDO
