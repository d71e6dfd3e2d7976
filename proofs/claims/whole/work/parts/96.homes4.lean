/-! PAIRS: homes, the reference's search -/
section HMD
variable {d : Nat} {hp hp2 : am_H} {I I2 : Nat → Int32} {A A2 : Nat → List Int32} {i j k n p hr tt g h u N P B who moved : Nat} {x y z t a v w : Int32} {ct c : am_Ci} {nw m : am_Mo} {s : am_Hs} {f f2 : Nat → Nat} {C C0 : List Int32}
/-- what the reference has found -/
def Rb7 (ct : am_Ci) (I : Nat → Int32) (A : Nat → List Int32) (b : Int32 × Nat × Nat) : Prop := I 16 = b.1 ∧ (b.1 = -1 ∨ (I 17 = nI b.2.1 ∧ b.2.1 ≤ 8 ∧ ∀ i, i < cPp ct → (A 9).getD i 0 = nI (dgb (cHs ct) (cPp ct) b.2.2 i)))
theorem s7_take (hl : 154 < hp.length) (ok : Ok7 A ct (mkH nw (cPp ct) f) hr) {l1 l2 l3 l4 : Option Value} (n4 : am_nl1 l4 = true) : ∀ n i (D : List Int32), i + n = cPp ct → D.length = 8 → (∀ k, k < i → D.getD k 0 = nI (f k)) → ∃ D2 : List Int32, D2.length = 8 ∧ (∀ k, k < cPp ct → D2.getD k 0 = nI (f k)) ∧ am_E (d + 11) 137 115 [some (.ref 141), l1, l2, l3, l4, some (.int (nI i))] [] (wD hp I (updA A 9 D)) = am_E (d + 11) 137 145 [some (.ref 141), l1, l2, l3, l4, some (.int (nI (cPp ct)))] [] (wD hp I (updA A 9 D2)) := by
  have p8 := ok.p8
  intro n
  induction n with
  | zero =>
    intro i D hi hD hF
    obtain rfl : i = cPp ct := by omega
    refine ⟨D, hD, hF, ?_⟩
    have ok2 : Ok7 (updA A 9 D) ct (mkH nw (cPp ct) f) hr := ok.sq (updA_ok ok.1 hD) (Sq.upd (k := 9) (by omega))
    rw [e_137_115]
    simp (maxSteps := 1000000) (disch := first | exact nl_int | exact nl_ref | exact nl_none | exact Nat.le_of_ble_eq_true rfl | assumption | exact wD_cl (by assumption) | exact cat_int | exact cat_ref | exact z2 | exact z4 | exact z3 | exact z5 | exact z6 | exact z8 | exact z64) only [e_137_0, e_137_1, e_137_4, e_137_5, e_137_8, e_137_9, e_137_10, e_137_11, e_137_14, e_137_15, e_137_17, e_137_18, e_137_21, e_137_22, e_137_23, e_137_26, e_137_27, e_137_30, e_137_31, e_137_32, e_137_33, e_137_34, e_137_35, e_137_36, e_137_37, e_137_38, e_137_39, e_137_42, e_137_45, e_137_46, e_137_48, e_137_51, e_137_52, e_137_55, e_137_56, e_137_57, e_137_58, e_137_61, e_137_62, e_137_63, e_137_66, e_137_67, e_137_70, e_137_73, e_137_75, e_137_77, e_137_78, e_137_81, e_137_84, e_137_86, e_137_87, e_137_90, e_137_93, e_137_94, e_137_95, e_137_98, e_137_101, e_137_102, e_137_104, e_137_107, e_137_108, e_137_109, e_137_112, e_137_113, e_137_117, e_137_118, e_137_121, e_137_122, e_137_123, e_137_126, e_137_127, e_137_130, e_137_132, e_137_133, e_137_135, e_137_138, e_137_139, e_137_142, e_137_146, e_137_149, e_137_150, e_137_153, e_137_154, e_137_157, nl_int, nl_ref, nl_none, cat_int, cat_ref, cat_0, cat_i, cat_r, cat_l, Option.elim_some, Option.elim_none, Option.bind_some, Option.bind_none, Option.toList_some, Option.toList_none, List.cons_append, List.nil_append, Nat.reduceAdd, Nat.reduceLeDiff, wD_f1 hl, ok2.lp hl, ltF (x := nI (cPp ct)) (c := cPp ct) rfl (Nat.le_refl _) (by omega), if_false]
  | succ n ih =>
    intro i D hi hD hF
    have i8 : i < cPp ct := by omega
    have ok2 : Ok7 (updA A 9 D) ct (mkH nw (cPp ct) f) hr := ok.sq (updA_ok ok.1 hD) (Sq.upd (k := 9) (by omega))
    have ho := s7_ho (d := d + 10) (I := I) hl ok2.1 ok2.2.1 i8 p8
    rw [mkH_H (by omega), if_pos i8] at ho
    have sx : am_sx (wD hp I (updA A 9 D)) 151 (nI i) (nI (f i)) = some (wD hp I (updA A 9 (D.set i (nI (f i))))) := by
      rw [wD_s9 (k := i) rfl hl ok2.1 (by omega), updA_updA]
      rfl
    obtain ⟨D2, a1, a2, a3⟩ := ih (i + 1) (D.set i (nI (f i))) (by omega) ((List.length_set).trans hD) (fun k hk => by
      rw [getD_set (by omega)]
      by_cases q : i = k
      · rw [if_pos q, q]
      · rw [if_neg q]; exact hF k (by omega))
    refine ⟨D2, a1, a2, ?_⟩
    rw [← a3, e_137_115]
    simp (maxSteps := 1000000) (disch := first | exact nl_int | exact nl_ref | exact nl_none | exact Nat.le_of_ble_eq_true rfl | assumption | exact wD_cl (by assumption) | exact cat_int | exact cat_ref | exact z2 | exact z4 | exact z3 | exact z5 | exact z6 | exact z8 | exact z64) only [e_137_0, e_137_1, e_137_4, e_137_5, e_137_8, e_137_9, e_137_10, e_137_11, e_137_14, e_137_15, e_137_17, e_137_18, e_137_21, e_137_22, e_137_23, e_137_26, e_137_27, e_137_30, e_137_31, e_137_32, e_137_33, e_137_34, e_137_35, e_137_36, e_137_37, e_137_38, e_137_39, e_137_42, e_137_45, e_137_46, e_137_48, e_137_51, e_137_52, e_137_55, e_137_56, e_137_57, e_137_58, e_137_61, e_137_62, e_137_63, e_137_66, e_137_67, e_137_70, e_137_73, e_137_75, e_137_77, e_137_78, e_137_81, e_137_84, e_137_86, e_137_87, e_137_90, e_137_93, e_137_94, e_137_95, e_137_98, e_137_101, e_137_102, e_137_104, e_137_107, e_137_108, e_137_109, e_137_112, e_137_113, e_137_117, e_137_118, e_137_121, e_137_122, e_137_123, e_137_126, e_137_127, e_137_130, e_137_132, e_137_133, e_137_135, e_137_138, e_137_139, e_137_142, e_137_146, e_137_149, e_137_150, e_137_153, e_137_154, e_137_157, nl_int, nl_ref, nl_none, cat_int, cat_ref, cat_0, cat_i, cat_r, cat_l, Option.elim_some, Option.elim_none, Option.bind_some, Option.bind_none, Option.toList_some, Option.toList_none, List.cons_append, List.nil_append, Nat.reduceAdd, Nat.reduceLeDiff, wD_f1 hl, wD_f15 hl, ok2.lp hl, ltT (x := nI (cPp ct)) (c := cPp ct) rfl i8 (by omega), if_true, ho, sx, nI_1]
theorem Sn.trans {A3 : Nat → List Int32} (h : Sn A A2) (g : Sn A2 A3) : Sn A A3 := fun k a b c d e f g' => (g k a b c d e f g').trans (h k a b c d e f g')
theorem s7_body (hl : 154 < hp.length) (ok : Ok7 A ct nw hr) (hH : 0 < cHs ct) (ht : tt < 32) (hk : k < cHs ct ^ cPp ct) {b : Int32 × Nat × Nat} {l3 l4 l5 : Option Value} (si : Si I I2) (sn : Sn A A2) (a2 : aOK A2) (e8 : A2 8 = A 1) (hC : HC (cPp ct) (A 1) (dgb (cHs ct) (cPp ct) k) (A2 1)) (hb : Rb7 ct I2 A2 b) : ∃ I3 A3 m3 m4 m5, Si I I3 ∧ Sn A A3 ∧ aOK A3 ∧ A3 8 = A 1 ∧ A3 1 = A2 1 ∧ Rb7 ct I3 A3 (FH (litK ct nw (nI tt)) (mvK ct nw) k b) ∧ am_E (d + 11) 137 47 [some (.ref 141), some (.int (nI tt)), some (.int 1), l3, l4, l5] [] (wD hp I2 A2) = am_E (d + 11) 137 145 [some (.ref 141), some (.int (nI tt)), some (.int 1), m3, m4, m5] [] (wD hp I3 A3) := by
  have p8 := ok.p8
  have h5 := ok.h5
  have w5 := ok.w5
  have okk := HC.ok ok sn a2 hC (fun i _ => dgb_lt hH)
  have mvs := s7_movers (d := d + 9) (I := I2) (nw := nw) hl okk (fun i hi => by rw [e8]; exact (ok.2.1.2.2.2.2.2 i hi).2.2)
  have mv8 : mvK ct nw k ≤ 8 := Nat.le_trans (mvc_le _) p8
  have emv : mvc nw (dgb (cHs ct) (cPp ct) k) (cPp ct) = mvK ct nw k := rfl
  rw [emv] at mvs
  by_cases q1 : mvK ct nw k < 5
  · obtain ⟨D, hD, hL, eb⟩ := s7_bu (d := d + 7) (I := I2) hl okk (tk := nI tt) ⟨tt, ht, rfl⟩
    obtain ⟨J, eJ⟩ : ∃ J, J = updI I2 10 (smk (fun g => mSmoke (mkH nw (cPp ct) (dgb (cHs ct) (cPp ct) k)) (nI g) (nI tt))) := ⟨_, rfl⟩
    rw [← eJ] at eb
    have sJ : Si I J := by rw [eJ]; exact si.trans (Si.upd (k := 10) (by omega))
    have J16 : J 16 = I2 16 := by rw [eJ]; rfl
    have J17 : J 17 = I2 17 := by rw [eJ]; rfl
    have a3 : aOK (updA A2 5 D) := updA_ok a2 hD
    have sn3 : Sn A (updA A2 5 D) := sn.upd (k := 5) (by omega)
    have ok3 : Ok7 (updA A2 5 D) ct (mkH nw (cPp ct) (dgb (cHs ct) (cPp ct) k)) hr := okk.sq a3 (Sq.upd (k := 5) (by omega))
    have ali := s7_ali (d := d + 10) (I := J) hl ok3 (m := mkH nw (cPp ct) (dgb (cHs ct) (cPp ct) k)) (t := nI tt) hL
    obtain ⟨o, ho, eo⟩ := cLit_nI (ct := ct) (m := mkH nw (cPp ct) (dgb (cHs ct) (cPp ct) k)) (t := nI tt) w5
    have mny := s7_many (d := d + 10) (hp := wD hp J (updA A2 5 D)) (o := o) (by omega)
    rw [← eo] at mny
    obtain ⟨c, hc, ec⟩ := lit_nI (m := mkH nw (cPp ct) (dgb (cHs ct) (cPp ct) k)) (t := nI tt) w5
    rw [ec] at mny
    have eL : litK ct nw (nI tt) k = nI c := ec
    have lt5 : (nI (mvK ct nw k) < 5) = True := eq_true (nI_lt (b := 5) q1 (by decide))
    have b3 : Rb7 ct J (updA A2 5 D) b := ⟨by rw [J16]; exact hb.1, by
      rcases hb.2 with w | w
      · exact Or.inl w
      · exact Or.inr ⟨by rw [J17]; exact w.1, w.2.1, w.2.2⟩⟩
    have takes : ∃ I3 A3 m5, Si I I3 ∧ Sn A A3 ∧ aOK A3 ∧ A3 8 = A 1 ∧ A3 1 = A2 1 ∧ Rb7 ct I3 A3 (nI c, mvK ct nw k, k) ∧ am_E (d + 11) 137 101 [some (.ref 141), some (.int (nI tt)), some (.int 1), some (.int (nI (mvK ct nw k))), some (.int (nI c)), l5] [] (wD hp J (updA A2 5 D)) = am_E (d + 11) 137 145 [some (.ref 141), some (.int (nI tt)), some (.int 1), some (.int (nI (mvK ct nw k))), some (.int (nI c)), m5] [] (wD hp I3 A3) := by
      obtain ⟨K, eK⟩ : ∃ K, K = updI (updI J 16 (nI c)) 17 (nI (mvK ct nw k)) := ⟨_, rfl⟩
      have sK : Si I K := by rw [eK]; exact (sJ.trans (Si.upd (k := 16) (by omega))).trans (Si.upd (k := 17) (by omega))
      obtain ⟨D2, d1, d2, d3⟩ := s7_take (d := d) (I := K) (l1 := some (.int (nI tt))) (l2 := some (.int 1)) (l3 := some (.int (nI (mvK ct nw k)))) (l4 := some (.int (nI c))) hl ok3 nl_int (cPp ct) 0 ((updA A2 5 D) 9) (Nat.zero_add _) (a3 9 (by decide)) (fun k hk => absurd hk (Nat.not_lt_zero k))
      rw [updA_self, show nI 0 = 0 from rfl] at d3
      refine ⟨K, updA (updA A2 5 D) 9 D2, some (.int (nI (cPp ct))), sK, sn3.upd (k := 9) (by omega), updA_ok a3 d1, e8, rfl, ⟨by rw [eK]; rfl, Or.inr ⟨by rw [eK]; rfl, mv8, d2⟩⟩, ?_⟩
      have p1 : am_pf (wD hp J (updA A2 5 D)) 141 7 16 (.int (nI c)) = some (wD hp (updI J 16 (nI c)) (updA A2 5 D)) := wD_p16 hl
      have p2 : am_pf (wD hp (updI J 16 (nI c)) (updA A2 5 D)) 141 7 17 (.int (nI (mvK ct nw k))) = some (wD hp K (updA A2 5 D)) := by rw [eK]; exact wD_p17 hl
      simp (maxSteps := 1000000) (disch := first | exact nl_int | exact nl_ref | exact nl_none | exact Nat.le_of_ble_eq_true rfl | assumption | exact wD_cl (by assumption) | exact cat_int | exact cat_ref | exact z2 | exact z4 | exact z3 | exact z5 | exact z6 | exact z8 | exact z64) only [e_137_0, e_137_1, e_137_4, e_137_5, e_137_8, e_137_9, e_137_10, e_137_11, e_137_14, e_137_15, e_137_17, e_137_18, e_137_21, e_137_22, e_137_23, e_137_26, e_137_27, e_137_30, e_137_31, e_137_32, e_137_33, e_137_34, e_137_35, e_137_36, e_137_37, e_137_38, e_137_39, e_137_42, e_137_45, e_137_46, e_137_48, e_137_51, e_137_52, e_137_55, e_137_56, e_137_57, e_137_58, e_137_61, e_137_62, e_137_63, e_137_66, e_137_67, e_137_70, e_137_73, e_137_75, e_137_77, e_137_78, e_137_81, e_137_84, e_137_86, e_137_87, e_137_90, e_137_93, e_137_94, e_137_95, e_137_98, e_137_101, e_137_102, e_137_104, e_137_107, e_137_108, e_137_109, e_137_112, e_137_113, e_137_117, e_137_118, e_137_121, e_137_122, e_137_123, e_137_126, e_137_127, e_137_130, e_137_132, e_137_133, e_137_135, e_137_138, e_137_139, e_137_142, e_137_146, e_137_149, e_137_150, e_137_153, e_137_154, e_137_157, nl_int, nl_ref, nl_none, cat_int, cat_ref, cat_0, cat_i, cat_r, cat_l, Option.elim_some, Option.elim_none, Option.bind_some, Option.bind_none, Option.toList_some, Option.toList_none, List.cons_append, List.nil_append, Nat.reduceAdd, Nat.reduceLeDiff, p1, p2, d3]
    unfold FH
    rw [if_pos q1, eL]
    by_cases q2 : b.1 < nI c
    · rw [if_pos q2]
      obtain ⟨I3, A3, m5, r1, r2, r3, r4, r5, r6, r7⟩ := takes
      refine ⟨I3, A3, some (.int (nI (mvK ct nw k))), some (.int (nI c)), m5, r1, r2, r3, r4, r5, r6, ?_⟩
      have q2' : J 16 < nI c := by rw [J16, hb.1]; exact q2
      rw [← r7, e_137_47]
      simp (maxSteps := 1000000) (disch := first | exact nl_int | exact nl_ref | exact nl_none | exact Nat.le_of_ble_eq_true rfl | assumption | exact wD_cl (by assumption) | exact cat_int | exact cat_ref | exact z2 | exact z4 | exact z3 | exact z5 | exact z6 | exact z8 | exact z64) only [e_137_0, e_137_1, e_137_4, e_137_5, e_137_8, e_137_9, e_137_10, e_137_11, e_137_14, e_137_15, e_137_17, e_137_18, e_137_21, e_137_22, e_137_23, e_137_26, e_137_27, e_137_30, e_137_31, e_137_32, e_137_33, e_137_34, e_137_35, e_137_36, e_137_37, e_137_38, e_137_39, e_137_42, e_137_45, e_137_46, e_137_48, e_137_51, e_137_52, e_137_55, e_137_56, e_137_57, e_137_58, e_137_61, e_137_62, e_137_63, e_137_66, e_137_67, e_137_70, e_137_73, e_137_75, e_137_77, e_137_78, e_137_81, e_137_84, e_137_86, e_137_87, e_137_90, e_137_93, e_137_94, e_137_95, e_137_98, e_137_102, e_137_104, e_137_107, e_137_108, e_137_109, e_137_112, e_137_113, e_137_117, e_137_118, e_137_121, e_137_122, e_137_123, e_137_126, e_137_127, e_137_130, e_137_132, e_137_133, e_137_135, e_137_138, e_137_139, e_137_142, e_137_146, e_137_149, e_137_150, e_137_153, e_137_154, e_137_157, nl_int, nl_ref, nl_none, cat_int, cat_ref, cat_0, cat_i, cat_r, cat_l, Option.elim_some, Option.elim_none, Option.bind_some, Option.bind_none, Option.toList_some, Option.toList_none, List.cons_append, List.nil_append, Nat.reduceAdd, Nat.reduceLeDiff, z1, if_false, mvs, lt5, if_true, eb, ali, mny, wD_f16 hl, if_pos q2']
    · rw [if_neg q2]
      have q2' : ¬ J 16 < nI c := by rw [J16, hb.1]; exact q2
      by_cases q3 : nI c = b.1
      · rw [if_pos q3]
        have q3' : nI c = J 16 := by rw [J16, hb.1]; exact q3
        have nb : ¬ b.1 = -1 := fun w => nI_pos (show c < 2 ^ 31 by omega) (by rw [q3, w]; decide)
        obtain ⟨e1, e2, e3⟩ := hb.2.resolve_left nb
        have q4 : (nI (mvK ct nw k) < J 17) ↔ mvK ct nw k < b.2.1 := by rw [J17, e1]; exact nI_ltI (by omega) (by omega)
        by_cases w : mvK ct nw k < b.2.1
        · rw [if_pos w]
          obtain ⟨I3, A3, m5, r1, r2, r3, r4, r5, r6, r7⟩ := takes
          refine ⟨I3, A3, some (.int (nI (mvK ct nw k))), some (.int (nI c)), m5, r1, r2, r3, r4, r5, r6, ?_⟩
          rw [← r7, e_137_47]
          simp (maxSteps := 1000000) (disch := first | exact nl_int | exact nl_ref | exact nl_none | exact Nat.le_of_ble_eq_true rfl | assumption | exact wD_cl (by assumption) | exact cat_int | exact cat_ref | exact z2 | exact z4 | exact z3 | exact z5 | exact z6 | exact z8 | exact z64) only [e_137_0, e_137_1, e_137_4, e_137_5, e_137_8, e_137_9, e_137_10, e_137_11, e_137_14, e_137_15, e_137_17, e_137_18, e_137_21, e_137_22, e_137_23, e_137_26, e_137_27, e_137_30, e_137_31, e_137_32, e_137_33, e_137_34, e_137_35, e_137_36, e_137_37, e_137_38, e_137_39, e_137_42, e_137_45, e_137_46, e_137_48, e_137_51, e_137_52, e_137_55, e_137_56, e_137_57, e_137_58, e_137_61, e_137_62, e_137_63, e_137_66, e_137_67, e_137_70, e_137_73, e_137_75, e_137_77, e_137_78, e_137_81, e_137_84, e_137_86, e_137_87, e_137_90, e_137_93, e_137_94, e_137_95, e_137_98, e_137_102, e_137_104, e_137_107, e_137_108, e_137_109, e_137_112, e_137_113, e_137_117, e_137_118, e_137_121, e_137_122, e_137_123, e_137_126, e_137_127, e_137_130, e_137_132, e_137_133, e_137_135, e_137_138, e_137_139, e_137_142, e_137_146, e_137_149, e_137_150, e_137_153, e_137_154, e_137_157, nl_int, nl_ref, nl_none, cat_int, cat_ref, cat_0, cat_i, cat_r, cat_l, Option.elim_some, Option.elim_none, Option.bind_some, Option.bind_none, Option.toList_some, Option.toList_none, List.cons_append, List.nil_append, Nat.reduceAdd, Nat.reduceLeDiff, z1, if_false, mvs, lt5, if_true, eb, ali, mny, wD_f16 hl, wD_f17 hl, if_neg q2', if_pos q3', if_pos (q4.mpr w)]
        · rw [if_neg w]
          refine ⟨J, updA A2 5 D, some (.int (nI (mvK ct nw k))), some (.int (nI c)), l5, sJ, sn3, a3, e8, rfl, b3, ?_⟩
          rw [e_137_47]
          simp (maxSteps := 1000000) (disch := first | exact nl_int | exact nl_ref | exact nl_none | exact Nat.le_of_ble_eq_true rfl | assumption | exact wD_cl (by assumption) | exact cat_int | exact cat_ref | exact z2 | exact z4 | exact z3 | exact z5 | exact z6 | exact z8 | exact z64) only [e_137_0, e_137_1, e_137_4, e_137_5, e_137_8, e_137_9, e_137_10, e_137_11, e_137_14, e_137_15, e_137_17, e_137_18, e_137_21, e_137_22, e_137_23, e_137_26, e_137_27, e_137_30, e_137_31, e_137_32, e_137_33, e_137_34, e_137_35, e_137_36, e_137_37, e_137_38, e_137_39, e_137_42, e_137_45, e_137_46, e_137_48, e_137_51, e_137_52, e_137_55, e_137_56, e_137_57, e_137_58, e_137_61, e_137_62, e_137_63, e_137_66, e_137_67, e_137_70, e_137_73, e_137_75, e_137_77, e_137_78, e_137_81, e_137_84, e_137_86, e_137_87, e_137_90, e_137_93, e_137_94, e_137_95, e_137_98, e_137_101, e_137_102, e_137_104, e_137_107, e_137_108, e_137_109, e_137_112, e_137_113, e_137_117, e_137_118, e_137_121, e_137_122, e_137_123, e_137_126, e_137_127, e_137_130, e_137_132, e_137_133, e_137_135, e_137_138, e_137_139, e_137_142, e_137_146, e_137_149, e_137_150, e_137_153, e_137_154, e_137_157, nl_int, nl_ref, nl_none, cat_int, cat_ref, cat_0, cat_i, cat_r, cat_l, Option.elim_some, Option.elim_none, Option.bind_some, Option.bind_none, Option.toList_some, Option.toList_none, List.cons_append, List.nil_append, Nat.reduceAdd, Nat.reduceLeDiff, z1, if_false, mvs, lt5, if_true, eb, ali, mny, wD_f16 hl, wD_f17 hl, if_neg q2', if_pos q3', if_neg (fun z => w (q4.mp z))]
      · rw [if_neg q3]
        have q3' : ¬ nI c = J 16 := by rw [J16, hb.1]; exact q3
        refine ⟨J, updA A2 5 D, some (.int (nI (mvK ct nw k))), some (.int (nI c)), l5, sJ, sn3, a3, e8, rfl, b3, ?_⟩
        rw [e_137_47]
        simp (maxSteps := 1000000) (disch := first | exact nl_int | exact nl_ref | exact nl_none | exact Nat.le_of_ble_eq_true rfl | assumption | exact wD_cl (by assumption) | exact cat_int | exact cat_ref | exact z2 | exact z4 | exact z3 | exact z5 | exact z6 | exact z8 | exact z64) only [e_137_0, e_137_1, e_137_4, e_137_5, e_137_8, e_137_9, e_137_10, e_137_11, e_137_14, e_137_15, e_137_17, e_137_18, e_137_21, e_137_22, e_137_23, e_137_26, e_137_27, e_137_30, e_137_31, e_137_32, e_137_33, e_137_34, e_137_35, e_137_36, e_137_37, e_137_38, e_137_39, e_137_42, e_137_45, e_137_46, e_137_48, e_137_51, e_137_52, e_137_55, e_137_56, e_137_57, e_137_58, e_137_61, e_137_62, e_137_63, e_137_66, e_137_67, e_137_70, e_137_73, e_137_75, e_137_77, e_137_78, e_137_81, e_137_84, e_137_86, e_137_87, e_137_90, e_137_93, e_137_94, e_137_95, e_137_98, e_137_101, e_137_102, e_137_104, e_137_107, e_137_108, e_137_109, e_137_112, e_137_113, e_137_117, e_137_118, e_137_121, e_137_122, e_137_123, e_137_126, e_137_127, e_137_130, e_137_132, e_137_133, e_137_135, e_137_138, e_137_139, e_137_142, e_137_146, e_137_149, e_137_150, e_137_153, e_137_154, e_137_157, nl_int, nl_ref, nl_none, cat_int, cat_ref, cat_0, cat_i, cat_r, cat_l, Option.elim_some, Option.elim_none, Option.bind_some, Option.bind_none, Option.toList_some, Option.toList_none, List.cons_append, List.nil_append, Nat.reduceAdd, Nat.reduceLeDiff, z1, if_false, mvs, lt5, if_true, eb, ali, mny, wD_f16 hl, if_neg q2', if_neg q3']
  · have lt5 : (nI (mvK ct nw k) < 5) = False := eq_false (nI_nlt (b := 5) (by omega) (by omega))
    unfold FH
    rw [if_neg q1]
    refine ⟨I2, A2, some (.int (nI (mvK ct nw k))), l4, l5, si, sn, a2, e8, rfl, hb, ?_⟩
    rw [e_137_47]
    simp (maxSteps := 1000000) (disch := first | exact nl_int | exact nl_ref | exact nl_none | exact Nat.le_of_ble_eq_true rfl | assumption | exact wD_cl (by assumption) | exact cat_int | exact cat_ref | exact z2 | exact z4 | exact z3 | exact z5 | exact z6 | exact z8 | exact z64) only [e_137_0, e_137_1, e_137_4, e_137_5, e_137_8, e_137_9, e_137_10, e_137_11, e_137_14, e_137_15, e_137_17, e_137_18, e_137_21, e_137_22, e_137_23, e_137_26, e_137_27, e_137_30, e_137_31, e_137_32, e_137_33, e_137_34, e_137_35, e_137_36, e_137_37, e_137_38, e_137_39, e_137_42, e_137_45, e_137_46, e_137_48, e_137_51, e_137_52, e_137_55, e_137_56, e_137_57, e_137_58, e_137_61, e_137_62, e_137_63, e_137_66, e_137_67, e_137_70, e_137_73, e_137_75, e_137_77, e_137_78, e_137_81, e_137_84, e_137_86, e_137_87, e_137_90, e_137_93, e_137_94, e_137_95, e_137_98, e_137_101, e_137_102, e_137_104, e_137_107, e_137_108, e_137_109, e_137_112, e_137_113, e_137_117, e_137_118, e_137_121, e_137_122, e_137_123, e_137_126, e_137_127, e_137_130, e_137_132, e_137_133, e_137_135, e_137_138, e_137_139, e_137_142, e_137_146, e_137_149, e_137_150, e_137_153, e_137_154, e_137_157, nl_int, nl_ref, nl_none, cat_int, cat_ref, cat_0, cat_i, cat_r, cat_l, Option.elim_some, Option.elim_none, Option.bind_some, Option.bind_none, Option.toList_some, Option.toList_none, List.cons_append, List.nil_append, Nat.reduceAdd, Nat.reduceLeDiff, z1, if_false, mvs, lt5]
theorem s7_isNext (hl : 154 < hp.length) (ok : Ok7 A ct nw hr) (hH : 0 < cHs ct) (hk : k < cHs ct ^ cPp ct) (sn : Sn A A2) (a2 : aOK A2) (hC : HC (cPp ct) (A 1) (dgb (cHs ct) (cPp ct) k) (A2 1)) : ∃ C, (k + 1 < cHs ct ^ cPp ct ∧ HC (cPp ct) (A 1) (dgb (cHs ct) (cPp ct) (k + 1)) C ∧ am_E (d + 1) 136 0 [some (.ref 141), none] [] (wD hp I A2) = some (some (.int 1), wD hp I (updA A2 1 C))) ∨ (k + 1 = cHs ct ^ cPp ct ∧ C.length = 27 ∧ am_E (d + 1) 136 0 [some (.ref 141), none] [] (wD hp I A2) = some (some (.int 0), wD hp I (updA A2 1 C))) := by
  have p8 := ok.p8
  have pos := ok.pos
  obtain ⟨C, h⟩ := s7_next (d := d) (I := I) hl ok hH hk (cPp ct) A2 (dgb (cHs ct) (cPp ct) k) (Nat.le_refl _) sn a2 hC (fun i _ => rfl) (fun i h1 h2 => by omega) (by rw [Nat.sub_self, Nat.pow_zero, Nat.mod_one])
  refine ⟨C, ?_⟩
  have okk := HC.ok ok sn a2 hC (fun i _ => dgb_lt hH)
  have e0 : nI (cPp ct) - 1 = opD (cPp ct) := by
    unfold opD
    rw [Int32.sub_eq_add_neg]
  have st : am_E (d + 1) 136 0 [some (.ref 141), none] [] (wD hp I A2) = am_E (d + 1) 136 9 [some (.ref 141), some (.int (opD (cPp ct)))] [] (wD hp I A2) := by
    simp (maxSteps := 1000000) (disch := first | exact nl_int | exact nl_ref | exact nl_none | exact Nat.le_of_ble_eq_true rfl | assumption | exact wD_cl (by assumption) | exact cat_int | exact cat_ref | exact z2 | exact z4 | exact z3 | exact z5 | exact z6 | exact z8 | exact z64) only [e_136_0, e_136_1, e_136_4, e_136_5, e_136_6, e_136_7, e_136_8, e_136_10, e_136_13, e_136_14, e_136_15, e_136_18, e_136_19, e_136_22, e_136_23, e_136_24, e_136_25, e_136_26, e_136_29, e_136_30, e_136_33, e_136_34, e_136_35, e_136_36, e_136_37, e_136_38, e_136_39, e_136_40, e_136_41, e_136_42, e_136_45, e_136_48, e_136_49, e_136_52, e_136_53, e_136_56, e_136_57, e_136_58, e_136_59, e_136_60, e_136_61, e_136_62, e_136_63, e_136_64, e_136_65, e_136_66, e_136_67, e_136_68, e_136_69, e_136_72, e_136_73, e_136_76, e_136_77, e_136_77_1, nl_int, nl_ref, nl_none, cat_int, cat_ref, cat_0, cat_i, cat_r, cat_l, Option.elim_some, Option.elim_none, Option.bind_some, Option.bind_none, Option.toList_some, Option.toList_none, List.cons_append, List.nil_append, Nat.reduceAdd, Nat.reduceLeDiff, wD_f1 hl, okk.lp hl, e0]
  rw [st]
  exact h
theorem s7_seek (hl : 154 < hp.length) (ok : Ok7 A ct nw hr) (hH : 0 < cHs ct) (ht : tt < 32) : ∀ n k b I2 A2 l3 l4 l5, k + n + 1 = cHs ct ^ cPp ct → Si I I2 → Sn A A2 → aOK A2 → A2 8 = A 1 → HC (cPp ct) (A 1) (dgb (cHs ct) (cPp ct) k) (A2 1) → Rb7 ct I2 A2 b → ∃ I3 A3, Si I I3 ∧ Sq A A3 ∧ aOK A3 ∧ Rb7 ct I3 A3 (am_for (FH (litK ct nw (nI tt)) (mvK ct nw)) k (n + 1) b) ∧ am_E (d + 11) 137 47 [some (.ref 141), some (.int (nI tt)), some (.int 1), l3, l4, l5] [] (wD hp I2 A2) = some (none, wD hp I3 A3) := by
  have lC : (A 1).length = 27 := ok.1 1 (by decide)
  intro n
  induction n with
  | zero =>
    intro k b I2 A2 l3 l4 l5 hk si sn a2 e8 hC hb
    obtain ⟨I3, A3, m3, m4, m5, r1, r2, r3, r4, r5, r6, r7⟩ := s7_body (d := d) (l3 := l3) (l4 := l4) (l5 := l5) hl ok hH ht (show k < cHs ct ^ cPp ct by omega) si sn a2 e8 hC hb
    obtain ⟨C, h⟩ := s7_isNext (d := d + 9) (I := I3) hl ok hH (show k < cHs ct ^ cPp ct by omega) r2 r3 (by rw [r5]; exact hC)
    rcases h with ⟨h1, _⟩ | ⟨h1, h2, h3⟩
    · omega
    · have a4 : aOK (updA A3 1 C) := updA_ok r3 h2
      have bk := s7_backs (d := d + 10) (I := I3) hl a4
      rw [updA_updA, show updA A3 1 C 8 = A 1 from r4] at bk
      refine ⟨I3, updA A3 1 (A 1), r1, fun q q3 q4 q5 q6 q8 q9 => ?_, updA_ok r3 lC, r6, ?_⟩
      · by_cases q1 : q = 1
        · rw [q1]; rfl
        · rw [updA_n q1]; exact r2 q q1 q3 q4 q5 q6 q8 q9
      · rw [r7]
        simp (maxSteps := 1000000) (disch := first | exact nl_int | exact nl_ref | exact nl_none | exact Nat.le_of_ble_eq_true rfl | assumption | exact wD_cl (by assumption) | exact cat_int | exact cat_ref | exact z2 | exact z4 | exact z3 | exact z5 | exact z6 | exact z8 | exact z64) only [e_137_0, e_137_1, e_137_4, e_137_5, e_137_8, e_137_9, e_137_10, e_137_11, e_137_14, e_137_15, e_137_17, e_137_18, e_137_21, e_137_22, e_137_23, e_137_26, e_137_27, e_137_30, e_137_31, e_137_32, e_137_33, e_137_34, e_137_35, e_137_36, e_137_37, e_137_38, e_137_39, e_137_42, e_137_45, e_137_46, e_137_48, e_137_51, e_137_52, e_137_55, e_137_56, e_137_57, e_137_58, e_137_61, e_137_62, e_137_63, e_137_66, e_137_67, e_137_70, e_137_73, e_137_75, e_137_77, e_137_78, e_137_81, e_137_84, e_137_86, e_137_87, e_137_90, e_137_93, e_137_94, e_137_95, e_137_98, e_137_101, e_137_102, e_137_104, e_137_107, e_137_108, e_137_109, e_137_112, e_137_113, e_137_117, e_137_118, e_137_121, e_137_122, e_137_123, e_137_126, e_137_127, e_137_130, e_137_132, e_137_133, e_137_135, e_137_138, e_137_139, e_137_142, e_137_145, e_137_146, e_137_149, e_137_150, e_137_153, e_137_154, e_137_157, nl_int, nl_ref, nl_none, cat_int, cat_ref, cat_0, cat_i, cat_r, cat_l, Option.elim_some, Option.elim_none, Option.bind_some, Option.bind_none, Option.toList_some, Option.toList_none, List.cons_append, List.nil_append, Nat.reduceAdd, Nat.reduceLeDiff, h3, e_137_47, z0, if_true, bk]
  | succ n ih =>
    intro k b I2 A2 l3 l4 l5 hk si sn a2 e8 hC hb
    obtain ⟨I3, A3, m3, m4, m5, r1, r2, r3, r4, r5, r6, r7⟩ := s7_body (d := d) (l3 := l3) (l4 := l4) (l5 := l5) hl ok hH ht (show k < cHs ct ^ cPp ct by omega) si sn a2 e8 hC hb
    obtain ⟨C, h⟩ := s7_isNext (d := d + 9) (I := I3) hl ok hH (show k < cHs ct ^ cPp ct by omega) r2 r3 (by rw [r5]; exact hC)
    rcases h with ⟨h1, h2, h3⟩ | ⟨h1, _⟩
    · have a4 : aOK (updA A3 1 C) := updA_ok r3 h2.1
      obtain ⟨I4, A4, t1, t2, t3, t4, t5⟩ := ih (k + 1) _ I3 (updA A3 1 C) m3 m4 m5 (by omega) r1 (r2.upd (k := 1) (by omega)) a4 r4 h2 r6
      refine ⟨I4, A4, t1, t2, t3, t4, ?_⟩
      rw [r7, ← t5]
      simp (maxSteps := 1000000) (disch := first | exact nl_int | exact nl_ref | exact nl_none | exact Nat.le_of_ble_eq_true rfl | assumption | exact wD_cl (by assumption) | exact cat_int | exact cat_ref | exact z2 | exact z4 | exact z3 | exact z5 | exact z6 | exact z8 | exact z64) only [e_137_0, e_137_1, e_137_4, e_137_5, e_137_8, e_137_9, e_137_10, e_137_11, e_137_14, e_137_15, e_137_17, e_137_18, e_137_21, e_137_22, e_137_23, e_137_26, e_137_27, e_137_30, e_137_31, e_137_32, e_137_33, e_137_34, e_137_35, e_137_36, e_137_37, e_137_38, e_137_39, e_137_42, e_137_45, e_137_46, e_137_48, e_137_51, e_137_52, e_137_55, e_137_56, e_137_57, e_137_58, e_137_61, e_137_62, e_137_63, e_137_66, e_137_67, e_137_70, e_137_73, e_137_75, e_137_77, e_137_78, e_137_81, e_137_84, e_137_86, e_137_87, e_137_90, e_137_93, e_137_94, e_137_95, e_137_98, e_137_101, e_137_102, e_137_104, e_137_107, e_137_108, e_137_109, e_137_112, e_137_113, e_137_117, e_137_118, e_137_121, e_137_122, e_137_123, e_137_126, e_137_127, e_137_130, e_137_132, e_137_133, e_137_135, e_137_138, e_137_139, e_137_142, e_137_145, e_137_146, e_137_149, e_137_150, e_137_153, e_137_154, e_137_157, nl_int, nl_ref, nl_none, cat_int, cat_ref, cat_0, cat_i, cat_r, cat_l, Option.elim_some, Option.elim_none, Option.bind_some, Option.bind_none, Option.toList_some, Option.toList_none, List.cons_append, List.nil_append, Nat.reduceAdd, Nat.reduceLeDiff, h3]
    · omega
theorem s7_zero (hl : 154 < hp.length) (ok : Ok7 A ct nw hr) {l3 l4 l5 : Option Value} : ∀ n i A2 f, i + n = cPp ct → aOK A2 → (A2 1).getD 0 0 = nI (cPp ct) → HC (cPp ct) (A 1) f (A2 1) → (∀ j, j < i → f j = 0) → ∃ C, HC (cPp ct) (A 1) (fun _ => 0) C ∧ am_E (d + 11) 137 16 [some (.ref 141), some (.int t), some (.int (nI i)), l3, l4, l5] [] (wD hp I A2) = am_E (d + 11) 137 45 [some (.ref 141), some (.int t), some (.int (nI (cPp ct))), l3, l4, l5] [] (wD hp I (updA A2 1 C)) := by
  have p8 := ok.p8
  intro n
  induction n with
  | zero =>
    intro i A2 f hi a2 h0 hC hf
    obtain rfl : i = cPp ct := by omega
    refine ⟨A2 1, hC.cg (fun j hj => hf j hj), ?_⟩
    have l0 : am_ld (wD hp I A2) 143 0 = some (nI (cPp ct)) := by rw [wD_l1 (x := 0) (k := 0) rfl hl a2 (by decide), h0]
    rw [updA_self, e_137_16]
    simp (maxSteps := 1000000) (disch := first | exact nl_int | exact nl_ref | exact nl_none | exact Nat.le_of_ble_eq_true rfl | assumption | exact wD_cl (by assumption) | exact cat_int | exact cat_ref | exact z2 | exact z4 | exact z3 | exact z5 | exact z6 | exact z8 | exact z64) only [e_137_0, e_137_1, e_137_4, e_137_5, e_137_8, e_137_9, e_137_10, e_137_11, e_137_14, e_137_15, e_137_17, e_137_18, e_137_21, e_137_22, e_137_23, e_137_26, e_137_27, e_137_30, e_137_31, e_137_32, e_137_33, e_137_34, e_137_35, e_137_36, e_137_37, e_137_38, e_137_39, e_137_42, e_137_46, e_137_48, e_137_51, e_137_52, e_137_55, e_137_56, e_137_57, e_137_58, e_137_61, e_137_62, e_137_63, e_137_66, e_137_67, e_137_70, e_137_73, e_137_75, e_137_77, e_137_78, e_137_81, e_137_84, e_137_86, e_137_87, e_137_90, e_137_93, e_137_94, e_137_95, e_137_98, e_137_101, e_137_102, e_137_104, e_137_107, e_137_108, e_137_109, e_137_112, e_137_113, e_137_117, e_137_118, e_137_121, e_137_122, e_137_123, e_137_126, e_137_127, e_137_130, e_137_132, e_137_133, e_137_135, e_137_138, e_137_139, e_137_142, e_137_145, e_137_146, e_137_149, e_137_150, e_137_153, e_137_154, e_137_157, nl_int, nl_ref, nl_none, cat_int, cat_ref, cat_0, cat_i, cat_r, cat_l, Option.elim_some, Option.elim_none, Option.bind_some, Option.bind_none, Option.toList_some, Option.toList_none, List.cons_append, List.nil_append, Nat.reduceAdd, Nat.reduceLeDiff, wD_f1 hl, l0, ltF (x := nI (cPp ct)) (c := cPp ct) rfl (Nat.le_refl _) (by omega), if_false]
  | succ n ih =>
    intro i A2 f hi a2 h0 hC hf
    have i8 : i < cPp ct := by omega
    have l27 : (A2 1).length = 27 := hC.1
    have l0 : am_ld (wD hp I A2) 143 0 = some (nI (cPp ct)) := by rw [wD_l1 (x := 0) (k := 0) rfl hl a2 (by decide), h0]
    have ix : 3 + 3 * nI i = nI (3 + 3 * i) := ix3 (a := 0)
    have e5 : nI (3 + 3 * i) + 2 = nI (5 + 3 * i) := by rw [nI_2, show 3 + 3 * i + 2 = 5 + 3 * i from by omega]
    have sx : am_sx (wD hp I A2) 143 (nI (5 + 3 * i)) 0 = some (wD hp I (updA A2 1 ((A2 1).set (5 + 3 * i) (nI 0)))) := wD_s1 (k := 5 + 3 * i) rfl hl a2 (by omega)
    obtain ⟨C, c1, c2⟩ := ih (i + 1) (updA A2 1 ((A2 1).set (5 + 3 * i) (nI 0))) (fun j => if i = j then 0 else f j) (by omega) (updA_ok a2 ((List.length_set).trans l27)) (by
      show ((A2 1).set (5 + 3 * i) (nI 0)).getD 0 0 = _
      rw [getD_set (by omega), if_neg (by omega)]; exact h0) (hC.put p8 i8) (fun j hj => by
      by_cases e : i = j
      · rw [if_pos e]
      · rw [if_neg e]; exact hf j (by omega))
    rw [updA_updA] at c2
    refine ⟨C, c1, ?_⟩
    rw [← c2, e_137_16]
    simp (maxSteps := 1000000) (disch := first | exact nl_int | exact nl_ref | exact nl_none | exact Nat.le_of_ble_eq_true rfl | assumption | exact wD_cl (by assumption) | exact cat_int | exact cat_ref | exact z2 | exact z4 | exact z3 | exact z5 | exact z6 | exact z8 | exact z64) only [e_137_0, e_137_1, e_137_4, e_137_5, e_137_8, e_137_9, e_137_10, e_137_11, e_137_14, e_137_15, e_137_17, e_137_18, e_137_21, e_137_22, e_137_23, e_137_26, e_137_27, e_137_30, e_137_31, e_137_32, e_137_33, e_137_34, e_137_35, e_137_36, e_137_37, e_137_38, e_137_39, e_137_42, e_137_46, e_137_48, e_137_51, e_137_52, e_137_55, e_137_56, e_137_57, e_137_58, e_137_61, e_137_62, e_137_63, e_137_66, e_137_67, e_137_70, e_137_73, e_137_75, e_137_77, e_137_78, e_137_81, e_137_84, e_137_86, e_137_87, e_137_90, e_137_93, e_137_94, e_137_95, e_137_98, e_137_101, e_137_102, e_137_104, e_137_107, e_137_108, e_137_109, e_137_112, e_137_113, e_137_117, e_137_118, e_137_121, e_137_122, e_137_123, e_137_126, e_137_127, e_137_130, e_137_132, e_137_133, e_137_135, e_137_138, e_137_139, e_137_142, e_137_145, e_137_146, e_137_149, e_137_150, e_137_153, e_137_154, e_137_157, nl_int, nl_ref, nl_none, cat_int, cat_ref, cat_0, cat_i, cat_r, cat_l, Option.elim_some, Option.elim_none, Option.bind_some, Option.bind_none, Option.toList_some, Option.toList_none, List.cons_append, List.nil_append, Nat.reduceAdd, Nat.reduceLeDiff, wD_f1 hl, l0, ltT (x := nI (cPp ct)) (c := cPp ct) rfl i8 (by omega), if_true, ix, e5, sx, nI_1]
theorem s7_seeks (hl : 154 < hp.length) (ok : Ok7 A ct nw hr) (h9 : hr ≤ 999) : ∃ I3 A3, Si I I3 ∧ Sq A A3 ∧ aOK A3 ∧ Rb7 ct I3 A3 (am_for (FH (litK ct nw (cTalk ct nw hr)) (mvK ct nw)) 0 (cHs ct ^ cPp ct) (-1, 0, 0)) ∧ am_E (d + 11) 137 0 [some (.ref 141), none, none, none, none, none] [] (wD hp I A) = some (none, wD hp I3 A3) := by
  have p8 := ok.p8
  have h5 := ok.h5
  have hH : 0 < cHs ct := by
    obtain ⟨o, t1, g, ho, ht1, hg, _⟩ := ok.2.2.1.1 0 ok.pos
    omega
  have lC : (A 1).length = 27 := ok.1 1 (by decide)
  have hA1 : aOK (updA A 8 (A 1)) := updA_ok ok.1 lC
  have ok1 : Ok7 (updA A 8 (A 1)) ct nw hr := ok.sq hA1 (Sq.upd (k := 8) (by omega))
  have tk := s7_tk (d := d + 10) (I := I) hl ok1 (by omega)
  obtain ⟨tt, htt, ett⟩ := ok.tk (m := nw) (r := hr)
  rw [ett] at tk ⊢
  have hC : HC (cPp ct) (A 1) (fun i => (mH nw i).toNatClampNeg) (A 1) := ⟨lC, fun _ _ _ => rfl, fun i hi => by
    obtain ⟨o, t1, g, ho, ht1, hg, eo, et, eg⟩ := ok.2.2.1.1 i hi
    rw [(ok.2.1.2.2.2.2.2 i hi).2.2]
    show mH nw i = nI (mH nw i).toNatClampNeg
    rw [eg, nI_clamp (by omega)]⟩
  obtain ⟨C, c1, c2⟩ := s7_zero (d := d) (I := updI I 16 (-1)) (t := nI tt) (l3 := none) (l4 := none) (l5 := none) hl ok (cPp ct) 0 (updA A 8 (A 1)) (fun i => (mH nw i).toNatClampNeg) (Nat.zero_add _) hA1 ok.2.1.2.2.2.2.1.1 hC (fun j hj => absurd hj (Nat.not_lt_zero j))
  rw [show nI 0 = 0 from rfl] at c2
  have pp : 0 < cHs ct ^ cPp ct := Nat.pow_pos hH
  have d0 : ∀ i, i < cPp ct → (fun _ => 0) i = dgb (cHs ct) (cPp ct) 0 i := fun i _ => by unfold dgb; rw [Nat.zero_div, Nat.zero_mod]
  obtain ⟨I3, A3, t1, t2, t3, t4, t5⟩ := s7_seek (d := d) (I := I) hl ok hH htt (cHs ct ^ cPp ct - 1) 0 (-1, 0, 0) (updI I 16 (-1)) (updA (updA A 8 (A 1)) 1 C) none none none (by omega) (Si.upd (k := 16) (by omega)) ((Sn.rfl'.upd (k := 8) (by omega)).upd (k := 1) (by omega)) (updA_ok hA1 c1.1) rfl (c1.cg d0) ⟨rfl, Or.inl rfl⟩
  rw [show cHs ct ^ cPp ct - 1 + 1 = cHs ct ^ cPp ct from by omega] at t4
  refine ⟨I3, A3, t1, t2, t3, t4, ?_⟩
  have p1 : am_pf (wD hp I (updA A 8 (A 1))) 141 7 16 (.int (-1)) = some (wD hp (updI I 16 (-1)) (updA A 8 (A 1))) := wD_p16 hl
  rw [← t5]
  simp (maxSteps := 1000000) (disch := first | exact nl_int | exact nl_ref | exact nl_none | exact Nat.le_of_ble_eq_true rfl | assumption | exact wD_cl (by assumption) | exact cat_int | exact cat_ref | exact z2 | exact z4 | exact z3 | exact z5 | exact z6 | exact z8 | exact z64) only [e_137_0, e_137_1, e_137_4, e_137_5, e_137_8, e_137_9, e_137_10, e_137_11, e_137_14, e_137_15, e_137_17, e_137_18, e_137_21, e_137_22, e_137_23, e_137_26, e_137_27, e_137_30, e_137_31, e_137_32, e_137_33, e_137_34, e_137_35, e_137_36, e_137_37, e_137_38, e_137_39, e_137_42, e_137_45, e_137_46, e_137_48, e_137_51, e_137_52, e_137_55, e_137_56, e_137_57, e_137_58, e_137_61, e_137_62, e_137_63, e_137_66, e_137_67, e_137_70, e_137_73, e_137_75, e_137_77, e_137_78, e_137_81, e_137_84, e_137_86, e_137_87, e_137_90, e_137_93, e_137_94, e_137_95, e_137_98, e_137_101, e_137_102, e_137_104, e_137_107, e_137_108, e_137_109, e_137_112, e_137_113, e_137_117, e_137_118, e_137_121, e_137_122, e_137_123, e_137_126, e_137_127, e_137_130, e_137_132, e_137_133, e_137_135, e_137_138, e_137_139, e_137_142, e_137_145, e_137_146, e_137_149, e_137_150, e_137_153, e_137_154, e_137_157, nl_int, nl_ref, nl_none, cat_int, cat_ref, cat_0, cat_i, cat_r, cat_l, Option.elim_some, Option.elim_none, Option.bind_some, Option.bind_none, Option.toList_some, Option.toList_none, List.cons_append, List.nil_append, Nat.reduceAdd, Nat.reduceLeDiff, s7_asides (d := d + 10) hl ok.1, tk, p1, c2]
theorem mvc_0 {nw : am_Mo} {f : Nat → Nat} : ∀ n, (∀ i, i < n → nI (f i) = mH nw i) → mvc nw f n = 0 := by
  intro n
  induction n with
  | zero => intro _; rfl
  | succ n ih => intro h; rw [mvc, ih (fun i hi => h i (by omega)), if_pos (h n (by omega))]
theorem p_homes (hJ : JJ hp) : Pr d 61 [some (.ref 0), some (.int x)] 138 [some (.ref 141), some (.int x)] hp := by
  obtain ⟨hl, tx, ct, nw, pm, pn, ph, km, kc, sH, sL, sc, hr, I, A, hS, hD, hj⟩ := hJ
  have ok := hj.1
  have p8 := ok.p8
  have h5 := ok.h5
  have h9 := hj.2.1
  by_cases q : x ≠ -1 ∧ x ≠ -2 ∧ inR x (cPp ct) = false
  · refine Pr_ask hl hD hj (Run.same hS (s_homes0 hS q.1 q.2.1 q.2.2)) (fun hp hl => Ask.same ok.1 ?_)
    simp (maxSteps := 1000000) (disch := first | exact nl_int | exact nl_ref | exact nl_none | exact Nat.le_of_ble_eq_true rfl | assumption | exact wD_cl (by assumption) | exact cat_int | exact cat_ref | exact z2 | exact z4 | exact z3 | exact z5 | exact z6 | exact z8 | exact z64) only [e_138_0, e_138_1, e_138_2, e_138_5, e_138_6, e_138_8, e_138_11, e_138_12, e_138_13, e_138_16, e_138_19, e_138_20, e_138_21, e_138_22, e_138_25, e_138_26, e_138_27, e_138_30, e_138_31, e_138_34, e_138_37, e_138_38, e_138_40, e_138_43, e_138_44, e_138_47, e_138_50, e_138_51, e_138_54, e_138_55, e_138_56, nl_int, nl_ref, nl_none, cat_int, cat_ref, cat_0, cat_i, cat_r, cat_l, Option.elim_some, Option.elim_none, Option.bind_some, Option.bind_none, Option.toList_some, Option.toList_none, List.cons_append, List.nil_append, Nat.reduceAdd, Nat.reduceLeDiff, if_neg q.1, if_neg q.2.1, s7_ip0 (d := d + 10) hl ok q.2.2, z0, if_true]
  · have q' : x = -1 ∨ x = -2 ∨ inR x (cPp ct) = true := by
      by_cases w1 : x = -1
      · exact Or.inl w1
      · by_cases w2 : x = -2
        · exact Or.inr (Or.inl w2)
        · cases w3 : inR x (cPp ct) with
          | true => exact Or.inr (Or.inr rfl)
          | false => exact absurd ⟨w1, w2, w3⟩ q
    obtain ⟨hs0, hok0, s6⟩ := s_homes1 (d := d) hS ok.2.2.2.2.2.2 (by omega) q'
    have hH : 0 < cHs ct := by
      obtain ⟨o, t1, g, ho, ht1, hg, _⟩ := ok.2.2.1.1 0 ok.pos
      omega
    have fl := hSearch_flat (hr := hr) ok.2.2.2.2.2.1 ok.2.2.1 hH hok0
    obtain ⟨b, eb⟩ : ∃ b, b = am_for (FH (litK ct nw (cTalk ct nw hr)) (mvK ct nw)) 0 (cHs ct ^ cPp ct) (-1, 0, 0) := ⟨_, rfl⟩
    rw [← eb] at fl
    have hf : ∀ i, i < cPp ct → (mH nw i).toNatClampNeg < cHs ct ∧ nI (mH nw i).toNatClampNeg = mH nw i := fun i hi => by
      obtain ⟨o, t1, g, ho, ht1, hg, eo, et, eg⟩ := ok.2.2.1.1 i hi
      rw [eg, nI_clamp (by omega)]
      exact ⟨hg, rfl⟩
    have nb : ¬ b.1 = -1 := by
      rw [eb]
      refine FH_pos (k0 := enc (cHs ct) (fun i => (mH nw i).toNatClampNeg) (cPp ct)) (fun k _ => ?_) (enc_lt _ (fun i hi => (hf i hi).1)) ?_
      · obtain ⟨c, hc, ec⟩ := lit_nI (m := mkH nw (cPp ct) (dgb (cHs ct) (cPp ct) k)) (t := cTalk ct nw hr) ok.w5
        have w5 := ok.w5
        show ¬ bitc (cLit ct (mkH nw (cPp ct) (dgb (cHs ct) (cPp ct) k)) (cTalk ct nw hr)) < 0
        rw [ec]
        exact nI_pos (by omega)
      · have : mvK ct nw (enc (cHs ct) (fun i => (mH nw i).toNatClampNeg) (cPp ct)) = 0 := mvc_0 _ (fun i hi => by
          rw [enc_dg _ (fun i hi => (hf i hi).1) i hi]
          exact (hf i hi).2)
        rw [this]
        decide
    obtain ⟨e1, e2, e3⟩ := fl.2.resolve_left nb
    refine Pr_ask hl hD hj s6 (fun hp hl => ?_)
    obtain ⟨I3, A3, t1, t2, t3, t4, t5⟩ := s7_seeks (d := d) (I := I) hl ok h9
    rw [← eb] at t4
    obtain ⟨g1, g2, g3⟩ := t4.2.resolve_left nb
    refine ⟨I3, A3, t1, t3, t2, ?_⟩
    by_cases w1 : x = -1
    · rw [if_pos w1, fl.1, ← t4.1]
      simp (maxSteps := 1000000) (disch := first | exact nl_int | exact nl_ref | exact nl_none | exact Nat.le_of_ble_eq_true rfl | assumption | exact wD_cl (by assumption) | exact cat_int | exact cat_ref | exact z2 | exact z4 | exact z3 | exact z5 | exact z6 | exact z8 | exact z64) only [e_138_0, e_138_1, e_138_2, e_138_5, e_138_6, e_138_8, e_138_11, e_138_12, e_138_13, e_138_16, e_138_19, e_138_20, e_138_21, e_138_22, e_138_25, e_138_26, e_138_27, e_138_30, e_138_31, e_138_34, e_138_37, e_138_38, e_138_40, e_138_43, e_138_44, e_138_47, e_138_50, e_138_51, e_138_54, e_138_55, e_138_56, nl_int, nl_ref, nl_none, cat_int, cat_ref, cat_0, cat_i, cat_r, cat_l, Option.elim_some, Option.elim_none, Option.bind_some, Option.bind_none, Option.toList_some, Option.toList_none, List.cons_append, List.nil_append, Nat.reduceAdd, Nat.reduceLeDiff, if_pos w1, t5, wD_f16 hl]
    · rw [if_neg w1]
      by_cases w2 : x = -2
      · rw [if_pos w2, e1, ← g1]
        simp (maxSteps := 1000000) (disch := first | exact nl_int | exact nl_ref | exact nl_none | exact Nat.le_of_ble_eq_true rfl | assumption | exact wD_cl (by assumption) | exact cat_int | exact cat_ref | exact z2 | exact z4 | exact z3 | exact z5 | exact z6 | exact z8 | exact z64) only [e_138_0, e_138_1, e_138_2, e_138_5, e_138_6, e_138_8, e_138_11, e_138_12, e_138_13, e_138_16, e_138_19, e_138_20, e_138_21, e_138_22, e_138_25, e_138_26, e_138_27, e_138_30, e_138_31, e_138_34, e_138_37, e_138_38, e_138_40, e_138_43, e_138_44, e_138_47, e_138_50, e_138_51, e_138_54, e_138_55, e_138_56, nl_int, nl_ref, nl_none, cat_int, cat_ref, cat_0, cat_i, cat_r, cat_l, Option.elim_some, Option.elim_none, Option.bind_some, Option.bind_none, Option.toList_some, Option.toList_none, List.cons_append, List.nil_append, Nat.reduceAdd, Nat.reduceLeDiff, if_neg w1, if_pos w2, t5, wD_f17 hl]
      · rw [if_neg w2]
        have w3 := (q'.resolve_left w1).resolve_left w2
        obtain ⟨i, hi, rfl⟩ := inR_t w3 (by omega)
        rw [nI_clamp (by omega), e3 i hi]
        have lx : am_ld (wD hp I3 A3) 151 (nI i) = some (nI (dgb (cHs ct) (cPp ct) b.2.2 i)) := by rw [wD_l9 (k := i) rfl hl t3 (by omega), g3 i hi]
        simp (maxSteps := 1000000) (disch := first | exact nl_int | exact nl_ref | exact nl_none | exact Nat.le_of_ble_eq_true rfl | assumption | exact wD_cl (by assumption) | exact cat_int | exact cat_ref | exact z2 | exact z4 | exact z3 | exact z5 | exact z6 | exact z8 | exact z64) only [e_138_0, e_138_1, e_138_2, e_138_5, e_138_6, e_138_8, e_138_11, e_138_12, e_138_13, e_138_16, e_138_19, e_138_20, e_138_21, e_138_22, e_138_25, e_138_26, e_138_27, e_138_30, e_138_31, e_138_34, e_138_37, e_138_38, e_138_40, e_138_43, e_138_44, e_138_47, e_138_50, e_138_51, e_138_54, e_138_55, e_138_56, nl_int, nl_ref, nl_none, cat_int, cat_ref, cat_0, cat_i, cat_r, cat_l, Option.elim_some, Option.elim_none, Option.bind_some, Option.bind_none, Option.toList_some, Option.toList_none, List.cons_append, List.nil_append, Nat.reduceAdd, Nat.reduceLeDiff, if_neg w1, if_neg w2, s7_ip1 (d := d + 10) hl ok hi, z1, if_false, t5, wD_f15 hl, lx]
end HMD
