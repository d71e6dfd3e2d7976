/-! PAIRS: may -/
def mayC (P : Nat → Bool) : Nat → Nat
  | 0 => 0
  | n + 1 => mayC P n + (if P n = true then 1 else 0)
def mayM (P : Nat → Bool) : Nat → Int32
  | 0 => -4
  | n + 1 => if P n = true then (if mayC P n = 0 then nI n else mayM P n) else mayM P n
theorem mayC_le {P : Nat → Bool} : ∀ n, mayC P n ≤ n := by
  intro n
  induction n with
  | zero => exact Nat.le_refl 0
  | succ n ih => rw [mayC]; split <;> omega
theorem Ok7.pos {A : Nat → List Int32} {ct : am_Ci} {nw : am_Mo} {hr : Nat} (h : Ok7 A ct nw hr) : 0 < cPp ct := h.2.2.2.1.2.2
section MDJ
variable {d : Nat} {hp hp2 : am_H} {I I2 : Nat → Int32} {A A2 : Nat → List Int32} {i j k n b p hr tt h u : Nat} {x y z t a v w : Int32} {B C U : List Int32} {ct : am_Ci} {tx : am_Tx} {nw m : am_Mo} {pm : Nat → am_Mo} {pn ph : Nat} {km : Nat → am_Mo} {kc : Nat} {sH sL : List Int32} {sc : Nat}
def mayP (ct : am_Ci) (nw : am_Mo) (sH sL : List Int32) (sc hr i : Nat) (s : Nat) : Bool := mAg (mSetO nw i (nI s)) (cTalk ct nw hr) sH sL sc 0
theorem aMay_eq : ∀ n (c l : Int32), aMay ct nw sH sL sc hr i n (c, l) = (c + nI (mayC (mayP ct nw sH sL sc hr i) n), if mayC (mayP ct nw sH sL sc hr i) n = 0 then l else mayM (mayP ct nw sH sL sc hr i) n) := by
  intro n
  induction n with
  | zero => intro c l; rw [aMay, mayC, if_pos rfl, show nI 0 = 0 from rfl, Int32.add_zero]
  | succ n ih =>
    intro c l
    rw [aMay, mayC, mayM]
    by_cases q : mayP ct nw sH sL sc hr i n = true
    · rw [if_pos (show mAg (mSetO nw i (nI n)) (cTalk ct nw hr) sH sL sc 0 = true from q), ih, if_pos q, if_pos q, if_neg (show ¬ (mayC (mayP ct nw sH sL sc hr i) n + 1 = 0) from Nat.succ_ne_zero _)]
      rw [← nI_1, Int32.add_assoc, Int32.add_comm 1]
    · rw [if_neg (show ¬ mAg (mSetO nw i (nI n)) (cTalk ct nw hr) sH sL sc 0 = true from q), ih, if_neg q, if_neg q, Nat.add_zero]
/-- the same but for the scribbled arrays and now -/
def Sn (A A2 : Nat → List Int32) : Prop := ∀ k, k ≠ 1 → k ≠ 3 → k ≠ 4 → k ≠ 5 → k ≠ 6 → k ≠ 8 → k ≠ 9 → A2 k = A k
theorem Sn.rfl' : Sn A A := fun _ _ _ _ _ _ _ _ => rfl
theorem Ok7.sn (ok : Ok7 A ct nw hr) (hA : aOK A2) (hs : Sn A A2) (e : A2 1 = A 1) : Ok7 A2 ct nw hr := ok.sq hA (fun k q3 q4 q5 q6 q8 q9 => by
  by_cases q1 : k = 1
  · rw [q1, e]
  · exact hs k q1 q3 q4 q5 q6 q8 q9)
theorem Sn.upd {A2 : Nat → List Int32} {xs : List Int32} (h : Sn A A2) (hk : k = 1 ∨ k = 3 ∨ k = 4 ∨ k = 5 ∨ k = 6 ∨ k = 8 ∨ k = 9) : Sn A (updA A2 k xs) := fun j a b c d e f g => by rw [updA_n (by omega)]; exact h j a b c d e f g
theorem set_back {xs : List Int32} {i n : Nat} {v w : Int32} (hl : xs.length = n) (hi : i < n) (e : xs.getD i 0 = w) : (xs.set i v).set i w = xs := by
  rw [List.set_set]
  apply list8 n ((List.length_set).trans hl) hl
  intro k hk
  rw [getD_set (by omega)]
  by_cases q : i = k
  · rw [if_pos q, ← e, q]
  · rw [if_neg q]
theorem s7_agr (hl : 154 < hp.length) (hA : aOK A) {L : List (Option Value)} {a0 a1 a2 a3 a4 a5 : Option Value} (g1 : I 20 = nI sc) (g2 : sc ≤ 8) (g3 : ∀ k, k < sc → (A 10).getD k 0 = sH.getD k 0 ∧ (A 11).getD k 0 = sL.getD k 0 ∧ ∃ h, h < 5 ∧ sH.getD k 0 = nI h) (hL : Lg m t (A 5)) (hn : am_nl1 a5 = true) : ∀ n k b, k + n = sc → am_E (d + 12) 144 69 [some (.ref 141), a0, a1, a2, a3, a4, a5, some (.int (b2 b)), some (.int (nI k))] [] (wD hp I A) = am_E (d + 12) 144 118 [some (.ref 141), a0, a1, a2, a3, a4, a5, some (.int (b2 (b && mAg m t sH sL n k))), some (.int (nI sc))] [] (wD hp I A) := by
  intro n
  induction n with
  | zero =>
    intro k b hk
    obtain rfl : k = sc := by omega
    rw [e_144_69, mAg, Bool.and_true]
    simp (maxSteps := 1000000) (disch := first | exact nl_int | exact nl_ref | exact nl_none | exact Nat.le_of_ble_eq_true rfl | assumption | exact wD_cl (by assumption) | exact cat_int | exact cat_ref | exact z2 | exact z4 | exact z3 | exact z5 | exact z6 | exact z8 | exact z64) only [e_144_0, e_144_1, e_144_2, e_144_5, e_144_8, e_144_9, e_144_10, e_144_11, e_144_12, e_144_15, e_144_18, e_144_19, e_144_20, e_144_21, e_144_22, e_144_25, e_144_26, e_144_27, e_144_29, e_144_31, e_144_33, e_144_34, e_144_38, e_144_40, e_144_43, e_144_44, e_144_47, e_144_48, e_144_49, e_144_50, e_144_51, e_144_52, e_144_54, e_144_55, e_144_56, e_144_57, e_144_60, e_144_63, e_144_64, e_144_66, e_144_67, e_144_71, e_144_72, e_144_75, e_144_78, e_144_80, e_144_83, e_144_84, e_144_87, e_144_88, e_144_91, e_144_93, e_144_94, e_144_95, e_144_96, e_144_99, e_144_101, e_144_102, e_144_105, e_144_106, e_144_109, e_144_110, e_144_112, e_144_115, e_144_120, e_144_123, e_144_125, e_144_128, e_144_130, e_144_133, e_144_135, e_144_137, e_144_139, e_144_141, e_144_144, e_144_145, e_144_148, e_144_149, e_144_150, e_144_152, e_144_155, e_144_158, e_144_159, e_144_162, e_144_163, e_144_164, e_144_165, e_144_166, e_144_167, e_144_168, e_144_169, e_144_170, e_144_173, e_144_175, e_144_178, e_144_180, nl_int, nl_ref, nl_none, cat_int, cat_ref, cat_0, cat_i, cat_r, cat_l, Option.elim_some, Option.elim_none, Option.bind_some, Option.bind_none, Option.toList_some, Option.toList_none, List.cons_append, List.nil_append, Nat.reduceAdd, Nat.reduceLeDiff, wD_f20 hl, g1, ltF (x := nI k) (c := k) rfl (Nat.le_refl _) (by omega), if_false]
  | succ n ih =>
    intro k b hk
    have ks : k < sc := by omega
    obtain ⟨e1, e2, g, hg, eg⟩ := g3 k ks
    have l1 : am_ld (wD hp I A) 152 (nI k) = some (nI g) := by rw [wD_l10 (k := k) rfl hl hA (by omega), e1, eg]
    have l2 : am_ld (wD hp I A) 153 (nI k) = some (sL.getD k 0) := by rw [wD_l11 (k := k) rfl hl hA (by omega), e2]
    have l3 : am_ld (wD hp I A) 147 (nI g) = some (mLight m (nI g) t) := by rw [wD_l5 (k := g) rfl hl hA hg, hL g hg]
    have a1' := ltT (x := nI sc) (c := sc) rfl ks (by omega)
    rw [mAg, eg]
    cases b with
    | false =>
      have e := ih (k + 1) false (by omega)
      rw [Bool.false_and] at e ⊢
      rw [← e, e_144_69, b2_f]
      simp (maxSteps := 1000000) (disch := first | exact nl_int | exact nl_ref | exact nl_none | exact Nat.le_of_ble_eq_true rfl | assumption | exact wD_cl (by assumption) | exact cat_int | exact cat_ref | exact z2 | exact z4 | exact z3 | exact z5 | exact z6 | exact z8 | exact z64) only [e_144_0, e_144_1, e_144_2, e_144_5, e_144_8, e_144_9, e_144_10, e_144_11, e_144_12, e_144_15, e_144_18, e_144_19, e_144_20, e_144_21, e_144_22, e_144_25, e_144_26, e_144_27, e_144_29, e_144_31, e_144_33, e_144_34, e_144_38, e_144_40, e_144_43, e_144_44, e_144_47, e_144_48, e_144_49, e_144_50, e_144_51, e_144_52, e_144_54, e_144_55, e_144_56, e_144_57, e_144_60, e_144_63, e_144_64, e_144_66, e_144_67, e_144_71, e_144_72, e_144_75, e_144_78, e_144_80, e_144_83, e_144_84, e_144_87, e_144_88, e_144_91, e_144_93, e_144_94, e_144_95, e_144_96, e_144_99, e_144_101, e_144_102, e_144_105, e_144_106, e_144_109, e_144_110, e_144_112, e_144_115, e_144_120, e_144_123, e_144_125, e_144_128, e_144_130, e_144_133, e_144_135, e_144_137, e_144_139, e_144_141, e_144_144, e_144_145, e_144_148, e_144_149, e_144_150, e_144_152, e_144_155, e_144_158, e_144_159, e_144_162, e_144_163, e_144_164, e_144_165, e_144_166, e_144_167, e_144_168, e_144_169, e_144_170, e_144_173, e_144_175, e_144_178, e_144_180, nl_int, nl_ref, nl_none, cat_int, cat_ref, cat_0, cat_i, cat_r, cat_l, Option.elim_some, Option.elim_none, Option.bind_some, Option.bind_none, Option.toList_some, Option.toList_none, List.cons_append, List.nil_append, Nat.reduceAdd, Nat.reduceLeDiff, wD_f20 hl, g1, a1', if_true, z0, nI_1]
    | true =>
      by_cases q : mLight m (nI g) t = sL.getD k 0
      · rw [if_pos q, ← ih (k + 1) true (by omega), e_144_69, b2_t]
        simp (maxSteps := 1000000) (disch := first | exact nl_int | exact nl_ref | exact nl_none | exact Nat.le_of_ble_eq_true rfl | assumption | exact wD_cl (by assumption) | exact cat_int | exact cat_ref | exact z2 | exact z4 | exact z3 | exact z5 | exact z6 | exact z8 | exact z64) only [e_144_0, e_144_1, e_144_2, e_144_5, e_144_8, e_144_9, e_144_10, e_144_11, e_144_12, e_144_15, e_144_18, e_144_19, e_144_20, e_144_21, e_144_22, e_144_25, e_144_26, e_144_27, e_144_29, e_144_31, e_144_33, e_144_34, e_144_38, e_144_40, e_144_43, e_144_44, e_144_47, e_144_48, e_144_49, e_144_50, e_144_51, e_144_52, e_144_54, e_144_55, e_144_56, e_144_57, e_144_60, e_144_63, e_144_64, e_144_66, e_144_67, e_144_71, e_144_72, e_144_75, e_144_78, e_144_80, e_144_83, e_144_84, e_144_87, e_144_88, e_144_91, e_144_93, e_144_94, e_144_95, e_144_96, e_144_99, e_144_101, e_144_102, e_144_105, e_144_106, e_144_109, e_144_110, e_144_112, e_144_115, e_144_120, e_144_123, e_144_125, e_144_128, e_144_130, e_144_133, e_144_135, e_144_137, e_144_139, e_144_141, e_144_144, e_144_145, e_144_148, e_144_149, e_144_150, e_144_152, e_144_155, e_144_158, e_144_159, e_144_162, e_144_163, e_144_164, e_144_165, e_144_166, e_144_167, e_144_168, e_144_169, e_144_170, e_144_173, e_144_175, e_144_178, e_144_180, nl_int, nl_ref, nl_none, cat_int, cat_ref, cat_0, cat_i, cat_r, cat_l, Option.elim_some, Option.elim_none, Option.bind_some, Option.bind_none, Option.toList_some, Option.toList_none, List.cons_append, List.nil_append, Nat.reduceAdd, Nat.reduceLeDiff, wD_f20 hl, wD_f9 hl, wD_f18 hl, wD_f19 hl, g1, a1', if_true, z1, if_false, l1, l2, l3, if_pos q, nI_1]
      · have e := ih (k + 1) false (by omega)
        rw [Bool.false_and] at e
        rw [if_neg q, Bool.and_false, ← e, e_144_69, b2_t, b2_f]
        simp (maxSteps := 1000000) (disch := first | exact nl_int | exact nl_ref | exact nl_none | exact Nat.le_of_ble_eq_true rfl | assumption | exact wD_cl (by assumption) | exact cat_int | exact cat_ref | exact z2 | exact z4 | exact z3 | exact z5 | exact z6 | exact z8 | exact z64) only [e_144_0, e_144_1, e_144_2, e_144_5, e_144_8, e_144_9, e_144_10, e_144_11, e_144_12, e_144_15, e_144_18, e_144_19, e_144_20, e_144_21, e_144_22, e_144_25, e_144_26, e_144_27, e_144_29, e_144_31, e_144_33, e_144_34, e_144_38, e_144_40, e_144_43, e_144_44, e_144_47, e_144_48, e_144_49, e_144_50, e_144_51, e_144_52, e_144_54, e_144_55, e_144_56, e_144_57, e_144_60, e_144_63, e_144_64, e_144_66, e_144_67, e_144_71, e_144_72, e_144_75, e_144_78, e_144_80, e_144_83, e_144_84, e_144_87, e_144_88, e_144_91, e_144_93, e_144_94, e_144_95, e_144_96, e_144_99, e_144_101, e_144_102, e_144_105, e_144_106, e_144_109, e_144_110, e_144_112, e_144_115, e_144_120, e_144_123, e_144_125, e_144_128, e_144_130, e_144_133, e_144_135, e_144_137, e_144_139, e_144_141, e_144_144, e_144_145, e_144_148, e_144_149, e_144_150, e_144_152, e_144_155, e_144_158, e_144_159, e_144_162, e_144_163, e_144_164, e_144_165, e_144_166, e_144_167, e_144_168, e_144_169, e_144_170, e_144_173, e_144_175, e_144_178, e_144_180, nl_int, nl_ref, nl_none, cat_int, cat_ref, cat_0, cat_i, cat_r, cat_l, Option.elim_some, Option.elim_none, Option.bind_some, Option.bind_none, Option.toList_some, Option.toList_none, List.cons_append, List.nil_append, Nat.reduceAdd, Nat.reduceLeDiff, wD_f20 hl, wD_f9 hl, wD_f18 hl, wD_f19 hl, g1, a1', if_true, z1, if_false, l1, l2, l3, if_neg q, nI_1]
theorem s7_may (hl : 154 < hp.length) (hj : Jr tx ct nw pm pn ph km kc sH sL sc hr I A) (hi : i < cPp ct) : ∀ n s I2 A2 w l7 l8, s + n = 32 → Si I I2 → aOK A2 → Sn A A2 → A2 1 = (A 1).set (3 + 3 * i) w → am_nl1 l7 = true → ∃ I3 A3, Si I I3 ∧ aOK A3 ∧ Sq A A3 ∧ am_E (d + 12) 144 36 [some (.ref 141), some (.int (nI i)), some (.int y), some (.int (mO nw i)), some (.int (nI (mayC (mayP ct nw sH sL sc hr i) s))), some (.int (mayM (mayP ct nw sH sL sc hr i) s)), some (.int (nI s)), l7, l8] [] (wD hp I2 A2) = some (some (.int (if y = 0 then nI (mayC (mayP ct nw sH sL sc hr i) 32) else mayM (mayP ct nw sH sL sc hr i) 32)), wD hp I3 A3) := by
  have ok := hj.1
  have p8 := ok.p8
  have h9 := hj.2.1
  have hC : (A 1).length = 27 := ok.1 1 (by decide)
  have ix : 3 + 3 * nI i = nI (3 + 3 * i) := ix3 (a := 0)
  intro n
  induction n with
  | zero =>
    intro s I2 A2 w l7 l8 hs si a2 sn e1 ln
    obtain rfl : s = 32 := by omega
    have sx : am_sx (wD hp I2 A2) 143 (nI (3 + 3 * i)) (mO nw i) = some (wD hp I2 (updA A2 1 (A 1))) := by
      rw [wD_s1 (k := 3 + 3 * i) rfl hl a2 (by omega), e1, set_back hC (by omega) (ok.2.1.2.2.2.2.2 i hi).1]
    refine ⟨I2, updA A2 1 (A 1), si, updA_ok a2 hC, fun k q3 q4 q5 q6 q8 q9 => ?_, ?_⟩
    · by_cases q1 : k = 1
      · subst q1; rfl
      · rw [updA_n q1]; exact sn k q1 q3 q4 q5 q6 q8 q9
    · rw [e_144_36]
      by_cases q : y = 0
      · rw [if_pos q]
        simp (maxSteps := 1000000) (disch := first | exact nl_int | exact nl_ref | exact nl_none | exact Nat.le_of_ble_eq_true rfl | assumption | exact wD_cl (by assumption) | exact cat_int | exact cat_ref | exact z2 | exact z4 | exact z3 | exact z5 | exact z6 | exact z8 | exact z64) only [e_144_0, e_144_1, e_144_2, e_144_5, e_144_8, e_144_9, e_144_10, e_144_11, e_144_12, e_144_15, e_144_18, e_144_19, e_144_20, e_144_21, e_144_22, e_144_25, e_144_26, e_144_27, e_144_29, e_144_31, e_144_33, e_144_34, e_144_38, e_144_40, e_144_43, e_144_44, e_144_47, e_144_48, e_144_49, e_144_50, e_144_51, e_144_52, e_144_54, e_144_55, e_144_56, e_144_57, e_144_60, e_144_63, e_144_64, e_144_66, e_144_67, e_144_71, e_144_72, e_144_75, e_144_78, e_144_80, e_144_83, e_144_84, e_144_87, e_144_88, e_144_91, e_144_93, e_144_94, e_144_95, e_144_96, e_144_99, e_144_101, e_144_102, e_144_105, e_144_106, e_144_109, e_144_110, e_144_112, e_144_115, e_144_118, e_144_120, e_144_123, e_144_125, e_144_128, e_144_130, e_144_133, e_144_135, e_144_137, e_144_139, e_144_141, e_144_144, e_144_145, e_144_148, e_144_149, e_144_150, e_144_152, e_144_155, e_144_158, e_144_159, e_144_162, e_144_163, e_144_164, e_144_165, e_144_166, e_144_167, e_144_168, e_144_169, e_144_170, e_144_173, e_144_175, e_144_178, e_144_180, nl_int, nl_ref, nl_none, cat_int, cat_ref, cat_0, cat_i, cat_r, cat_l, Option.elim_some, Option.elim_none, Option.bind_some, Option.bind_none, Option.toList_some, Option.toList_none, List.cons_append, List.nil_append, Nat.reduceAdd, Nat.reduceLeDiff, ltF (x := 32) (c := 32) rfl (Nat.le_refl _) (by omega), if_false, wD_f1 hl, ix, sx, if_pos q]
      · rw [if_neg q]
        simp (maxSteps := 1000000) (disch := first | exact nl_int | exact nl_ref | exact nl_none | exact Nat.le_of_ble_eq_true rfl | assumption | exact wD_cl (by assumption) | exact cat_int | exact cat_ref | exact z2 | exact z4 | exact z3 | exact z5 | exact z6 | exact z8 | exact z64) only [e_144_0, e_144_1, e_144_2, e_144_5, e_144_8, e_144_9, e_144_10, e_144_11, e_144_12, e_144_15, e_144_18, e_144_19, e_144_20, e_144_21, e_144_22, e_144_25, e_144_26, e_144_27, e_144_29, e_144_31, e_144_33, e_144_34, e_144_38, e_144_40, e_144_43, e_144_44, e_144_47, e_144_48, e_144_49, e_144_50, e_144_51, e_144_52, e_144_54, e_144_55, e_144_56, e_144_57, e_144_60, e_144_63, e_144_64, e_144_66, e_144_67, e_144_71, e_144_72, e_144_75, e_144_78, e_144_80, e_144_83, e_144_84, e_144_87, e_144_88, e_144_91, e_144_93, e_144_94, e_144_95, e_144_96, e_144_99, e_144_101, e_144_102, e_144_105, e_144_106, e_144_109, e_144_110, e_144_112, e_144_115, e_144_118, e_144_120, e_144_123, e_144_125, e_144_128, e_144_130, e_144_133, e_144_135, e_144_137, e_144_139, e_144_141, e_144_144, e_144_145, e_144_148, e_144_149, e_144_150, e_144_152, e_144_155, e_144_158, e_144_159, e_144_162, e_144_163, e_144_164, e_144_165, e_144_166, e_144_167, e_144_168, e_144_169, e_144_170, e_144_173, e_144_175, e_144_178, e_144_180, nl_int, nl_ref, nl_none, cat_int, cat_ref, cat_0, cat_i, cat_r, cat_l, Option.elim_some, Option.elim_none, Option.bind_some, Option.bind_none, Option.toList_some, Option.toList_none, List.cons_append, List.nil_append, Nat.reduceAdd, Nat.reduceLeDiff, ltF (x := 32) (c := 32) rfl (Nat.le_refl _) (by omega), if_false, wD_f1 hl, ix, sx, if_neg q]
  | succ n ih =>
    intro s I2 A2 w l7 l8 hs si a2 sn e1 ln
    have sx : am_sx (wD hp I2 A2) 143 (nI (3 + 3 * i)) (nI s) = some (wD hp I2 (updA A2 1 ((A 1).set (3 + 3 * i) (nI s)))) := by
      rw [wD_s1 (k := 3 + 3 * i) rfl hl a2 (by omega), e1, List.set_set]
    have x1 : ((A 1).set (3 + 3 * i) (nI s)).length = 27 := (List.length_set).trans hC
    have hA3 : aOK (updA A2 1 ((A 1).set (3 + 3 * i) (nI s))) := updA_ok a2 x1
    have ok3 : Ok7 (updA A2 1 ((A 1).set (3 + 3 * i) (nI s))) ct (mSetO nw i (nI s)) hr := by
      refine (ok.setO hi (show s < 32 by omega)).sn hA3 (fun k q1 q3 q4 q5 q6 q8 q9 => ?_) rfl
      rw [updA_n q1, updA_n q1]; exact sn k q1 q3 q4 q5 q6 q8 q9
    have tk : am_E (d + 11) 112 0 [some (.ref 141)] [] (wD hp I2 (updA A2 1 ((A 1).set (3 + 3 * i) (nI s)))) = some (some (.int (cTalk ct nw hr)), wD hp I2 (updA A2 1 ((A 1).set (3 + 3 * i) (nI s)))) := by
      have := s7_tk (d := d + 11) (I := I2) hl ok3 (by omega)
      exact this
    obtain ⟨D, hD, hL, eb⟩ := s7_bu (d := d + 8) (I := I2) hl ok3 (ok.tk (m := nw) (r := hr))
    obtain ⟨J, eJ⟩ : ∃ J, J = updI I2 10 (smk (fun h => mSmoke (mSetO nw i (nI s)) (nI h) (cTalk ct nw hr))) := ⟨_, rfl⟩
    rw [← eJ] at eb
    have sJ : Si I J := by rw [eJ]; exact si.trans (Si.upd (k := 10) (by omega))
    obtain ⟨A4, eA⟩ : ∃ A4, A4 = updA (updA A2 1 ((A 1).set (3 + 3 * i) (nI s))) 5 D := ⟨_, rfl⟩
    rw [← eA] at eb
    have a4 : aOK A4 := by rw [eA]; exact updA_ok hA3 hD
    have sn4 : Sn A A4 := by rw [eA]; exact (sn.upd (k := 1) (by omega)).upd (k := 5) (by omega)
    have e41 : A4 1 = (A 1).set (3 + 3 * i) (nI s) := by rw [eA]; rfl
    have hL4 : Lg (mSetO nw i (nI s)) (cTalk ct nw hr) (A4 5) := by rw [eA]; exact hL
    have g := hj.2.2.2.2.1
    have ag := s7_agr (d := d) (I := J) (L := []) (a0 := some (.int (nI i))) (a1 := some (.int y)) (a2 := some (.int (mO nw i))) (a3 := some (.int (nI (mayC (mayP ct nw sH sL sc hr i) s)))) (a4 := some (.int (mayM (mayP ct nw sH sL sc hr i) s))) (a5 := some (.int (nI s))) hl a4 (by rw [sJ 20 (by omega)]; exact g.1) g.2.1 (by rw [sn4 10 (by decide) (by decide) (by decide) (by decide) (by decide) (by decide) (by decide), sn4 11 (by decide) (by decide) (by decide) (by decide) (by decide) (by decide) (by decide)]; exact g.2.2) hL4 nl_int sc 0 true (Nat.zero_add _)
    rw [Bool.true_and, b2_t, show nI 0 = 0 from rfl, show mAg (mSetO nw i (nI s)) (cTalk ct nw hr) sH sL sc 0 = mayP ct nw sH sL sc hr i s from rfl] at ag
    have cl := mayC_le (P := mayP ct nw sH sL sc hr i) s
    obtain ⟨I3, A3, r1, r2, r3, r4⟩ := ih (s + 1) J A4 (nI s) (some (.int (b2 (mayP ct nw sH sL sc hr i s)))) (some (.int (nI sc))) (by omega) sJ a4 sn4 e41 nl_int
    refine ⟨I3, A3, r1, r2, r3, ?_⟩
    rw [← r4, mayC, mayM, e_144_36]
    have lt' := ltT (x := 32) (c := 32) rfl (show s < 32 by omega) (by omega)
    cases q : mayP ct nw sH sL sc hr i s with
    | false =>
      rw [q, b2_f] at ag
      rw [b2_f]
      simp (maxSteps := 1000000) (disch := first | exact nl_int | exact nl_ref | exact nl_none | exact Nat.le_of_ble_eq_true rfl | assumption | exact wD_cl (by assumption) | exact cat_int | exact cat_ref | exact z2 | exact z4 | exact z3 | exact z5 | exact z6 | exact z8 | exact z64) only [e_144_0, e_144_1, e_144_2, e_144_5, e_144_8, e_144_9, e_144_10, e_144_11, e_144_12, e_144_15, e_144_18, e_144_19, e_144_20, e_144_21, e_144_22, e_144_25, e_144_26, e_144_27, e_144_29, e_144_31, e_144_33, e_144_34, e_144_38, e_144_40, e_144_43, e_144_44, e_144_47, e_144_48, e_144_49, e_144_50, e_144_51, e_144_52, e_144_54, e_144_55, e_144_56, e_144_57, e_144_60, e_144_63, e_144_64, e_144_66, e_144_67, e_144_71, e_144_72, e_144_75, e_144_78, e_144_80, e_144_83, e_144_84, e_144_87, e_144_88, e_144_91, e_144_93, e_144_94, e_144_95, e_144_96, e_144_99, e_144_101, e_144_102, e_144_105, e_144_106, e_144_109, e_144_110, e_144_112, e_144_115, e_144_118, e_144_120, e_144_123, e_144_125, e_144_128, e_144_130, e_144_133, e_144_135, e_144_137, e_144_139, e_144_141, e_144_144, e_144_145, e_144_148, e_144_149, e_144_150, e_144_152, e_144_155, e_144_158, e_144_159, e_144_162, e_144_163, e_144_164, e_144_165, e_144_166, e_144_167, e_144_168, e_144_169, e_144_170, e_144_173, e_144_175, e_144_178, e_144_180, nl_int, nl_ref, nl_none, cat_int, cat_ref, cat_0, cat_i, cat_r, cat_l, Option.elim_some, Option.elim_none, Option.bind_some, Option.bind_none, Option.toList_some, Option.toList_none, List.cons_append, List.nil_append, Nat.reduceAdd, Nat.reduceLeDiff, lt', if_true, wD_f1 hl, ix, sx, tk, eb, ag, z0, Int32.add_zero, Bool.false_eq_true, if_false, Nat.add_zero, nI_1]
    | true =>
      rw [q, b2_t] at ag
      rw [b2_t]
      by_cases q0 : mayC (mayP ct nw sH sL sc hr i) s = 0
      · have q1 : nI (mayC (mayP ct nw sH sL sc hr i) s) = 0 := by rw [q0]; rfl
        simp (maxSteps := 1000000) (disch := first | exact nl_int | exact nl_ref | exact nl_none | exact Nat.le_of_ble_eq_true rfl | assumption | exact wD_cl (by assumption) | exact cat_int | exact cat_ref | exact z2 | exact z4 | exact z3 | exact z5 | exact z6 | exact z8 | exact z64) only [e_144_0, e_144_1, e_144_2, e_144_5, e_144_8, e_144_9, e_144_10, e_144_11, e_144_12, e_144_15, e_144_18, e_144_19, e_144_20, e_144_21, e_144_22, e_144_25, e_144_26, e_144_27, e_144_29, e_144_31, e_144_33, e_144_34, e_144_38, e_144_40, e_144_43, e_144_44, e_144_47, e_144_48, e_144_49, e_144_50, e_144_51, e_144_52, e_144_54, e_144_55, e_144_56, e_144_57, e_144_60, e_144_63, e_144_64, e_144_66, e_144_67, e_144_71, e_144_72, e_144_75, e_144_78, e_144_80, e_144_83, e_144_84, e_144_87, e_144_88, e_144_91, e_144_93, e_144_94, e_144_95, e_144_96, e_144_99, e_144_101, e_144_102, e_144_105, e_144_106, e_144_109, e_144_110, e_144_112, e_144_115, e_144_118, e_144_120, e_144_123, e_144_125, e_144_128, e_144_130, e_144_133, e_144_135, e_144_137, e_144_139, e_144_141, e_144_144, e_144_145, e_144_148, e_144_149, e_144_150, e_144_152, e_144_155, e_144_158, e_144_159, e_144_162, e_144_163, e_144_164, e_144_165, e_144_166, e_144_167, e_144_168, e_144_169, e_144_170, e_144_173, e_144_175, e_144_178, e_144_180, nl_int, nl_ref, nl_none, cat_int, cat_ref, cat_0, cat_i, cat_r, cat_l, Option.elim_some, Option.elim_none, Option.bind_some, Option.bind_none, Option.toList_some, Option.toList_none, List.cons_append, List.nil_append, Nat.reduceAdd, Nat.reduceLeDiff, lt', if_true, wD_f1 hl, ix, sx, tk, eb, ag, z1, if_false, if_pos q1, if_pos q0, nI_1]
      · have q1 : ¬ nI (mayC (mayP ct nw sH sL sc hr i) s) = 0 := nI_ne0 (by omega) (by omega)
        simp (maxSteps := 1000000) (disch := first | exact nl_int | exact nl_ref | exact nl_none | exact Nat.le_of_ble_eq_true rfl | assumption | exact wD_cl (by assumption) | exact cat_int | exact cat_ref | exact z2 | exact z4 | exact z3 | exact z5 | exact z6 | exact z8 | exact z64) only [e_144_0, e_144_1, e_144_2, e_144_5, e_144_8, e_144_9, e_144_10, e_144_11, e_144_12, e_144_15, e_144_18, e_144_19, e_144_20, e_144_21, e_144_22, e_144_25, e_144_26, e_144_27, e_144_29, e_144_31, e_144_33, e_144_34, e_144_38, e_144_40, e_144_43, e_144_44, e_144_47, e_144_48, e_144_49, e_144_50, e_144_51, e_144_52, e_144_54, e_144_55, e_144_56, e_144_57, e_144_60, e_144_63, e_144_64, e_144_66, e_144_67, e_144_71, e_144_72, e_144_75, e_144_78, e_144_80, e_144_83, e_144_84, e_144_87, e_144_88, e_144_91, e_144_93, e_144_94, e_144_95, e_144_96, e_144_99, e_144_101, e_144_102, e_144_105, e_144_106, e_144_109, e_144_110, e_144_112, e_144_115, e_144_118, e_144_120, e_144_123, e_144_125, e_144_128, e_144_130, e_144_133, e_144_135, e_144_137, e_144_139, e_144_141, e_144_144, e_144_145, e_144_148, e_144_149, e_144_150, e_144_152, e_144_155, e_144_158, e_144_159, e_144_162, e_144_163, e_144_164, e_144_165, e_144_166, e_144_167, e_144_168, e_144_169, e_144_170, e_144_173, e_144_175, e_144_178, e_144_180, nl_int, nl_ref, nl_none, cat_int, cat_ref, cat_0, cat_i, cat_r, cat_l, Option.elim_some, Option.elim_none, Option.bind_some, Option.bind_none, Option.toList_some, Option.toList_none, List.cons_append, List.nil_append, Nat.reduceAdd, Nat.reduceLeDiff, lt', if_true, wD_f1 hl, ix, sx, tk, eb, ag, z1, if_false, if_neg q1, if_neg q0, nI_1]
theorem p_may (hJ : JJ hp) : Pr d 67 [some (.ref 0), some (.int x), some (.int y), none, none, none] 144 [some (.ref 141), some (.int x), some (.int y), none, none, none, none, none, none] hp := by
  obtain ⟨hl, tx, ct, nw, pm, pn, ph, km, kc, sH, sL, sc, hr, I, A, hS, hD, hj⟩ := hJ
  have ok := hj.1
  have p8 := ok.p8
  have h9 := hj.2.1
  by_cases q : inR x (cPp ct) = false ∨ y < 0 ∨ 1 < y
  · refine Pr_ask hl hD hj (Run.same hS (s_may0 hS q)) (fun hp hl => Ask.same ok.1 ?_)
    cases q1 : inR x (cPp ct) with
    | false => simp (maxSteps := 1000000) (disch := first | exact nl_int | exact nl_ref | exact nl_none | exact Nat.le_of_ble_eq_true rfl | assumption | exact wD_cl (by assumption) | exact cat_int | exact cat_ref | exact z2 | exact z4 | exact z3 | exact z5 | exact z6 | exact z8 | exact z64) only [e_144_0, e_144_1, e_144_2, e_144_5, e_144_8, e_144_9, e_144_10, e_144_11, e_144_12, e_144_15, e_144_18, e_144_19, e_144_20, e_144_21, e_144_22, e_144_25, e_144_26, e_144_27, e_144_29, e_144_31, e_144_33, e_144_34, e_144_38, e_144_40, e_144_43, e_144_44, e_144_47, e_144_48, e_144_49, e_144_50, e_144_51, e_144_52, e_144_54, e_144_55, e_144_56, e_144_57, e_144_60, e_144_63, e_144_64, e_144_66, e_144_67, e_144_71, e_144_72, e_144_75, e_144_78, e_144_80, e_144_83, e_144_84, e_144_87, e_144_88, e_144_91, e_144_93, e_144_94, e_144_95, e_144_96, e_144_99, e_144_101, e_144_102, e_144_105, e_144_106, e_144_109, e_144_110, e_144_112, e_144_115, e_144_118, e_144_120, e_144_123, e_144_125, e_144_128, e_144_130, e_144_133, e_144_135, e_144_137, e_144_139, e_144_141, e_144_144, e_144_145, e_144_148, e_144_149, e_144_150, e_144_152, e_144_155, e_144_158, e_144_159, e_144_162, e_144_163, e_144_164, e_144_165, e_144_166, e_144_167, e_144_168, e_144_169, e_144_170, e_144_173, e_144_175, e_144_178, e_144_180, nl_int, nl_ref, nl_none, cat_int, cat_ref, cat_0, cat_i, cat_r, cat_l, Option.elim_some, Option.elim_none, Option.bind_some, Option.bind_none, Option.toList_some, Option.toList_none, List.cons_append, List.nil_append, Nat.reduceAdd, Nat.reduceLeDiff, s7_ip0 (d := d + 10) hl ok q1, z0, if_true]
    | true =>
      obtain ⟨i, hi, rfl⟩ := inR_t q1 (by omega)
      have q2 : y < 0 ∨ 1 < y := q.resolve_left (by rw [q1]; decide)
      simp (maxSteps := 1000000) (disch := first | exact nl_int | exact nl_ref | exact nl_none | exact Nat.le_of_ble_eq_true rfl | assumption | exact wD_cl (by assumption) | exact cat_int | exact cat_ref | exact z2 | exact z4 | exact z3 | exact z5 | exact z6 | exact z8 | exact z64) only [e_144_0, e_144_1, e_144_2, e_144_5, e_144_8, e_144_9, e_144_10, e_144_11, e_144_12, e_144_15, e_144_18, e_144_19, e_144_20, e_144_21, e_144_22, e_144_25, e_144_26, e_144_27, e_144_29, e_144_31, e_144_33, e_144_34, e_144_38, e_144_40, e_144_43, e_144_44, e_144_47, e_144_48, e_144_49, e_144_50, e_144_51, e_144_52, e_144_54, e_144_55, e_144_56, e_144_57, e_144_60, e_144_63, e_144_64, e_144_66, e_144_67, e_144_71, e_144_72, e_144_75, e_144_78, e_144_80, e_144_83, e_144_84, e_144_87, e_144_88, e_144_91, e_144_93, e_144_94, e_144_95, e_144_96, e_144_99, e_144_101, e_144_102, e_144_105, e_144_106, e_144_109, e_144_110, e_144_112, e_144_115, e_144_118, e_144_120, e_144_123, e_144_125, e_144_128, e_144_130, e_144_133, e_144_135, e_144_137, e_144_139, e_144_141, e_144_144, e_144_145, e_144_148, e_144_149, e_144_150, e_144_152, e_144_155, e_144_158, e_144_159, e_144_162, e_144_163, e_144_164, e_144_165, e_144_166, e_144_167, e_144_168, e_144_169, e_144_170, e_144_173, e_144_175, e_144_178, e_144_180, nl_int, nl_ref, nl_none, cat_int, cat_ref, cat_0, cat_i, cat_r, cat_l, Option.elim_some, Option.elim_none, Option.bind_some, Option.bind_none, Option.toList_some, Option.toList_none, List.cons_append, List.nil_append, Nat.reduceAdd, Nat.reduceLeDiff, s7_ip1 (d := d + 10) hl ok hi, z1, if_false, s7_in0 (d := d + 11) (lo := 0) (hi := 1) (a := 0) (c := 1) q2 (by decide) (by decide), z0, if_true]
  · have q1 : inR x (cPp ct) = true := by
      cases w : inR x (cPp ct) with
      | true => rfl
      | false => exact absurd (Or.inl w) q
    have w1 : ¬ y < 0 := fun w => q (Or.inr (Or.inl w))
    have w2 : ¬ 1 < y := fun w => q (Or.inr (Or.inr w))
    obtain ⟨i, hi, rfl⟩ := inR_t q1 (by omega)
    refine Pr_ask hl hD hj (s_may1 hS ok.2.2.2.2.2.2 (by omega) hi w1 w2) (fun hp hl => ?_)
    rw [aMay_eq]
    have hC : (A 1).length = 27 := ok.1 1 (by decide)
    have e1 : A 1 = (A 1).set (3 + 3 * i) (mO nw i) := by
      apply list8 27 hC ((List.length_set).trans hC)
      intro k hk
      rw [getD_set (by omega)]
      by_cases q : 3 + 3 * i = k
      · rw [if_pos q, ← q]; exact (ok.2.1.2.2.2.2.2 i hi).1
      · rw [if_neg q]
    obtain ⟨I3, A3, r1, r2, r3, r4⟩ := s7_may (d := d) (y := y) hl hj hi 32 0 I A (mO nw i) none none rfl Si.rfl' ok.1 Sn.rfl' e1 rfl
    refine ⟨I3, A3, r1, r2, r3, ?_⟩
    have fin : (if y = 0 then nI (mayC (mayP ct nw sH sL sc hr i) 32) else mayM (mayP ct nw sH sL sc hr i) 32) = (if y = 0 then (0 + nI (mayC (mayP ct nw sH sL sc hr i) 32), if mayC (mayP ct nw sH sL sc hr i) 32 = 0 then (-4 : Int32) else mayM (mayP ct nw sH sL sc hr i) 32).fst else (0 + nI (mayC (mayP ct nw sH sL sc hr i) 32), if mayC (mayP ct nw sH sL sc hr i) 32 = 0 then (-4 : Int32) else mayM (mayP ct nw sH sL sc hr i) 32).snd) := by
      dsimp only
      rw [Int32.zero_add]
      have m0 : ∀ n, mayC (mayP ct nw sH sL sc hr i) n = 0 → mayM (mayP ct nw sH sL sc hr i) n = -4 := by
        intro n
        induction n with
        | zero => intro _; rfl
        | succ n ih =>
          intro q
          rw [mayC] at q
          rw [mayM]
          by_cases w : mayP ct nw sH sL sc hr i n = true
          · rw [if_pos w] at q; omega
          · rw [if_neg w]; exact ih (by omega)
      by_cases q0 : mayC (mayP ct nw sH sL sc hr i) 32 = 0
      · rw [if_pos q0, m0 32 q0]
      · rw [if_neg q0]
    rw [← fin, ← r4, mayC, mayM, show nI 0 = 0 from rfl]
    simp (maxSteps := 1000000) (disch := first | exact nl_int | exact nl_ref | exact nl_none | exact Nat.le_of_ble_eq_true rfl | assumption | exact wD_cl (by assumption) | exact cat_int | exact cat_ref | exact z2 | exact z4 | exact z3 | exact z5 | exact z6 | exact z8 | exact z64) only [e_144_0, e_144_1, e_144_2, e_144_5, e_144_8, e_144_9, e_144_10, e_144_11, e_144_12, e_144_15, e_144_18, e_144_19, e_144_20, e_144_21, e_144_22, e_144_25, e_144_26, e_144_27, e_144_29, e_144_31, e_144_33, e_144_34, e_144_38, e_144_40, e_144_43, e_144_44, e_144_47, e_144_48, e_144_49, e_144_50, e_144_51, e_144_52, e_144_54, e_144_55, e_144_56, e_144_57, e_144_60, e_144_63, e_144_64, e_144_66, e_144_67, e_144_71, e_144_72, e_144_75, e_144_78, e_144_80, e_144_83, e_144_84, e_144_87, e_144_88, e_144_91, e_144_93, e_144_94, e_144_95, e_144_96, e_144_99, e_144_101, e_144_102, e_144_105, e_144_106, e_144_109, e_144_110, e_144_112, e_144_115, e_144_118, e_144_120, e_144_123, e_144_125, e_144_128, e_144_130, e_144_133, e_144_135, e_144_137, e_144_139, e_144_141, e_144_144, e_144_145, e_144_148, e_144_149, e_144_150, e_144_152, e_144_155, e_144_158, e_144_159, e_144_162, e_144_163, e_144_164, e_144_165, e_144_166, e_144_167, e_144_168, e_144_169, e_144_170, e_144_173, e_144_175, e_144_178, e_144_180, nl_int, nl_ref, nl_none, cat_int, cat_ref, cat_0, cat_i, cat_r, cat_l, Option.elim_some, Option.elim_none, Option.bind_some, Option.bind_none, Option.toList_some, Option.toList_none, List.cons_append, List.nil_append, Nat.reduceAdd, Nat.reduceLeDiff, s7_ip1 (d := d + 10) hl ok hi, z1, if_false, s7_in1 (d := d + 11) (lo := 0) (hi := 1) (a := 0) (c := 1) w1 w2 (by decide) (by decide), s7_op (d := d + 11) hl ok.1 ok.2.1 hi p8]
end MDJ
