/-! THE REFERENCE: burns -/
theorem updI_s {I : Nat → Int32} {j : Nat} {x : Int32} : updI I j x j = x := if_pos rfl
theorem updI_updI {I : Nat → Int32} {j : Nat} {x y : Int32} : updI (updI I j x) j y = updI I j y := by
  funext k
  unfold updI
  split <;> rfl
theorem updI_self {I : Nat → Int32} {j : Nat} : updI I j (I j) = I := by
  funext k
  unfold updI
  split
  · rename_i q; rw [q]
  · rfl
theorem updA_self {A : Nat → List Int32} {j : Nat} : updA A j (A j) = A := by
  funext k
  unfold updA
  split
  · rename_i q; rw [q]
  · rfl
theorem am_for_congr {σ : Type} {f g : Nat → σ → σ} : ∀ (n j : Nat) (s : σ), (∀ i s, j ≤ i → i < j + n → f i s = g i s) → am_for f j n s = am_for g j n s := by
  intro n
  induction n with
  | zero => intro j s _; rfl
  | succ n ih =>
    intro j s h
    rw [am_for, am_for, h j s (by omega) (by omega)]
    exact ih (j + 1) _ (fun i s h1 h2 => h i s (by omega) (by omega))
/-- bits of five houses -/
def smk (G : Nat → Bool) : Int32 := am_for (fun h s => if G h = true then s ||| ((1 : Int32) <<< (nI h &&& 31)) else s) 0 5 0
def sk5 (a b c d e : Bool) : Int32 := am_for (fun h s => if ([a, b, c, d, e].getD h false) = true then s ||| ((1 : Int32) <<< (nI h &&& 31)) else s) 0 5 0
theorem smk_sk (G : Nat → Bool) : smk G = sk5 (G 0) (G 1) (G 2) (G 3) (G 4) := rfl
theorem sk5_or : ∀ a b c d e : Bool, (sk5 a b c d e ||| ((1 : Int32) <<< (nI 0 &&& 31)) = sk5 true b c d e) ∧ (sk5 a b c d e ||| ((1 : Int32) <<< (nI 1 &&& 31)) = sk5 a true c d e) ∧ (sk5 a b c d e ||| ((1 : Int32) <<< (nI 2 &&& 31)) = sk5 a b true d e) ∧ (sk5 a b c d e ||| ((1 : Int32) <<< (nI 3 &&& 31)) = sk5 a b c true e) ∧ (sk5 a b c d e ||| ((1 : Int32) <<< (nI 4 &&& 31)) = sk5 a b c d true) := by decide +kernel
theorem smk_or {G : Nat → Bool} : ∀ {h : Nat}, h < 5 → smk G ||| ((1 : Int32) <<< (nI h &&& 31)) = smk (fun k => G k || decide (h = k))
  | 0, _ => by rw [smk_sk, smk_sk, (sk5_or _ _ _ _ _).1]; simp
  | 1, _ => by rw [smk_sk, smk_sk, (sk5_or _ _ _ _ _).2.1]; simp
  | 2, _ => by rw [smk_sk, smk_sk, (sk5_or _ _ _ _ _).2.2.1]; simp
  | 3, _ => by rw [smk_sk, smk_sk, (sk5_or _ _ _ _ _).2.2.2.1]; simp
  | 4, _ => by rw [smk_sk, smk_sk, (sk5_or _ _ _ _ _).2.2.2.2]; simp
  | n + 5, q => absurd q (by omega)
theorem smk_congr {G G2 : Nat → Bool} (h : ∀ k, k < 5 → G k = G2 k) : smk G = smk G2 := by
  rw [smk_sk, smk_sk, h 0 (by decide), h 1 (by decide), h 2 (by decide), h 3 (by decide), h 4 (by decide)]
theorem smk_0 : smk (fun _ => false) = 0 := by decide +kernel
/-- what two add to a house's light, to a house's smoke -/
def plF (m : am_Mo) (h : Nat) (t : Int32) (i j : Nat) (s : Int32) : Int32 := if mH m i = nI h then mLi2 m (nI h) t i j s else s
def psF (m : am_Mo) (h : Nat) (t : Int32) (i j : Nat) (b : Bool) : Bool := b || (decide (mH m i = nI h) && (decide (mH m j = nI h) && (mFP m i j && !decide (mQ m i j t = 0))))
def plG (m : am_Mo) (h p : Nat) (t : Int32) (i : Nat) (s : Int32) : Int32 := am_for (plF m h t i) (i + 1) (p - 1 - i) s
def psG (m : am_Mo) (h p : Nat) (t : Int32) (i : Nat) (b : Bool) : Bool := am_for (psF m h t i) (i + 1) (p - 1 - i) b
section MDB
variable {d : Nat} {hp hp2 : am_H} {I : Nat → Int32} {A : Nat → List Int32} {i j k n b p hr tt : Nat} {x y t : Int32} {B C : List Int32} {ct : am_Ci} {nw : am_Mo}
theorem s7_bj (hl : 154 < hp.length) (hA : aOK A) (hR : Rl ct nw hr (A 0) (A 1)) (hN : Nm ct nw) (ht : tt < 32) (hi : i < cPp ct) : ∀ n j (D : List Int32) (G : Nat → Bool) l4 l5 l6, j + n = cPp ct → D.length = 5 → ∃ D2 G2 m4 m5 m6, D2.length = 5 ∧ (∀ h, h < 5 → D2.getD h 0 = am_for (plF nw h (nI tt) i) j n (D.getD h 0)) ∧ (∀ h, h < 5 → G2 h = am_for (psF nw h (nI tt) i) j n (G h)) ∧ am_E (d + 3) 113 41 [some (.ref 141), some (.int (nI tt)), some (.int (nI i)), some (.int (nI j)), l4, l5, l6] [] (wD hp (updI I 10 (smk G)) (updA A 5 D)) = am_E (d + 3) 113 174 [some (.ref 141), some (.int (nI tt)), some (.int (nI i)), some (.int (nI (cPp ct))), m4, m5, m6] [] (wD hp (updI I 10 (smk G2)) (updA A 5 D2)) := by
  have h8 := hN.2.2.1
  have h5 := hN.2.2.2
  intro n
  induction n with
  | zero =>
    intro j D G l4 l5 l6 hj hD
    refine ⟨D, G, l4, l5, l6, hD, fun _ _ => rfl, fun _ _ => rfl, ?_⟩
    obtain rfl : j = cPp ct := by omega
    have hA2 : aOK (updA A 5 D) := updA_ok hA hD
    have m0 : am_ld (wD hp (updI I 10 (smk G)) (updA A 5 D)) 143 0 = some (nI (cPp ct)) := by
      rw [wD_l1 (x := 0) (k := 0) rfl hl hA2 (by decide)]
      exact congrArg some hR.2.2.2.2.1.1
    rw [e_113_41]
    simp (maxSteps := 1000000) (disch := first | exact nl_int | exact nl_ref | exact nl_none | exact Nat.le_of_ble_eq_true rfl | assumption | exact wD_cl (by assumption) | exact cat_int | exact cat_ref | exact z2 | exact z4 | exact z3 | exact z5 | exact z6 | exact z8 | exact z64) only [e_113_0, e_113_1, e_113_3, e_113_4, e_113_7, e_113_8, e_113_11, e_113_12, e_113_13, e_113_14, e_113_17, e_113_20, e_113_21, e_113_22, e_113_25, e_113_26, e_113_28, e_113_29, e_113_32, e_113_33, e_113_34, e_113_37, e_113_38, e_113_39, e_113_40, e_113_42, e_113_43, e_113_46, e_113_47, e_113_48, e_113_51, e_113_52, e_113_53, e_113_54, e_113_55, e_113_58, e_113_60, e_113_61, e_113_64, e_113_65, e_113_66, e_113_67, e_113_68, e_113_69, e_113_72, e_113_73, e_113_76, e_113_77, e_113_78, e_113_79, e_113_80, e_113_81, e_113_84, e_113_85, e_113_88, e_113_89, e_113_91, e_113_93, e_113_94, e_113_95, e_113_98, e_113_99, e_113_100, e_113_103, e_113_104, e_113_105, e_113_106, e_113_107, e_113_108, e_113_109, e_113_111, e_113_112, e_113_115, e_113_116, e_113_117, e_113_120, e_113_121, e_113_122, e_113_124, e_113_127, e_113_129, e_113_130, e_113_131, e_113_134, e_113_136, e_113_137, e_113_138, e_113_139, e_113_140, e_113_143, e_113_145, e_113_148, e_113_150, e_113_153, e_113_154, e_113_155, e_113_156, e_113_159, e_113_160, e_113_163, e_113_164, e_113_165, e_113_168, e_113_171, e_113_177, e_113_180, e_113_181, e_113_183, e_113_184, e_113_187, e_113_188, e_113_191, e_113_192, e_113_193, e_113_196, e_113_197, e_113_198, e_113_200, e_113_203, e_113_205, e_113_208, e_113_209, e_113_212, e_113_213, e_113_214, e_113_215, e_113_218, e_113_221, nl_int, nl_ref, nl_none, cat_int, cat_ref, cat_0, cat_i, cat_r, cat_l, Option.elim_some, Option.elim_none, Option.bind_some, Option.bind_none, Option.toList_some, Option.toList_none, List.cons_append, List.nil_append, Nat.reduceAdd, Nat.reduceLeDiff, wD_f1 hl, m0, ltF (x := nI (cPp ct)) (c := cPp ct) rfl (Nat.le_refl _) (by omega), if_false]
  | succ n ih =>
    intro j D G l4 l5 l6 hj hD
    have j8 : j < cPp ct := by omega
    have hA2 : aOK (updA A 5 D) := updA_ok hA hD
    have hR2 : Rl ct nw hr ((updA A 5 D) 0) ((updA A 5 D) 1) := hR
    have hcl := wD_cl (I := updI I 10 (smk G)) (A := updA A 5 D) hl
    have m0 : am_ld (wD hp (updI I 10 (smk G)) (updA A 5 D)) 143 0 = some (nI (cPp ct)) := by
      rw [wD_l1 (x := 0) (k := 0) rfl hl hA2 (by decide)]
      exact congrArg some hR.2.2.2.2.1.1
    have a1 := ltT (x := nI (cPp ct)) (c := cPp ct) rfl j8 (by omega)
    obtain ⟨o, t1, hh, ho, ht1, hhh, eo, et, eh⟩ := hN.1 i hi
    have h55 : hh < 5 := by omega
    obtain ⟨od, eod⟩ : ∃ od, od = (if mTog nw i j = true then bitc (mQ nw i j (nI tt)) else 0) := ⟨_, rfl⟩
    have sod := s7_odds (d := d) (I := updI I 10 (smk G)) (A := updA A 5 D) hl hA2 hR2 hN hi j8 ht
    rw [← eod] at sod
    have l5' : am_ld (wD hp (updI I 10 (smk G)) (updA A 5 D)) 147 (nI hh) = some (D.getD hh 0) := by
      rw [wD_l5 (k := hh) rfl hl hA2 h55]
      rfl
    have s5 : ∀ z, am_sx (wD hp (updI I 10 (smk G)) (updA A 5 D)) 147 (nI hh) z = some (wD hp (updI I 10 (smk G)) (updA A 5 (D.set hh z))) := fun z => by
      rw [wD_s5 (k := hh) rfl hl hA2 h55, updA_updA]
      rfl
    have hcl2 : ∀ D2, am_isC (wD hp (updI I 10 (smk G)) (updA A 5 D2)) 141 7 = true := fun D2 => wD_cl hl
    have sho : ∀ D2 : List Int32, D2.length = 5 → am_E (d + 2) 98 0 [some (.ref 141), some (.int (nI i))] [] (wD hp (updI I 10 (smk G)) (updA A 5 D2)) = some (some (.int (nI hh)), wD hp (updI I 10 (smk G)) (updA A 5 D2)) := fun D2 h2 => by
      rw [← eh]
      exact s7_ho (A := updA A 5 D2) hl (updA_ok hA h2) hR hi h8
    have cont : ∀ v c (fl : Int32), (∀ h, h < 5 → (D.set hh (D.getD hh 0 + v)).getD h 0 = plF nw h (nI tt) i j (D.getD h 0)) → (∀ h, h < 5 → (if c = true then (G h || decide (hh = h)) else G h) = psF nw h (nI tt) i j (G h)) → ∀ z4 z5 z6, ∃ D2 G2 m4 m5 m6, D2.length = 5 ∧ (∀ h, h < 5 → D2.getD h 0 = am_for (plF nw h (nI tt) i) j (n + 1) (D.getD h 0)) ∧ (∀ h, h < 5 → G2 h = am_for (psF nw h (nI tt) i) j (n + 1) (G h)) ∧ am_E (d + 3) 113 41 [some (.ref 141), some (.int (nI tt)), some (.int (nI i)), some (.int (nI (j + 1))), z4, z5, z6] [] (wD hp (updI I 10 (smk G ||| if c = true then ((1 : Int32) <<< (nI hh &&& 31)) else 0)) (updA A 5 (D.set hh (D.getD hh 0 + v)))) = am_E (d + 3) 113 174 [some (.ref 141), some (.int (nI tt)), some (.int (nI i)), some (.int (nI (cPp ct))), m4, m5, m6] [] (wD hp (updI I 10 (smk G2)) (updA A 5 D2)) := by
      intro v c fl hv hc z4 z5 z6
      obtain ⟨D2, G2, m4, m5, m6, q1, q2, q3, q4⟩ := ih (j + 1) (D.set hh (D.getD hh 0 + v)) (fun h => if c = true then (G h || decide (hh = h)) else G h) z4 z5 z6 (by omega) ((List.length_set).trans hD)
      refine ⟨D2, G2, m4, m5, m6, q1, fun h h5 => ?_, fun h h5 => ?_, ?_⟩
      · rw [q2 h h5, am_for, hv h h5]
      · rw [q3 h h5, am_for, hc h h5]
      · rw [← q4]
        have es : (smk G ||| if c = true then ((1 : Int32) <<< (nI hh &&& 31)) else 0) = smk (fun h => if c = true then (G h || decide (hh = h)) else G h) := by
          cases c with
          | true => simp only [if_true]; exact smk_or h55
          | false => simp only [Bool.false_eq_true, if_false, Int32.or_zero]
        rw [es]
    have tgE := mTog_eq (j := j) hN hi
    have hvv : ∀ h, h < 5 → (D.set hh (D.getD hh 0 + (if mFP nw i j = true then od * ((mT nw i + mT nw j) / 4 + 1) / 2 else od * ((mT nw i + mT nw j) / 4 + 1)))).getD h 0 = plF nw h (nI tt) i j (D.getD h 0) := by
      intro h h5
      rw [getD_set (by omega)]
      unfold plF mLi2
      by_cases q : hh = h
      · subst q
        rw [if_pos rfl, if_pos eh]
        by_cases q2 : mH nw j = nI hh
        · rw [if_pos q2]
          have : mTog nw i j = true := by rw [tgE, eh, q2]; exact decide_eq_true rfl
          rw [eod, this, if_pos rfl]
          unfold mL2
          cases mFP nw i j <;> rfl
        · rw [if_neg q2]
          have : mTog nw i j = false := by rw [tgE, eh]; exact decide_eq_false (fun z => q2 z.symm)
          rw [eod, this, if_neg (show ¬ (false = true) by decide), Int32.zero_mul]
          cases mFP nw i j <;> simp
      · rw [if_neg q, if_neg (by rw [eh]; exact fun z => q ((nI_eq (by omega) (by omega)).mp z))]
    have hcc : ∀ h, h < 5 → (if (mFP nw i j && decide (0 < od)) = true then (G h || decide (hh = h)) else G h) = psF nw h (nI tt) i j (G h) := by
      intro h h5
      unfold psF
      have e1 : decide (mH nw i = nI h) = decide (hh = h) := by
        rw [eh]
        exact decide_eq_decide.mpr (nI_eq (by omega) (by omega))
      rw [e1]
      by_cases q : hh = h
      · subst q
        rw [decide_eq_true rfl]
        by_cases q2 : mH nw j = nI hh
        · have tg : mTog nw i j = true := by rw [tgE, eh, q2]; exact decide_eq_true rfl
          rw [decide_eq_true q2, eod, tg, if_pos rfl]
          have e2 : decide (0 < bitc (mQ nw i j (nI tt))) = !decide (mQ nw i j (nI tt) = 0) := by
            rw [← decide_not]
            exact decide_eq_decide.mpr (mQ_pos hN hi j8 ht)
          rw [e2]
          cases mFP nw i j <;> cases (decide (mQ nw i j (nI tt) = 0)) <;> cases G hh <;> rfl
        · have tg : mTog nw i j = false := by rw [tgE, eh]; exact decide_eq_false (fun z => q2 z.symm)
          rw [decide_eq_false q2, eod, tg, if_neg (show ¬ (false = true) by decide), show decide ((0 : Int32) < 0) = false from by decide]
          cases mFP nw i j <;> cases G hh <;> rfl
      · rw [decide_eq_false q]
        cases (mFP nw i j && decide (0 < od)) <;> cases G h <;> rfl
    obtain ⟨D2, G2, m4, m5, m6, q1, q2, q3, q4⟩ := cont _ _ 0 hvv hcc (some (.int od)) (some (.int (b2 (mFP nw i j)))) (some (.int (od * ((mT nw i + mT nw j) / 4 + 1))))
    refine ⟨D2, G2, m4, m5, m6, q1, q2, q3, ?_⟩
    rw [← q4, e_113_41]
    have hD2 : ∀ z, (D.set hh z).length = 5 := fun z => (List.length_set).trans hD
    by_cases r1 : mK nw i = 2
    · have fp : mFP nw i j = true := by unfold mFP; rw [if_pos r1]
      by_cases r2 : 0 < od
      · simp only [fp, if_true, Bool.true_and, decide_eq_true r2, b2_t]
        simp (maxSteps := 1000000) (disch := first | exact nl_int | exact nl_ref | exact nl_none | exact Nat.le_of_ble_eq_true rfl | assumption | exact wD_cl (by assumption) | exact cat_int | exact cat_ref | exact z2 | exact z4 | exact z3 | exact z5 | exact z6 | exact z8 | exact z64) only [e_113_0, e_113_1, e_113_3, e_113_4, e_113_7, e_113_8, e_113_11, e_113_12, e_113_13, e_113_14, e_113_17, e_113_20, e_113_21, e_113_22, e_113_25, e_113_26, e_113_28, e_113_29, e_113_32, e_113_33, e_113_34, e_113_37, e_113_38, e_113_39, e_113_40, e_113_42, e_113_43, e_113_46, e_113_47, e_113_48, e_113_51, e_113_52, e_113_53, e_113_54, e_113_55, e_113_58, e_113_60, e_113_61, e_113_64, e_113_65, e_113_66, e_113_67, e_113_68, e_113_69, e_113_72, e_113_73, e_113_76, e_113_77, e_113_78, e_113_79, e_113_80, e_113_81, e_113_84, e_113_85, e_113_88, e_113_89, e_113_91, e_113_93, e_113_94, e_113_95, e_113_98, e_113_99, e_113_100, e_113_103, e_113_104, e_113_105, e_113_106, e_113_107, e_113_108, e_113_109, e_113_111, e_113_112, e_113_115, e_113_116, e_113_117, e_113_120, e_113_121, e_113_122, e_113_124, e_113_127, e_113_129, e_113_130, e_113_131, e_113_134, e_113_136, e_113_137, e_113_138, e_113_139, e_113_140, e_113_143, e_113_145, e_113_148, e_113_150, e_113_153, e_113_154, e_113_155, e_113_156, e_113_159, e_113_160, e_113_163, e_113_164, e_113_165, e_113_168, e_113_171, e_113_174, e_113_177, e_113_180, e_113_181, e_113_183, e_113_184, e_113_187, e_113_188, e_113_191, e_113_192, e_113_193, e_113_196, e_113_197, e_113_198, e_113_200, e_113_203, e_113_205, e_113_208, e_113_209, e_113_212, e_113_213, e_113_214, e_113_215, e_113_218, e_113_221, nl_int, nl_ref, nl_none, cat_int, cat_ref, cat_0, cat_i, cat_r, cat_l, Option.elim_some, Option.elim_none, Option.bind_some, Option.bind_none, Option.toList_some, Option.toList_none, List.cons_append, List.nil_append, Nat.reduceAdd, Nat.reduceLeDiff, wD_f0 hl, wD_f1 hl, wD_f9 hl, wD_f10 hl, updI_s, m0, a1, if_true, sod, ix3a, s7_kind hl hA2 hR2 hi h8, if_pos r1, s7_te hl hA2 hR2 hi h8, s7_te hl hA2 hR2 j8 h8, sho _ hD, l5', z1, if_false, s5, if_pos r2, hcl2, sho _ (hD2 _), wD_p10 hl, updI_updI, nI_1]
      · simp only [fp, if_true, Bool.true_and, decide_eq_false r2, b2_t, Bool.false_eq_true, if_false]
        simp (maxSteps := 1000000) (disch := first | exact nl_int | exact nl_ref | exact nl_none | exact Nat.le_of_ble_eq_true rfl | assumption | exact wD_cl (by assumption) | exact cat_int | exact cat_ref | exact z2 | exact z4 | exact z3 | exact z5 | exact z6 | exact z8 | exact z64) only [e_113_0, e_113_1, e_113_3, e_113_4, e_113_7, e_113_8, e_113_11, e_113_12, e_113_13, e_113_14, e_113_17, e_113_20, e_113_21, e_113_22, e_113_25, e_113_26, e_113_28, e_113_29, e_113_32, e_113_33, e_113_34, e_113_37, e_113_38, e_113_39, e_113_40, e_113_42, e_113_43, e_113_46, e_113_47, e_113_48, e_113_51, e_113_52, e_113_53, e_113_54, e_113_55, e_113_58, e_113_60, e_113_61, e_113_64, e_113_65, e_113_66, e_113_67, e_113_68, e_113_69, e_113_72, e_113_73, e_113_76, e_113_77, e_113_78, e_113_79, e_113_80, e_113_81, e_113_84, e_113_85, e_113_88, e_113_89, e_113_91, e_113_93, e_113_94, e_113_95, e_113_98, e_113_99, e_113_100, e_113_103, e_113_104, e_113_105, e_113_106, e_113_107, e_113_108, e_113_109, e_113_111, e_113_112, e_113_115, e_113_116, e_113_117, e_113_120, e_113_121, e_113_122, e_113_124, e_113_127, e_113_129, e_113_130, e_113_131, e_113_134, e_113_136, e_113_137, e_113_138, e_113_139, e_113_140, e_113_143, e_113_145, e_113_148, e_113_150, e_113_153, e_113_154, e_113_155, e_113_156, e_113_159, e_113_160, e_113_163, e_113_164, e_113_165, e_113_168, e_113_171, e_113_174, e_113_177, e_113_180, e_113_181, e_113_183, e_113_184, e_113_187, e_113_188, e_113_191, e_113_192, e_113_193, e_113_196, e_113_197, e_113_198, e_113_200, e_113_203, e_113_205, e_113_208, e_113_209, e_113_212, e_113_213, e_113_214, e_113_215, e_113_218, e_113_221, nl_int, nl_ref, nl_none, cat_int, cat_ref, cat_0, cat_i, cat_r, cat_l, Option.elim_some, Option.elim_none, Option.bind_some, Option.bind_none, Option.toList_some, Option.toList_none, List.cons_append, List.nil_append, Nat.reduceAdd, Nat.reduceLeDiff, wD_f0 hl, wD_f1 hl, wD_f9 hl, wD_f10 hl, updI_s, m0, a1, if_true, sod, ix3a, s7_kind hl hA2 hR2 hi h8, if_pos r1, s7_te hl hA2 hR2 hi h8, s7_te hl hA2 hR2 j8 h8, sho _ hD, l5', z1, if_false, s5, if_neg r2, hcl2, sho _ (hD2 _), wD_p10 hl, updI_updI, nI_1]
    · by_cases r3 : mK nw j = 2
      · have fp : mFP nw i j = true := by unfold mFP; rw [if_neg r1]; exact decide_eq_true r3
        by_cases r2 : 0 < od
        · simp only [fp, if_true, Bool.true_and, decide_eq_true r2, b2_t]
          simp (maxSteps := 1000000) (disch := first | exact nl_int | exact nl_ref | exact nl_none | exact Nat.le_of_ble_eq_true rfl | assumption | exact wD_cl (by assumption) | exact cat_int | exact cat_ref | exact z2 | exact z4 | exact z3 | exact z5 | exact z6 | exact z8 | exact z64) only [e_113_0, e_113_1, e_113_3, e_113_4, e_113_7, e_113_8, e_113_11, e_113_12, e_113_13, e_113_14, e_113_17, e_113_20, e_113_21, e_113_22, e_113_25, e_113_26, e_113_28, e_113_29, e_113_32, e_113_33, e_113_34, e_113_37, e_113_38, e_113_39, e_113_40, e_113_42, e_113_43, e_113_46, e_113_47, e_113_48, e_113_51, e_113_52, e_113_53, e_113_54, e_113_55, e_113_58, e_113_60, e_113_61, e_113_64, e_113_65, e_113_66, e_113_67, e_113_68, e_113_69, e_113_72, e_113_73, e_113_76, e_113_77, e_113_78, e_113_79, e_113_80, e_113_81, e_113_84, e_113_85, e_113_88, e_113_89, e_113_91, e_113_93, e_113_94, e_113_95, e_113_98, e_113_99, e_113_100, e_113_103, e_113_104, e_113_105, e_113_106, e_113_107, e_113_108, e_113_109, e_113_111, e_113_112, e_113_115, e_113_116, e_113_117, e_113_120, e_113_121, e_113_122, e_113_124, e_113_127, e_113_129, e_113_130, e_113_131, e_113_134, e_113_136, e_113_137, e_113_138, e_113_139, e_113_140, e_113_143, e_113_145, e_113_148, e_113_150, e_113_153, e_113_154, e_113_155, e_113_156, e_113_159, e_113_160, e_113_163, e_113_164, e_113_165, e_113_168, e_113_171, e_113_174, e_113_177, e_113_180, e_113_181, e_113_183, e_113_184, e_113_187, e_113_188, e_113_191, e_113_192, e_113_193, e_113_196, e_113_197, e_113_198, e_113_200, e_113_203, e_113_205, e_113_208, e_113_209, e_113_212, e_113_213, e_113_214, e_113_215, e_113_218, e_113_221, nl_int, nl_ref, nl_none, cat_int, cat_ref, cat_0, cat_i, cat_r, cat_l, Option.elim_some, Option.elim_none, Option.bind_some, Option.bind_none, Option.toList_some, Option.toList_none, List.cons_append, List.nil_append, Nat.reduceAdd, Nat.reduceLeDiff, wD_f0 hl, wD_f1 hl, wD_f9 hl, wD_f10 hl, updI_s, m0, a1, if_true, sod, ix3a, s7_kind hl hA2 hR2 hi h8, if_neg r1, s7_kind hl hA2 hR2 j8 h8, if_pos r3, s7_te hl hA2 hR2 hi h8, s7_te hl hA2 hR2 j8 h8, sho _ hD, l5', z1, if_false, s5, if_pos r2, hcl2, sho _ (hD2 _), wD_p10 hl, updI_updI, nI_1]
        · simp only [fp, if_true, Bool.true_and, decide_eq_false r2, b2_t, Bool.false_eq_true, if_false]
          simp (maxSteps := 1000000) (disch := first | exact nl_int | exact nl_ref | exact nl_none | exact Nat.le_of_ble_eq_true rfl | assumption | exact wD_cl (by assumption) | exact cat_int | exact cat_ref | exact z2 | exact z4 | exact z3 | exact z5 | exact z6 | exact z8 | exact z64) only [e_113_0, e_113_1, e_113_3, e_113_4, e_113_7, e_113_8, e_113_11, e_113_12, e_113_13, e_113_14, e_113_17, e_113_20, e_113_21, e_113_22, e_113_25, e_113_26, e_113_28, e_113_29, e_113_32, e_113_33, e_113_34, e_113_37, e_113_38, e_113_39, e_113_40, e_113_42, e_113_43, e_113_46, e_113_47, e_113_48, e_113_51, e_113_52, e_113_53, e_113_54, e_113_55, e_113_58, e_113_60, e_113_61, e_113_64, e_113_65, e_113_66, e_113_67, e_113_68, e_113_69, e_113_72, e_113_73, e_113_76, e_113_77, e_113_78, e_113_79, e_113_80, e_113_81, e_113_84, e_113_85, e_113_88, e_113_89, e_113_91, e_113_93, e_113_94, e_113_95, e_113_98, e_113_99, e_113_100, e_113_103, e_113_104, e_113_105, e_113_106, e_113_107, e_113_108, e_113_109, e_113_111, e_113_112, e_113_115, e_113_116, e_113_117, e_113_120, e_113_121, e_113_122, e_113_124, e_113_127, e_113_129, e_113_130, e_113_131, e_113_134, e_113_136, e_113_137, e_113_138, e_113_139, e_113_140, e_113_143, e_113_145, e_113_148, e_113_150, e_113_153, e_113_154, e_113_155, e_113_156, e_113_159, e_113_160, e_113_163, e_113_164, e_113_165, e_113_168, e_113_171, e_113_174, e_113_177, e_113_180, e_113_181, e_113_183, e_113_184, e_113_187, e_113_188, e_113_191, e_113_192, e_113_193, e_113_196, e_113_197, e_113_198, e_113_200, e_113_203, e_113_205, e_113_208, e_113_209, e_113_212, e_113_213, e_113_214, e_113_215, e_113_218, e_113_221, nl_int, nl_ref, nl_none, cat_int, cat_ref, cat_0, cat_i, cat_r, cat_l, Option.elim_some, Option.elim_none, Option.bind_some, Option.bind_none, Option.toList_some, Option.toList_none, List.cons_append, List.nil_append, Nat.reduceAdd, Nat.reduceLeDiff, wD_f0 hl, wD_f1 hl, wD_f9 hl, wD_f10 hl, updI_s, m0, a1, if_true, sod, ix3a, s7_kind hl hA2 hR2 hi h8, if_neg r1, s7_kind hl hA2 hR2 j8 h8, if_pos r3, s7_te hl hA2 hR2 hi h8, s7_te hl hA2 hR2 j8 h8, sho _ hD, l5', z1, if_false, s5, if_neg r2, hcl2, sho _ (hD2 _), wD_p10 hl, updI_updI, nI_1]
      · have fp : mFP nw i j = false := by unfold mFP; rw [if_neg r1]; exact decide_eq_false r3
        simp only [fp, if_true, Bool.false_and, b2_f, Bool.false_eq_true, if_false, Int32.or_zero]
        simp (maxSteps := 1000000) (disch := first | exact nl_int | exact nl_ref | exact nl_none | exact Nat.le_of_ble_eq_true rfl | assumption | exact wD_cl (by assumption) | exact cat_int | exact cat_ref | exact z2 | exact z4 | exact z3 | exact z5 | exact z6 | exact z8 | exact z64) only [e_113_0, e_113_1, e_113_3, e_113_4, e_113_7, e_113_8, e_113_11, e_113_12, e_113_13, e_113_14, e_113_17, e_113_20, e_113_21, e_113_22, e_113_25, e_113_26, e_113_28, e_113_29, e_113_32, e_113_33, e_113_34, e_113_37, e_113_38, e_113_39, e_113_40, e_113_42, e_113_43, e_113_46, e_113_47, e_113_48, e_113_51, e_113_52, e_113_53, e_113_54, e_113_55, e_113_58, e_113_60, e_113_61, e_113_64, e_113_65, e_113_66, e_113_67, e_113_68, e_113_69, e_113_72, e_113_73, e_113_76, e_113_77, e_113_78, e_113_79, e_113_80, e_113_81, e_113_84, e_113_85, e_113_88, e_113_89, e_113_91, e_113_93, e_113_94, e_113_95, e_113_98, e_113_99, e_113_100, e_113_103, e_113_104, e_113_105, e_113_106, e_113_107, e_113_108, e_113_109, e_113_111, e_113_112, e_113_115, e_113_116, e_113_117, e_113_120, e_113_121, e_113_122, e_113_124, e_113_127, e_113_129, e_113_130, e_113_131, e_113_134, e_113_136, e_113_137, e_113_138, e_113_139, e_113_140, e_113_143, e_113_145, e_113_148, e_113_150, e_113_153, e_113_154, e_113_155, e_113_156, e_113_159, e_113_160, e_113_163, e_113_164, e_113_165, e_113_168, e_113_171, e_113_174, e_113_177, e_113_180, e_113_181, e_113_183, e_113_184, e_113_187, e_113_188, e_113_191, e_113_192, e_113_193, e_113_196, e_113_197, e_113_198, e_113_200, e_113_203, e_113_205, e_113_208, e_113_209, e_113_212, e_113_213, e_113_214, e_113_215, e_113_218, e_113_221, nl_int, nl_ref, nl_none, cat_int, cat_ref, cat_0, cat_i, cat_r, cat_l, Option.elim_some, Option.elim_none, Option.bind_some, Option.bind_none, Option.toList_some, Option.toList_none, List.cons_append, List.nil_append, Nat.reduceAdd, Nat.reduceLeDiff, wD_f0 hl, wD_f1 hl, wD_f9 hl, wD_f10 hl, updI_s, m0, a1, if_true, sod, ix3a, s7_kind hl hA2 hR2 hi h8, if_neg r1, s7_kind hl hA2 hR2 j8 h8, if_neg r3, s7_te hl hA2 hR2 hi h8, s7_te hl hA2 hR2 j8 h8, sho _ hD, l5', z0, s5, wD_p10 hl, updI_updI, Int32.or_zero, nI_1]
theorem s7_bi (hl : 154 < hp.length) (hA : aOK A) (hR : Rl ct nw hr (A 0) (A 1)) (hN : Nm ct nw) (ht : tt < 32) : ∀ n i (D : List Int32) (G : Nat → Bool) l3 l4 l5 l6, i + n = cPp ct → D.length = 5 → ∃ D2 G2 m3 m4 m5 m6, D2.length = 5 ∧ (∀ h, h < 5 → D2.getD h 0 = am_for (plG nw h (cPp ct) (nI tt)) i n (D.getD h 0)) ∧ (∀ h, h < 5 → G2 h = am_for (psG nw h (cPp ct) (nI tt)) i n (G h)) ∧ am_E (d + 3) 113 27 [some (.ref 141), some (.int (nI tt)), some (.int (nI i)), l3, l4, l5, l6] [] (wD hp (updI I 10 (smk G)) (updA A 5 D)) = am_E (d + 3) 113 180 [some (.ref 141), some (.int (nI tt)), some (.int (nI (cPp ct))), m3, m4, m5, m6] [] (wD hp (updI I 10 (smk G2)) (updA A 5 D2)) := by
  have h8 := hN.2.2.1
  intro n
  induction n with
  | zero =>
    intro i D G l3 l4 l5 l6 hj hD
    refine ⟨D, G, l3, l4, l5, l6, hD, fun _ _ => rfl, fun _ _ => rfl, ?_⟩
    obtain rfl : i = cPp ct := by omega
    have hA2 : aOK (updA A 5 D) := updA_ok hA hD
    have m0 : am_ld (wD hp (updI I 10 (smk G)) (updA A 5 D)) 143 0 = some (nI (cPp ct)) := by
      rw [wD_l1 (x := 0) (k := 0) rfl hl hA2 (by decide)]
      exact congrArg some hR.2.2.2.2.1.1
    rw [e_113_27]
    simp (maxSteps := 1000000) (disch := first | exact nl_int | exact nl_ref | exact nl_none | exact Nat.le_of_ble_eq_true rfl | assumption | exact wD_cl (by assumption) | exact cat_int | exact cat_ref | exact z2 | exact z4 | exact z3 | exact z5 | exact z6 | exact z8 | exact z64) only [e_113_0, e_113_1, e_113_3, e_113_4, e_113_7, e_113_8, e_113_11, e_113_12, e_113_13, e_113_14, e_113_17, e_113_20, e_113_21, e_113_22, e_113_25, e_113_26, e_113_28, e_113_29, e_113_32, e_113_33, e_113_34, e_113_37, e_113_38, e_113_39, e_113_40, e_113_42, e_113_43, e_113_46, e_113_47, e_113_48, e_113_51, e_113_52, e_113_53, e_113_54, e_113_55, e_113_58, e_113_60, e_113_61, e_113_64, e_113_65, e_113_66, e_113_67, e_113_68, e_113_69, e_113_72, e_113_73, e_113_76, e_113_77, e_113_78, e_113_79, e_113_80, e_113_81, e_113_84, e_113_85, e_113_88, e_113_89, e_113_91, e_113_93, e_113_94, e_113_95, e_113_98, e_113_99, e_113_100, e_113_103, e_113_104, e_113_105, e_113_106, e_113_107, e_113_108, e_113_109, e_113_111, e_113_112, e_113_115, e_113_116, e_113_117, e_113_120, e_113_121, e_113_122, e_113_124, e_113_127, e_113_129, e_113_130, e_113_131, e_113_134, e_113_136, e_113_137, e_113_138, e_113_139, e_113_140, e_113_143, e_113_145, e_113_148, e_113_150, e_113_153, e_113_154, e_113_155, e_113_156, e_113_159, e_113_160, e_113_163, e_113_164, e_113_165, e_113_168, e_113_171, e_113_174, e_113_177, e_113_181, e_113_183, e_113_184, e_113_187, e_113_188, e_113_191, e_113_192, e_113_193, e_113_196, e_113_197, e_113_198, e_113_200, e_113_203, e_113_205, e_113_208, e_113_209, e_113_212, e_113_213, e_113_214, e_113_215, e_113_218, e_113_221, nl_int, nl_ref, nl_none, cat_int, cat_ref, cat_0, cat_i, cat_r, cat_l, Option.elim_some, Option.elim_none, Option.bind_some, Option.bind_none, Option.toList_some, Option.toList_none, List.cons_append, List.nil_append, Nat.reduceAdd, Nat.reduceLeDiff, wD_f1 hl, m0, ltF (x := nI (cPp ct)) (c := cPp ct) rfl (Nat.le_refl _) (by omega), if_false]
  | succ n ih =>
    intro i D G l3 l4 l5 l6 hj hD
    have hi : i < cPp ct := by omega
    have hA2 : aOK (updA A 5 D) := updA_ok hA hD
    have m0 : am_ld (wD hp (updI I 10 (smk G)) (updA A 5 D)) 143 0 = some (nI (cPp ct)) := by
      rw [wD_l1 (x := 0) (k := 0) rfl hl hA2 (by decide)]
      exact congrArg some hR.2.2.2.2.1.1
    obtain ⟨D1, G1, n4, n5, n6, a1, a2, a3, a4⟩ := s7_bj (d := d) (I := I) hl hA hR hN ht hi (cPp ct - 1 - i) (i + 1) D G l4 l5 l6 (by omega) hD
    obtain ⟨D2, G2, m3, m4, m5, m6, q1, q2, q3, q4⟩ := ih (i + 1) D1 G1 (some (.int (nI (cPp ct)))) n4 n5 n6 (by omega) a1
    refine ⟨D2, G2, m3, m4, m5, m6, q1, fun h h5 => ?_, fun h h5 => ?_, ?_⟩
    · rw [q2 h h5, a2 h h5, am_for]; rfl
    · rw [q3 h h5, a3 h h5, am_for]; rfl
    · rw [← q4, e_113_27]
      simp (maxSteps := 1000000) (disch := first | exact nl_int | exact nl_ref | exact nl_none | exact Nat.le_of_ble_eq_true rfl | assumption | exact wD_cl (by assumption) | exact cat_int | exact cat_ref | exact z2 | exact z4 | exact z3 | exact z5 | exact z6 | exact z8 | exact z64) only [e_113_0, e_113_1, e_113_3, e_113_4, e_113_7, e_113_8, e_113_11, e_113_12, e_113_13, e_113_14, e_113_17, e_113_20, e_113_21, e_113_22, e_113_25, e_113_26, e_113_28, e_113_29, e_113_32, e_113_33, e_113_34, e_113_37, e_113_38, e_113_39, e_113_40, e_113_42, e_113_43, e_113_46, e_113_47, e_113_48, e_113_51, e_113_52, e_113_53, e_113_54, e_113_55, e_113_58, e_113_60, e_113_61, e_113_64, e_113_65, e_113_66, e_113_67, e_113_68, e_113_69, e_113_72, e_113_73, e_113_76, e_113_77, e_113_78, e_113_79, e_113_80, e_113_81, e_113_84, e_113_85, e_113_88, e_113_89, e_113_91, e_113_93, e_113_94, e_113_95, e_113_98, e_113_99, e_113_100, e_113_103, e_113_104, e_113_105, e_113_106, e_113_107, e_113_108, e_113_109, e_113_111, e_113_112, e_113_115, e_113_116, e_113_117, e_113_120, e_113_121, e_113_122, e_113_124, e_113_127, e_113_129, e_113_130, e_113_131, e_113_134, e_113_136, e_113_137, e_113_138, e_113_139, e_113_140, e_113_143, e_113_145, e_113_148, e_113_150, e_113_153, e_113_154, e_113_155, e_113_156, e_113_159, e_113_160, e_113_163, e_113_164, e_113_165, e_113_168, e_113_171, e_113_174, e_113_177, e_113_181, e_113_183, e_113_184, e_113_187, e_113_188, e_113_191, e_113_192, e_113_193, e_113_196, e_113_197, e_113_198, e_113_200, e_113_203, e_113_205, e_113_208, e_113_209, e_113_212, e_113_213, e_113_214, e_113_215, e_113_218, e_113_221, nl_int, nl_ref, nl_none, cat_int, cat_ref, cat_0, cat_i, cat_r, cat_l, Option.elim_some, Option.elim_none, Option.bind_some, Option.bind_none, Option.toList_some, Option.toList_none, List.cons_append, List.nil_append, Nat.reduceAdd, Nat.reduceLeDiff, wD_f1 hl, m0, ltT (x := nI (cPp ct)) (c := cPp ct) rfl hi (by omega), if_true, nI_1, a4]
end MDB
