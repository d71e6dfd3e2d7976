/-! THE REFERENCE: who is at odds with whom -/
theorem am_for_add {σ : Type} (f : Nat → σ → σ) : ∀ (a b j : Nat) (s : σ), am_for f j (a + b) s = am_for f (j + a) b (am_for f j a s) := by
  intro a
  induction a with
  | zero => intro b j s; rw [Nat.zero_add]; rfl
  | succ a ih =>
    intro b j s
    rw [show a + 1 + b = (a + b) + 1 from by omega, am_for, am_for, ih, show j + 1 + a = j + (a + 1) from by omega]
theorem am_for_id {σ : Type} {f : Nat → σ → σ} : ∀ (n j : Nat) (s : σ), (∀ i s, j ≤ i → i < j + n → f i s = s) → am_for f j n s = s := by
  intro n
  induction n with
  | zero => intro j s _; rfl
  | succ n ih =>
    intro j s h
    rw [am_for, h j s (by omega) (by omega)]
    exact ih (j + 1) s (fun i s h1 h2 => h i s (by omega) (by omega))
theorem updA_updA {A : Nat → List Int32} {i : Nat} {xs ys : List Int32} : updA (updA A i xs) i ys = updA A i ys := by
  funext j
  unfold updA
  split <;> rfl
theorem bp_tab : (List.range 32).all (fun o => decide ((0 < bitc (nI o)) ↔ o ≠ 0)) = true := by decide +kernel
theorem bp_at {o : Nat} (h : o < 32) : (0 < bitc (nI o)) ↔ o ≠ 0 := of_decide_eq_true (List.all_eq_true.mp bp_tab o (List.mem_range.mpr h))
section MD4
variable {d : Nat} {hp hp2 : am_H} {I : Nat → Int32} {A : Nat → List Int32} {i j k n b p hr tt : Nat} {x y t : Int32} {xs : List Int32} {ct : am_Ci} {nw : am_Mo}
theorem mQ_nI (hN : Nm ct nw) (hi : i < cPp ct) (hj : j < cPp ct) (ht : tt < 32) : ∃ o, o < 32 ∧ mQ nw i j (nI tt) = nI o := by
  obtain ⟨o, t, h, ho, ht1, hh, eo, et, eh⟩ := hN.1 i hi
  obtain ⟨o2, t2, h2, ho2, ht2, hh2, eo2, et2, eh2⟩ := hN.1 j hj
  unfold mQ
  split
  · exact ⟨0, by decide, rfl⟩
  · exact ⟨(o ^^^ o2) &&& tt, Nat.lt_of_le_of_lt Nat.and_le_right ht, by rw [eo, eo2, nIx, nIa]⟩
theorem mQ_pos (hN : Nm ct nw) (hi : i < cPp ct) (hj : j < cPp ct) (ht : tt < 32) : (0 < bitc (mQ nw i j (nI tt))) ↔ mQ nw i j (nI tt) ≠ 0 := by
  obtain ⟨o, ho, e⟩ := mQ_nI hN hi hj ht
  rw [e, bp_at ho]
  have : nI o = 0 ↔ o = 0 := nI_eq (b := 0) (by omega) (by decide)
  exact not_congr this.symm
theorem mFoes_pp (hN : Nm ct nw) (hi : i < cPp ct) : mFoes nw i t = am_for (mFoe nw i t) 0 (cPp ct) 0 := by
  have h8 := hN.2.2.1
  have e : (8 : Nat) = cPp ct + (8 - cPp ct) := by omega
  unfold mFoes
  rw [show am_for (mFoe nw i t) 0 8 0 = am_for (mFoe nw i t) 0 (cPp ct + (8 - cPp ct)) 0 from by rw [← e], am_for_add]
  refine am_for_id _ _ _ (fun j s h1 h2 => ?_)
  obtain ⟨o, t1, h, ho, ht, hh, eo, et, eh⟩ := hN.1 i hi
  unfold mFoe
  rw [if_neg (by omega), mTog_eq hN hi, hN.2.1 j (by omega) (by omega), eh, decide_eq_false (fun z => nI_pos (show h < 2 ^ 31 by have := hN.2.2.2; omega) (by rw [z]; decide)), if_pos rfl]
theorem s7_meets (hl : 154 < hp.length) (hA : aOK A) (hR : Rl ct nw hr (A 0) (A 1)) (hN : Nm ct nw) (ht : tt < 32) : ∃ W : List Int32, W.length = 8 ∧ (∀ i, i < cPp ct → W.getD i 0 = mFoes nw i (nI tt)) ∧ am_E (d + 3) 117 0 [some (.ref 141), some (.int (nI tt)), none, none] [] (wD hp I A) = some (none, wD hp I (updA A 6 W)) := by
  have h8 := hN.2.2.1
  have hU : ∀ W : List Int32, W.length = 8 → aOK (updA A 6 W) := fun W hW => updA_ok hA hW
  have m0 : ∀ W : List Int32, W.length = 8 → am_ld (wD hp I (updA A 6 W)) 143 0 = some (nI (cPp ct)) := fun W hW => by
    rw [wD_l1 (x := 0) (k := 0) rfl hl (hU W hW) (by decide)]
    exact congrArg some hR.2.2.2.2.1.1
  have inn : ∀ (W : List Int32) (i : Nat), W.length = 8 → i < cPp ct → am_E (d + 3) 117 21 [some (.ref 141), some (.int (nI tt)), some (.int (nI i)), some (.int (nI 0))] [] (wD hp I (updA A 6 (W.set i 0))) = am_E (d + 3) 117 68 [some (.ref 141), some (.int (nI tt)), some (.int (nI i)), some (.int (nI (cPp ct)))] [] (wD hp I (updA A 6 (W.set i (mFoes nw i (nI tt))))) := fun W i hW hi => by
    rw [mFoes_pp hN hi]
    exact for_res (τ := Unit) (fun j s _ => am_E (d + 3) 117 21 [some (.ref 141), some (.int (nI tt)), some (.int (nI i)), some (.int (nI j))] [] (wD hp I (updA A 6 (W.set i s)))) (fun _ _ => True) (mFoe nw i (nI tt)) (cPp ct) (fun s => am_E (d + 3) 117 68 [some (.ref 141), some (.int (nI tt)), some (.int (nI i)), some (.int (nI (cPp ct)))] [] (wD hp I (updA A 6 (W.set i s)))) (fun s _ _ => by
      have hW2 : (W.set i s).length = 8 := (List.length_set).trans hW
      try dsimp only
      rw [e_117_21]
      simp (disch := first | exact nl_int | exact nl_ref | exact nl_none | exact Nat.le_of_ble_eq_true rfl | assumption | exact cat_int | exact cat_ref | exact z2 | exact z4 | exact z3 | exact z5 | exact z6 | exact z8 | exact z64) only [e_117_0, e_117_1, e_117_3, e_117_4, e_117_7, e_117_8, e_117_9, e_117_12, e_117_13, e_117_16, e_117_17, e_117_18, e_117_19, e_117_20, e_117_22, e_117_23, e_117_26, e_117_27, e_117_28, e_117_31, e_117_32, e_117_35, e_117_36, e_117_37, e_117_38, e_117_39, e_117_40, e_117_43, e_117_44, e_117_45, e_117_46, e_117_47, e_117_50, e_117_53, e_117_54, e_117_55, e_117_56, e_117_59, e_117_60, e_117_61, e_117_62, e_117_65, e_117_71, e_117_74, nl_int, nl_ref, nl_none, cat_int, cat_ref, cat_0, cat_i, cat_r, cat_l, Option.elim_some, Option.elim_none, Option.bind_some, Option.bind_none, Option.toList_some, Option.toList_none, List.cons_append, List.nil_append, Nat.reduceAdd, Nat.reduceLeDiff, wD_f1 hl, m0 _ hW2, ltF (x := nI (cPp ct)) (c := cPp ct) rfl (Nat.le_refl _) (by omega), if_false]) (fun j s _ hj _ => ⟨trivial, (), by
      have hW2 : (W.set i s).length = 8 := (List.length_set).trans hW
      have hA2 := hU _ hW2
      have hcl := wD_cl (I := I) (A := updA A 6 (W.set i s)) hl
      have lw : am_ld (wD hp I (updA A 6 (W.set i s))) 148 (nI i) = some s := by
        rw [wD_l6 (k := i) rfl hl hA2 (by omega)]
        show some ((W.set i s).getD i 0) = some s
        rw [getD_set (by omega), if_pos rfl]
      have sw : ∀ z, am_sx (wD hp I (updA A 6 (W.set i s))) 148 (nI i) z = some (wD hp I (updA A 6 (W.set i z))) := fun z => by
        rw [wD_s6 (k := i) rfl hl hA2 (by omega), updA_updA]
        show some (wD hp I (updA A 6 ((W.set i s).set i z))) = _
        rw [List.set_set]
      have od := s7_odds (d := d) (I := I) (A := updA A 6 (W.set i s)) hl hA2 hR hN hi hj ht
      have a1 := ltT (x := nI (cPp ct)) (c := cPp ct) rfl hj (by omega)
      try dsimp only
      rw [e_117_21]
      unfold mFoe
      by_cases r1 : i = j
      · rw [if_pos r1]
        have r2 : nI i = nI j := by rw [r1]
        simp (disch := first | exact nl_int | exact nl_ref | exact nl_none | exact Nat.le_of_ble_eq_true rfl | assumption | exact cat_int | exact cat_ref | exact z2 | exact z4 | exact z3 | exact z5 | exact z6 | exact z8 | exact z64) only [e_117_0, e_117_1, e_117_3, e_117_4, e_117_7, e_117_8, e_117_9, e_117_12, e_117_13, e_117_16, e_117_17, e_117_18, e_117_19, e_117_20, e_117_22, e_117_23, e_117_26, e_117_27, e_117_28, e_117_31, e_117_32, e_117_35, e_117_36, e_117_37, e_117_38, e_117_39, e_117_40, e_117_43, e_117_44, e_117_45, e_117_46, e_117_47, e_117_50, e_117_53, e_117_54, e_117_55, e_117_56, e_117_59, e_117_60, e_117_61, e_117_62, e_117_65, e_117_68, e_117_71, e_117_74, nl_int, nl_ref, nl_none, cat_int, cat_ref, cat_0, cat_i, cat_r, cat_l, Option.elim_some, Option.elim_none, Option.bind_some, Option.bind_none, Option.toList_some, Option.toList_none, List.cons_append, List.nil_append, Nat.reduceAdd, Nat.reduceLeDiff, wD_f1 hl, wD_f11 hl, m0 _ hW2, a1, if_true, lw, if_pos r2, sw, Int32.or_zero, nI_1]
      · rw [if_neg r1]
        have r2 : ¬ nI i = nI j := fun z => r1 ((nI_eq (by omega) (by omega)).mp z)
        cases tg : mTog nw i j with
        | false =>
          rw [tg, if_neg (by decide)] at od
          rw [if_pos rfl]
          simp (disch := first | exact nl_int | exact nl_ref | exact nl_none | exact Nat.le_of_ble_eq_true rfl | assumption | exact cat_int | exact cat_ref | exact z2 | exact z4 | exact z3 | exact z5 | exact z6 | exact z8 | exact z64) only [e_117_0, e_117_1, e_117_3, e_117_4, e_117_7, e_117_8, e_117_9, e_117_12, e_117_13, e_117_16, e_117_17, e_117_18, e_117_19, e_117_20, e_117_22, e_117_23, e_117_26, e_117_27, e_117_28, e_117_31, e_117_32, e_117_35, e_117_36, e_117_37, e_117_38, e_117_39, e_117_40, e_117_43, e_117_44, e_117_45, e_117_46, e_117_47, e_117_50, e_117_53, e_117_54, e_117_55, e_117_56, e_117_59, e_117_60, e_117_61, e_117_62, e_117_65, e_117_68, e_117_71, e_117_74, nl_int, nl_ref, nl_none, cat_int, cat_ref, cat_0, cat_i, cat_r, cat_l, Option.elim_some, Option.elim_none, Option.bind_some, Option.bind_none, Option.toList_some, Option.toList_none, List.cons_append, List.nil_append, Nat.reduceAdd, Nat.reduceLeDiff, wD_f1 hl, wD_f11 hl, m0 _ hW2, a1, if_true, lw, if_neg r2, od, show ((0 : Int32) < 0) = False from by decide, if_false, sw, Int32.or_zero, nI_1]
        | true =>
          rw [tg, if_pos rfl] at od
          rw [if_neg (by decide)]
          by_cases r3 : mQ nw i j (nI tt) = 0
          · rw [if_pos r3]
            have r4 : ¬ 0 < bitc (mQ nw i j (nI tt)) := fun z => (mQ_pos hN hi hj ht).mp z r3
            simp (disch := first | exact nl_int | exact nl_ref | exact nl_none | exact Nat.le_of_ble_eq_true rfl | assumption | exact cat_int | exact cat_ref | exact z2 | exact z4 | exact z3 | exact z5 | exact z6 | exact z8 | exact z64) only [e_117_0, e_117_1, e_117_3, e_117_4, e_117_7, e_117_8, e_117_9, e_117_12, e_117_13, e_117_16, e_117_17, e_117_18, e_117_19, e_117_20, e_117_22, e_117_23, e_117_26, e_117_27, e_117_28, e_117_31, e_117_32, e_117_35, e_117_36, e_117_37, e_117_38, e_117_39, e_117_40, e_117_43, e_117_44, e_117_45, e_117_46, e_117_47, e_117_50, e_117_53, e_117_54, e_117_55, e_117_56, e_117_59, e_117_60, e_117_61, e_117_62, e_117_65, e_117_68, e_117_71, e_117_74, nl_int, nl_ref, nl_none, cat_int, cat_ref, cat_0, cat_i, cat_r, cat_l, Option.elim_some, Option.elim_none, Option.bind_some, Option.bind_none, Option.toList_some, Option.toList_none, List.cons_append, List.nil_append, Nat.reduceAdd, Nat.reduceLeDiff, wD_f1 hl, wD_f11 hl, m0 _ hW2, a1, if_true, lw, if_neg r2, od, if_neg r4, sw, Int32.or_zero, nI_1]
          · rw [if_neg r3]
            have r4 : 0 < bitc (mQ nw i j (nI tt)) := (mQ_pos hN hi hj ht).mpr r3
            simp (disch := first | exact nl_int | exact nl_ref | exact nl_none | exact Nat.le_of_ble_eq_true rfl | assumption | exact cat_int | exact cat_ref | exact z2 | exact z4 | exact z3 | exact z5 | exact z6 | exact z8 | exact z64) only [e_117_0, e_117_1, e_117_3, e_117_4, e_117_7, e_117_8, e_117_9, e_117_12, e_117_13, e_117_16, e_117_17, e_117_18, e_117_19, e_117_20, e_117_22, e_117_23, e_117_26, e_117_27, e_117_28, e_117_31, e_117_32, e_117_35, e_117_36, e_117_37, e_117_38, e_117_39, e_117_40, e_117_43, e_117_44, e_117_45, e_117_46, e_117_47, e_117_50, e_117_53, e_117_54, e_117_55, e_117_56, e_117_59, e_117_60, e_117_61, e_117_62, e_117_65, e_117_68, e_117_71, e_117_74, nl_int, nl_ref, nl_none, cat_int, cat_ref, cat_0, cat_i, cat_r, cat_l, Option.elim_some, Option.elim_none, Option.bind_some, Option.bind_none, Option.toList_some, Option.toList_none, List.cons_append, List.nil_append, Nat.reduceAdd, Nat.reduceLeDiff, wD_f1 hl, wD_f11 hl, m0 _ hW2, a1, if_true, lw, if_neg r2, od, if_pos r4, sw, nI_1]⟩) (cPp ct) 0 0 () (Nat.zero_add _) trivial
  have key : ∀ n i (W : List Int32) l3, i + n = cPp ct → W.length = 8 → (∀ k, k < i → W.getD k 0 = mFoes nw k (nI tt)) → ∃ W2 : List Int32, W2.length = 8 ∧ (∀ k, k < cPp ct → W2.getD k 0 = mFoes nw k (nI tt)) ∧ am_E (d + 3) 117 2 [some (.ref 141), some (.int (nI tt)), some (.int (nI i)), l3] [] (wD hp I (updA A 6 W)) = some (none, wD hp I (updA A 6 W2)) := by
    intro n
    induction n with
    | zero =>
      intro i W l3 hn hW hF
      refine ⟨W, hW, fun k hk => hF k (by omega), ?_⟩
      rw [e_117_2]
      simp (disch := first | exact nl_int | exact nl_ref | exact nl_none | exact Nat.le_of_ble_eq_true rfl | assumption | exact cat_int | exact cat_ref | exact z2 | exact z4 | exact z3 | exact z5 | exact z6 | exact z8 | exact z64) only [e_117_0, e_117_1, e_117_3, e_117_4, e_117_7, e_117_8, e_117_9, e_117_12, e_117_13, e_117_16, e_117_17, e_117_18, e_117_19, e_117_20, e_117_22, e_117_23, e_117_26, e_117_27, e_117_28, e_117_31, e_117_32, e_117_35, e_117_36, e_117_37, e_117_38, e_117_39, e_117_40, e_117_43, e_117_44, e_117_45, e_117_46, e_117_47, e_117_50, e_117_53, e_117_54, e_117_55, e_117_56, e_117_59, e_117_60, e_117_61, e_117_62, e_117_65, e_117_68, e_117_71, e_117_74, nl_int, nl_ref, nl_none, cat_int, cat_ref, cat_0, cat_i, cat_r, cat_l, Option.elim_some, Option.elim_none, Option.bind_some, Option.bind_none, Option.toList_some, Option.toList_none, List.cons_append, List.nil_append, Nat.reduceAdd, Nat.reduceLeDiff, wD_f1 hl, m0 _ hW, ltF (x := nI (cPp ct)) (c := cPp ct) rfl (show cPp ct ≤ i by omega) (by omega), if_false]
    | succ n ih =>
      intro i W l3 hn hW hF
      have hi : i < cPp ct := by omega
      obtain ⟨W2, h2, h3, e⟩ := ih (i + 1) (W.set i (mFoes nw i (nI tt))) (some (.int (nI (cPp ct)))) (by omega) ((List.length_set).trans hW) (fun k hk => by
        rw [getD_set (by omega)]
        by_cases q : i = k
        · rw [if_pos q, q]
        · rw [if_neg q]; exact hF k (by omega))
      have sw : am_sx (wD hp I (updA A 6 W)) 148 (nI i) 0 = some (wD hp I (updA A 6 (W.set i 0))) := by
        rw [wD_s6 (k := i) rfl hl (hU W hW) (by omega), updA_updA]
        rfl
      have ii := inn W i hW hi
      rw [show nI 0 = 0 from rfl] at ii
      refine ⟨W2, h2, h3, ?_⟩
      rw [e_117_2]
      simp (disch := first | exact nl_int | exact nl_ref | exact nl_none | exact Nat.le_of_ble_eq_true rfl | assumption | exact cat_int | exact cat_ref | exact z2 | exact z4 | exact z3 | exact z5 | exact z6 | exact z8 | exact z64) only [e_117_0, e_117_1, e_117_3, e_117_4, e_117_7, e_117_8, e_117_9, e_117_12, e_117_13, e_117_16, e_117_17, e_117_18, e_117_19, e_117_20, e_117_22, e_117_23, e_117_26, e_117_27, e_117_28, e_117_31, e_117_32, e_117_35, e_117_36, e_117_37, e_117_38, e_117_39, e_117_40, e_117_43, e_117_44, e_117_45, e_117_46, e_117_47, e_117_50, e_117_53, e_117_54, e_117_55, e_117_56, e_117_59, e_117_60, e_117_61, e_117_62, e_117_65, e_117_68, e_117_71, e_117_74, nl_int, nl_ref, nl_none, cat_int, cat_ref, cat_0, cat_i, cat_r, cat_l, Option.elim_some, Option.elim_none, Option.bind_some, Option.bind_none, Option.toList_some, Option.toList_none, List.cons_append, List.nil_append, Nat.reduceAdd, Nat.reduceLeDiff, wD_f1 hl, wD_f11 hl, m0 _ hW, ltT (x := nI (cPp ct)) (c := cPp ct) rfl hi (by omega), if_true, sw, ii, nI_1, e]
  have eA : updA A 6 (A 6) = A := by
    funext k
    unfold updA
    split
    · rename_i q; rw [q]
    · rfl
  obtain ⟨W2, h2, h3, e⟩ := key (cPp ct) 0 (A 6) none (Nat.zero_add _) (hA 6 (by decide)) (fun k hk => absurd hk (Nat.not_lt_zero k))
  rw [eA] at e
  refine ⟨W2, h2, h3, ?_⟩
  simp (disch := first | exact nl_int | exact nl_ref | exact nl_none | exact Nat.le_of_ble_eq_true rfl | assumption | exact cat_int | exact cat_ref | exact z2 | exact z4 | exact z3 | exact z5 | exact z6 | exact z8 | exact z64) only [e_117_0, e_117_1, e_117_3, e_117_4, e_117_7, e_117_8, e_117_9, e_117_12, e_117_13, e_117_16, e_117_17, e_117_18, e_117_19, e_117_20, e_117_22, e_117_23, e_117_26, e_117_27, e_117_28, e_117_31, e_117_32, e_117_35, e_117_36, e_117_37, e_117_38, e_117_39, e_117_40, e_117_43, e_117_44, e_117_45, e_117_46, e_117_47, e_117_50, e_117_53, e_117_54, e_117_55, e_117_56, e_117_59, e_117_60, e_117_61, e_117_62, e_117_65, e_117_68, e_117_71, e_117_74, nl_int, nl_ref, nl_none, cat_int, cat_ref, cat_0, cat_i, cat_r, cat_l, Option.elim_some, Option.elim_none, Option.bind_some, Option.bind_none, Option.toList_some, Option.toList_none, List.cons_append, List.nil_append, Nat.reduceAdd, Nat.reduceLeDiff]
  exact e
end MD4
