/-! THE REFERENCE: set aside and back; lights some hours on; what is noted -/
section MDD
variable {d : Nat} {hp hp2 : am_H} {I : Nat → Int32} {A : Nat → List Int32} {i j k n b p hr tt h u : Nat} {x y t : Int32} {B C : List Int32} {ct : am_Ci} {nw : am_Mo}
theorem updA_s {i : Nat} {xs : List Int32} : updA A i xs i = xs := if_pos rfl
theorem updA_n {i k : Nat} {xs : List Int32} (h : k ≠ i) : updA A i xs k = A k := if_neg h
theorem s7_asides (hl : 154 < hp.length) (hA : aOK A) : am_E d 128 0 [some (.ref 141), none] [] (wD hp I A) = some (none, wD hp I (updA A 8 (A 1))) := by
  have k1 : ∀ n j (D : List Int32), j + n = 27 → D.length = 27 → (∀ k, k < j → D.getD k 0 = (A 1).getD k 0) → am_E d 128 2 [some (.ref 141), some (.int (nI j))] [] (wD hp I (updA A 8 D)) = some (none, wD hp I (updA A 8 (A 1))) := by
    intro n
    induction n with
    | zero =>
      intro j D hj hD h0
      have : D = A 1 := list8 27 hD (hA 1 (by decide)) (fun k hk => h0 k (by omega))
      rw [this, e_128_2]
      simp (maxSteps := 1000000) (disch := first | exact nl_int | exact nl_ref | exact nl_none | exact Nat.le_of_ble_eq_true rfl | assumption | exact wD_cl (by assumption) | exact cat_int | exact cat_ref | exact z2 | exact z4 | exact z3 | exact z5 | exact z6 | exact z8 | exact z64) only [e_128_0, e_128_1, e_128_3, e_128_5, e_128_8, e_128_9, e_128_12, e_128_13, e_128_14, e_128_17, e_128_18, e_128_19, e_128_20, e_128_23, e_128_26, nl_int, nl_ref, nl_none, cat_int, cat_ref, cat_0, cat_i, cat_r, cat_l, Option.elim_some, Option.elim_none, Option.bind_some, Option.bind_none, Option.toList_some, Option.toList_none, List.cons_append, List.nil_append, Nat.reduceAdd, Nat.reduceLeDiff, ltF (x := 27) (c := 27) rfl (show 27 ≤ j by omega) (by omega), if_false]
    | succ n ih =>
      intro j D hj hD h0
      have hA2 : aOK (updA A 8 D) := updA_ok hA hD
      have lx : am_ld (wD hp I (updA A 8 D)) 143 (nI j) = some ((A 1).getD j 0) := by
        rw [wD_l1 (k := j) rfl hl hA2 (by omega)]
        rfl
      have sx : am_sx (wD hp I (updA A 8 D)) 150 (nI j) ((A 1).getD j 0) = some (wD hp I (updA A 8 (D.set j ((A 1).getD j 0)))) := by
        rw [wD_s8 (k := j) rfl hl hA2 (by omega), updA_updA]
        rfl
      rw [e_128_2]
      simp (maxSteps := 1000000) (disch := first | exact nl_int | exact nl_ref | exact nl_none | exact Nat.le_of_ble_eq_true rfl | assumption | exact wD_cl (by assumption) | exact cat_int | exact cat_ref | exact z2 | exact z4 | exact z3 | exact z5 | exact z6 | exact z8 | exact z64) only [e_128_0, e_128_1, e_128_3, e_128_5, e_128_8, e_128_9, e_128_12, e_128_13, e_128_14, e_128_17, e_128_18, e_128_19, e_128_20, e_128_23, e_128_26, nl_int, nl_ref, nl_none, cat_int, cat_ref, cat_0, cat_i, cat_r, cat_l, Option.elim_some, Option.elim_none, Option.bind_some, Option.bind_none, Option.toList_some, Option.toList_none, List.cons_append, List.nil_append, Nat.reduceAdd, Nat.reduceLeDiff, ltT (x := 27) (c := 27) rfl (show j < 27 by omega) (by omega), if_true, wD_f1 hl, wD_f14 hl, lx, sx, nI_1]
      refine ih (j + 1) _ (by omega) ((List.length_set).trans hD) (fun k hk => ?_)
      rw [getD_set (by omega)]
      by_cases q : j = k
      · rw [if_pos q, q]
      · rw [if_neg q]; exact h0 k (by omega)
  have e := k1 27 0 (A 8) rfl (hA 8 (by decide)) (fun k hk => absurd hk (Nat.not_lt_zero k))
  rw [updA_self, show nI 0 = 0 from rfl] at e
  simp (maxSteps := 1000000) (disch := first | exact nl_int | exact nl_ref | exact nl_none | exact Nat.le_of_ble_eq_true rfl | assumption | exact wD_cl (by assumption) | exact cat_int | exact cat_ref | exact z2 | exact z4 | exact z3 | exact z5 | exact z6 | exact z8 | exact z64) only [e_128_0, e_128_1, e_128_3, e_128_5, e_128_8, e_128_9, e_128_12, e_128_13, e_128_14, e_128_17, e_128_18, e_128_19, e_128_20, e_128_23, e_128_26, nl_int, nl_ref, nl_none, cat_int, cat_ref, cat_0, cat_i, cat_r, cat_l, Option.elim_some, Option.elim_none, Option.bind_some, Option.bind_none, Option.toList_some, Option.toList_none, List.cons_append, List.nil_append, Nat.reduceAdd, Nat.reduceLeDiff, e]
theorem s7_backs (hl : 154 < hp.length) (hA : aOK A) : am_E d 129 0 [some (.ref 141), none] [] (wD hp I A) = some (none, wD hp I (updA A 1 (A 8))) := by
  have k1 : ∀ n j (D : List Int32), j + n = 27 → D.length = 27 → (∀ k, k < j → D.getD k 0 = (A 8).getD k 0) → am_E d 129 2 [some (.ref 141), some (.int (nI j))] [] (wD hp I (updA A 1 D)) = some (none, wD hp I (updA A 1 (A 8))) := by
    intro n
    induction n with
    | zero =>
      intro j D hj hD h0
      have : D = A 8 := list8 27 hD (hA 8 (by decide)) (fun k hk => h0 k (by omega))
      rw [this, e_129_2]
      simp (maxSteps := 1000000) (disch := first | exact nl_int | exact nl_ref | exact nl_none | exact Nat.le_of_ble_eq_true rfl | assumption | exact wD_cl (by assumption) | exact cat_int | exact cat_ref | exact z2 | exact z4 | exact z3 | exact z5 | exact z6 | exact z8 | exact z64) only [e_129_0, e_129_1, e_129_3, e_129_5, e_129_8, e_129_9, e_129_12, e_129_13, e_129_14, e_129_17, e_129_18, e_129_19, e_129_20, e_129_23, e_129_26, nl_int, nl_ref, nl_none, cat_int, cat_ref, cat_0, cat_i, cat_r, cat_l, Option.elim_some, Option.elim_none, Option.bind_some, Option.bind_none, Option.toList_some, Option.toList_none, List.cons_append, List.nil_append, Nat.reduceAdd, Nat.reduceLeDiff, ltF (x := 27) (c := 27) rfl (show 27 ≤ j by omega) (by omega), if_false]
    | succ n ih =>
      intro j D hj hD h0
      have hA2 : aOK (updA A 1 D) := updA_ok hA hD
      have lx : am_ld (wD hp I (updA A 1 D)) 150 (nI j) = some ((A 8).getD j 0) := by
        rw [wD_l8 (k := j) rfl hl hA2 (by omega)]
        rfl
      have sx : am_sx (wD hp I (updA A 1 D)) 143 (nI j) ((A 8).getD j 0) = some (wD hp I (updA A 1 (D.set j ((A 8).getD j 0)))) := by
        rw [wD_s1 (k := j) rfl hl hA2 (by omega), updA_updA]
        rfl
      rw [e_129_2]
      simp (maxSteps := 1000000) (disch := first | exact nl_int | exact nl_ref | exact nl_none | exact Nat.le_of_ble_eq_true rfl | assumption | exact wD_cl (by assumption) | exact cat_int | exact cat_ref | exact z2 | exact z4 | exact z3 | exact z5 | exact z6 | exact z8 | exact z64) only [e_129_0, e_129_1, e_129_3, e_129_5, e_129_8, e_129_9, e_129_12, e_129_13, e_129_14, e_129_17, e_129_18, e_129_19, e_129_20, e_129_23, e_129_26, nl_int, nl_ref, nl_none, cat_int, cat_ref, cat_0, cat_i, cat_r, cat_l, Option.elim_some, Option.elim_none, Option.bind_some, Option.bind_none, Option.toList_some, Option.toList_none, List.cons_append, List.nil_append, Nat.reduceAdd, Nat.reduceLeDiff, ltT (x := 27) (c := 27) rfl (show j < 27 by omega) (by omega), if_true, wD_f1 hl, wD_f14 hl, lx, sx, nI_1]
      refine ih (j + 1) _ (by omega) ((List.length_set).trans hD) (fun k hk => ?_)
      rw [getD_set (by omega)]
      by_cases q : j = k
      · rw [if_pos q, q]
      · rw [if_neg q]; exact h0 k (by omega)
  have e := k1 27 0 (A 1) rfl (hA 1 (by decide)) (fun k hk => absurd hk (Nat.not_lt_zero k))
  rw [updA_self, show nI 0 = 0 from rfl] at e
  simp (maxSteps := 1000000) (disch := first | exact nl_int | exact nl_ref | exact nl_none | exact Nat.le_of_ble_eq_true rfl | assumption | exact wD_cl (by assumption) | exact cat_int | exact cat_ref | exact z2 | exact z4 | exact z3 | exact z5 | exact z6 | exact z8 | exact z64) only [e_129_0, e_129_1, e_129_3, e_129_5, e_129_8, e_129_9, e_129_12, e_129_13, e_129_14, e_129_17, e_129_18, e_129_19, e_129_20, e_129_23, e_129_26, nl_int, nl_ref, nl_none, cat_int, cat_ref, cat_0, cat_i, cat_r, cat_l, Option.elim_some, Option.elim_none, Option.bind_some, Option.bind_none, Option.toList_some, Option.toList_none, List.cons_append, List.nil_append, Nat.reduceAdd, Nat.reduceLeDiff, e]
/-- the same but for what the reference scribbles -/
def Sq (A A2 : Nat → List Int32) : Prop := ∀ k, k ≠ 3 → k ≠ 4 → k ≠ 5 → k ≠ 6 → k ≠ 8 → k ≠ 9 → A2 k = A k
def Si (I I2 : Nat → Int32) : Prop := ∀ k, k = 3 ∨ k = 13 ∨ k = 20 ∨ k = 22 → I2 k = I k
theorem Sq.rfl' : Sq A A := fun _ _ _ _ _ _ _ => rfl
theorem Si.rfl' : Si I I := fun _ _ => rfl
theorem Sq.trans {A2 A3 : Nat → List Int32} (h : Sq A A2) (g : Sq A2 A3) : Sq A A3 := fun k a b c d e f => (g k a b c d e f).trans (h k a b c d e f)
theorem Si.trans {I2 I3 : Nat → Int32} (h : Si I I2) (g : Si I2 I3) : Si I I3 := fun k q => (g k q).trans (h k q)
theorem Sq.upd {xs : List Int32} (hk : k = 3 ∨ k = 4 ∨ k = 5 ∨ k = 6 ∨ k = 8 ∨ k = 9) : Sq A (updA A k xs) := fun j a b c d e f => updA_n (by omega)
theorem Si.upd {v : Int32} (hk : k = 4 ∨ k = 7 ∨ k = 8 ∨ k = 10 ∨ k = 16 ∨ k = 17) : Si I (updI I k v) := fun j q => if_neg (by omega)
/-- all that is so of the reference's city and hour, held against the class's -/
def Ok7 (A : Nat → List Int32) (ct : am_Ci) (nw : am_Mo) (hr : Nat) : Prop := aOK A ∧ Rl ct nw hr (A 0) (A 1) ∧ Nm ct nw ∧ Nc ct ∧ mOK nw ∧ (cWk ct ≤ 5 ∧ ∀ k, k < cWk ct → ∃ h n, h < cHs ct ∧ cWH ct k = nI h ∧ n ≤ 30 ∧ cWN ct k = nI n) ∧ nw.2.2.2.2.2.1 = nI hr
theorem Ok7.sq {A2 : Nat → List Int32} (h : Ok7 A ct nw hr) (hA : aOK A2) (hs : Sq A A2) : Ok7 A2 ct nw hr := ⟨hA, by rw [hs 0 (by decide) (by decide) (by decide) (by decide) (by decide) (by decide), hs 1 (by decide) (by decide) (by decide) (by decide) (by decide) (by decide)]; exact h.2.1, h.2.2⟩
theorem s7_bu (hl : 154 < hp.length) (h : Ok7 A ct nw hr) {tk : Int32} (ht : ∃ tt, tt < 32 ∧ tk = nI tt) : ∃ D : List Int32, D.length = 5 ∧ Lg nw tk D ∧ am_E (d + 3) 113 0 [some (.ref 141), some (.int tk), none, none, none, none, none] [] (wD hp I A) = some (none, wD hp (updI I 10 (smk (fun h => mSmoke nw (nI h) tk))) (updA A 5 D)) := by
  obtain ⟨tt, h32, rfl⟩ := ht
  exact s7_burns hl h.1 h.2.1 h.2.2.1 h32
theorem s7_tk (hl : 154 < hp.length) (h : Ok7 A ct nw hr) (hh : hr < 2 ^ 31) : am_E d 112 0 [some (.ref 141)] [] (wD hp I A) = some (some (.int (cTalk ct nw hr)), wD hp I A) := s7_talkedOf hl h.1 h.2.1 h.2.2.2.1.2.1 hh
theorem Ok7.tk (h : Ok7 A ct nw hr) {m : am_Mo} {r : Nat} : ∃ tt, tt < 32 ∧ cTalk ct m r = nI tt := cTalk_nI h.2.2.2.1
theorem s7_al (hl : 154 < hp.length) (h : Ok7 A ct nw hr) {m : am_Mo} (hL : Lg m t (A 5)) : am_E d 114 0 [some (.ref 141), none, none] [] (wD hp I A) = some (some (.int (cAll ct m t)), wD hp I A) := by
  have l0 : am_ld (wD hp I A) 142 0 = some (nI (cHs ct)) := by rw [wD_l0 (x := 0) (k := 0) rfl hl h.1 (by decide), h.2.1.1.1]
  have h5 := h.2.2.1.2.2.2
  have key := for_res (τ := Unit) (fun j s _ => am_E d 114 4 [some (.ref 141), some (.int s), some (.int (nI j))] [] (wD hp I A)) (fun _ _ => True) (cAl m t) (cHs ct) (fun s => some (some (.int s), wD hp I A)) (fun s _ _ => by
    try dsimp only
    rw [e_114_4]
    simp (maxSteps := 1000000) (disch := first | exact nl_int | exact nl_ref | exact nl_none | exact Nat.le_of_ble_eq_true rfl | assumption | exact wD_cl (by assumption) | exact cat_int | exact cat_ref | exact z2 | exact z4 | exact z3 | exact z5 | exact z6 | exact z8 | exact z64) only [e_114_0, e_114_1, e_114_2, e_114_3, e_114_5, e_114_6, e_114_9, e_114_10, e_114_11, e_114_14, e_114_15, e_114_16, e_114_19, e_114_20, e_114_21, e_114_22, e_114_23, e_114_26, e_114_29, e_114_30, nl_int, nl_ref, nl_none, cat_int, cat_ref, cat_0, cat_i, cat_r, cat_l, Option.elim_some, Option.elim_none, Option.bind_some, Option.bind_none, Option.toList_some, Option.toList_none, List.cons_append, List.nil_append, Nat.reduceAdd, Nat.reduceLeDiff, wD_f0 hl, l0, ltF (x := nI (cHs ct)) (c := cHs ct) rfl (Nat.le_refl _) (by omega), if_false]) (fun j s _ hj _ => ⟨trivial, (), by
    have l5 : am_ld (wD hp I A) 147 (nI j) = some (mLight m (nI j) t) := by rw [wD_l5 (k := j) rfl hl h.1 (by omega), hL j (by omega)]
    try dsimp only
    rw [e_114_4]
    simp (maxSteps := 1000000) (disch := first | exact nl_int | exact nl_ref | exact nl_none | exact Nat.le_of_ble_eq_true rfl | assumption | exact wD_cl (by assumption) | exact cat_int | exact cat_ref | exact z2 | exact z4 | exact z3 | exact z5 | exact z6 | exact z8 | exact z64) only [e_114_0, e_114_1, e_114_2, e_114_3, e_114_5, e_114_6, e_114_9, e_114_10, e_114_11, e_114_14, e_114_15, e_114_16, e_114_19, e_114_20, e_114_21, e_114_22, e_114_23, e_114_26, e_114_29, e_114_30, nl_int, nl_ref, nl_none, cat_int, cat_ref, cat_0, cat_i, cat_r, cat_l, Option.elim_some, Option.elim_none, Option.bind_some, Option.bind_none, Option.toList_some, Option.toList_none, List.cons_append, List.nil_append, Nat.reduceAdd, Nat.reduceLeDiff, wD_f0 hl, wD_f9 hl, l0, l5, ltT (x := nI (cHs ct)) (c := cHs ct) rfl hj (by omega), if_true, nI_1]
    rfl⟩) (cHs ct) 0 0 () (Nat.zero_add _) trivial
  simp (maxSteps := 1000000) (disch := first | exact nl_int | exact nl_ref | exact nl_none | exact Nat.le_of_ble_eq_true rfl | assumption | exact wD_cl (by assumption) | exact cat_int | exact cat_ref | exact z2 | exact z4 | exact z3 | exact z5 | exact z6 | exact z8 | exact z64) only [e_114_0, e_114_1, e_114_2, e_114_3, e_114_5, e_114_6, e_114_9, e_114_10, e_114_11, e_114_14, e_114_15, e_114_16, e_114_19, e_114_20, e_114_21, e_114_22, e_114_23, e_114_26, e_114_29, e_114_30, nl_int, nl_ref, nl_none, cat_int, cat_ref, cat_0, cat_i, cat_r, cat_l, Option.elim_some, Option.elim_none, Option.bind_some, Option.bind_none, Option.toList_some, Option.toList_none, List.cons_append, List.nil_append, Nat.reduceAdd, Nat.reduceLeDiff]
  exact key
theorem s7_ali (hl : 154 < hp.length) (h : Ok7 A ct nw hr) {m : am_Mo} (hL : Lg m t (A 5)) : am_E d 115 0 [some (.ref 141), none, none] [] (wD hp I A) = some (some (.int (cLit ct m t)), wD hp I A) := by
  have l0 : am_ld (wD hp I A) 142 1 = some (nI (cWk ct)) := by rw [wD_l0 (x := 1) (k := 1) rfl hl h.1 (by decide), h.2.1.1.2.1]
  have w5 := h.2.2.2.2.2.1.1
  have h5 := h.2.2.1.2.2.2
  have key := for_res (τ := Unit) (fun j s _ => am_E d 115 4 [some (.ref 141), some (.int s), some (.int (nI j))] [] (wD hp I A)) (fun _ _ => True) (cWl ct m t) (cWk ct) (fun s => some (some (.int s), wD hp I A)) (fun s _ _ => by
    try dsimp only
    rw [e_115_4]
    simp (maxSteps := 1000000) (disch := first | exact nl_int | exact nl_ref | exact nl_none | exact Nat.le_of_ble_eq_true rfl | assumption | exact wD_cl (by assumption) | exact cat_int | exact cat_ref | exact z2 | exact z4 | exact z3 | exact z5 | exact z6 | exact z8 | exact z64) only [e_115_0, e_115_1, e_115_2, e_115_3, e_115_5, e_115_6, e_115_9, e_115_10, e_115_11, e_115_14, e_115_15, e_115_16, e_115_19, e_115_20, e_115_23, e_115_25, e_115_26, e_115_27, e_115_28, e_115_29, e_115_30, e_115_31, e_115_32, e_115_35, e_115_37, e_115_38, e_115_39, e_115_40, e_115_41, e_115_42, e_115_43, e_115_44, e_115_47, e_115_48, e_115_49, e_115_50, e_115_53, e_115_54, e_115_55, e_115_56, e_115_59, e_115_62, e_115_63, nl_int, nl_ref, nl_none, cat_int, cat_ref, cat_0, cat_i, cat_r, cat_l, Option.elim_some, Option.elim_none, Option.bind_some, Option.bind_none, Option.toList_some, Option.toList_none, List.cons_append, List.nil_append, Nat.reduceAdd, Nat.reduceLeDiff, wD_f0 hl, l0, ltF (x := nI (cWk ct)) (c := cWk ct) rfl (Nat.le_refl _) (by omega), if_false]) (fun j s _ hj _ => ⟨trivial, (), by
    obtain ⟨g, n, hg, eg, hn, en⟩ := h.2.2.2.2.2.1.2 j hj
    have w1 : am_ld (wD hp I A) 142 (nI (11 + 2 * j)) = some (nI g) := by rw [wD_l0 (k := 11 + 2 * j) rfl hl h.1 (by omega), (h.2.1.2.2.1 j hj).1, eg]
    have w2 : am_ld (wD hp I A) 142 (nI (11 + 2 * j + 1)) = some (cWN ct j) := by rw [wD_l0 (k := 11 + 2 * j + 1) rfl hl h.1 (by omega), show 11 + 2 * j + 1 = 12 + 2 * j from by omega, (h.2.1.2.2.1 j hj).2]
    have l5 : am_ld (wD hp I A) 147 (nI g) = some (mLight m (nI g) t) := by rw [wD_l5 (k := g) rfl hl h.1 (by omega), hL g (by omega)]
    try dsimp only
    rw [e_115_4]
    unfold cWl
    rw [eg]
    by_cases q : mLight m (nI g) t < cWN ct j
    · rw [if_pos q]
      simp (maxSteps := 1000000) (disch := first | exact nl_int | exact nl_ref | exact nl_none | exact Nat.le_of_ble_eq_true rfl | assumption | exact wD_cl (by assumption) | exact cat_int | exact cat_ref | exact z2 | exact z4 | exact z3 | exact z5 | exact z6 | exact z8 | exact z64) only [e_115_0, e_115_1, e_115_2, e_115_3, e_115_5, e_115_6, e_115_9, e_115_10, e_115_11, e_115_14, e_115_15, e_115_16, e_115_19, e_115_20, e_115_23, e_115_25, e_115_26, e_115_27, e_115_28, e_115_29, e_115_30, e_115_31, e_115_32, e_115_35, e_115_37, e_115_38, e_115_39, e_115_40, e_115_41, e_115_42, e_115_43, e_115_44, e_115_47, e_115_48, e_115_49, e_115_50, e_115_53, e_115_54, e_115_55, e_115_56, e_115_59, e_115_62, e_115_63, nl_int, nl_ref, nl_none, cat_int, cat_ref, cat_0, cat_i, cat_r, cat_l, Option.elim_some, Option.elim_none, Option.bind_some, Option.bind_none, Option.toList_some, Option.toList_none, List.cons_append, List.nil_append, Nat.reduceAdd, Nat.reduceLeDiff, wD_f0 hl, wD_f9 hl, l0, ix11, w1, nI_1, w2, l5, ltT (x := nI (cWk ct)) (c := cWk ct) rfl hj (by omega), if_true, if_pos q, Int32.or_zero]
    · rw [if_neg q]
      simp (maxSteps := 1000000) (disch := first | exact nl_int | exact nl_ref | exact nl_none | exact Nat.le_of_ble_eq_true rfl | assumption | exact wD_cl (by assumption) | exact cat_int | exact cat_ref | exact z2 | exact z4 | exact z3 | exact z5 | exact z6 | exact z8 | exact z64) only [e_115_0, e_115_1, e_115_2, e_115_3, e_115_5, e_115_6, e_115_9, e_115_10, e_115_11, e_115_14, e_115_15, e_115_16, e_115_19, e_115_20, e_115_23, e_115_25, e_115_26, e_115_27, e_115_28, e_115_29, e_115_30, e_115_31, e_115_32, e_115_35, e_115_37, e_115_38, e_115_39, e_115_40, e_115_41, e_115_42, e_115_43, e_115_44, e_115_47, e_115_48, e_115_49, e_115_50, e_115_53, e_115_54, e_115_55, e_115_56, e_115_59, e_115_62, e_115_63, nl_int, nl_ref, nl_none, cat_int, cat_ref, cat_0, cat_i, cat_r, cat_l, Option.elim_some, Option.elim_none, Option.bind_some, Option.bind_none, Option.toList_some, Option.toList_none, List.cons_append, List.nil_append, Nat.reduceAdd, Nat.reduceLeDiff, wD_f0 hl, wD_f9 hl, l0, ix11, w1, nI_1, w2, l5, ltT (x := nI (cWk ct)) (c := cWk ct) rfl hj (by omega), if_true, if_neg q]⟩) (cWk ct) 0 0 () (Nat.zero_add _) trivial
  simp (maxSteps := 1000000) (disch := first | exact nl_int | exact nl_ref | exact nl_none | exact Nat.le_of_ble_eq_true rfl | assumption | exact wD_cl (by assumption) | exact cat_int | exact cat_ref | exact z2 | exact z4 | exact z3 | exact z5 | exact z6 | exact z8 | exact z64) only [e_115_0, e_115_1, e_115_2, e_115_3, e_115_5, e_115_6, e_115_9, e_115_10, e_115_11, e_115_14, e_115_15, e_115_16, e_115_19, e_115_20, e_115_23, e_115_25, e_115_26, e_115_27, e_115_28, e_115_29, e_115_30, e_115_31, e_115_32, e_115_35, e_115_37, e_115_38, e_115_39, e_115_40, e_115_41, e_115_42, e_115_43, e_115_44, e_115_47, e_115_48, e_115_49, e_115_50, e_115_53, e_115_54, e_115_55, e_115_56, e_115_59, e_115_62, e_115_63, nl_int, nl_ref, nl_none, cat_int, cat_ref, cat_0, cat_i, cat_r, cat_l, Option.elim_some, Option.elim_none, Option.bind_some, Option.bind_none, Option.toList_some, Option.toList_none, List.cons_append, List.nil_append, Nat.reduceAdd, Nat.reduceLeDiff]
  exact key
theorem s7_on (hl : 154 < hp.length) (h : Ok7 A ct nw hr) (hn : n ≤ 1000) (hb : hr + n ≤ 5000) : ∃ A2, Ok7 A2 ct (mOn ct hr n nw) (hr + n) ∧ (∀ k, k ≠ 1 → k ≠ 6 → A2 k = A k) ∧ am_E (d + 5) 119 0 [some (.ref 141), some (.int (nI n)), none] [] (wD hp I A) = some (none, wD hp I A2) := by
  obtain ⟨A2, a2, r2, n2, k2, e2⟩ := s7_goesOn (d := d) (I := I) hl h.2.2.2.1 hn n 0 hr A nw (Nat.zero_add _) hb h.1 h.2.1 h.2.2.1 h.2.2.2.2.1
  have ok := mOn_ok (ct := ct) (n := n) h.2.2.2.2.1 h.2.2.2.2.2.2
  rw [show nI 0 = 0 from rfl] at e2
  refine ⟨A2, ⟨a2, r2, n2, h.2.2.2.1, ok.1, h.2.2.2.2.2.1, ok.2⟩, k2, ?_⟩
  simp (maxSteps := 1000000) (disch := first | exact nl_int | exact nl_ref | exact nl_none | exact Nat.le_of_ble_eq_true rfl | assumption | exact wD_cl (by assumption) | exact cat_int | exact cat_ref | exact z2 | exact z4 | exact z3 | exact z5 | exact z6 | exact z8 | exact z64) only [e_119_0, e_119_1, e_119_3, e_119_4, e_119_7, e_119_8, e_119_9, e_119_12, e_119_15, e_119_18, e_119_21, nl_int, nl_ref, nl_none, cat_int, cat_ref, cat_0, cat_i, cat_r, cat_l, Option.elim_some, Option.elim_none, Option.bind_some, Option.bind_none, Option.toList_some, Option.toList_none, List.cons_append, List.nil_append, Nat.reduceAdd, Nat.reduceLeDiff, e2]
theorem s7_go (hl : 154 < hp.length) (h : Ok7 A ct nw hr) {tk : Int32} (ht : ∃ tt, tt < 32 ∧ tk = nI tt) : ∃ A2, Ok7 A2 ct (mGo nw tk) (hr + 1) ∧ (∀ k, k ≠ 1 → k ≠ 6 → A2 k = A k) ∧ am_E (d + 4) 118 0 [some (.ref 141), some (.int tk), none, none, none] [] (wD hp I A) = some (none, wD hp I A2) := by
  obtain ⟨tt, h32, rfl⟩ := ht
  obtain ⟨A2, a2, r2, n2, k2, e2⟩ := s7_goesBy (d := d) (I := I) hl h.1 h.2.1 h.2.2.1 h.2.2.2.2.1 h32
  refine ⟨A2, ⟨a2, r2, n2, h.2.2.2.1, mGo_ok h.2.2.2.2.1, h.2.2.2.2.2.1, ?_⟩, k2, e2⟩
  rw [mGo_hr, h.2.2.2.2.2.2, nI_1]
theorem s7_burnsIn (hl : 154 < hp.length) (h : Ok7 A ct nw hr) (hn : n ≤ 1000) (hb : hr + n ≤ 5000) : ∃ I2 A2, Si I I2 ∧ aOK A2 ∧ Sq A A2 ∧ Lg (mOn ct hr n nw) (cTalk ct (mOn ct hr n nw) (hr + n)) (A2 5) ∧ am_E (d + 6) 130 0 [some (.ref 141), some (.int (nI n))] [] (wD hp I A) = some (none, wD hp I2 A2) := by
  have hA1 : aOK (updA A 8 (A 1)) := updA_ok h.1 (h.1 1 (by decide))
  have e1 := s7_asides (d := d + 5) (I := I) hl h.1
  obtain ⟨A2, o2, k2, e2⟩ := s7_on (d := d) (I := I) (n := n) hl (h.sq hA1 (Sq.upd (by omega))) hn hb
  have e3 := s7_tk (d := d + 5) (I := I) hl o2 (by omega)
  obtain ⟨D, hD, hL, e4⟩ := s7_bu (d := d + 2) (I := I) hl o2 (o2.tk (m := mOn ct hr n nw) (r := hr + n))
  have hA3 : aOK (updA A2 5 D) := updA_ok o2.1 hD
  have e5 := s7_backs (d := d + 5) (I := updI I 10 (smk (fun h => mSmoke (mOn ct hr n nw) (nI h) (cTalk ct (mOn ct hr n nw) (hr + n))))) hl hA3
  have e8 : updA A2 5 D 8 = A 1 := by rw [updA_n (by decide), k2 8 (by decide) (by decide)]; rfl
  rw [e8] at e5
  have c0 := wD_cl (I := I) (A := A) hl
  have c1 := wD_cl (I := I) (A := updA A 8 (A 1)) hl
  have c2 := wD_cl (I := I) (A := A2) hl
  have c3 := wD_cl (I := updI I 10 (smk (fun h => mSmoke (mOn ct hr n nw) (nI h) (cTalk ct (mOn ct hr n nw) (hr + n))))) (A := updA A2 5 D) hl
  refine ⟨updI I 10 (smk (fun h => mSmoke (mOn ct hr n nw) (nI h) (cTalk ct (mOn ct hr n nw) (hr + n)))), updA (updA A2 5 D) 1 (A 1), Si.upd (k := 10) (by omega), updA_ok hA3 (h.1 1 (by decide)), fun k q3 q4 q5 q6 q8 q9 => ?_, ?_, ?_⟩
  · by_cases q1 : k = 1
    · subst q1; rfl
    · rw [updA_n q1, updA_n q5, k2 k q1 q6, updA_n q8]
  · rw [updA_n (by decide), updA_s]
    exact hL
  · simp (maxSteps := 1000000) (disch := first | exact nl_int | exact nl_ref | exact nl_none | exact Nat.le_of_ble_eq_true rfl | assumption | exact wD_cl (by assumption) | exact cat_int | exact cat_ref | exact z2 | exact z4 | exact z3 | exact z5 | exact z6 | exact z8 | exact z64) only [e_130_0, e_130_1, e_130_4, e_130_5, e_130_6, e_130_9, e_130_10, e_130_11, e_130_14, e_130_17, e_130_18, e_130_21, nl_int, nl_ref, nl_none, cat_int, cat_ref, cat_0, cat_i, cat_r, cat_l, Option.elim_some, Option.elim_none, Option.bind_some, Option.bind_none, Option.toList_some, Option.toList_none, List.cons_append, List.nil_append, Nat.reduceAdd, Nat.reduceLeDiff, e1, e2, e3, e4, e5]
theorem ix27 : 27 * nI i + nI j = nI (27 * i + j) := by
  rw [show (27 : Int32) = nI 27 from rfl, show nI 27 * nI i = nI (27 * i) from (Int32.ofNat_mul 27 i).symm, nI_add]
/-- the moment is noted behind the u that are noted; the oldest of eight goes -/
theorem s7_notes (hl : 154 < hp.length) (hA : aOK A) (hu : I 13 = nI u) (h8 : u ≤ 8) : ∃ U : List Int32, U.length = 216 ∧ (u < 8 → ∀ k j, k < u → j < 27 → U.getD (27 * k + j) 0 = (A 7).getD (27 * k + j) 0) ∧ (u = 8 → ∀ k j, k < 7 → j < 27 → U.getD (27 * k + j) 0 = (A 7).getD (27 * (k + 1) + j) 0) ∧ (∀ j, j < 27 → U.getD (27 * (min u 7) + j) 0 = (A 1).getD j 0) ∧ am_E d 122 0 [some (.ref 141), none] [] (wD hp I A) = some (none, wD hp (updI I 13 (nI (min u 7 + 1))) (updA A 7 U)) := by
  have k1 : ∀ n k (U : List Int32), k + n = 216 → 27 ≤ k → U.length = 216 → (∀ p, p < 216 → U.getD p 0 = if p + 27 < k then (A 7).getD (p + 27) 0 else (A 7).getD p 0) → ∃ U2 : List Int32, U2.length = 216 ∧ (∀ p, p < 189 → U2.getD p 0 = (A 7).getD (p + 27) 0) ∧ am_E d 122 12 [some (.ref 141), some (.int (nI k))] [] (wD hp I (updA A 7 U)) = am_E d 122 40 [some (.ref 141), some (.int (nI 216))] [] (wD hp I (updA A 7 U2)) := by
    intro n
    induction n with
    | zero =>
      intro k U hk h27 hU hF
      obtain rfl : k = 216 := by omega
      refine ⟨U, hU, fun p hp => by rw [hF p (by omega), if_pos (by omega)], ?_⟩
      rw [e_122_12]
      simp (maxSteps := 1000000) (disch := first | exact nl_int | exact nl_ref | exact nl_none | exact Nat.le_of_ble_eq_true rfl | assumption | exact wD_cl (by assumption) | exact cat_int | exact cat_ref | exact z2 | exact z4 | exact z3 | exact z5 | exact z6 | exact z8 | exact z64) only [e_122_0, e_122_1, e_122_4, e_122_6, e_122_9, e_122_11, e_122_13, e_122_16, e_122_19, e_122_20, e_122_23, e_122_24, e_122_26, e_122_27, e_122_28, e_122_31, e_122_32, e_122_33, e_122_34, e_122_37, e_122_41, e_122_43, e_122_46, e_122_47, e_122_49, e_122_51, e_122_54, e_122_55, e_122_58, e_122_60, e_122_61, e_122_64, e_122_65, e_122_66, e_122_67, e_122_68, e_122_71, e_122_72, e_122_73, e_122_74, e_122_77, e_122_80, e_122_81, e_122_82, e_122_85, e_122_86, e_122_87, e_122_90, nl_int, nl_ref, nl_none, cat_int, cat_ref, cat_0, cat_i, cat_r, cat_l, Option.elim_some, Option.elim_none, Option.bind_some, Option.bind_none, Option.toList_some, Option.toList_none, List.cons_append, List.nil_append, Nat.reduceAdd, Nat.reduceLeDiff, ltF (x := 216) (c := 216) rfl (Nat.le_refl _) (by omega), if_false]
    | succ n ih =>
      intro k U hk h27 hU hF
      have hA2 : aOK (updA A 7 U) := updA_ok hA hU
      have lx : am_ld (wD hp I (updA A 7 U)) 149 (nI k) = some ((A 7).getD k 0) := by
        rw [wD_l7 (k := k) rfl hl hA2 (by omega)]
        show some (U.getD k 0) = _
        rw [hF k (by omega), if_neg (by omega)]
      have sx : am_sx (wD hp I (updA A 7 U)) 149 (nI (k - 27)) ((A 7).getD k 0) = some (wD hp I (updA A 7 (U.set (k - 27) ((A 7).getD k 0)))) := by
        rw [wD_s7 (k := k - 27) rfl hl hA2 (by omega), updA_updA]
        rfl
      have em : nI k - 27 = nI (k - 27) := pk_sub (b := 27) h27
      obtain ⟨U2, a1, a2, a3⟩ := ih (k + 1) (U.set (k - 27) ((A 7).getD k 0)) (by omega) (by omega) ((List.length_set).trans hU) (fun p hp => by
        rw [getD_set (by omega)]
        by_cases q : k - 27 = p
        · rw [if_pos q, if_pos (by omega), show p + 27 = k from by omega]
        · rw [if_neg q, hF p hp]
          by_cases q2 : p + 27 < k
          · rw [if_pos q2, if_pos (by omega)]
          · rw [if_neg q2, if_neg (by omega)])
      refine ⟨U2, a1, a2, ?_⟩
      rw [← a3, e_122_12]
      simp (maxSteps := 1000000) (disch := first | exact nl_int | exact nl_ref | exact nl_none | exact Nat.le_of_ble_eq_true rfl | assumption | exact wD_cl (by assumption) | exact cat_int | exact cat_ref | exact z2 | exact z4 | exact z3 | exact z5 | exact z6 | exact z8 | exact z64) only [e_122_0, e_122_1, e_122_4, e_122_6, e_122_9, e_122_11, e_122_13, e_122_16, e_122_19, e_122_20, e_122_23, e_122_24, e_122_26, e_122_27, e_122_28, e_122_31, e_122_32, e_122_33, e_122_34, e_122_37, e_122_41, e_122_43, e_122_46, e_122_47, e_122_49, e_122_51, e_122_54, e_122_55, e_122_58, e_122_60, e_122_61, e_122_64, e_122_65, e_122_66, e_122_67, e_122_68, e_122_71, e_122_72, e_122_73, e_122_74, e_122_77, e_122_80, e_122_81, e_122_82, e_122_85, e_122_86, e_122_87, e_122_90, nl_int, nl_ref, nl_none, cat_int, cat_ref, cat_0, cat_i, cat_r, cat_l, Option.elim_some, Option.elim_none, Option.bind_some, Option.bind_none, Option.toList_some, Option.toList_none, List.cons_append, List.nil_append, Nat.reduceAdd, Nat.reduceLeDiff, ltT (x := 216) (c := 216) rfl (show k < 216 by omega) (by omega), if_true, wD_f12 hl, lx, em, sx, nI_1]
  have k2 : ∀ n j (v : Nat) (V U : List Int32) J, j + n = 27 → v ≤ 7 → J 13 = nI v → U.length = 216 → (∀ p, p < 216 → U.getD p 0 = if 27 * v ≤ p ∧ p < 27 * v + j then (A 1).getD (p - 27 * v) 0 else V.getD p 0) → ∃ U2 : List Int32, U2.length = 216 ∧ (∀ p, p < 216 → U2.getD p 0 = if 27 * v ≤ p ∧ p < 27 * v + 27 then (A 1).getD (p - 27 * v) 0 else V.getD p 0) ∧ am_E d 122 48 [some (.ref 141), some (.int (nI j))] [] (wD hp J (updA A 7 U)) = some (none, wD hp (updI J 13 (nI (v + 1))) (updA A 7 U2)) := by
    intro n
    induction n with
    | zero =>
      intro j v V U J hj hv eJ hU hF
      obtain rfl : j = 27 := by omega
      refine ⟨U, hU, hF, ?_⟩
      rw [e_122_48]
      simp (maxSteps := 1000000) (disch := first | exact nl_int | exact nl_ref | exact nl_none | exact Nat.le_of_ble_eq_true rfl | assumption | exact wD_cl (by assumption) | exact cat_int | exact cat_ref | exact z2 | exact z4 | exact z3 | exact z5 | exact z6 | exact z8 | exact z64) only [e_122_0, e_122_1, e_122_4, e_122_6, e_122_9, e_122_11, e_122_13, e_122_16, e_122_19, e_122_20, e_122_23, e_122_24, e_122_26, e_122_27, e_122_28, e_122_31, e_122_32, e_122_33, e_122_34, e_122_37, e_122_40, e_122_41, e_122_43, e_122_46, e_122_47, e_122_49, e_122_51, e_122_54, e_122_55, e_122_58, e_122_60, e_122_61, e_122_64, e_122_65, e_122_66, e_122_67, e_122_68, e_122_71, e_122_72, e_122_73, e_122_74, e_122_77, e_122_80, e_122_81, e_122_82, e_122_85, e_122_86, e_122_87, e_122_90, nl_int, nl_ref, nl_none, cat_int, cat_ref, cat_0, cat_i, cat_r, cat_l, Option.elim_some, Option.elim_none, Option.bind_some, Option.bind_none, Option.toList_some, Option.toList_none, List.cons_append, List.nil_append, Nat.reduceAdd, Nat.reduceLeDiff, ltF (x := 27) (c := 27) rfl (Nat.le_refl _) (by omega), if_false, wD_f13 hl, eJ, nI_1, wD_p13 hl]
    | succ n ih =>
      intro j v V U J hj hv eJ hU hF
      have hA2 : aOK (updA A 7 U) := updA_ok hA hU
      have lx : am_ld (wD hp J (updA A 7 U)) 143 (nI j) = some ((A 1).getD j 0) := by
        rw [wD_l1 (k := j) rfl hl hA2 (by omega)]
        rfl
      have sx : am_sx (wD hp J (updA A 7 U)) 149 (nI (27 * v + j)) ((A 1).getD j 0) = some (wD hp J (updA A 7 (U.set (27 * v + j) ((A 1).getD j 0)))) := by
        rw [wD_s7 (k := 27 * v + j) rfl hl hA2 (by omega), updA_updA]
        rfl
      obtain ⟨U2, a1, a2, a3⟩ := ih (j + 1) v V (U.set (27 * v + j) ((A 1).getD j 0)) J (by omega) hv eJ ((List.length_set).trans hU) (fun p hp => by
        rw [getD_set (by omega)]
        by_cases q : 27 * v + j = p
        · rw [if_pos q, if_pos (by omega), show p - 27 * v = j from by omega]
        · rw [if_neg q, hF p hp]
          by_cases q2 : 27 * v ≤ p ∧ p < 27 * v + j
          · rw [if_pos q2, if_pos (by omega)]
          · rw [if_neg q2, if_neg (by omega)])
      refine ⟨U2, a1, a2, ?_⟩
      rw [← a3, e_122_48]
      simp (maxSteps := 1000000) (disch := first | exact nl_int | exact nl_ref | exact nl_none | exact Nat.le_of_ble_eq_true rfl | assumption | exact wD_cl (by assumption) | exact cat_int | exact cat_ref | exact z2 | exact z4 | exact z3 | exact z5 | exact z6 | exact z8 | exact z64) only [e_122_0, e_122_1, e_122_4, e_122_6, e_122_9, e_122_11, e_122_13, e_122_16, e_122_19, e_122_20, e_122_23, e_122_24, e_122_26, e_122_27, e_122_28, e_122_31, e_122_32, e_122_33, e_122_34, e_122_37, e_122_40, e_122_41, e_122_43, e_122_46, e_122_47, e_122_49, e_122_51, e_122_54, e_122_55, e_122_58, e_122_60, e_122_61, e_122_64, e_122_65, e_122_66, e_122_67, e_122_68, e_122_71, e_122_72, e_122_73, e_122_74, e_122_77, e_122_80, e_122_81, e_122_82, e_122_85, e_122_86, e_122_87, e_122_90, nl_int, nl_ref, nl_none, cat_int, cat_ref, cat_0, cat_i, cat_r, cat_l, Option.elim_some, Option.elim_none, Option.bind_some, Option.bind_none, Option.toList_some, Option.toList_none, List.cons_append, List.nil_append, Nat.reduceAdd, Nat.reduceLeDiff, ltT (x := 27) (c := 27) rfl (show j < 27 by omega) (by omega), if_true, wD_f1 hl, wD_f12 hl, wD_f13 hl, eJ, lx, ix27, sx, nI_1]
  by_cases q : u = 8
  · subst q
    obtain ⟨U1, a1, a2, a3⟩ := k1 189 27 (A 7) rfl (Nat.le_refl _) (hA 7 (by decide)) (fun p hp => by rw [if_neg (by omega)])
    obtain ⟨U2, b1, b2, b3⟩ := k2 27 0 7 U1 U1 (updI I 13 (nI 7)) rfl (by omega) updI_s a1 (fun p hp => by rw [if_neg (by omega)])
    refine ⟨U2, b1, fun z => absurd z (by omega), fun _ k j hk hj => ?_, fun j hj => ?_, ?_⟩
    · rw [b2 _ (by omega), if_neg (by omega), a2 _ (by omega), show 27 * k + j + 27 = 27 * (k + 1) + j from by omega]
    · rw [show min 8 7 = 7 from rfl, b2 _ (by omega), if_pos (by omega), show 27 * 7 + j - 27 * 7 = j from by omega]
    · rw [updA_self] at a3
      rw [updI_updI] at b3
      rw [show min 8 7 + 1 = 7 + 1 from rfl, ← b3, show nI 7 = 7 from rfl, show nI 0 = 0 from rfl]
      rw [show nI 27 = 27 from rfl] at a3
      simp (maxSteps := 1000000) (disch := first | exact nl_int | exact nl_ref | exact nl_none | exact Nat.le_of_ble_eq_true rfl | assumption | exact wD_cl (by assumption) | exact cat_int | exact cat_ref | exact z2 | exact z4 | exact z3 | exact z5 | exact z6 | exact z8 | exact z64) only [e_122_0, e_122_1, e_122_4, e_122_6, e_122_9, e_122_11, e_122_13, e_122_16, e_122_19, e_122_20, e_122_23, e_122_24, e_122_26, e_122_27, e_122_28, e_122_31, e_122_32, e_122_33, e_122_34, e_122_37, e_122_40, e_122_41, e_122_43, e_122_46, e_122_47, e_122_49, e_122_51, e_122_54, e_122_55, e_122_58, e_122_60, e_122_61, e_122_64, e_122_65, e_122_66, e_122_67, e_122_68, e_122_71, e_122_72, e_122_73, e_122_74, e_122_77, e_122_80, e_122_81, e_122_82, e_122_85, e_122_86, e_122_87, e_122_90, nl_int, nl_ref, nl_none, cat_int, cat_ref, cat_0, cat_i, cat_r, cat_l, Option.elim_some, Option.elim_none, Option.bind_some, Option.bind_none, Option.toList_some, Option.toList_none, List.cons_append, List.nil_append, Nat.reduceAdd, Nat.reduceLeDiff, wD_f13 hl, hu, show (nI 8 = 8) = True from by decide, if_true, a3, wD_p13 hl]
  · obtain ⟨U2, b1, b2, b3⟩ := k2 27 0 u (A 7) (A 7) I rfl (by omega) hu (hA 7 (by decide)) (fun p hp => by rw [if_neg (by omega)])
    have em : min u 7 = u := by omega
    refine ⟨U2, b1, fun _ k j hk hj => ?_, fun z => absurd z q, fun j hj => ?_, ?_⟩
    · rw [b2 _ (by omega), if_neg (by omega)]
    · rw [em, b2 _ (by omega), if_pos (by omega), show 27 * u + j - 27 * u = j from by omega]
    · rw [updA_self] at b3
      have ne : (nI u = 8) = False := eq_false (fun z => q ((nI_eq (b := 8) (by omega) (by decide)).mp z))
      rw [em, ← b3, show nI 0 = 0 from rfl]
      simp (maxSteps := 1000000) (disch := first | exact nl_int | exact nl_ref | exact nl_none | exact Nat.le_of_ble_eq_true rfl | assumption | exact wD_cl (by assumption) | exact cat_int | exact cat_ref | exact z2 | exact z4 | exact z3 | exact z5 | exact z6 | exact z8 | exact z64) only [e_122_0, e_122_1, e_122_4, e_122_6, e_122_9, e_122_11, e_122_13, e_122_16, e_122_19, e_122_20, e_122_23, e_122_24, e_122_26, e_122_27, e_122_28, e_122_31, e_122_32, e_122_33, e_122_34, e_122_37, e_122_40, e_122_41, e_122_43, e_122_46, e_122_47, e_122_49, e_122_51, e_122_54, e_122_55, e_122_58, e_122_60, e_122_61, e_122_64, e_122_65, e_122_66, e_122_67, e_122_68, e_122_71, e_122_72, e_122_73, e_122_74, e_122_77, e_122_80, e_122_81, e_122_82, e_122_85, e_122_86, e_122_87, e_122_90, nl_int, nl_ref, nl_none, cat_int, cat_ref, cat_0, cat_i, cat_r, cat_l, Option.elim_some, Option.elim_none, Option.bind_some, Option.bind_none, Option.toList_some, Option.toList_none, List.cons_append, List.nil_append, Nat.reduceAdd, Nat.reduceLeDiff, wD_f13 hl, hu, ne, if_false]
end MDD
