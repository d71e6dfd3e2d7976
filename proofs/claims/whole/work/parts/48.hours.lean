/-! HOURS THAT GO BY -/
theorem for_keep {σ τ : Type} {f : Nat → σ → σ} (v : σ → τ) (hf : ∀ i s, v (f i s) = v s) : ∀ (n j : Nat) (s : σ), v (am_for f j n s) = v s := by
  intro n
  induction n with
  | zero => intro j s; rfl
  | succ n ih => intro j s; rw [am_for, ih, hf]
theorem mCT_hr {m : am_Mo} : (mCT m).2.2.2.2.2 = m.2.2.2.2.2 := by
  unfold mCT
  refine for_keep (fun s : am_Mo => s.2.2.2.2.2) (fun i s => ?_) _ _ _
  unfold mCT1
  refine for_keep (fun s : am_Mo => s.2.2.2.2.2) (fun j s => ?_) _ _ _
  unfold mCT2
  split <;> rfl
theorem mCO_hr {m : am_Mo} : (mCO m).2.2.2.2.2 = m.2.2.2.2.2 := by
  unfold mCO
  refine for_keep (fun s : am_Mo => s.2.2.2.2.2) (fun i s => ?_) _ _ _
  unfold mCO1
  refine for_keep (fun s : am_Mo => s.2.2.2.2.2) (fun j s => ?_) _ _ _
  unfold mCO2
  repeat (first | rfl | split)
theorem mGo_e {m : am_Mo} {t : Int32} : (mCO (mCT (am_for (mGF t) 0 8 m))).2.2.2.2.2 = m.2.2.2.2.2 := by
  rw [mCO_hr, mCT_hr]
  exact for_keep (f := mGF t) (fun s : am_Mo => s.2.2.2.2.2) (fun i s => rfl) _ _ _
theorem mGo_hr {m : am_Mo} {t : Int32} : (mGo m t).2.2.2.2.2.1 = m.2.2.2.2.2.1 + 1 := by
  have e := mGo_e (m := m) (t := t)
  unfold mGo
  obtain ⟨X, eX⟩ : ∃ X, X = mCO (mCT (am_for (mGF t) 0 8 m)) := ⟨_, rfl⟩
  rw [← eX] at e ⊢
  rw [← e]
  rfl
theorem mGo_ra {m : am_Mo} {t : Int32} : (mGo m t).2.2.2.2.2.2 = m.2.2.2.2.2.2 := by
  have e := mGo_e (m := m) (t := t)
  unfold mGo
  obtain ⟨X, eX⟩ : ∃ X, X = mCO (mCT (am_for (mGF t) 0 8 m)) := ⟨_, rfl⟩
  rw [← eX] at e ⊢
  rw [← e]
  rfl
def goF (ct : am_Ci) (hr j : Nat) (m : am_Mo) : am_Mo := mGo m (cTalk ct m (hr + j))
def mOn (ct : am_Ci) (hr n : Nat) (m : am_Mo) : am_Mo := am_for (goF ct hr) 0 n m
theorem mOn_ok {ct : am_Ci} {hr n : Nat} {m : am_Mo} (h : mOK m) (hh : m.2.2.2.2.2.1 = nI hr) : mOK (mOn ct hr n m) ∧ (mOn ct hr n m).2.2.2.2.2.1 = nI (hr + n) := by
  have := am_for_inv (f := goF ct hr) (fun j s => mOK s ∧ s.2.2.2.2.2.1 = nI (hr + j)) n 0 m ⟨h, hh⟩ (fun i s _ _ hs => ⟨mGo_ok hs.1, by rw [goF, mGo_hr, hs.2, nI_1]; rfl⟩)
  rw [Nat.zero_add] at this
  exact this
theorem mNf_self {m : am_Mo} : mNf m m.2.2.2.2.1 = m := rfl
theorem mOn_nf {ct : am_Ci} {hr n : Nat} {m : am_Mo} {f : List Int32} (h : mOK m) (hf : f.length = 8) : ∃ f2, mOn ct hr n (mNf m f) = mNf (mOn ct hr n m) f2 := by
  cases n with
  | zero => exact ⟨f, rfl⟩
  | succ n =>
    refine ⟨(mOn ct hr (n + 1) m).2.2.2.2.1, ?_⟩
    rw [mNf_self]
    have e : goF ct hr 0 (mNf m f) = goF ct hr 0 m := mGo_nf h hf
    unfold mOn
    rw [am_for, am_for, e]
theorem mOn_succ {ct : am_Ci} {hr n : Nat} {m : am_Mo} : mOn ct hr (n + 1) m = mGo (mOn ct hr n m) (cTalk ct (mOn ct hr n m) (hr + n)) := by
  unfold mOn
  rw [am_for_snoc, Nat.zero_add]
  rfl
section CL5
variable {d : Nat} {hp hp2 : am_H} {cB : Nat} {dr : am_Ci} {lt : am_Mo} {hs : am_Hs} {tm : Nat → am_Mo} {tk : am_Tk} {sp : List Int32} {tx : am_Tx} {ct : am_Ci} {nw : am_Mo} {pm : Nat → am_Mo} {pn ph : Nat} {km : Nat → am_Mo} {kc : Nat} {sH sL : List Int32} {sc i n hr : Nat} {x y : Int32}
theorem s_pass0 (hS : St hp tx ct nw pm pn ph km kc sH sL sc) (q : x < 1 ∨ 30 < x) : am_E (d + 12) 52 0 [some (.ref 0), some (.int x), none] [] hp = some (some (.int (-1)), hp) := by
  by_cases q1 : x < 1
  · simp (disch := first | exact nl_int | exact nl_ref | exact nl_none | exact Nat.le_of_ble_eq_true rfl | assumption | exact cat_int | exact cat_ref | exact z2 | exact z4 | exact z3 | exact z5 | exact z6 | exact z8 | exact z64) only [e_52_0, e_52_1, e_52_2, e_52_5, e_52_6, e_52_8, e_52_11, e_52_12, e_52_13, e_52_14, e_52_17, e_52_20, e_52_21, e_52_22, e_52_25, e_52_28, e_52_30, e_52_31, e_52_32, e_52_35, e_52_36, e_52_39, e_52_42, e_52_43, e_52_45, e_52_46, e_52_49, e_52_50, e_52_53, e_52_54, e_52_57, e_52_58, e_52_61, e_52_64, e_52_67, e_52_70, e_52_73, e_52_74, e_52_77, e_52_80, nl_int, nl_ref, nl_none, cat_int, cat_ref, cat_0, cat_i, cat_r, cat_l, Option.elim_some, Option.elim_none, Option.bind_some, Option.bind_none, Option.toList_some, Option.toList_none, List.cons_append, List.nil_append, Nat.reduceAdd, Nat.reduceLeDiff, if_pos q1]
  · have q2 : 30 < x := q.resolve_left q1
    simp (disch := first | exact nl_int | exact nl_ref | exact nl_none | exact Nat.le_of_ble_eq_true rfl | assumption | exact cat_int | exact cat_ref | exact z2 | exact z4 | exact z3 | exact z5 | exact z6 | exact z8 | exact z64) only [e_52_0, e_52_1, e_52_2, e_52_5, e_52_6, e_52_8, e_52_11, e_52_12, e_52_13, e_52_14, e_52_17, e_52_20, e_52_21, e_52_22, e_52_25, e_52_28, e_52_30, e_52_31, e_52_32, e_52_35, e_52_36, e_52_39, e_52_42, e_52_43, e_52_45, e_52_46, e_52_49, e_52_50, e_52_53, e_52_54, e_52_57, e_52_58, e_52_61, e_52_64, e_52_67, e_52_70, e_52_73, e_52_74, e_52_77, e_52_80, nl_int, nl_ref, nl_none, cat_int, cat_ref, cat_0, cat_i, cat_r, cat_l, Option.elim_some, Option.elim_none, Option.bind_some, Option.bind_none, Option.toList_some, Option.toList_none, List.cons_append, List.nil_append, Nat.reduceAdd, Nat.reduceLeDiff, if_neg q1, if_pos q2]
theorem s_pass1 (hS : St hp tx ct nw pm pn ph km kc sH sL sc) (hh : nw.2.2.2.2.2.1 = nI hr) (hl : hr ≤ 999) (n1 : 1 ≤ n) (n2 : n ≤ 30) (hn : 999 < hr + n) : am_E (d + 12) 52 0 [some (.ref 0), some (.int (nI n)), none] [] hp = some (some (.int (-2)), hp) := by
  obtain ⟨cB, dr, lt, hs, tm, tk, sp, h⟩ := hS
  simp (disch := first | exact nl_int | exact nl_ref | exact nl_none | exact Nat.le_of_ble_eq_true rfl | assumption | exact cat_int | exact cat_ref | exact z2 | exact z4 | exact z3 | exact z5 | exact z6 | exact z8 | exact z64) only [e_52_0, e_52_1, e_52_2, e_52_5, e_52_6, e_52_8, e_52_11, e_52_12, e_52_13, e_52_14, e_52_17, e_52_20, e_52_21, e_52_22, e_52_25, e_52_28, e_52_30, e_52_31, e_52_32, e_52_35, e_52_36, e_52_39, e_52_42, e_52_43, e_52_45, e_52_46, e_52_49, e_52_50, e_52_53, e_52_54, e_52_57, e_52_58, e_52_61, e_52_64, e_52_67, e_52_70, e_52_73, e_52_74, e_52_77, e_52_80, nl_int, nl_ref, nl_none, cat_int, cat_ref, cat_0, cat_i, cat_r, cat_l, Option.elim_some, Option.elim_none, Option.bind_some, Option.bind_none, Option.toList_some, Option.toList_none, List.cons_append, List.nil_append, Nat.reduceAdd, Nat.reduceLeDiff, ltF (x := 1) (c := 1) rfl n1 (by omega), gtF (x := 30) (c := 30) rfl n2 (by decide), if_false, if_true, h.f3, h.qn.f5, hh, nI_add, gtT (x := 999) (c := 999) rfl hn (by omega)]
theorem s_pass2 (hS : St hp tx ct nw pm pn ph km kc sH sL sc) (hh : nw.2.2.2.2.2.1 = nI hr) (hl : hr ≤ 999) (n1 : 1 ≤ n) (n2 : n ≤ 30) (hn : hr + n ≤ 999) : Run d 52 [some (.ref 0), some (.int (nI n)), none] hp (nI (hr + n)) (fun h => St h tx ct (mOn ct hr n nw) (updM pm pn (mCopy (pm pn) nw)) ((pn + 1) % 8) (min (ph + 1) 8) km kc sH sL sc) := by
  obtain ⟨cB, dr, lt, hs, tm, tk, sp, h⟩ := hS
  have hcl := h.qp.cl
  obtain ⟨hp1, e, h1, fr⟩ := St1_rem (d := d + 10) h
  have ok := mOn_ok (ct := ct) (n := n) h1.qn.ok hh
  have key := for_res (τ := Unit) (fun j s _ => am_E (d + 12) 52 44 [some (.ref 0), some (.int (nI n)), some (.int (nI j))] [] (wM hp1 24 s)) (fun j s => mOK s ∧ s.2.2.2.2.2.1 = nI (hr + j)) (goF ct hr) n (fun s => some (some (.int s.2.2.2.2.2.1), wM hp1 24 s)) (fun s _ hs => by
    have g := St1_wn h1 hs.1
    try dsimp only
    rw [e_52_44]
    simp (disch := first | exact nl_int | exact nl_ref | exact nl_none | exact Nat.le_of_ble_eq_true rfl | assumption | exact cat_int | exact cat_ref | exact z2 | exact z4 | exact z3 | exact z5 | exact z6 | exact z8 | exact z64) only [e_52_0, e_52_1, e_52_2, e_52_5, e_52_6, e_52_8, e_52_11, e_52_12, e_52_13, e_52_14, e_52_17, e_52_20, e_52_21, e_52_22, e_52_25, e_52_28, e_52_30, e_52_31, e_52_32, e_52_35, e_52_36, e_52_39, e_52_42, e_52_43, e_52_45, e_52_46, e_52_49, e_52_50, e_52_53, e_52_54, e_52_57, e_52_58, e_52_61, e_52_64, e_52_67, e_52_70, e_52_73, e_52_74, e_52_77, e_52_80, nl_int, nl_ref, nl_none, cat_int, cat_ref, cat_0, cat_i, cat_r, cat_l, Option.elim_some, Option.elim_none, Option.bind_some, Option.bind_none, Option.toList_some, Option.toList_none, List.cons_append, List.nil_append, Nat.reduceAdd, Nat.reduceLeDiff, ltF (x := nI n) (c := n) rfl (Nat.le_refl n) (by omega), if_false, g.f3, g.qn.f5]) (fun j s _ hj hs => ⟨⟨mGo_ok hs.1, by rw [goF, mGo_hr, hs.2, nI_1]; rfl⟩, (), by
    have g := St1_wn h1 hs.1
    have hc1 := g.qn.c
    have hc2 := g.qc.cl
    try dsimp only
    rw [e_52_44]
    simp (disch := first | exact nl_int | exact nl_ref | exact nl_none | exact Nat.le_of_ble_eq_true rfl | assumption | exact cat_int | exact cat_ref | exact z2 | exact z4 | exact z3 | exact z5 | exact z6 | exact z8 | exact z64) only [e_52_0, e_52_1, e_52_2, e_52_5, e_52_6, e_52_8, e_52_11, e_52_12, e_52_13, e_52_14, e_52_17, e_52_20, e_52_21, e_52_22, e_52_25, e_52_28, e_52_30, e_52_31, e_52_32, e_52_35, e_52_36, e_52_39, e_52_42, e_52_43, e_52_45, e_52_46, e_52_49, e_52_50, e_52_53, e_52_54, e_52_57, e_52_58, e_52_61, e_52_64, e_52_67, e_52_70, e_52_73, e_52_74, e_52_77, e_52_80, nl_int, nl_ref, nl_none, cat_int, cat_ref, cat_0, cat_i, cat_r, cat_l, Option.elim_some, Option.elim_none, Option.bind_some, Option.bind_none, Option.toList_some, Option.toList_none, List.cons_append, List.nil_append, Nat.reduceAdd, Nat.reduceLeDiff, ltT (x := nI n) (c := n) rfl hj (by omega), if_true, g.f3, g.f1, s_talkedOf g.qc g.qn hs.2 (show hr + j < 2 ^ 31 by omega), s_goBy h1.qn.len hs.1, nI_1]
    rfl⟩) n 0 nw () (Nat.zero_add n) ⟨h1.qn.ok, hh⟩
  try dsimp only at key
  rw [wM_self h1.qn] at key
  refine ⟨_, ?_, ⟨_, _, _, _, _, _, _, St1_wn h1 ok.1⟩, fr.trans (Fr_wM (by omega))⟩
  simp (disch := first | exact nl_int | exact nl_ref | exact nl_none | exact Nat.le_of_ble_eq_true rfl | assumption | exact cat_int | exact cat_ref | exact z2 | exact z4 | exact z3 | exact z5 | exact z6 | exact z8 | exact z64) only [e_52_0, e_52_1, e_52_2, e_52_5, e_52_6, e_52_8, e_52_11, e_52_12, e_52_13, e_52_14, e_52_17, e_52_20, e_52_21, e_52_22, e_52_25, e_52_28, e_52_30, e_52_31, e_52_32, e_52_35, e_52_36, e_52_39, e_52_42, e_52_43, e_52_45, e_52_46, e_52_49, e_52_50, e_52_53, e_52_54, e_52_57, e_52_58, e_52_61, e_52_64, e_52_67, e_52_70, e_52_73, e_52_74, e_52_77, e_52_80, nl_int, nl_ref, nl_none, cat_int, cat_ref, cat_0, cat_i, cat_r, cat_l, Option.elim_some, Option.elim_none, Option.bind_some, Option.bind_none, Option.toList_some, Option.toList_none, List.cons_append, List.nil_append, Nat.reduceAdd, Nat.reduceLeDiff, ltF (x := 1) (c := 1) rfl n1 (by omega), gtF (x := 30) (c := 30) rfl n2 (by decide), if_false, if_true, h.f3, h.f5, h.qn.f5, hh, nI_add, gtF (x := 999) (c := 999) rfl hn (by decide), e]
  rw [← ok.2]
  exact key
theorem s_look (h : St1 hp cB dr lt hs tm tk sp tx ct nw pm pn ph km kc sH sL sc) (hh : nw.2.2.2.2.2.1 = nI hr) (hl : hr ≤ 999) (hn : n ≤ 100) : ∃ hp2 f, am_E (d + 3) 79 0 [some (.ref 0), some (.int (nI n)), none] [] hp = some (none, hp2) ∧ St1 hp2 cB dr (mNf (mOn ct hr n nw) f) hs tm tk sp tx ct nw pm pn ph km kc sH sL sc ∧ Fr hp hp2 := by
  have hcl := h.ql.c
  obtain ⟨e, h1⟩ := St1_cpL (d := d + 2) h
  have ok := mOn_ok (ct := ct) (n := n) h1.ql.ok hh
  obtain ⟨f, ef⟩ := mOn_nf (ct := ct) (hr := hr) (n := n) h.qn.ok (show lt.2.2.2.2.1.length = 8 from h.ql.ok.2.2.2.2)
  have key := for_res (τ := Unit) (fun j s _ => am_E (d + 3) 79 13 [some (.ref 0), some (.int (nI n)), some (.int (nI j))] [] (wM hp 30 s)) (fun j s => mOK s ∧ s.2.2.2.2.2.1 = nI (hr + j)) (goF ct hr) n (fun s => some (none, wM hp 30 s)) (fun s _ hs => by
    have g := St1_wl h hs.1
    try dsimp only
    rw [e_79_13]
    simp (disch := first | exact nl_int | exact nl_ref | exact nl_none | exact Nat.le_of_ble_eq_true rfl | assumption | exact cat_int | exact cat_ref | exact z2 | exact z4 | exact z3 | exact z5 | exact z6 | exact z8 | exact z64) only [e_79_0, e_79_1, e_79_4, e_79_5, e_79_8, e_79_11, e_79_12, e_79_14, e_79_15, e_79_18, e_79_19, e_79_22, e_79_23, e_79_26, e_79_27, e_79_30, e_79_33, e_79_36, e_79_39, e_79_42, nl_int, nl_ref, nl_none, cat_int, cat_ref, cat_0, cat_i, cat_r, cat_l, Option.elim_some, Option.elim_none, Option.bind_some, Option.bind_none, Option.toList_some, Option.toList_none, List.cons_append, List.nil_append, Nat.reduceAdd, Nat.reduceLeDiff, ltF (x := nI n) (c := n) rfl (Nat.le_refl n) (by omega), if_false]) (fun j s _ hj hs => ⟨⟨mGo_ok hs.1, by rw [goF, mGo_hr, hs.2, nI_1]; rfl⟩, (), by
    have g := St1_wl h hs.1
    have hc1 := g.ql.c
    have hc2 := g.qc.cl
    try dsimp only
    rw [e_79_13]
    simp (disch := first | exact nl_int | exact nl_ref | exact nl_none | exact Nat.le_of_ble_eq_true rfl | assumption | exact cat_int | exact cat_ref | exact z2 | exact z4 | exact z3 | exact z5 | exact z6 | exact z8 | exact z64) only [e_79_0, e_79_1, e_79_4, e_79_5, e_79_8, e_79_11, e_79_12, e_79_14, e_79_15, e_79_18, e_79_19, e_79_22, e_79_23, e_79_26, e_79_27, e_79_30, e_79_33, e_79_36, e_79_39, e_79_42, nl_int, nl_ref, nl_none, cat_int, cat_ref, cat_0, cat_i, cat_r, cat_l, Option.elim_some, Option.elim_none, Option.bind_some, Option.bind_none, Option.toList_some, Option.toList_none, List.cons_append, List.nil_append, Nat.reduceAdd, Nat.reduceLeDiff, ltT (x := nI n) (c := n) rfl hj (by omega), if_true, g.f4, g.f1, s_talkedOf g.qc g.ql hs.2 (show hr + j < 2 ^ 31 by omega), s_goBy h.ql.len hs.1, nI_1]
    rfl⟩) n 0 (mCopy lt nw) () (Nat.zero_add n) ⟨h1.ql.ok, hh⟩
  try dsimp only at key
  have g := St1_wl h ok.1
  refine ⟨_, f, ?_, by rw [← ef]; exact g, Fr_wM (by omega)⟩
  simp (disch := first | exact nl_int | exact nl_ref | exact nl_none | exact Nat.le_of_ble_eq_true rfl | assumption | exact cat_int | exact cat_ref | exact z2 | exact z4 | exact z3 | exact z5 | exact z6 | exact z8 | exact z64) only [e_79_0, e_79_1, e_79_4, e_79_5, e_79_8, e_79_11, e_79_12, e_79_14, e_79_15, e_79_18, e_79_19, e_79_22, e_79_23, e_79_26, e_79_27, e_79_30, e_79_33, e_79_36, e_79_39, e_79_42, nl_int, nl_ref, nl_none, cat_int, cat_ref, cat_0, cat_i, cat_r, cat_l, Option.elim_some, Option.elim_none, Option.bind_some, Option.bind_none, Option.toList_some, Option.toList_none, List.cons_append, List.nil_append, Nat.reduceAdd, Nat.reduceLeDiff, h.f4, h.f3, e]
  exact key
end CL5
