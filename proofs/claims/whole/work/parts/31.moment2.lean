/-! a Moment is written -/
def mOK (m : am_Mo) : Prop := m.1.length = 8 ∧ m.2.1.length = 8 ∧ m.2.2.1.length = 8 ∧ m.2.2.2.1.length = 8 ∧ m.2.2.2.2.1.length = 8
def mObj (k : Nat) (hr ra : Int32) : Nat × List Value := (2, [.ref (k + 1), .ref (k + 2), .ref (k + 3), .ref (k + 4), .ref (k + 5), .int hr, .int ra])
/-- the heap with m in the Moment at k -/
def wM (hp : am_H) (k : Nat) (m : am_Mo) : am_H := (((((hp.set k (.inr (.inr (mObj k m.2.2.2.2.2.1 m.2.2.2.2.2.2)))).set (k + 1) (.inl m.1)).set (k + 2) (.inl m.2.1)).set (k + 3) (.inl m.2.2.1)).set (k + 4) (.inl m.2.2.2.1)).set (k + 5) (.inl m.2.2.2.2.1)
def mSetK (m : am_Mo) (i : Nat) (x : Int32) : am_Mo := (m.1.set i x, m.2)
def mSetO (m : am_Mo) (i : Nat) (x : Int32) : am_Mo := (m.1, m.2.1.set i x, m.2.2)
def mSetT (m : am_Mo) (i : Nat) (x : Int32) : am_Mo := (m.1, m.2.1, m.2.2.1.set i x, m.2.2.2)
def mSetH (m : am_Mo) (i : Nat) (x : Int32) : am_Mo := (m.1, m.2.1, m.2.2.1, m.2.2.2.1.set i x, m.2.2.2.2)
def mSetF (m : am_Mo) (i : Nat) (x : Int32) : am_Mo := (m.1, m.2.1, m.2.2.1, m.2.2.2.1, m.2.2.2.2.1.set i x, m.2.2.2.2.2)
def mSetHr (m : am_Mo) (x : Int32) : am_Mo := (m.1, m.2.1, m.2.2.1, m.2.2.2.1, m.2.2.2.2.1, x, m.2.2.2.2.2.2)
def mSetRa (m : am_Mo) (x : Int32) : am_Mo := (m.1, m.2.1, m.2.2.1, m.2.2.2.1, m.2.2.2.2.1, m.2.2.2.2.2.1, x)
section WM
variable {hp : am_H} {k i j b : Nat} {m m0 : am_Mo} {x : Int32}
theorem mOK.K (h : mOK m) : mOK (mSetK m i x) := ⟨(List.length_set).trans h.1, h.2.1, h.2.2.1, h.2.2.2.1, h.2.2.2.2⟩
theorem mOK.O (h : mOK m) : mOK (mSetO m i x) := ⟨h.1, (List.length_set).trans h.2.1, h.2.2.1, h.2.2.2.1, h.2.2.2.2⟩
theorem mOK.T (h : mOK m) : mOK (mSetT m i x) := ⟨h.1, h.2.1, (List.length_set).trans h.2.2.1, h.2.2.2.1, h.2.2.2.2⟩
theorem mOK.H (h : mOK m) : mOK (mSetH m i x) := ⟨h.1, h.2.1, h.2.2.1, (List.length_set).trans h.2.2.2.1, h.2.2.2.2⟩
theorem mOK.F (h : mOK m) : mOK (mSetF m i x) := ⟨h.1, h.2.1, h.2.2.1, h.2.2.2.1, (List.length_set).trans h.2.2.2.2⟩
theorem isM.ok (h : isM hp k m) : mOK m := ⟨h.2.1.2, h.2.2.1.2, h.2.2.2.1.2, h.2.2.2.2.1.2, h.2.2.2.2.2.2⟩
theorem isM.len (h : isM hp k m) : k + 5 < hp.length := am_arr_lt h.2.2.2.2.2.1
theorem wM_len : (wM hp k m).length = hp.length := by simp [wM]
theorem wM_get (hb : b < k ∨ k + 5 < b) : (wM hp k m)[b]? = hp[b]? := by
  unfold wM
  rw [List.getElem?_set_ne (by omega), List.getElem?_set_ne (by omega), List.getElem?_set_ne (by omega), List.getElem?_set_ne (by omega), List.getElem?_set_ne (by omega), List.getElem?_set_ne (by omega)]
theorem wM_arr (hb : b < k ∨ k + 5 < b) : am_arr (wM hp k m) b = am_arr hp b := by unfold am_arr; rw [wM_get hb]
theorem wM_obj (hb : b < k ∨ k + 5 < b) : am_obj (wM hp k m) b = am_obj hp b := by unfold am_obj; rw [wM_get hb]
theorem wM_rar (hb : b < k ∨ k + 5 < b) : am_rar (wM hp k m) b = am_rar hp b := by unfold am_rar; rw [wM_get hb]
theorem isM_wM (hk : k + 5 < hp.length) (hm : mOK m) : isM (wM hp k m) k m := by
  have l0 : k < hp.length := by omega
  have l1 : k + 1 < hp.length := by omega
  have l2 : k + 2 < hp.length := by omega
  have l3 : k + 3 < hp.length := by omega
  have l4 : k + 4 < hp.length := by omega
  refine ⟨?_, ⟨?_, hm.1⟩, ⟨?_, hm.2.1⟩, ⟨?_, hm.2.2.1⟩, ⟨?_, hm.2.2.2.1⟩, ⟨?_, hm.2.2.2.2⟩⟩
  · simp [am_obj, wM, mObj, List.getElem?_set, l0]
  · simp [am_arr, wM, List.getElem?_set, l1]
  · simp [am_arr, wM, List.getElem?_set, l2]
  · simp [am_arr, wM, List.getElem?_set, l3]
  · simp [am_arr, wM, List.getElem?_set, l4]
  · simp [am_arr, wM, List.getElem?_set, hk]
theorem set_self {l : am_H} {i : Nat} {c : am_C} (h : l[i]? = some c) : l.set i c = l := by
  apply List.ext_getElem?
  intro j
  rw [List.getElem?_set]
  by_cases e : i = j
  · subst e
    rw [if_pos rfl, if_pos (List.getElem?_eq_some_iff.mp h).1, h]
  · rw [if_neg e]
theorem wM_self (h : isM hp k m) : wM hp k m = hp := by
  unfold wM mObj
  rw [set_self (am_obj_get h.1), set_self (am_arr_get h.2.1.1), set_self (am_arr_get h.2.2.1.1), set_self (am_arr_get h.2.2.2.1.1), set_self (am_arr_get h.2.2.2.2.1.1), set_self (am_arr_get h.2.2.2.2.2.1)]
theorem wM_O {c : am_C} : (wM hp k m).set k c = ((((((hp.set k c).set (k + 1) (.inl m.1)).set (k + 2) (.inl m.2.1)).set (k + 3) (.inl m.2.2.1)).set (k + 4) (.inl m.2.2.2.1)).set (k + 5) (.inl m.2.2.2.2.1)) := by
  unfold wM
  rw [List.set_comm _ _ (show k + 5 ≠ k by omega), List.set_comm _ _ (show k + 4 ≠ k by omega), List.set_comm _ _ (show k + 3 ≠ k by omega), List.set_comm _ _ (show k + 2 ≠ k by omega), List.set_comm _ _ (show k + 1 ≠ k by omega), List.set_set]
theorem wM_1 {ys : List Int32} : (wM hp k m).set (k + 1) (.inl ys) = wM hp k (ys, m.2) := by
  unfold wM
  rw [List.set_comm _ _ (show k + 5 ≠ k + 1 by omega), List.set_comm _ _ (show k + 4 ≠ k + 1 by omega), List.set_comm _ _ (show k + 3 ≠ k + 1 by omega), List.set_comm _ _ (show k + 2 ≠ k + 1 by omega), List.set_set]
theorem wM_2 {ys : List Int32} : (wM hp k m).set (k + 2) (.inl ys) = wM hp k (m.1, ys, m.2.2) := by
  unfold wM
  rw [List.set_comm _ _ (show k + 5 ≠ k + 2 by omega), List.set_comm _ _ (show k + 4 ≠ k + 2 by omega), List.set_comm _ _ (show k + 3 ≠ k + 2 by omega), List.set_set]
theorem wM_3 {ys : List Int32} : (wM hp k m).set (k + 3) (.inl ys) = wM hp k (m.1, m.2.1, ys, m.2.2.2) := by
  unfold wM
  rw [List.set_comm _ _ (show k + 5 ≠ k + 3 by omega), List.set_comm _ _ (show k + 4 ≠ k + 3 by omega), List.set_set]
theorem wM_4 {ys : List Int32} : (wM hp k m).set (k + 4) (.inl ys) = wM hp k (m.1, m.2.1, m.2.2.1, ys, m.2.2.2.2) := by
  unfold wM
  rw [List.set_comm _ _ (show k + 5 ≠ k + 4 by omega), List.set_set]
theorem wM_5 {ys : List Int32} : (wM hp k m).set (k + 5) (.inl ys) = wM hp k (m.1, m.2.1, m.2.2.1, m.2.2.2.1, ys, m.2.2.2.2.2) := by
  unfold wM
  rw [List.set_set]
theorem wM_wM {m2 : am_Mo} : wM (wM hp k m) k m2 = wM hp k m2 := by
  rw [show wM (wM hp k m) k m2 = ((((((wM hp k m).set k (.inr (.inr (mObj k m2.2.2.2.2.2.1 m2.2.2.2.2.2.2)))).set (k + 1) (.inl m2.1)).set (k + 2) (.inl m2.2.1)).set (k + 3) (.inl m2.2.2.1)).set (k + 4) (.inl m2.2.2.2.1)).set (k + 5) (.inl m2.2.2.2.2.1) from rfl, wM_O]
  rw [show ((((((hp.set k (.inr (.inr (mObj k m2.2.2.2.2.2.1 m2.2.2.2.2.2.2)))).set (k + 1) (.inl m.1)).set (k + 2) (.inl m.2.1)).set (k + 3) (.inl m.2.2.1)).set (k + 4) (.inl m.2.2.2.1)).set (k + 5) (.inl m.2.2.2.2.1) : am_H) = wM hp k (m.1, m.2.1, m.2.2.1, m.2.2.2.1, m.2.2.2.2.1, m2.2.2.2.2.2.1, m2.2.2.2.2.2.2) from rfl, wM_1, wM_2, wM_3, wM_4, wM_5]
theorem wM_sK (hk : k + 5 < hp.length) (hm : mOK m) (hi : i < 8) : am_sx (wM hp k m) (k + 1) (nI i) x = some (wM hp k (mSetK m i x)) := by rw [am_sx_nI (isM_wM hk hm).2.1 hi (by decide), wM_1]; rfl
theorem wM_sO (hk : k + 5 < hp.length) (hm : mOK m) (hi : i < 8) : am_sx (wM hp k m) (k + 2) (nI i) x = some (wM hp k (mSetO m i x)) := by rw [am_sx_nI (isM_wM hk hm).2.2.1 hi (by decide), wM_2]; rfl
theorem wM_sT (hk : k + 5 < hp.length) (hm : mOK m) (hi : i < 8) : am_sx (wM hp k m) (k + 3) (nI i) x = some (wM hp k (mSetT m i x)) := by rw [am_sx_nI (isM_wM hk hm).2.2.2.1 hi (by decide), wM_3]; rfl
theorem wM_sH (hk : k + 5 < hp.length) (hm : mOK m) (hi : i < 8) : am_sx (wM hp k m) (k + 4) (nI i) x = some (wM hp k (mSetH m i x)) := by rw [am_sx_nI (isM_wM hk hm).2.2.2.2.1 hi (by decide), wM_4]; rfl
theorem wM_sF (hk : k + 5 < hp.length) (hm : mOK m) (hi : i < 8) : am_sx (wM hp k m) (k + 5) (nI i) x = some (wM hp k (mSetF m i x)) := by rw [am_sx_nI (isM_wM hk hm).2.2.2.2.2 hi (by decide), wM_5]; rfl
theorem wM_pHr (hk : k + 5 < hp.length) (hm : mOK m) : am_pf (wM hp k m) k 2 5 (.int x) = some (wM hp k (mSetHr m x)) := by
  rw [am_pf_of (isM_wM hk hm).1 (show _ < 7 by decide), wM_O]; rfl
theorem wM_pRa (hk : k + 5 < hp.length) (hm : mOK m) : am_pf (wM hp k m) k 2 6 (.int x) = some (wM hp k (mSetRa m x)) := by
  rw [am_pf_of (isM_wM hk hm).1 (show _ < 7 by decide), wM_O]; rfl
end WM
/-- two meet behind an hour -/
def mBy (m : am_Mo) (i j : Nat) : Int32 := if (mF m i >>> (nI j &&& 31)) &&& 1 = 1 then 1 else -1
def mTem (m : am_Mo) (i : Nat) (y : Int32) : am_Mo := mSetT m i (imax 0 (imin 9 (mT m i + y)))
def mCT2 (i j : Nat) (m : am_Mo) : am_Mo := if mTog m i j = false then m else mTem (mTem m i (mBy m i j)) j (mBy m i j)
def mCT1 (i : Nat) (m : am_Mo) : am_Mo := am_for (mCT2 i) (i + 1) (7 - i) m
def mCT (m : am_Mo) : am_Mo := am_for mCT1 0 8 m
theorem mCT2_ok {i j : Nat} {m : am_Mo} (h : mOK m) : mOK (mCT2 i j m) := by
  unfold mCT2
  split
  · exact h
  · exact h.T.T
theorem mCT1_ok {i : Nat} {m : am_Mo} (h : mOK m) : mOK (mCT1 i m) := am_for_inv (fun _ s => mOK s) _ _ _ h (fun _ _ _ _ q => mCT2_ok q)
theorem mCT_ok {m : am_Mo} (h : mOK m) : mOK (mCT m) := am_for_inv (fun _ s => mOK s) _ _ _ h (fun _ _ _ _ q => mCT1_ok q)
theorem s_changeTempers {d k : Nat} {hp : am_H} {m : am_Mo} (hk : k + 5 < hp.length) (hm : mOK m) : am_E (d + 1) 29 0 [some (.ref k), none, none, none] [] (wM hp k m) = some (none, wM hp k (mCT m)) := by
  have key := for_res (τ := Option Value × Option Value) (fun i s y => am_E (d + 1) 29 2 [some (.ref k), some (.int (nI i)), y.1, y.2] [] (wM hp k s)) (fun _ s => mOK s) mCT1 8 (fun s => some (none, wM hp k s)) (fun s _ _ => by
    try dsimp only
    rw [e_29_2]
    simp (disch := first | exact nl_int | exact nl_ref | exact nl_none | exact Nat.le_of_ble_eq_true rfl | assumption | exact cat_int | exact cat_ref | exact z2 | exact z4 | exact z3 | exact z5 | exact z6 | exact z8 | exact z64) only [e_29_0, e_29_1, e_29_3, e_29_5, e_29_8, e_29_9, e_29_10, e_29_11, e_29_13, e_29_15, e_29_18, e_29_19, e_29_20, e_29_21, e_29_24, e_29_27, e_29_28, e_29_31, e_29_32, e_29_33, e_29_34, e_29_35, e_29_36, e_29_37, e_29_38, e_29_41, e_29_42, e_29_45, e_29_46, e_29_47, e_29_48, e_29_51, e_29_52, e_29_53, e_29_55, e_29_56, e_29_59, e_29_60, e_29_61, e_29_62, e_29_63, e_29_66, e_29_69, e_29_70, e_29_71, e_29_74, e_29_75, e_29_76, e_29_78, e_29_79, e_29_82, e_29_83, e_29_84, e_29_85, e_29_86, e_29_89, e_29_92, e_29_93, e_29_96, e_29_99, e_29_102, e_29_105, nl_int, nl_ref, nl_none, cat_int, cat_ref, cat_0, cat_i, cat_r, cat_l, Option.elim_some, Option.elim_none, Option.bind_some, Option.bind_none, Option.toList_some, Option.toList_none, List.cons_append, List.nil_append, Nat.reduceAdd, Nat.reduceLeDiff, ltF (x := 8) (c := 8) rfl (Nat.le_refl 8) (by decide), if_false]) (fun i s y hi hs => ⟨mCT1_ok hs, by
    try dsimp only
    rw [e_29_2]
    simp (disch := first | exact nl_int | exact nl_ref | exact nl_none | exact Nat.le_of_ble_eq_true rfl | assumption | exact cat_int | exact cat_ref | exact z2 | exact z4 | exact z3 | exact z5 | exact z6 | exact z8 | exact z64) only [e_29_0, e_29_1, e_29_3, e_29_5, e_29_8, e_29_9, e_29_10, e_29_11, e_29_13, e_29_15, e_29_18, e_29_19, e_29_20, e_29_21, e_29_24, e_29_27, e_29_28, e_29_31, e_29_32, e_29_33, e_29_34, e_29_35, e_29_36, e_29_37, e_29_38, e_29_41, e_29_42, e_29_45, e_29_46, e_29_47, e_29_48, e_29_51, e_29_52, e_29_53, e_29_55, e_29_56, e_29_59, e_29_60, e_29_61, e_29_62, e_29_63, e_29_66, e_29_69, e_29_70, e_29_71, e_29_74, e_29_75, e_29_76, e_29_78, e_29_79, e_29_82, e_29_83, e_29_84, e_29_85, e_29_86, e_29_89, e_29_92, e_29_93, e_29_96, e_29_99, e_29_102, e_29_105, nl_int, nl_ref, nl_none, cat_int, cat_ref, cat_0, cat_i, cat_r, cat_l, Option.elim_some, Option.elim_none, Option.bind_some, Option.bind_none, Option.toList_some, Option.toList_none, List.cons_append, List.nil_append, Nat.reduceAdd, Nat.reduceLeDiff, ltT (x := 8) (c := 8) rfl hi (by decide), if_true, nI_1]
    obtain ⟨⟨-, h9⟩, y2, e2⟩ := for_ex (τ := Option Value) (fun j s y => am_E (d + 1) 29 12 [some (.ref k), some (.int (nI i)), some (.int (nI j)), y] [] (wM hp k s)) (fun j s => i < j ∧ mOK s) (mCT2 i) 8 (fun j s y hj hs => ⟨⟨Nat.lt_succ_of_lt hs.1, mCT2_ok hs.2⟩, by
        have h := isM_wM hk hs.2
        have hcl := h.c
        try dsimp only
        rw [e_29_12]
        simp (disch := first | exact nl_int | exact nl_ref | exact nl_none | exact Nat.le_of_ble_eq_true rfl | assumption | exact cat_int | exact cat_ref | exact z2 | exact z4 | exact z3 | exact z5 | exact z6 | exact z8 | exact z64) only [e_29_0, e_29_1, e_29_3, e_29_5, e_29_8, e_29_9, e_29_10, e_29_11, e_29_13, e_29_15, e_29_18, e_29_19, e_29_20, e_29_21, e_29_24, e_29_27, e_29_28, e_29_31, e_29_32, e_29_33, e_29_34, e_29_35, e_29_36, e_29_37, e_29_38, e_29_41, e_29_42, e_29_45, e_29_46, e_29_47, e_29_48, e_29_51, e_29_52, e_29_53, e_29_55, e_29_56, e_29_59, e_29_60, e_29_61, e_29_62, e_29_63, e_29_66, e_29_69, e_29_70, e_29_71, e_29_74, e_29_75, e_29_76, e_29_78, e_29_79, e_29_82, e_29_83, e_29_84, e_29_85, e_29_86, e_29_89, e_29_92, e_29_93, e_29_96, e_29_99, e_29_102, e_29_105, nl_int, nl_ref, nl_none, cat_int, cat_ref, cat_0, cat_i, cat_r, cat_l, Option.elim_some, Option.elim_none, Option.bind_some, Option.bind_none, Option.toList_some, Option.toList_none, List.cons_append, List.nil_append, Nat.reduceAdd, Nat.reduceLeDiff, ltT (x := 8) (c := 8) rfl hj (by decide), if_true, s_together h hi hj, b2_0, h.f4, h.f2, h.lf hi, h.lt hi, s_min, s_max, nI_1]
        unfold mCT2
        by_cases h1 : mTog s i j = false
        · rw [if_pos h1]
          simp only [if_pos h1]
          exact ⟨_, rfl⟩
        · rw [if_neg h1]
          simp only [if_neg h1]
          by_cases h3 : (mF s i >>> (nI j &&& 31)) &&& 1 = 1
          · have e1 : mBy s i j = 1 := if_pos h3
            rw [e1]
            have h2 := isM_wM hk (mOK.T (i := i) (x := imax 0 (imin 9 (mT s i + 1))) hs.2)
            simp (disch := first | exact nl_int | exact nl_ref | exact nl_none | exact Nat.le_of_ble_eq_true rfl | assumption | exact cat_int | exact cat_ref | exact z2 | exact z4 | exact z3 | exact z5 | exact z6 | exact z8 | exact z64) only [if_pos h3, wM_sT hk hs.2 hi, nl_int, nl_ref, nl_none, cat_int, cat_ref, cat_0, cat_i, cat_r, cat_l, Option.elim_some, Option.elim_none, Option.bind_some, Option.bind_none, Option.toList_some, Option.toList_none, List.cons_append, List.nil_append, Nat.reduceAdd, Nat.reduceLeDiff, h2.f2, h2.lt hj, s_min, s_max, wM_sT hk (mOK.T hs.2) hj, e_29_0, e_29_1, e_29_3, e_29_5, e_29_8, e_29_9, e_29_10, e_29_11, e_29_13, e_29_15, e_29_18, e_29_19, e_29_20, e_29_21, e_29_24, e_29_27, e_29_28, e_29_31, e_29_32, e_29_33, e_29_34, e_29_35, e_29_36, e_29_37, e_29_38, e_29_41, e_29_42, e_29_45, e_29_46, e_29_47, e_29_48, e_29_51, e_29_52, e_29_53, e_29_55, e_29_56, e_29_59, e_29_60, e_29_61, e_29_62, e_29_63, e_29_66, e_29_69, e_29_70, e_29_71, e_29_74, e_29_75, e_29_76, e_29_78, e_29_79, e_29_82, e_29_83, e_29_84, e_29_85, e_29_86, e_29_89, e_29_92, e_29_93, e_29_96, e_29_99, e_29_102, e_29_105, nI_1]
            exact ⟨_, rfl⟩
          · have e1 : mBy s i j = -1 := if_neg h3
            rw [e1]
            have h2 := isM_wM hk (mOK.T (i := i) (x := imax 0 (imin 9 (mT s i + -1))) hs.2)
            simp (disch := first | exact nl_int | exact nl_ref | exact nl_none | exact Nat.le_of_ble_eq_true rfl | assumption | exact cat_int | exact cat_ref | exact z2 | exact z4 | exact z3 | exact z5 | exact z6 | exact z8 | exact z64) only [if_neg h3, wM_sT hk hs.2 hi, nl_int, nl_ref, nl_none, cat_int, cat_ref, cat_0, cat_i, cat_r, cat_l, Option.elim_some, Option.elim_none, Option.bind_some, Option.bind_none, Option.toList_some, Option.toList_none, List.cons_append, List.nil_append, Nat.reduceAdd, Nat.reduceLeDiff, h2.f2, h2.lt hj, s_min, s_max, wM_sT hk (mOK.T hs.2) hj, e_29_0, e_29_1, e_29_3, e_29_5, e_29_8, e_29_9, e_29_10, e_29_11, e_29_13, e_29_15, e_29_18, e_29_19, e_29_20, e_29_21, e_29_24, e_29_27, e_29_28, e_29_31, e_29_32, e_29_33, e_29_34, e_29_35, e_29_36, e_29_37, e_29_38, e_29_41, e_29_42, e_29_45, e_29_46, e_29_47, e_29_48, e_29_51, e_29_52, e_29_53, e_29_55, e_29_56, e_29_59, e_29_60, e_29_61, e_29_62, e_29_63, e_29_66, e_29_69, e_29_70, e_29_71, e_29_74, e_29_75, e_29_76, e_29_78, e_29_79, e_29_82, e_29_83, e_29_84, e_29_85, e_29_86, e_29_89, e_29_92, e_29_93, e_29_96, e_29_99, e_29_102, e_29_105, nI_1]
            exact ⟨_, rfl⟩⟩) (7 - i) (i + 1) s y.2 (by omega) ⟨Nat.lt_succ_self i, hs⟩
    refine ⟨(some (.int (nI 8)), y2), ?_⟩
    dsimp only at e2 ⊢
    rw [e2, e_29_12]
    simp (disch := first | exact nl_int | exact nl_ref | exact nl_none | exact Nat.le_of_ble_eq_true rfl | assumption | exact cat_int | exact cat_ref | exact z2 | exact z4 | exact z3 | exact z5 | exact z6 | exact z8 | exact z64) only [e_29_0, e_29_1, e_29_3, e_29_5, e_29_8, e_29_9, e_29_10, e_29_11, e_29_13, e_29_15, e_29_18, e_29_19, e_29_20, e_29_21, e_29_24, e_29_27, e_29_28, e_29_31, e_29_32, e_29_33, e_29_34, e_29_35, e_29_36, e_29_37, e_29_38, e_29_41, e_29_42, e_29_45, e_29_46, e_29_47, e_29_48, e_29_51, e_29_52, e_29_53, e_29_55, e_29_56, e_29_59, e_29_60, e_29_61, e_29_62, e_29_63, e_29_66, e_29_69, e_29_70, e_29_71, e_29_74, e_29_75, e_29_76, e_29_78, e_29_79, e_29_82, e_29_83, e_29_84, e_29_85, e_29_86, e_29_89, e_29_92, e_29_93, e_29_96, e_29_99, e_29_102, e_29_105, nl_int, nl_ref, nl_none, cat_int, cat_ref, cat_0, cat_i, cat_r, cat_l, Option.elim_some, Option.elim_none, Option.bind_some, Option.bind_none, Option.toList_some, Option.toList_none, List.cons_append, List.nil_append, Nat.reduceAdd, Nat.reduceLeDiff, ltF (x := 8) (c := 8) rfl (Nat.le_refl 8) (by decide), if_false, nI_1]
    rfl⟩) 8 0 m (none, none) rfl hm
  simp (disch := first | exact nl_int | exact nl_ref | exact nl_none | exact Nat.le_of_ble_eq_true rfl | assumption | exact cat_int | exact cat_ref | exact z2 | exact z4 | exact z3 | exact z5 | exact z6 | exact z8 | exact z64) only [e_29_0, e_29_1, e_29_3, e_29_5, e_29_8, e_29_9, e_29_10, e_29_11, e_29_13, e_29_15, e_29_18, e_29_19, e_29_20, e_29_21, e_29_24, e_29_27, e_29_28, e_29_31, e_29_32, e_29_33, e_29_34, e_29_35, e_29_36, e_29_37, e_29_38, e_29_41, e_29_42, e_29_45, e_29_46, e_29_47, e_29_48, e_29_51, e_29_52, e_29_53, e_29_55, e_29_56, e_29_59, e_29_60, e_29_61, e_29_62, e_29_63, e_29_66, e_29_69, e_29_70, e_29_71, e_29_74, e_29_75, e_29_76, e_29_78, e_29_79, e_29_82, e_29_83, e_29_84, e_29_85, e_29_86, e_29_89, e_29_92, e_29_93, e_29_96, e_29_99, e_29_102, e_29_105, nl_int, nl_ref, nl_none, cat_int, cat_ref, cat_0, cat_i, cat_r, cat_l, Option.elim_some, Option.elim_none, Option.bind_some, Option.bind_none, Option.toList_some, Option.toList_none, List.cons_append, List.nil_append, Nat.reduceAdd, Nat.reduceLeDiff]
  exact key
/-- opinions behind an hour -/
def mCO2 (i j : Nat) (m : am_Mo) : am_Mo := if mTog m i j = false then m else if mT m i = 0 then (if mT m j = 0 then (if mK m i = 3 then m else mSetO m i (mO m i ^^^ ((mO m i ^^^ mO m j) &&& -(mO m i ^^^ mO m j)))) else m) else m
def mCO1 (i : Nat) (m : am_Mo) : am_Mo := am_for (mCO2 i) (i + 1) (7 - i) m
def mCO (m : am_Mo) : am_Mo := am_for mCO1 0 8 m
theorem mCO2_ok {i j : Nat} {m : am_Mo} (h : mOK m) : mOK (mCO2 i j m) := by
  unfold mCO2
  repeat' split
  all_goals first | exact h | exact h.O
theorem mCO1_ok {i : Nat} {m : am_Mo} (h : mOK m) : mOK (mCO1 i m) := am_for_inv (fun _ s => mOK s) _ _ _ h (fun _ _ _ _ q => mCO2_ok q)
theorem mCO_ok {m : am_Mo} (h : mOK m) : mOK (mCO m) := am_for_inv (fun _ s => mOK s) _ _ _ h (fun _ _ _ _ q => mCO1_ok q)
theorem s_changeOpinions {d k : Nat} {hp : am_H} {m : am_Mo} (hk : k + 5 < hp.length) (hm : mOK m) : am_E (d + 1) 30 0 [some (.ref k), none, none, none] [] (wM hp k m) = some (none, wM hp k (mCO m)) := by
  have key := for_res (τ := Option Value × Option Value) (fun i s y => am_E (d + 1) 30 2 [some (.ref k), some (.int (nI i)), y.1, y.2] [] (wM hp k s)) (fun _ s => mOK s) mCO1 8 (fun s => some (none, wM hp k s)) (fun s _ _ => by
    try dsimp only
    rw [e_30_2]
    simp (disch := first | exact nl_int | exact nl_ref | exact nl_none | exact Nat.le_of_ble_eq_true rfl | assumption | exact cat_int | exact cat_ref | exact z2 | exact z4 | exact z3 | exact z5 | exact z6 | exact z8 | exact z64) only [e_30_0, e_30_1, e_30_3, e_30_5, e_30_8, e_30_9, e_30_10, e_30_11, e_30_13, e_30_15, e_30_18, e_30_19, e_30_20, e_30_21, e_30_24, e_30_27, e_30_28, e_30_31, e_30_32, e_30_33, e_30_36, e_30_37, e_30_40, e_30_41, e_30_42, e_30_45, e_30_46, e_30_49, e_30_50, e_30_51, e_30_52, e_30_55, e_30_56, e_30_59, e_30_60, e_30_61, e_30_62, e_30_65, e_30_66, e_30_67, e_30_68, e_30_69, e_30_70, e_30_73, e_30_74, e_30_75, e_30_76, e_30_77, e_30_78, e_30_79, e_30_80, e_30_81, e_30_82, e_30_85, e_30_88, e_30_91, e_30_94, nl_int, nl_ref, nl_none, cat_int, cat_ref, cat_0, cat_i, cat_r, cat_l, Option.elim_some, Option.elim_none, Option.bind_some, Option.bind_none, Option.toList_some, Option.toList_none, List.cons_append, List.nil_append, Nat.reduceAdd, Nat.reduceLeDiff, ltF (x := 8) (c := 8) rfl (Nat.le_refl 8) (by decide), if_false]) (fun i s y hi hs => ⟨mCO1_ok hs, by
    try dsimp only
    rw [e_30_2]
    simp (disch := first | exact nl_int | exact nl_ref | exact nl_none | exact Nat.le_of_ble_eq_true rfl | assumption | exact cat_int | exact cat_ref | exact z2 | exact z4 | exact z3 | exact z5 | exact z6 | exact z8 | exact z64) only [e_30_0, e_30_1, e_30_3, e_30_5, e_30_8, e_30_9, e_30_10, e_30_11, e_30_13, e_30_15, e_30_18, e_30_19, e_30_20, e_30_21, e_30_24, e_30_27, e_30_28, e_30_31, e_30_32, e_30_33, e_30_36, e_30_37, e_30_40, e_30_41, e_30_42, e_30_45, e_30_46, e_30_49, e_30_50, e_30_51, e_30_52, e_30_55, e_30_56, e_30_59, e_30_60, e_30_61, e_30_62, e_30_65, e_30_66, e_30_67, e_30_68, e_30_69, e_30_70, e_30_73, e_30_74, e_30_75, e_30_76, e_30_77, e_30_78, e_30_79, e_30_80, e_30_81, e_30_82, e_30_85, e_30_88, e_30_91, e_30_94, nl_int, nl_ref, nl_none, cat_int, cat_ref, cat_0, cat_i, cat_r, cat_l, Option.elim_some, Option.elim_none, Option.bind_some, Option.bind_none, Option.toList_some, Option.toList_none, List.cons_append, List.nil_append, Nat.reduceAdd, Nat.reduceLeDiff, ltT (x := 8) (c := 8) rfl hi (by decide), if_true, nI_1]
    obtain ⟨⟨-, h9⟩, y2, e2⟩ := for_ex (τ := Option Value) (fun j s y => am_E (d + 1) 30 12 [some (.ref k), some (.int (nI i)), some (.int (nI j)), y] [] (wM hp k s)) (fun j s => i < j ∧ mOK s) (mCO2 i) 8 (fun j s y hj hs => ⟨⟨Nat.lt_succ_of_lt hs.1, mCO2_ok hs.2⟩, by
        have h := isM_wM hk hs.2
        have hcl := h.c
        try dsimp only
        rw [e_30_12]
        simp (disch := first | exact nl_int | exact nl_ref | exact nl_none | exact Nat.le_of_ble_eq_true rfl | assumption | exact cat_int | exact cat_ref | exact z2 | exact z4 | exact z3 | exact z5 | exact z6 | exact z8 | exact z64) only [e_30_0, e_30_1, e_30_3, e_30_5, e_30_8, e_30_9, e_30_10, e_30_11, e_30_13, e_30_15, e_30_18, e_30_19, e_30_20, e_30_21, e_30_24, e_30_27, e_30_28, e_30_31, e_30_32, e_30_33, e_30_36, e_30_37, e_30_40, e_30_41, e_30_42, e_30_45, e_30_46, e_30_49, e_30_50, e_30_51, e_30_52, e_30_55, e_30_56, e_30_59, e_30_60, e_30_61, e_30_62, e_30_65, e_30_66, e_30_67, e_30_68, e_30_69, e_30_70, e_30_73, e_30_74, e_30_75, e_30_76, e_30_77, e_30_78, e_30_79, e_30_80, e_30_81, e_30_82, e_30_85, e_30_88, e_30_91, e_30_94, nl_int, nl_ref, nl_none, cat_int, cat_ref, cat_0, cat_i, cat_r, cat_l, Option.elim_some, Option.elim_none, Option.bind_some, Option.bind_none, Option.toList_some, Option.toList_none, List.cons_append, List.nil_append, Nat.reduceAdd, Nat.reduceLeDiff, ltT (x := 8) (c := 8) rfl hj (by decide), if_true, s_together h hi hj, b2_0, h.f0, h.f1, h.f2, h.lk hi, h.lt hi, h.lt hj, h.lo hi, h.lo hj, wM_sO hk hs.2 hi, nI_1]
        unfold mCO2
        by_cases h1 : mTog s i j = false
        · simp only [if_pos h1]
          exact ⟨_, rfl⟩
        · by_cases h2 : mT s i = 0
          · by_cases h3 : mT s j = 0
            · by_cases h4 : mK s i = 3
              · simp only [if_neg h1, if_pos h2, if_pos h3, if_pos h4]
                exact ⟨_, rfl⟩
              · simp only [if_neg h1, if_pos h2, if_pos h3, if_neg h4]
                exact ⟨_, rfl⟩
            · simp only [if_neg h1, if_pos h2, if_neg h3]
              exact ⟨_, rfl⟩
          · simp only [if_neg h1, if_neg h2]
            exact ⟨_, rfl⟩⟩) (7 - i) (i + 1) s y.2 (by omega) ⟨Nat.lt_succ_self i, hs⟩
    refine ⟨(some (.int (nI 8)), y2), ?_⟩
    dsimp only at e2 ⊢
    rw [e2, e_30_12]
    simp (disch := first | exact nl_int | exact nl_ref | exact nl_none | exact Nat.le_of_ble_eq_true rfl | assumption | exact cat_int | exact cat_ref | exact z2 | exact z4 | exact z3 | exact z5 | exact z6 | exact z8 | exact z64) only [e_30_0, e_30_1, e_30_3, e_30_5, e_30_8, e_30_9, e_30_10, e_30_11, e_30_13, e_30_15, e_30_18, e_30_19, e_30_20, e_30_21, e_30_24, e_30_27, e_30_28, e_30_31, e_30_32, e_30_33, e_30_36, e_30_37, e_30_40, e_30_41, e_30_42, e_30_45, e_30_46, e_30_49, e_30_50, e_30_51, e_30_52, e_30_55, e_30_56, e_30_59, e_30_60, e_30_61, e_30_62, e_30_65, e_30_66, e_30_67, e_30_68, e_30_69, e_30_70, e_30_73, e_30_74, e_30_75, e_30_76, e_30_77, e_30_78, e_30_79, e_30_80, e_30_81, e_30_82, e_30_85, e_30_88, e_30_91, e_30_94, nl_int, nl_ref, nl_none, cat_int, cat_ref, cat_0, cat_i, cat_r, cat_l, Option.elim_some, Option.elim_none, Option.bind_some, Option.bind_none, Option.toList_some, Option.toList_none, List.cons_append, List.nil_append, Nat.reduceAdd, Nat.reduceLeDiff, ltF (x := 8) (c := 8) rfl (Nat.le_refl 8) (by decide), if_false, nI_1]
    rfl⟩) 8 0 m (none, none) rfl hm
  simp (disch := first | exact nl_int | exact nl_ref | exact nl_none | exact Nat.le_of_ble_eq_true rfl | assumption | exact cat_int | exact cat_ref | exact z2 | exact z4 | exact z3 | exact z5 | exact z6 | exact z8 | exact z64) only [e_30_0, e_30_1, e_30_3, e_30_5, e_30_8, e_30_9, e_30_10, e_30_11, e_30_13, e_30_15, e_30_18, e_30_19, e_30_20, e_30_21, e_30_24, e_30_27, e_30_28, e_30_31, e_30_32, e_30_33, e_30_36, e_30_37, e_30_40, e_30_41, e_30_42, e_30_45, e_30_46, e_30_49, e_30_50, e_30_51, e_30_52, e_30_55, e_30_56, e_30_59, e_30_60, e_30_61, e_30_62, e_30_65, e_30_66, e_30_67, e_30_68, e_30_69, e_30_70, e_30_73, e_30_74, e_30_75, e_30_76, e_30_77, e_30_78, e_30_79, e_30_80, e_30_81, e_30_82, e_30_85, e_30_88, e_30_91, e_30_94, nl_int, nl_ref, nl_none, cat_int, cat_ref, cat_0, cat_i, cat_r, cat_l, Option.elim_some, Option.elim_none, Option.bind_some, Option.bind_none, Option.toList_some, Option.toList_none, List.cons_append, List.nil_append, Nat.reduceAdd, Nat.reduceLeDiff]
  exact key
/-- an hour goes by -/
def mGF (t : Int32) (i : Nat) (m : am_Mo) : am_Mo := mSetF m i (mFoes m i t)
def mGo (m : am_Mo) (t : Int32) : am_Mo := mSetHr (mCO (mCT (am_for (mGF t) 0 8 m))) ((mCO (mCT (am_for (mGF t) 0 8 m))).2.2.2.2.2.1 + 1)
theorem mGF_ok {t : Int32} {m : am_Mo} (h : mOK m) : mOK (am_for (mGF t) 0 8 m) := am_for_inv (fun _ s => mOK s) _ _ _ h (fun _ _ _ _ q => q.F)
theorem mOK.Hr {m : am_Mo} {x : Int32} (h : mOK m) : mOK (mSetHr m x) := h
theorem mOK.Ra {m : am_Mo} {x : Int32} (h : mOK m) : mOK (mSetRa m x) := h
theorem mGo_ok {t : Int32} {m : am_Mo} (h : mOK m) : mOK (mGo m t) := mOK.Hr (mCO_ok (mCT_ok (mGF_ok h)))
theorem s_goBy {d k : Nat} {hp : am_H} {m : am_Mo} {t : Int32} (hk : k + 5 < hp.length) (hm : mOK m) : am_E (d + 2) 28 0 [some (.ref k), some (.int t), none] [] (wM hp k m) = some (none, wM hp k (mGo m t)) := by
  have key := for_res (τ := Unit) (fun i s _ => am_E (d + 2) 28 2 [some (.ref k), some (.int t), some (.int (nI i))] [] (wM hp k s)) (fun _ s => mOK s) (mGF t) 8 (fun s => some (none, wM hp k (mSetHr (mCO (mCT s)) ((mCO (mCT s)).2.2.2.2.2.1 + 1)))) (fun s _ hs => by
    have h := isM_wM hk hs
    have hcl := h.c
    have h2 := isM_wM hk (mCT_ok hs)
    have hcl2 := h2.c
    have h3 := isM_wM hk (mCO_ok (mCT_ok hs))
    try dsimp only
    rw [e_28_2]
    simp (disch := first | exact nl_int | exact nl_ref | exact nl_none | exact Nat.le_of_ble_eq_true rfl | assumption | exact cat_int | exact cat_ref | exact z2 | exact z4 | exact z3 | exact z5 | exact z6 | exact z8 | exact z64) only [e_28_0, e_28_1, e_28_3, e_28_5, e_28_8, e_28_9, e_28_12, e_28_13, e_28_14, e_28_15, e_28_16, e_28_19, e_28_20, e_28_23, e_28_26, e_28_27, e_28_30, e_28_31, e_28_34, e_28_35, e_28_36, e_28_39, e_28_40, e_28_41, e_28_44, nl_int, nl_ref, nl_none, cat_int, cat_ref, cat_0, cat_i, cat_r, cat_l, Option.elim_some, Option.elim_none, Option.bind_some, Option.bind_none, Option.toList_some, Option.toList_none, List.cons_append, List.nil_append, Nat.reduceAdd, Nat.reduceLeDiff, ltF (x := 8) (c := 8) rfl (Nat.le_refl 8) (by decide), if_false, s_changeTempers hk hs, s_changeOpinions hk (mCT_ok hs), h3.f5, wM_pHr hk (mCO_ok (mCT_ok hs))]) (fun i s _ hi hs => ⟨hs.F, (), by
    have h := isM_wM hk hs
    have hcl := h.c
    try dsimp only
    rw [e_28_2]
    simp (disch := first | exact nl_int | exact nl_ref | exact nl_none | exact Nat.le_of_ble_eq_true rfl | assumption | exact cat_int | exact cat_ref | exact z2 | exact z4 | exact z3 | exact z5 | exact z6 | exact z8 | exact z64) only [e_28_0, e_28_1, e_28_3, e_28_5, e_28_8, e_28_9, e_28_12, e_28_13, e_28_14, e_28_15, e_28_16, e_28_19, e_28_20, e_28_23, e_28_26, e_28_27, e_28_30, e_28_31, e_28_34, e_28_35, e_28_36, e_28_39, e_28_40, e_28_41, e_28_44, nl_int, nl_ref, nl_none, cat_int, cat_ref, cat_0, cat_i, cat_r, cat_l, Option.elim_some, Option.elim_none, Option.bind_some, Option.bind_none, Option.toList_some, Option.toList_none, List.cons_append, List.nil_append, Nat.reduceAdd, Nat.reduceLeDiff, ltT (x := 8) (c := 8) rfl hi (by decide), if_true, nI_1, h.f4, s_foesOf h hi, wM_sF hk hs hi]
    rfl⟩) 8 0 m () rfl hm
  simp (disch := first | exact nl_int | exact nl_ref | exact nl_none | exact Nat.le_of_ble_eq_true rfl | assumption | exact cat_int | exact cat_ref | exact z2 | exact z4 | exact z3 | exact z5 | exact z6 | exact z8 | exact z64) only [e_28_0, e_28_1, e_28_3, e_28_5, e_28_8, e_28_9, e_28_12, e_28_13, e_28_14, e_28_15, e_28_16, e_28_19, e_28_20, e_28_23, e_28_26, e_28_27, e_28_30, e_28_31, e_28_34, e_28_35, e_28_36, e_28_39, e_28_40, e_28_41, e_28_44, nl_int, nl_ref, nl_none, cat_int, cat_ref, cat_0, cat_i, cat_r, cat_l, Option.elim_some, Option.elim_none, Option.bind_some, Option.bind_none, Option.toList_some, Option.toList_none, List.cons_append, List.nil_append, Nat.reduceAdd, Nat.reduceLeDiff]
  exact key
