/-! a City is written -/
def wB (hp : am_H) (k : Nat) (c : am_Ci) : am_H := (((hp.set k (.inr (.inr (cObj k c)))).set (k + 7) (.inl c.2.1)).set (k + 8) (.inl c.2.2.1)).set (k + 9) (.inl c.2.2.2.1)
def wC (hp : am_H) (k : Nat) (c : am_Ci) : am_H := wM (wB hp k c) (k + 1) c.1
def cSetS (c : am_Ci) (m : am_Mo) : am_Ci := (m, c.2)
def cSetWH (c : am_Ci) (i : Nat) (x : Int32) : am_Ci := (c.1, c.2.1.set i x, c.2.2)
def cSetWN (c : am_Ci) (i : Nat) (x : Int32) : am_Ci := (c.1, c.2.1, c.2.2.1.set i x, c.2.2.2)
def cSetSj (c : am_Ci) (i : Nat) (x : Int32) : am_Ci := (c.1, c.2.1, c.2.2.1, c.2.2.2.1.set i x, c.2.2.2.2)
def cSetHs (c : am_Ci) (n : Nat) : am_Ci := (c.1, c.2.1, c.2.2.1, c.2.2.2.1, n, c.2.2.2.2.2)
def cSetPp (c : am_Ci) (n : Nat) : am_Ci := (c.1, c.2.1, c.2.2.1, c.2.2.2.1, c.2.2.2.2.1, n, c.2.2.2.2.2.2)
def cSetWk (c : am_Ci) (n : Nat) : am_Ci := (c.1, c.2.1, c.2.2.1, c.2.2.2.1, c.2.2.2.2.1, c.2.2.2.2.2.1, n, c.2.2.2.2.2.2.2)
def cSetTd (c : am_Ci) (n : Nat) : am_Ci := (c.1, c.2.1, c.2.2.1, c.2.2.2.1, c.2.2.2.2.1, c.2.2.2.2.2.1, c.2.2.2.2.2.2.1, n)
theorem wM_setN {hp : am_H} {k a : Nat} {m : am_Mo} {x : am_C} (ha : a < k ∨ k + 5 < a) : (wM hp k m).set a x = wM (hp.set a x) k m := by
  unfold wM
  rw [List.set_comm _ _ (show k + 5 ≠ a by omega), List.set_comm _ _ (show k + 4 ≠ a by omega), List.set_comm _ _ (show k + 3 ≠ a by omega), List.set_comm _ _ (show k + 2 ≠ a by omega), List.set_comm _ _ (show k + 1 ≠ a by omega), List.set_comm _ _ (show k ≠ a by omega)]
section WC
variable {hp : am_H} {k i j b n : Nat} {c : am_Ci} {m : am_Mo} {x : Int32}
theorem wB_len : (wB hp k c).length = hp.length := by simp [wB]
theorem wC_len : (wC hp k c).length = hp.length := by rw [wC, wM_len, wB_len]
theorem wB_get (hb : b < k ∨ k + 9 < b) : (wB hp k c)[b]? = hp[b]? := by
  unfold wB
  rw [List.getElem?_set_ne (by omega), List.getElem?_set_ne (by omega), List.getElem?_set_ne (by omega), List.getElem?_set_ne (by omega)]
theorem wC_get (hb : b < k ∨ k + 9 < b) : (wC hp k c)[b]? = hp[b]? := by rw [wC, wM_get (by omega), wB_get hb]
theorem wC_arr (hb : b < k ∨ k + 9 < b) : am_arr (wC hp k c) b = am_arr hp b := by unfold am_arr; rw [wC_get hb]
theorem wC_obj (hb : b < k ∨ k + 9 < b) : am_obj (wC hp k c) b = am_obj hp b := by unfold am_obj; rw [wC_get hb]
theorem wC_rar (hb : b < k ∨ k + 9 < b) : am_rar (wC hp k c) b = am_rar hp b := by unfold am_rar; rw [wC_get hb]
theorem isCt_wC (hk : k + 9 < hp.length) (hc : cOK c) : isCt (wC hp k c) k c := by
  have l0 : k < hp.length := by omega
  have l7 : k + 7 < hp.length := by omega
  have l8 : k + 8 < hp.length := by omega
  refine ⟨?_, isM_wM (by rw [wB_len]; omega) hc.1, ?_, ?_, ?_, hc⟩
  · rw [wC, wM_obj (by omega)]
    simp [am_obj, wB, List.getElem?_set, l0]
  · rw [wC, wM_arr (by omega)]
    simp [am_arr, wB, List.getElem?_set, l7]
  · rw [wC, wM_arr (by omega)]
    simp [am_arr, wB, List.getElem?_set, l8]
  · rw [wC, wM_arr (by omega)]
    simp [am_arr, wB, List.getElem?_set, hk]
theorem wC_self (h : isCt hp k c) : wC hp k c = hp := by
  unfold wC wB
  rw [set_self (am_obj_get h.1), set_self (am_arr_get h.2.2.1), set_self (am_arr_get h.2.2.2.1), set_self (am_arr_get h.2.2.2.2.1), wM_self h.2.1]
theorem wB_O {c2 : am_Ci} (h : c2.2.1 = c.2.1 ∧ c2.2.2.1 = c.2.2.1 ∧ c2.2.2.2.1 = c.2.2.2.1) : (wB hp k c).set k (.inr (.inr (cObj k c2))) = wB hp k c2 := by
  unfold wB
  rw [List.set_comm _ _ (show k + 9 ≠ k by omega), List.set_comm _ _ (show k + 8 ≠ k by omega), List.set_comm _ _ (show k + 7 ≠ k by omega), List.set_set, h.1, h.2.1, h.2.2]
theorem wC_p4 (hk : k + 9 < hp.length) (hc : cOK c) : am_pf (wC hp k c) k 0 4 (.int (nI n)) = some (wC hp k (cSetHs c n)) := by
  rw [am_pf_of (isCt_wC hk hc).1 (show _ < 8 by decide), wC, wM_setN (by omega), show (((0, ([.ref (k + 1), .ref (k + 7), .ref (k + 8), .ref (k + 9), .int (nI (cHs c)), .int (nI (cPp c)), .int (nI (cWk c)), .int (nI (cTd c))] : List Value).set 4 (.int (nI n))) : Nat × List Value)) = cObj k (cSetHs c n) from rfl, wB_O (c := c) (c2 := cSetHs c n) ⟨rfl, rfl, rfl⟩]; rfl
theorem wC_p5 (hk : k + 9 < hp.length) (hc : cOK c) : am_pf (wC hp k c) k 0 5 (.int (nI n)) = some (wC hp k (cSetPp c n)) := by
  rw [am_pf_of (isCt_wC hk hc).1 (show _ < 8 by decide), wC, wM_setN (by omega), show (((0, ([.ref (k + 1), .ref (k + 7), .ref (k + 8), .ref (k + 9), .int (nI (cHs c)), .int (nI (cPp c)), .int (nI (cWk c)), .int (nI (cTd c))] : List Value).set 5 (.int (nI n))) : Nat × List Value)) = cObj k (cSetPp c n) from rfl, wB_O (c := c) (c2 := cSetPp c n) ⟨rfl, rfl, rfl⟩]; rfl
theorem wC_p6 (hk : k + 9 < hp.length) (hc : cOK c) : am_pf (wC hp k c) k 0 6 (.int (nI n)) = some (wC hp k (cSetWk c n)) := by
  rw [am_pf_of (isCt_wC hk hc).1 (show _ < 8 by decide), wC, wM_setN (by omega), show (((0, ([.ref (k + 1), .ref (k + 7), .ref (k + 8), .ref (k + 9), .int (nI (cHs c)), .int (nI (cPp c)), .int (nI (cWk c)), .int (nI (cTd c))] : List Value).set 6 (.int (nI n))) : Nat × List Value)) = cObj k (cSetWk c n) from rfl, wB_O (c := c) (c2 := cSetWk c n) ⟨rfl, rfl, rfl⟩]; rfl
theorem wC_p7 (hk : k + 9 < hp.length) (hc : cOK c) : am_pf (wC hp k c) k 0 7 (.int (nI n)) = some (wC hp k (cSetTd c n)) := by
  rw [am_pf_of (isCt_wC hk hc).1 (show _ < 8 by decide), wC, wM_setN (by omega), show (((0, ([.ref (k + 1), .ref (k + 7), .ref (k + 8), .ref (k + 9), .int (nI (cHs c)), .int (nI (cPp c)), .int (nI (cWk c)), .int (nI (cTd c))] : List Value).set 7 (.int (nI n))) : Nat × List Value)) = cObj k (cSetTd c n) from rfl, wB_O (c := c) (c2 := cSetTd c n) ⟨rfl, rfl, rfl⟩]; rfl
theorem wC_sWH (hk : k + 9 < hp.length) (hc : cOK c) (hi : i < 5) : am_sx (wC hp k c) (k + 7) (nI i) x = some (wC hp k (cSetWH c i x)) := by
  have h := isCt_wC hk hc
  rw [am_sx_nI ⟨h.2.2.1, hc.2.1⟩ hi (by decide), wC, wM_setN (by omega)]
  unfold wB
  rw [List.set_comm _ _ (show k + 9 ≠ k + 7 by omega), List.set_comm _ _ (show k + 8 ≠ k + 7 by omega), List.set_set]
  rfl
theorem wC_sWN (hk : k + 9 < hp.length) (hc : cOK c) (hi : i < 5) : am_sx (wC hp k c) (k + 8) (nI i) x = some (wC hp k (cSetWN c i x)) := by
  have h := isCt_wC hk hc
  rw [am_sx_nI ⟨h.2.2.2.1, hc.2.2.1⟩ hi (by decide), wC, wM_setN (by omega)]
  unfold wB
  rw [List.set_comm _ _ (show k + 9 ≠ k + 8 by omega), List.set_set]
  rfl
theorem wC_sSj (hk : k + 9 < hp.length) (hc : cOK c) (hi : i < 8) : am_sx (wC hp k c) (k + 9) (nI i) x = some (wC hp k (cSetSj c i x)) := by
  have h := isCt_wC hk hc
  rw [am_sx_nI ⟨h.2.2.2.2.1, hc.2.2.2.1⟩ hi (by decide), wC, wM_setN (by omega)]
  unfold wB
  rw [List.set_set]
  rfl
theorem wC_sK (hk : k + 9 < hp.length) (hc : cOK c) (hi : i < 8) : am_sx (wC hp k c) (k + 1 + 1) (nI i) x = some (wC hp k (cSetS c (mSetK c.1 i x))) := wM_sK (by rw [wB_len]; omega) hc.1 hi
theorem wC_sO (hk : k + 9 < hp.length) (hc : cOK c) (hi : i < 8) : am_sx (wC hp k c) (k + 1 + 2) (nI i) x = some (wC hp k (cSetS c (mSetO c.1 i x))) := wM_sO (by rw [wB_len]; omega) hc.1 hi
theorem wC_sT (hk : k + 9 < hp.length) (hc : cOK c) (hi : i < 8) : am_sx (wC hp k c) (k + 1 + 3) (nI i) x = some (wC hp k (cSetS c (mSetT c.1 i x))) := wM_sT (by rw [wB_len]; omega) hc.1 hi
theorem wC_sH (hk : k + 9 < hp.length) (hc : cOK c) (hi : i < 8) : am_sx (wC hp k c) (k + 1 + 4) (nI i) x = some (wC hp k (cSetS c (mSetH c.1 i x))) := wM_sH (by rw [wB_len]; omega) hc.1 hi
end WC
def cClear (c : am_Ci) : am_Ci := (mClear c.1, c.2.1, c.2.2.1, c.2.2.2.1, 4, 0, 0, 0)
theorem cClear_ok {c : am_Ci} (h : cOK c) : cOK (cClear c) := ⟨mClear_ok h.1, h.2.1, h.2.2.1, h.2.2.2.1, show 4 ≤ 5 by decide, show 0 ≤ 8 by decide, show 0 ≤ 5 by decide, show 0 ≤ 8 by decide⟩
theorem n0 : (0 : Int32) = nI 0 := rfl
theorem n4 : (4 : Int32) = nI 4 := rfl
theorem s_cclear {d k : Nat} {hp : am_H} {c : am_Ci} (hk : k + 9 < hp.length) (hc : cOK c) : am_E (d + 2) 1 0 [some (.ref k)] [] (wC hp k c) = some (none, wC hp k (cClear c)) := by
  have h0 := isCt_wC hk hc
  have hcl := h0.2.1.c
  have c1 : cOK (cSetS c (mClear c.1)) := ⟨mClear_ok hc.1, hc.2⟩
  have e1 : am_E (d + 1) 17 0 [some (.ref (k + 1))] [] (wC hp k c) = some (none, wC hp k (cSetS c (mClear c.1))) := s_clear (by rw [wB_len]; omega) hc.1
  have c2 : cOK (cSetHs (cSetS c (mClear c.1)) 4) := ⟨c1.1, c1.2.1, c1.2.2.1, c1.2.2.2.1, show 4 ≤ 5 by decide, c1.2.2.2.2.2⟩
  have c3 : cOK (cSetPp (cSetHs (cSetS c (mClear c.1)) 4) 0) := ⟨c1.1, c1.2.1, c1.2.2.1, c1.2.2.2.1, show 4 ≤ 5 by decide, show 0 ≤ 8 by decide, c1.2.2.2.2.2.2⟩
  have c4 : cOK (cSetWk (cSetPp (cSetHs (cSetS c (mClear c.1)) 4) 0) 0) := ⟨c1.1, c1.2.1, c1.2.2.1, c1.2.2.2.1, show 4 ≤ 5 by decide, show 0 ≤ 8 by decide, show 0 ≤ 5 by decide, c1.2.2.2.2.2.2.2⟩
  have p4 := wC_p4 (n := 4) hk c1
  have p5 := wC_p5 (n := 0) hk c2
  have p6 := wC_p6 (n := 0) hk c3
  have p7 := wC_p7 (n := 0) hk c4
  rw [← n4] at p4
  rw [← n0] at p5 p6 p7
  simp (disch := first | exact nl_int | exact nl_ref | exact nl_none | exact Nat.le_of_ble_eq_true rfl | assumption | exact cat_int | exact cat_ref | exact z2 | exact z4 | exact z3 | exact z5 | exact z6 | exact z8 | exact z64) only [e_1_0, e_1_1, e_1_4, e_1_7, e_1_8, e_1_9, e_1_12, e_1_13, e_1_14, e_1_17, e_1_18, e_1_19, e_1_22, e_1_23, e_1_24, e_1_27, nl_int, nl_ref, nl_none, cat_int, cat_ref, cat_0, cat_i, cat_r, cat_l, Option.elim_some, Option.elim_none, Option.bind_some, Option.bind_none, Option.toList_some, Option.toList_none, List.cons_append, List.nil_append, Nat.reduceAdd, Nat.reduceLeDiff, h0.f0, e1, p4, p5, p6, p7]
  rfl
theorem s_tellHouses {d k n : Nat} {hp : am_H} {c : am_Ci} (hk : k + 9 < hp.length) (hc : cOK c) (hn : n < 100) : am_E d 3 0 [some (.ref k), some (.int (nI n))] [] (wC hp k c) = if cPp c + cWk c + cTd c = 0 ∧ 1 ≤ n ∧ n ≤ 5 then some (some (.int 1), wC hp k (cSetHs c n)) else some (some (.int 0), wC hp k c) := by
  have h := isCt_wC hk hc
  have a1 := h.pp
  have a2 := h.wk
  have a3 := h.td
  simp (disch := first | exact nl_int | exact nl_ref | exact nl_none | exact Nat.le_of_ble_eq_true rfl | assumption | exact cat_int | exact cat_ref | exact z2 | exact z4 | exact z3 | exact z5 | exact z6 | exact z8 | exact z64) only [e_3_0, e_3_1, e_3_4, e_3_5, e_3_8, e_3_9, e_3_10, e_3_13, e_3_14, e_3_17, e_3_18, e_3_19, e_3_22, e_3_23, e_3_24, e_3_27, e_3_28, e_3_28_1, e_3_29, e_3_30, e_3_31, e_3_34, e_3_35, e_3_35_1, nl_int, nl_ref, nl_none, cat_int, cat_ref, cat_0, cat_i, cat_r, cat_l, Option.elim_some, Option.elim_none, Option.bind_some, Option.bind_none, Option.toList_some, Option.toList_none, List.cons_append, List.nil_append, Nat.reduceAdd, Nat.reduceLeDiff, h.f5, h.f6, h.f7, nI_add, wC_p4 hk hc, gtN (x := 0) (c := 0) rfl (show cPp c + cWk c + cTd c < 2 ^ 31 by omega) (by decide), ltN (x := 1) (c := 1) rfl (show n < 2 ^ 31 by omega) (by decide), gtN (x := 5) (c := 5) rfl (show n < 2 ^ 31 by omega) (by decide)]
  repeat' split
  all_goals first | rfl | omega
theorem s_addWork {d k a n : Nat} {hp : am_H} {c : am_Ci} (hk : k + 9 < hp.length) (hc : cOK c) (ha : a < 100) (hn : n < 100) : am_E d 4 0 [some (.ref k), some (.int (nI a)), some (.int (nI n))] [] (wC hp k c) = if cWk c < 5 ∧ a < cHs c ∧ 1 ≤ n ∧ n ≤ 30 then some (some (.int 1), wC hp k (cSetWk (cSetWN (cSetWH c (cWk c) (nI a)) (cWk c) (nI n)) (cWk c + 1))) else some (some (.int 0), wC hp k c) := by
  have h := isCt_wC hk hc
  have a1 := h.wk
  have a2 := h.hs
  have c1 : cOK (cSetWH c (cWk c) (nI a)) := ⟨hc.1, (List.length_set).trans hc.2.1, hc.2.2⟩
  have h1 := isCt_wC hk c1
  have c2 : cOK (cSetWN (cSetWH c (cWk c) (nI a)) (cWk c) (nI n)) := ⟨hc.1, c1.2.1, (List.length_set).trans hc.2.2.1, hc.2.2.2⟩
  have h2 := isCt_wC hk c2
  by_cases q1 : cWk c < 5
  · have e1 : cWk (cSetWH c (cWk c) (nI a)) = cWk c := rfl
    have e2 : cWk (cSetWN (cSetWH c (cWk c) (nI a)) (cWk c) (nI n)) = cWk c := rfl
    have f6a := h1.f6
    rw [e1] at f6a
    have f6b := h2.f6
    rw [e2] at f6b
    simp (disch := first | exact nl_int | exact nl_ref | exact nl_none | exact Nat.le_of_ble_eq_true rfl | assumption | exact cat_int | exact cat_ref | exact z2 | exact z4 | exact z3 | exact z5 | exact z6 | exact z8 | exact z64) only [e_4_0, e_4_1, e_4_4, e_4_5, e_4_8, e_4_9, e_4_10, e_4_13, e_4_16, e_4_17, e_4_18, e_4_21, e_4_22, e_4_24, e_4_27, e_4_28, e_4_28_1, e_4_29, e_4_30, e_4_33, e_4_34, e_4_37, e_4_38, e_4_39, e_4_40, e_4_43, e_4_44, e_4_47, e_4_48, e_4_49, e_4_50, e_4_51, e_4_54, e_4_55, e_4_56, e_4_59, e_4_60, e_4_60_1, nl_int, nl_ref, nl_none, cat_int, cat_ref, cat_0, cat_i, cat_r, cat_l, Option.elim_some, Option.elim_none, Option.bind_some, Option.bind_none, Option.toList_some, Option.toList_none, List.cons_append, List.nil_append, Nat.reduceAdd, Nat.reduceLeDiff, h.f6, h.f4, h.f1, wC_sWH hk hc q1, h1.f2, f6a, wC_sWN hk c1 q1, f6b, nI_1, wC_p6 hk c2, ltN (x := 5) (c := 5) rfl (show cWk c < 2 ^ 31 by omega) (by decide), ltN (x := nI (cHs c)) (c := cHs c) rfl (show a < 2 ^ 31 by omega) (by omega), ltN (x := 1) (c := 1) rfl (show n < 2 ^ 31 by omega) (by decide), gtN (x := 30) (c := 30) rfl (show n < 2 ^ 31 by omega) (by decide)]
    repeat' split
    all_goals first | rfl | omega
  · simp (disch := first | exact nl_int | exact nl_ref | exact nl_none | exact Nat.le_of_ble_eq_true rfl | assumption | exact cat_int | exact cat_ref | exact z2 | exact z4 | exact z3 | exact z5 | exact z6 | exact z8 | exact z64) only [e_4_0, e_4_1, e_4_4, e_4_5, e_4_8, e_4_9, e_4_10, e_4_13, e_4_16, e_4_17, e_4_18, e_4_21, e_4_22, e_4_24, e_4_27, e_4_28, e_4_28_1, e_4_29, e_4_30, e_4_33, e_4_34, e_4_37, e_4_38, e_4_39, e_4_40, e_4_43, e_4_44, e_4_47, e_4_48, e_4_49, e_4_50, e_4_51, e_4_54, e_4_55, e_4_56, e_4_59, e_4_60, e_4_60_1, nl_int, nl_ref, nl_none, cat_int, cat_ref, cat_0, cat_i, cat_r, cat_l, Option.elim_some, Option.elim_none, Option.bind_some, Option.bind_none, Option.toList_some, Option.toList_none, List.cons_append, List.nil_append, Nat.reduceAdd, Nat.reduceLeDiff, h.f6, ltF (x := 5) (c := 5) rfl (show 5 ≤ cWk c by omega) (by omega), if_false]
    rw [if_neg (fun z => q1 z.1)]
theorem s_addSubjects {d k n : Nat} {hp : am_H} {c : am_Ci} (hk : k + 9 < hp.length) (hc : cOK c) (hn : n < 100) : am_E d 5 0 [some (.ref k), some (.int (nI n))] [] (wC hp k c) = if cTd c < 8 ∧ n ≤ 31 then some (some (.int 1), wC hp k (cSetTd (cSetSj c (cTd c) (nI n)) (cTd c + 1))) else some (some (.int 0), wC hp k c) := by
  have h := isCt_wC hk hc
  have a1 := h.td
  have c1 : cOK (cSetSj c (cTd c) (nI n)) := ⟨hc.1, hc.2.1, hc.2.2.1, (List.length_set).trans hc.2.2.2.1, hc.2.2.2.2⟩
  have h1 := isCt_wC hk c1
  by_cases q1 : cTd c < 8
  · have e1 : cTd (cSetSj c (cTd c) (nI n)) = cTd c := rfl
    have f7 := h1.f7
    rw [e1] at f7
    simp (disch := first | exact nl_int | exact nl_ref | exact nl_none | exact Nat.le_of_ble_eq_true rfl | assumption | exact cat_int | exact cat_ref | exact z2 | exact z4 | exact z3 | exact z5 | exact z6 | exact z8 | exact z64) only [e_5_0, e_5_1, e_5_4, e_5_6, e_5_9, e_5_10, e_5_12, e_5_15, e_5_16, e_5_16_1, e_5_17, e_5_18, e_5_21, e_5_22, e_5_25, e_5_26, e_5_27, e_5_28, e_5_29, e_5_32, e_5_33, e_5_34, e_5_37, e_5_38, e_5_38_1, nl_int, nl_ref, nl_none, cat_int, cat_ref, cat_0, cat_i, cat_r, cat_l, Option.elim_some, Option.elim_none, Option.bind_some, Option.bind_none, Option.toList_some, Option.toList_none, List.cons_append, List.nil_append, Nat.reduceAdd, Nat.reduceLeDiff, h.f7, h.f3, wC_sSj hk hc q1, f7, nI_1, wC_p7 hk c1, ltN (x := 8) (c := 8) rfl (show cTd c < 2 ^ 31 by omega) (by decide), gtN (x := 31) (c := 31) rfl (show n < 2 ^ 31 by omega) (by decide)]
    repeat' split
    all_goals first | rfl | omega
  · simp (disch := first | exact nl_int | exact nl_ref | exact nl_none | exact Nat.le_of_ble_eq_true rfl | assumption | exact cat_int | exact cat_ref | exact z2 | exact z4 | exact z3 | exact z5 | exact z6 | exact z8 | exact z64) only [e_5_0, e_5_1, e_5_4, e_5_6, e_5_9, e_5_10, e_5_12, e_5_15, e_5_16, e_5_16_1, e_5_17, e_5_18, e_5_21, e_5_22, e_5_25, e_5_26, e_5_27, e_5_28, e_5_29, e_5_32, e_5_33, e_5_34, e_5_37, e_5_38, e_5_38_1, nl_int, nl_ref, nl_none, cat_int, cat_ref, cat_0, cat_i, cat_r, cat_l, Option.elim_some, Option.elim_none, Option.bind_some, Option.bind_none, Option.toList_some, Option.toList_none, List.cons_append, List.nil_append, Nat.reduceAdd, Nat.reduceLeDiff, h.f7, ltF (x := 8) (c := 8) rfl (show 8 ≤ cTd c by omega) (by omega), if_false]
    rw [if_neg (fun z => q1 z.1)]
/-- a person is told: kind, opinions, temper, house -/
def cPut (c : am_Ci) (a0 a1 a2 a3 : Nat) : am_Ci := cSetPp (cSetS c (mSetH (mSetT (mSetO (mSetK c.1 (cPp c) (nI a0)) (cPp c) (nI a1)) (cPp c) (nI a2)) (cPp c) (nI a3))) (cPp c + 1)
theorem s_addPerson {d k q a0 a1 a2 a3 : Nat} {hp : am_H} {c : am_Ci} (hk : k + 9 < hp.length) (hc : cOK c) (hq : am_arr hp q = some [nI a0, nI a1, nI a2, nI a3]) (hqk : q < k ∨ k + 9 < q) (h0 : a0 < 100) (h1 : a1 < 100) (h2 : a2 < 100) (h3 : a3 < 100) : am_E d 2 0 [some (.ref k), some (.ref q)] [] (wC hp k c) = if cPp c < 8 ∧ a0 ≤ 3 ∧ a1 ≤ 31 ∧ a2 ≤ 9 ∧ a3 < 5 then some (some (.int 1), wC hp k (cPut c a0 a1 a2 a3)) else some (some (.int 0), wC hp k c) := by
  have h := isCt_wC hk hc
  have a8 := h.pp
  have L : ∀ c2 : am_Ci, am_arr (wC hp k c2) q = some [nI a0, nI a1, nI a2, nI a3] := fun c2 => by rw [wC_arr hqk]; exact hq
  have l0 : ∀ c2 : am_Ci, am_ld (wC hp k c2) q 0 = some (nI a0) := fun c2 => am_ld_nI (i := 0) (n := 4) ⟨L c2, rfl⟩ (by decide) (by decide)
  have l1 : ∀ c2 : am_Ci, am_ld (wC hp k c2) q 1 = some (nI a1) := fun c2 => am_ld_nI (i := 1) (n := 4) ⟨L c2, rfl⟩ (by decide) (by decide)
  have l2 : ∀ c2 : am_Ci, am_ld (wC hp k c2) q 2 = some (nI a2) := fun c2 => am_ld_nI (i := 2) (n := 4) ⟨L c2, rfl⟩ (by decide) (by decide)
  have l3 : ∀ c2 : am_Ci, am_ld (wC hp k c2) q 3 = some (nI a3) := fun c2 => am_ld_nI (i := 3) (n := 4) ⟨L c2, rfl⟩ (by decide) (by decide)
  have z4 : (Int32.ofNat ([nI a0, nI a1, nI a2, nI a3] : List Int32).length < 4) = False := eq_false (by show ¬ Int32.ofNat 4 < 4; decide)
  by_cases q1 : cPp c < 8
  · obtain ⟨m1, e1⟩ : ∃ m, m = mSetK c.1 (cPp c) (nI a0) := ⟨_, rfl⟩
    obtain ⟨m2, e2⟩ : ∃ m, m = mSetO m1 (cPp c) (nI a1) := ⟨_, rfl⟩
    obtain ⟨m3, e3⟩ : ∃ m, m = mSetT m2 (cPp c) (nI a2) := ⟨_, rfl⟩
    obtain ⟨m4, e4⟩ : ∃ m, m = mSetH m3 (cPp c) (nI a3) := ⟨_, rfl⟩
    have o1 : mOK m1 := by rw [e1]; exact hc.1.K
    have o2 : mOK m2 := by rw [e2]; exact o1.O
    have o3 : mOK m3 := by rw [e3]; exact o2.T
    have o4 : mOK m4 := by rw [e4]; exact o3.H
    have c1 : cOK (cSetS c m1) := ⟨o1, hc.2⟩
    have c2 : cOK (cSetS c m2) := ⟨o2, hc.2⟩
    have c3 : cOK (cSetS c m3) := ⟨o3, hc.2⟩
    have c4 : cOK (cSetS c m4) := ⟨o4, hc.2⟩
    have g1 := isCt_wC hk c1
    have g2 := isCt_wC hk c2
    have g3 := isCt_wC hk c3
    have g4 := isCt_wC hk c4
    have s1 : am_sx (wC hp k c) (k + 1 + 1) (nI (cPp c)) (nI a0) = some (wC hp k (cSetS c m1)) := by rw [e1]; exact wC_sK hk hc q1
    have s2 : am_sx (wC hp k (cSetS c m1)) (k + 1 + 2) (nI (cPp c)) (nI a1) = some (wC hp k (cSetS c m2)) := by rw [e2]; exact wC_sO hk c1 q1
    have s3 : am_sx (wC hp k (cSetS c m2)) (k + 1 + 3) (nI (cPp c)) (nI a2) = some (wC hp k (cSetS c m3)) := by rw [e3]; exact wC_sT hk c2 q1
    have s4 : am_sx (wC hp k (cSetS c m3)) (k + 1 + 4) (nI (cPp c)) (nI a3) = some (wC hp k (cSetS c m4)) := by rw [e4]; exact wC_sH hk c3 q1
    have f51 : am_fld (wC hp k (cSetS c m1)) k 0 5 = some (.int (nI (cPp c))) := g1.f5
    have f52 : am_fld (wC hp k (cSetS c m2)) k 0 5 = some (.int (nI (cPp c))) := g2.f5
    have f53 : am_fld (wC hp k (cSetS c m3)) k 0 5 = some (.int (nI (cPp c))) := g3.f5
    have f54 : am_fld (wC hp k (cSetS c m4)) k 0 5 = some (.int (nI (cPp c))) := g4.f5
    have hput : cPut c a0 a1 a2 a3 = cSetPp (cSetS c m4) (cPp c + 1) := by rw [e4, e3, e2, e1]; rfl
    rw [hput]
    simp (disch := first | exact nl_int | exact nl_ref | exact nl_none | exact Nat.le_of_ble_eq_true rfl | assumption | exact cat_int | exact cat_ref | exact z2 | exact z4 | exact z3 | exact z5 | exact z6 | exact z8 | exact z64) only [e_2_0, e_2_1, e_2_4, e_2_6, e_2_9, e_2_10, e_2_11, e_2_12, e_2_15, e_2_16, e_2_17, e_2_18, e_2_19, e_2_22, e_2_23, e_2_24, e_2_25, e_2_27, e_2_30, e_2_31, e_2_32, e_2_33, e_2_35, e_2_38, e_2_39, e_2_40, e_2_41, e_2_42, e_2_45, e_2_46, e_2_46_1, e_2_47, e_2_48, e_2_51, e_2_54, e_2_55, e_2_58, e_2_59, e_2_60, e_2_61, e_2_62, e_2_63, e_2_66, e_2_69, e_2_70, e_2_73, e_2_74, e_2_75, e_2_76, e_2_77, e_2_78, e_2_81, e_2_84, e_2_85, e_2_88, e_2_89, e_2_90, e_2_91, e_2_92, e_2_93, e_2_96, e_2_99, e_2_100, e_2_103, e_2_104, e_2_105, e_2_106, e_2_107, e_2_108, e_2_109, e_2_112, e_2_113, e_2_114, e_2_117, e_2_118, e_2_118_1, nl_int, nl_ref, nl_none, cat_int, cat_ref, cat_0, cat_i, cat_r, cat_l, Option.elim_some, Option.elim_none, Option.bind_some, Option.bind_none, Option.toList_some, Option.toList_none, List.cons_append, List.nil_append, Nat.reduceAdd, Nat.reduceLeDiff, h.f5, L, l0, l1, l2, l3, z4, if_false, h.f0, h.2.1.f0, s1, g1.f0, g1.2.1.f1, f51, s2, g2.f0, g2.2.1.f2, f52, s3, g3.f0, g3.2.1.f3, f53, s4, f54, nI_1, wC_p5 hk c4, ltN (x := 8) (c := 8) rfl (show cPp c < 2 ^ 31 by omega) (by decide), gtN (x := 3) (c := 3) rfl (show a0 < 2 ^ 31 by omega) (by decide), gtN (x := 31) (c := 31) rfl (show a1 < 2 ^ 31 by omega) (by decide), gtN (x := 9) (c := 9) rfl (show a2 < 2 ^ 31 by omega) (by decide), ltN (x := 5) (c := 5) rfl (show a3 < 2 ^ 31 by omega) (by decide)]
    repeat' split
    all_goals first | rfl | omega
  · simp (disch := first | exact nl_int | exact nl_ref | exact nl_none | exact Nat.le_of_ble_eq_true rfl | assumption | exact cat_int | exact cat_ref | exact z2 | exact z4 | exact z3 | exact z5 | exact z6 | exact z8 | exact z64) only [e_2_0, e_2_1, e_2_4, e_2_6, e_2_9, e_2_10, e_2_11, e_2_12, e_2_15, e_2_16, e_2_17, e_2_18, e_2_19, e_2_22, e_2_23, e_2_24, e_2_25, e_2_27, e_2_30, e_2_31, e_2_32, e_2_33, e_2_35, e_2_38, e_2_39, e_2_40, e_2_41, e_2_42, e_2_45, e_2_46, e_2_46_1, e_2_47, e_2_48, e_2_51, e_2_54, e_2_55, e_2_58, e_2_59, e_2_60, e_2_61, e_2_62, e_2_63, e_2_66, e_2_69, e_2_70, e_2_73, e_2_74, e_2_75, e_2_76, e_2_77, e_2_78, e_2_81, e_2_84, e_2_85, e_2_88, e_2_89, e_2_90, e_2_91, e_2_92, e_2_93, e_2_96, e_2_99, e_2_100, e_2_103, e_2_104, e_2_105, e_2_106, e_2_107, e_2_108, e_2_109, e_2_112, e_2_113, e_2_114, e_2_117, e_2_118, e_2_118_1, nl_int, nl_ref, nl_none, cat_int, cat_ref, cat_0, cat_i, cat_r, cat_l, Option.elim_some, Option.elim_none, Option.bind_some, Option.bind_none, Option.toList_some, Option.toList_none, List.cons_append, List.nil_append, Nat.reduceAdd, Nat.reduceLeDiff, h.f5, ltF (x := 8) (c := 8) rfl (show 8 ≤ cPp c by omega) (by omega), if_false]
    rw [if_neg (fun z => q1 z.1)]
/-- can the city be laid: all live in houses there are, one at least -/
def cLaid : am_Ci → Nat → Nat → Bool
  | c, _, 0 => decide (0 < cPp c)
  | c, i, n + 1 => if mH c.1 i < nI (cHs c) then cLaid c (i + 1) n else false
theorem s_canBeLaid {d k : Nat} {hp : am_H} {c : am_Ci} (h : isCt hp k c) : am_E d 6 0 [some (.ref k), none] [] hp = some (some (.int (b2 (cLaid c 0 (cPp c)))), hp) := by
  have hpp := h.pp
  have key : ∀ n i, i + n = cPp c → am_E d 6 2 [some (.ref k), some (.int (nI i))] [] hp = some (some (.int (b2 (cLaid c i n))), hp) := by
    intro n
    induction n with
    | zero =>
      intro i hi
      rw [e_6_2]
      simp (disch := first | exact nl_int | exact nl_ref | exact nl_none | exact Nat.le_of_ble_eq_true rfl | assumption | exact cat_int | exact cat_ref | exact z2 | exact z4 | exact z3 | exact z5 | exact z6 | exact z8 | exact z64) only [e_6_0, e_6_1, e_6_3, e_6_4, e_6_7, e_6_10, e_6_11, e_6_13, e_6_16, e_6_17, e_6_20, e_6_23, e_6_24, e_6_25, e_6_26, e_6_29, e_6_32, e_6_33, e_6_33_1, e_6_34, e_6_37, e_6_40, e_6_41, e_6_44, e_6_47, e_6_48, e_6_51, e_6_52, e_6_52_1, nl_int, nl_ref, nl_none, cat_int, cat_ref, cat_0, cat_i, cat_r, cat_l, Option.elim_some, Option.elim_none, Option.bind_some, Option.bind_none, Option.toList_some, Option.toList_none, List.cons_append, List.nil_append, Nat.reduceAdd, Nat.reduceLeDiff, h.f5, ltF (x := nI (cPp c)) (c := cPp c) rfl (show cPp c ≤ i by omega) (by omega), if_false, gtN (x := 0) (c := 0) rfl (show cPp c < 2 ^ 31 by omega) (by decide)]
      unfold cLaid
      split
      · rename_i q; rw [decide_eq_true q]; rfl
      · rename_i q; rw [decide_eq_false q]; rfl
    | succ n ih =>
      intro i hi
      rw [e_6_2]
      simp (disch := first | exact nl_int | exact nl_ref | exact nl_none | exact Nat.le_of_ble_eq_true rfl | assumption | exact cat_int | exact cat_ref | exact z2 | exact z4 | exact z3 | exact z5 | exact z6 | exact z8 | exact z64) only [e_6_0, e_6_1, e_6_3, e_6_4, e_6_7, e_6_10, e_6_11, e_6_13, e_6_16, e_6_17, e_6_20, e_6_23, e_6_24, e_6_25, e_6_26, e_6_29, e_6_32, e_6_33, e_6_33_1, e_6_34, e_6_37, e_6_40, e_6_41, e_6_44, e_6_47, e_6_48, e_6_51, e_6_52, e_6_52_1, nl_int, nl_ref, nl_none, cat_int, cat_ref, cat_0, cat_i, cat_r, cat_l, Option.elim_some, Option.elim_none, Option.bind_some, Option.bind_none, Option.toList_some, Option.toList_none, List.cons_append, List.nil_append, Nat.reduceAdd, Nat.reduceLeDiff, h.f5, h.f0, h.f4, h.2.1.f3, h.2.1.lh (show i < 8 by omega), ltT (x := nI (cPp c)) (c := cPp c) rfl (show i < cPp c by omega) (by omega), ltT (x := 8) (c := 8) rfl (show i < 8 by omega) (by decide), if_true, nI_1, ih (i + 1) (by omega)]
      rw [cLaid]
      split <;> rfl
  simp (disch := first | exact nl_int | exact nl_ref | exact nl_none | exact Nat.le_of_ble_eq_true rfl | assumption | exact cat_int | exact cat_ref | exact z2 | exact z4 | exact z3 | exact z5 | exact z6 | exact z8 | exact z64) only [e_6_0, e_6_1, e_6_3, e_6_4, e_6_7, e_6_10, e_6_11, e_6_13, e_6_16, e_6_17, e_6_20, e_6_23, e_6_24, e_6_25, e_6_26, e_6_29, e_6_32, e_6_33, e_6_33_1, e_6_34, e_6_37, e_6_40, e_6_41, e_6_44, e_6_47, e_6_48, e_6_51, e_6_52, e_6_52_1, nl_int, nl_ref, nl_none, cat_int, cat_ref, cat_0, cat_i, cat_r, cat_l, Option.elim_some, Option.elim_none, Option.bind_some, Option.bind_none, Option.toList_some, Option.toList_none, List.cons_append, List.nil_append, Nat.reduceAdd, Nat.reduceLeDiff]
  exact key _ 0 (by omega)
