/-! HOMES: the search over ways to live -/
abbrev am_Hs : Type := List Int32 × List Int32 × List Int32 × List Int32 × Int32 × Int32
def hL2 (s : am_Hs) (i : Nat) : Int32 := s.1.getD i 0
def hCh (s : am_Hs) (i : Nat) : Int32 := s.2.1.getD i 0
def hLi (s : am_Hs) (i : Nat) : Int32 := s.2.2.1.getD i 0
def hBe (s : am_Hs) (i : Nat) : Int32 := s.2.2.2.1.getD i 0
def hLit (s : am_Hs) : Int32 := s.2.2.2.2.1
def hMov (s : am_Hs) : Int32 := s.2.2.2.2.2
def hOK (s : am_Hs) : Prop := s.1.length = 64 ∧ s.2.1.length = 8 ∧ s.2.2.1.length = 5 ∧ s.2.2.2.1.length = 8
def hObj (k : Nat) (s : am_Hs) : Nat × List Value := (1, [.ref (k + 1), .ref (k + 2), .ref (k + 3), .ref (k + 4), .int (hLit s), .int (hMov s)])
def isH (hp : am_H) (k : Nat) (s : am_Hs) : Prop := am_obj hp k = some (hObj k s) ∧ am_arr hp (k + 1) = some s.1 ∧ am_arr hp (k + 2) = some s.2.1 ∧ am_arr hp (k + 3) = some s.2.2.1 ∧ am_arr hp (k + 4) = some s.2.2.2.1 ∧ hOK s
def wH (hp : am_H) (k : Nat) (s : am_Hs) : am_H := ((((hp.set k (.inr (.inr (hObj k s)))).set (k + 1) (.inl s.1)).set (k + 2) (.inl s.2.1)).set (k + 3) (.inl s.2.2.1)).set (k + 4) (.inl s.2.2.2.1)
def hSetL2 (s : am_Hs) (i : Nat) (x : Int32) : am_Hs := (s.1.set i x, s.2)
def hSetCh (s : am_Hs) (i : Nat) (x : Int32) : am_Hs := (s.1, s.2.1.set i x, s.2.2)
def hSetLi (s : am_Hs) (i : Nat) (x : Int32) : am_Hs := (s.1, s.2.1, s.2.2.1.set i x, s.2.2.2)
def hSetLit (s : am_Hs) (x : Int32) : am_Hs := (s.1, s.2.1, s.2.2.1, s.2.2.2.1, x, s.2.2.2.2.2)
def hSetMov (s : am_Hs) (x : Int32) : am_Hs := (s.1, s.2.1, s.2.2.1, s.2.2.2.1, s.2.2.2.2.1, x)
section HOM
variable {hp : am_H} {k i b : Nat} {s : am_Hs} {x : Int32}
theorem isH.cl (h : isH hp k s) : am_isC hp k 1 = true := am_isC_of h.1
theorem isH.f0 (h : isH hp k s) : am_fld hp k 1 0 = some (.ref (k + 1)) := am_fld_of h.1
theorem isH.f1 (h : isH hp k s) : am_fld hp k 1 1 = some (.ref (k + 2)) := am_fld_of h.1
theorem isH.f2 (h : isH hp k s) : am_fld hp k 1 2 = some (.ref (k + 3)) := am_fld_of h.1
theorem isH.f3 (h : isH hp k s) : am_fld hp k 1 3 = some (.ref (k + 4)) := am_fld_of h.1
theorem isH.f4 (h : isH hp k s) : am_fld hp k 1 4 = some (.int (hLit s)) := am_fld_of h.1
theorem isH.f5 (h : isH hp k s) : am_fld hp k 1 5 = some (.int (hMov s)) := am_fld_of h.1
theorem isH.l2 (h : isH hp k s) (hi : i < 64) : am_ld hp (k + 1) (nI i) = some (hL2 s i) := am_ld_nI ⟨h.2.1, h.2.2.2.2.2.1⟩ hi (by decide)
theorem isH.lc (h : isH hp k s) (hi : i < 8) : am_ld hp (k + 2) (nI i) = some (hCh s i) := am_ld_nI ⟨h.2.2.1, h.2.2.2.2.2.2.1⟩ hi (by decide)
theorem isH.ll (h : isH hp k s) (hi : i < 5) : am_ld hp (k + 3) (nI i) = some (hLi s i) := am_ld_nI ⟨h.2.2.2.1, h.2.2.2.2.2.2.2.1⟩ hi (by decide)
theorem isH.lb (h : isH hp k s) (hi : i < 8) : am_ld hp (k + 4) (nI i) = some (hBe s i) := am_ld_nI ⟨h.2.2.2.2.1, h.2.2.2.2.2.2.2.2⟩ hi (by decide)
theorem wH_len : (wH hp k s).length = hp.length := by simp [wH]
theorem wH_get (hb : b < k ∨ k + 4 < b) : (wH hp k s)[b]? = hp[b]? := by
  unfold wH
  rw [List.getElem?_set_ne (by omega), List.getElem?_set_ne (by omega), List.getElem?_set_ne (by omega), List.getElem?_set_ne (by omega), List.getElem?_set_ne (by omega)]
theorem wH_arr (hb : b < k ∨ k + 4 < b) : am_arr (wH hp k s) b = am_arr hp b := by unfold am_arr; rw [wH_get hb]
theorem wH_obj (hb : b < k ∨ k + 4 < b) : am_obj (wH hp k s) b = am_obj hp b := by unfold am_obj; rw [wH_get hb]
theorem isH_wH (hk : k + 4 < hp.length) (hs : hOK s) : isH (wH hp k s) k s := by
  have l0 : k < hp.length := by omega
  have l1 : k + 1 < hp.length := by omega
  have l2 : k + 2 < hp.length := by omega
  have l3 : k + 3 < hp.length := by omega
  refine ⟨?_, ?_, ?_, ?_, ?_, hs⟩
  · simp [am_obj, wH, List.getElem?_set, l0]
  · simp [am_arr, wH, List.getElem?_set, l1]
  · simp [am_arr, wH, List.getElem?_set, l2]
  · simp [am_arr, wH, List.getElem?_set, l3]
  · simp [am_arr, wH, List.getElem?_set, hk]
theorem wH_self (h : isH hp k s) : wH hp k s = hp := by
  unfold wH
  rw [set_self (am_obj_get h.1), set_self (am_arr_get h.2.1), set_self (am_arr_get h.2.2.1), set_self (am_arr_get h.2.2.2.1), set_self (am_arr_get h.2.2.2.2.1)]
theorem wH_1 {ys : List Int32} : (wH hp k s).set (k + 1) (.inl ys) = wH hp k (ys, s.2) := by
  unfold wH
  rw [List.set_comm _ _ (show k + 4 ≠ k + 1 by omega), List.set_comm _ _ (show k + 3 ≠ k + 1 by omega), List.set_comm _ _ (show k + 2 ≠ k + 1 by omega), List.set_set]
  rfl
theorem wH_2 {ys : List Int32} : (wH hp k s).set (k + 2) (.inl ys) = wH hp k (s.1, ys, s.2.2) := by
  unfold wH
  rw [List.set_comm _ _ (show k + 4 ≠ k + 2 by omega), List.set_comm _ _ (show k + 3 ≠ k + 2 by omega), List.set_set]
  rfl
theorem wH_3 {ys : List Int32} : (wH hp k s).set (k + 3) (.inl ys) = wH hp k (s.1, s.2.1, ys, s.2.2.2) := by
  unfold wH
  rw [List.set_comm _ _ (show k + 4 ≠ k + 3 by omega), List.set_set]
  rfl
theorem wH_4 {ys : List Int32} : (wH hp k s).set (k + 4) (.inl ys) = wH hp k (s.1, s.2.1, s.2.2.1, ys, s.2.2.2.2) := by
  unfold wH
  rw [List.set_set]
  rfl
theorem wH_s1 (hk : k + 4 < hp.length) (hs : hOK s) (hi : i < 64) : am_sx (wH hp k s) (k + 1) (nI i) x = some (wH hp k (hSetL2 s i x)) := by
  have h := isH_wH hk hs
  rw [am_sx_nI ⟨h.2.1, hs.1⟩ hi (by decide), wH_1]; rfl
theorem wH_s2 (hk : k + 4 < hp.length) (hs : hOK s) (hi : i < 8) : am_sx (wH hp k s) (k + 2) (nI i) x = some (wH hp k (hSetCh s i x)) := by
  have h := isH_wH hk hs
  rw [am_sx_nI ⟨h.2.2.1, hs.2.1⟩ hi (by decide), wH_2]; rfl
theorem wH_s3 (hk : k + 4 < hp.length) (hs : hOK s) (hi : i < 5) : am_sx (wH hp k s) (k + 3) (nI i) x = some (wH hp k (hSetLi s i x)) := by
  have h := isH_wH hk hs
  rw [am_sx_nI ⟨h.2.2.2.1, hs.2.2.1⟩ hi (by decide), wH_3]; rfl
theorem wH_O {s2 : am_Hs} (h : s2.1 = s.1 ∧ s2.2.1 = s.2.1 ∧ s2.2.2.1 = s.2.2.1 ∧ s2.2.2.2.1 = s.2.2.2.1) : (wH hp k s).set k (.inr (.inr (hObj k s2))) = wH hp k s2 := by
  unfold wH
  rw [List.set_comm _ _ (show k + 4 ≠ k by omega), List.set_comm _ _ (show k + 3 ≠ k by omega), List.set_comm _ _ (show k + 2 ≠ k by omega), List.set_comm _ _ (show k + 1 ≠ k by omega), List.set_set, h.1, h.2.1, h.2.2.1, h.2.2.2]
theorem wH_p4 (hk : k + 4 < hp.length) (hs : hOK s) : am_pf (wH hp k s) k 1 4 (.int x) = some (wH hp k (hSetLit s x)) := by
  rw [am_pf_of (isH_wH hk hs).1 (show _ < 6 by decide)]
  exact congrArg some (wH_O (s := s) (s2 := hSetLit s x) ⟨rfl, rfl, rfl, rfl⟩)
theorem wH_p5 (hk : k + 4 < hp.length) (hs : hOK s) : am_pf (wH hp k s) k 1 5 (.int x) = some (wH hp k (hSetMov s x)) := by
  rw [am_pf_of (isH_wH hk hs).1 (show _ < 6 by decide)]
  exact congrArg some (wH_O (s := s) (s2 := hSetMov s x) ⟨rfl, rfl, rfl, rfl⟩)
theorem hOK.c (h : hOK s) : hOK (hSetCh s i x) := ⟨h.1, (List.length_set).trans h.2.1, h.2.2⟩
theorem hOK.l (h : hOK s) : hOK (hSetLi s i x) := ⟨h.1, h.2.1, (List.length_set).trans h.2.2.1, h.2.2.2⟩
theorem hOK.p (h : hOK s) : hOK (hSetL2 s i x) := ⟨(List.length_set).trans h.1, h.2⟩
theorem isM_wH {k2 : Nat} {m : am_Mo} (h : isM hp k2 m) (hne : k2 + 5 < k ∨ k + 4 < k2) : isM (wH hp k s) k2 m := by
  obtain ⟨h0, h1, h2, h3, h4, h5⟩ := h
  refine ⟨?_, ⟨?_, h1.2⟩, ⟨?_, h2.2⟩, ⟨?_, h3.2⟩, ⟨?_, h4.2⟩, ⟨?_, h5.2⟩⟩
  · rw [wH_obj (by omega)]; exact h0
  · rw [wH_arr (by omega)]; exact h1.1
  · rw [wH_arr (by omega)]; exact h2.1
  · rw [wH_arr (by omega)]; exact h3.1
  · rw [wH_arr (by omega)]; exact h4.1
  · rw [wH_arr (by omega)]; exact h5.1
theorem isCt_wH {k2 : Nat} {c : am_Ci} (h : isCt hp k2 c) (hne : k2 + 9 < k ∨ k + 4 < k2) : isCt (wH hp k s) k2 c := by
  obtain ⟨h0, h1, h2, h3, h4, h5⟩ := h
  refine ⟨?_, isM_wH h1 (by omega), ?_, ?_, ?_, h5⟩
  · rw [wH_obj (by omega)]; exact h0
  · rw [wH_arr (by omega)]; exact h2
  · rw [wH_arr (by omega)]; exact h3
  · rw [wH_arr (by omega)]; exact h4
end HOM
/-- the light that one adds to a house -/
def hAd (s : am_Hs) (who : Nat) (h : Int32) (i : Nat) (a : Int32) : Int32 := if hCh s i = h then a + hL2 s (i * 8 + who) else a
def hAdd (s : am_Hs) (who : Nat) (h : Int32) : Int32 := am_for (hAd s who h) 0 who 0
theorem s_lightAdded {d k who : Nat} {hp : am_H} {s : am_Hs} {x : Int32} (h : isH hp k s) (hw : who < 8) : am_E d 14 0 [some (.ref k), some (.int (nI who)), some (.int x), none, none] [] hp = some (some (.int (hAdd s who x)), hp) := by
  have key := for_res (τ := Unit) (fun i a _ => am_E d 14 5 [some (.ref k), some (.int (nI who)), some (.int x), some (.int a), some (.int (nI i))] [] hp) (fun _ _ => True) (hAd s who x) who (fun a => some (some (.int a), hp)) (fun a _ _ => by
    try dsimp only
    rw [e_14_5]
    simp (disch := first | exact nl_int | exact nl_ref | exact nl_none | exact Nat.le_of_ble_eq_true rfl | assumption | exact cat_int | exact cat_ref | exact z2 | exact z4 | exact z3 | exact z5 | exact z6 | exact z8 | exact z64) only [e_14_0, e_14_1, e_14_2, e_14_3, e_14_7, e_14_8, e_14_11, e_14_12, e_14_15, e_14_17, e_14_18, e_14_19, e_14_22, e_14_23, e_14_24, e_14_27, e_14_29, e_14_31, e_14_32, e_14_33, e_14_34, e_14_35, e_14_36, e_14_37, e_14_40, e_14_43, e_14_44, nl_int, nl_ref, nl_none, cat_int, cat_ref, cat_0, cat_i, cat_r, cat_l, Option.elim_some, Option.elim_none, Option.bind_some, Option.bind_none, Option.toList_some, Option.toList_none, List.cons_append, List.nil_append, Nat.reduceAdd, Nat.reduceLeDiff, ltF (x := nI who) (c := who) rfl (Nat.le_refl _) (by omega), if_false]) (fun i a _ hi _ => ⟨trivial, (), by
    have e : nI i * 8 + nI who = nI (i * 8 + who) := by rw [show (8 : Int32) = nI 8 from rfl, pk_mul, nI_add]
    try dsimp only
    rw [e_14_5]
    simp (disch := first | exact nl_int | exact nl_ref | exact nl_none | exact Nat.le_of_ble_eq_true rfl | assumption | exact cat_int | exact cat_ref | exact z2 | exact z4 | exact z3 | exact z5 | exact z6 | exact z8 | exact z64) only [e_14_0, e_14_1, e_14_2, e_14_3, e_14_7, e_14_8, e_14_11, e_14_12, e_14_15, e_14_17, e_14_18, e_14_19, e_14_22, e_14_23, e_14_24, e_14_27, e_14_29, e_14_31, e_14_32, e_14_33, e_14_34, e_14_35, e_14_36, e_14_37, e_14_40, e_14_43, e_14_44, nl_int, nl_ref, nl_none, cat_int, cat_ref, cat_0, cat_i, cat_r, cat_l, Option.elim_some, Option.elim_none, Option.bind_some, Option.bind_none, Option.toList_some, Option.toList_none, List.cons_append, List.nil_append, Nat.reduceAdd, Nat.reduceLeDiff, ltT (x := nI who) (c := who) rfl hi (by omega), if_true, h.f1, h.f0, h.lc (show i < 8 by omega), e, h.l2 (show i * 8 + who < 64 by omega), nI_1]
    unfold hAd
    split <;> rfl⟩) who 0 0 () (by omega) trivial
  simp (disch := first | exact nl_int | exact nl_ref | exact nl_none | exact Nat.le_of_ble_eq_true rfl | assumption | exact cat_int | exact cat_ref | exact z2 | exact z4 | exact z3 | exact z5 | exact z6 | exact z8 | exact z64) only [e_14_0, e_14_1, e_14_2, e_14_3, e_14_7, e_14_8, e_14_11, e_14_12, e_14_15, e_14_17, e_14_18, e_14_19, e_14_22, e_14_23, e_14_24, e_14_27, e_14_29, e_14_31, e_14_32, e_14_33, e_14_34, e_14_35, e_14_36, e_14_37, e_14_40, e_14_43, e_14_44, nl_int, nl_ref, nl_none, cat_int, cat_ref, cat_0, cat_i, cat_r, cat_l, Option.elim_some, Option.elim_none, Option.bind_some, Option.bind_none, Option.toList_some, Option.toList_none, List.cons_append, List.nil_append, Nat.reduceAdd, Nat.reduceLeDiff]
  exact key
/-- how many works are lit, by the lights as they are -/
def hWk (c : am_Ci) (s : am_Hs) (i : Nat) (a : Int32) : Int32 := if cWH c i < 0 then a else if cWH c i < 5 then (if hLi s (cWH c i).toNatClampNeg < cWN c i then a else a + 1) else a
def hWks (c : am_Ci) (s : am_Hs) : Int32 := am_for (hWk c s) 0 (cWk c) 0
def hTake (s : am_Hs) (lit mv : Int32) : am_Hs := (s.1, s.2.1, s.2.2.1, s.2.1, lit, mv)
def hWe (mv a : Int32) (s : am_Hs) : am_Hs := if hLit s < a then hTake s a mv else if a = hLit s then (if mv < hMov s then hTake s a mv else s) else s
def hWeigh (c : am_Ci) (mv : Int32) (s : am_Hs) : am_Hs := hWe mv (hWks c s) s
theorem hWeigh_ok {c : am_Ci} {mv : Int32} {s : am_Hs} (h : hOK s) : hOK (hWeigh c mv s) := by
  unfold hWeigh hWe
  repeat' split
  all_goals first | exact h | exact ⟨h.1, h.2.1, h.2.2.1, h.2.1⟩
theorem s_hweigh {d k k2 : Nat} {hp : am_H} {s : am_Hs} {c : am_Ci} {mv : Int32} (hk : k + 4 < hp.length) (hs : hOK s) (hc : isCt hp k2 c) (hne : k2 + 9 < k ∨ k + 4 < k2) : am_E d 15 0 [some (.ref k), some (.ref k2), some (.int mv), none, none, none] [] (wH hp k s) = some (none, wH hp k (hWeigh c mv s)) := by
  have h := isH_wH hk hs
  have g : isCt (wH hp k s) k2 c := isCt_wH hc hne
  have hwk := g.wk
  have key := for_res (τ := Option Value) (fun i a y => am_E d 15 5 [some (.ref k), some (.ref k2), some (.int mv), some (.int a), some (.int (nI i)), y] [] (wH hp k s)) (fun _ _ => True) (hWk c s) (cWk c) (fun a => some (none, wH hp k (hWe mv a s))) (fun a y _ => by
    have o1 : hOK (hSetLit s a) := hs
    have o2 : hOK (hSetMov (hSetLit s a) mv) := hs
    have h2 := isH_wH hk o2
    have cp : am_cp (wH hp k (hSetMov (hSetLit s a) mv)) (k + 2) 0 (k + 4) 0 8 = some (wH hp k (hTake s a mv)) := by
      rw [am_cp8 (x := 8) (n := 8) rfl ⟨h2.2.2.1, o2.2.1⟩ ⟨h2.2.2.2.2.1, o2.2.2.2⟩ (by decide), wH_4]
      rfl
    try dsimp only
    rw [e_15_5]
    simp (disch := first | exact nl_int | exact nl_ref | exact nl_none | exact Nat.le_of_ble_eq_true rfl | assumption | exact cat_int | exact cat_ref | exact z2 | exact z4 | exact z3 | exact z5 | exact z6 | exact z8 | exact z64) only [e_15_0, e_15_1, e_15_2, e_15_3, e_15_7, e_15_8, e_15_11, e_15_14, e_15_16, e_15_17, e_15_20, e_15_21, e_15_24, e_15_26, e_15_27, e_15_29, e_15_31, e_15_34, e_15_36, e_15_37, e_15_40, e_15_41, e_15_44, e_15_46, e_15_47, e_15_48, e_15_51, e_15_53, e_15_54, e_15_57, e_15_60, e_15_63, e_15_66, e_15_67, e_15_68, e_15_71, e_15_74, e_15_75, e_15_76, e_15_79, e_15_82, e_15_83, e_15_84, e_15_87, e_15_90, e_15_91, e_15_92, e_15_95, e_15_96, e_15_97, e_15_100, e_15_101, e_15_104, e_15_105, e_15_106, e_15_109, e_15_110, e_15_112, e_15_115, nl_int, nl_ref, nl_none, cat_int, cat_ref, cat_0, cat_i, cat_r, cat_l, Option.elim_some, Option.elim_none, Option.bind_some, Option.bind_none, Option.toList_some, Option.toList_none, List.cons_append, List.nil_append, Nat.reduceAdd, Nat.reduceLeDiff, g.f6, ltF (x := nI (cWk c)) (c := cWk c) rfl (Nat.le_refl _) (by omega), if_false, h.f4, h.f5, wH_p4 hk hs, wH_p5 hk o1, h2.f1, h2.f3, cp]
    unfold hWe
    by_cases q1 : hLit s < a
    · simp only [if_pos q1]
    · by_cases q2 : a = hLit s
      · by_cases q3 : mv < hMov s
        · simp only [if_neg q1, if_pos q2, if_pos q3]
        · simp only [if_neg q1, if_pos q2, if_neg q3]
      · simp only [if_neg q1, if_neg q2]) (fun i a y hi _ => ⟨trivial, by
    try dsimp only
    rw [e_15_5]
    unfold hWk
    by_cases q1 : cWH c i < 0
    · simp (disch := first | exact nl_int | exact nl_ref | exact nl_none | exact Nat.le_of_ble_eq_true rfl | assumption | exact cat_int | exact cat_ref | exact z2 | exact z4 | exact z3 | exact z5 | exact z6 | exact z8 | exact z64) only [e_15_0, e_15_1, e_15_2, e_15_3, e_15_7, e_15_8, e_15_11, e_15_14, e_15_16, e_15_17, e_15_20, e_15_21, e_15_24, e_15_26, e_15_27, e_15_29, e_15_31, e_15_34, e_15_36, e_15_37, e_15_40, e_15_41, e_15_44, e_15_46, e_15_47, e_15_48, e_15_51, e_15_53, e_15_54, e_15_57, e_15_60, e_15_63, e_15_66, e_15_67, e_15_68, e_15_71, e_15_74, e_15_75, e_15_76, e_15_79, e_15_82, e_15_83, e_15_84, e_15_87, e_15_90, e_15_91, e_15_92, e_15_95, e_15_96, e_15_97, e_15_100, e_15_101, e_15_104, e_15_105, e_15_106, e_15_109, e_15_110, e_15_112, e_15_115, nl_int, nl_ref, nl_none, cat_int, cat_ref, cat_0, cat_i, cat_r, cat_l, Option.elim_some, Option.elim_none, Option.bind_some, Option.bind_none, Option.toList_some, Option.toList_none, List.cons_append, List.nil_append, Nat.reduceAdd, Nat.reduceLeDiff, g.f6, g.f1, ltT (x := nI (cWk c)) (c := cWk c) rfl hi (by omega), ltT (x := 5) (c := 5) rfl (show i < 5 by omega) (by decide), if_true, g.lwh (show i < 5 by omega), if_pos q1, nI_1]
      exact ⟨_, rfl⟩
    · by_cases q2 : cWH c i < 5
      · obtain ⟨j, hj⟩ := nI_of q1
        have hj5 : j < 5 := (nI_ltI hj.1 (by decide)).mp (by rw [← hj.2]; exact q2)
        have e2 : hLi s (cWH c i).toNatClampNeg = hLi s j := by rw [hj.2, nI_clamp hj.1]
        simp (disch := first | exact nl_int | exact nl_ref | exact nl_none | exact Nat.le_of_ble_eq_true rfl | assumption | exact cat_int | exact cat_ref | exact z2 | exact z4 | exact z3 | exact z5 | exact z6 | exact z8 | exact z64) only [e_15_0, e_15_1, e_15_2, e_15_3, e_15_7, e_15_8, e_15_11, e_15_14, e_15_16, e_15_17, e_15_20, e_15_21, e_15_24, e_15_26, e_15_27, e_15_29, e_15_31, e_15_34, e_15_36, e_15_37, e_15_40, e_15_41, e_15_44, e_15_46, e_15_47, e_15_48, e_15_51, e_15_53, e_15_54, e_15_57, e_15_60, e_15_63, e_15_66, e_15_67, e_15_68, e_15_71, e_15_74, e_15_75, e_15_76, e_15_79, e_15_82, e_15_83, e_15_84, e_15_87, e_15_90, e_15_91, e_15_92, e_15_95, e_15_96, e_15_97, e_15_100, e_15_101, e_15_104, e_15_105, e_15_106, e_15_109, e_15_110, e_15_112, e_15_115, nl_int, nl_ref, nl_none, cat_int, cat_ref, cat_0, cat_i, cat_r, cat_l, Option.elim_some, Option.elim_none, Option.bind_some, Option.bind_none, Option.toList_some, Option.toList_none, List.cons_append, List.nil_append, Nat.reduceAdd, Nat.reduceLeDiff, g.f6, g.f1, g.f2, h.f2, ltT (x := nI (cWk c)) (c := cWk c) rfl hi (by omega), ltT (x := 5) (c := 5) rfl (show i < 5 by omega) (by decide), if_true, g.lwh (show i < 5 by omega), g.lwn (show i < 5 by omega), if_neg q1, if_pos q2, hj.2, h.ll hj5, nI_1, e2]
        rw [hj.2] at q1 q2
        simp only [if_neg q1, if_pos q2, nI_clamp hj.1]
        split
        · exact ⟨_, rfl⟩
        · exact ⟨_, rfl⟩
      · simp (disch := first | exact nl_int | exact nl_ref | exact nl_none | exact Nat.le_of_ble_eq_true rfl | assumption | exact cat_int | exact cat_ref | exact z2 | exact z4 | exact z3 | exact z5 | exact z6 | exact z8 | exact z64) only [e_15_0, e_15_1, e_15_2, e_15_3, e_15_7, e_15_8, e_15_11, e_15_14, e_15_16, e_15_17, e_15_20, e_15_21, e_15_24, e_15_26, e_15_27, e_15_29, e_15_31, e_15_34, e_15_36, e_15_37, e_15_40, e_15_41, e_15_44, e_15_46, e_15_47, e_15_48, e_15_51, e_15_53, e_15_54, e_15_57, e_15_60, e_15_63, e_15_66, e_15_67, e_15_68, e_15_71, e_15_74, e_15_75, e_15_76, e_15_79, e_15_82, e_15_83, e_15_84, e_15_87, e_15_90, e_15_91, e_15_92, e_15_95, e_15_96, e_15_97, e_15_100, e_15_101, e_15_104, e_15_105, e_15_106, e_15_109, e_15_110, e_15_112, e_15_115, nl_int, nl_ref, nl_none, cat_int, cat_ref, cat_0, cat_i, cat_r, cat_l, Option.elim_some, Option.elim_none, Option.bind_some, Option.bind_none, Option.toList_some, Option.toList_none, List.cons_append, List.nil_append, Nat.reduceAdd, Nat.reduceLeDiff, g.f6, g.f1, ltT (x := nI (cWk c)) (c := cWk c) rfl hi (by omega), ltT (x := 5) (c := 5) rfl (show i < 5 by omega) (by decide), if_true, g.lwh (show i < 5 by omega), if_neg q1, if_neg q2, nI_1]
        exact ⟨_, rfl⟩⟩) (cWk c) 0 0 none (by omega) trivial
  simp (disch := first | exact nl_int | exact nl_ref | exact nl_none | exact Nat.le_of_ble_eq_true rfl | assumption | exact cat_int | exact cat_ref | exact z2 | exact z4 | exact z3 | exact z5 | exact z6 | exact z8 | exact z64) only [e_15_0, e_15_1, e_15_2, e_15_3, e_15_7, e_15_8, e_15_11, e_15_14, e_15_16, e_15_17, e_15_20, e_15_21, e_15_24, e_15_26, e_15_27, e_15_29, e_15_31, e_15_34, e_15_36, e_15_37, e_15_40, e_15_41, e_15_44, e_15_46, e_15_47, e_15_48, e_15_51, e_15_53, e_15_54, e_15_57, e_15_60, e_15_63, e_15_66, e_15_67, e_15_68, e_15_71, e_15_74, e_15_75, e_15_76, e_15_79, e_15_82, e_15_83, e_15_84, e_15_87, e_15_90, e_15_91, e_15_92, e_15_95, e_15_96, e_15_97, e_15_100, e_15_101, e_15_104, e_15_105, e_15_106, e_15_109, e_15_110, e_15_112, e_15_115, nl_int, nl_ref, nl_none, cat_int, cat_ref, cat_0, cat_i, cat_r, cat_l, Option.elim_some, Option.elim_none, Option.bind_some, Option.bind_none, Option.toList_some, Option.toList_none, List.cons_append, List.nil_append, Nat.reduceAdd, Nat.reduceLeDiff]
  exact key
def hMv (m : am_Mo) (who h moved : Nat) : Nat := if nI h = mH m who then moved else moved + 1
def hHope (c : am_Ci) (mv : Nat) (s : am_Hs) : Bool := if hLit s = nI (cWk c) then (if nI mv < hMov s then false else true) else false
def hStep (rec_ : Nat → am_Hs → am_Hs) (c : am_Ci) (m : am_Mo) (who moved h : Nat) (s : am_Hs) : am_Hs :=
  if 4 < hMv m who h moved then s else if hHope c (hMv m who h moved) s = true then s else
    hSetLi (rec_ (hMv m who h moved) (hSetLi (hSetCh s who (nI h)) h (hLi s h + hAdd s who (nI h)))) h (hLi (rec_ (hMv m who h moved) (hSetLi (hSetCh s who (nI h)) h (hLi s h + hAdd s who (nI h)))) h - hAdd s who (nI h))
def hSettle (c : am_Ci) (m : am_Mo) : Nat → Nat → Nat → am_Hs → am_Hs
  | 0, _, moved, s => hWeigh c (nI moved) s
  | n + 1, who, moved, s => am_for (hStep (fun mv s => hSettle c m n (who + 1) mv s) c m who moved) 0 (cHs c) s
theorem hStep_ok {rec_ : Nat → am_Hs → am_Hs} {c : am_Ci} {m : am_Mo} {who moved h : Nat} {s : am_Hs} (hr : ∀ mv s, hOK s → hOK (rec_ mv s)) (hs : hOK s) : hOK (hStep rec_ c m who moved h s) := by
  unfold hStep
  repeat' split
  all_goals first | exact hs | exact (hr _ _ hs.c.l).l
theorem hSettle_ok {c : am_Ci} {m : am_Mo} : ∀ (n who moved : Nat) (s : am_Hs), hOK s → hOK (hSettle c m n who moved s) := by
  intro n
  induction n with
  | zero => intro who moved s hs; exact hWeigh_ok hs
  | succ n ih => intro who moved s hs; exact am_for_inv (fun _ s => hOK s) _ _ _ hs (fun _ _ _ _ q => hStep_ok (fun mv s => ih (who + 1) mv s) q)
theorem s_settle {k k2 k3 : Nat} {hp : am_H} {c : am_Ci} {m : am_Mo} (hk : k + 4 < hp.length) (hc : isCt hp k2 c) (hm : isM hp k3 m) (h2 : k2 + 9 < k ∨ k + 4 < k2) (h3 : k3 + 5 < k ∨ k + 4 < k3) : ∀ (n d who moved : Nat) (s : am_Hs), who + n = cPp c → moved ≤ 4 → hOK s → am_E (d + n + 1) 13 0 [some (.ref k), some (.ref k2), some (.ref k3), some (.int (nI who)), some (.int (nI moved)), none, none, none, none] [] (wH hp k s) = some (none, wH hp k (hSettle c m n who moved s)) := by
  have hpp := hc.pp
  have hhs := hc.hs
  have hwk := hc.wk
  intro n
  induction n with
  | zero =>
    intro d who moved s hw hmv hs
    have h := isH_wH hk hs
    have hcl := h.cl
    have g : isCt (wH hp k s) k2 c := isCt_wH hc h2
    simp (disch := first | exact nl_int | exact nl_ref | exact nl_none | exact Nat.le_of_ble_eq_true rfl | assumption | exact cat_int | exact cat_ref | exact z2 | exact z4 | exact z3 | exact z5 | exact z6 | exact z8 | exact z64) only [e_13_0, e_13_1, e_13_2, e_13_5, e_13_8, e_13_9, e_13_11, e_13_14, e_13_15, e_13_16, e_13_18, e_13_21, e_13_22, e_13_23, e_13_27, e_13_28, e_13_31, e_13_34, e_13_36, e_13_37, e_13_40, e_13_42, e_13_43, e_13_46, e_13_47, e_13_48, e_13_51, e_13_53, e_13_56, e_13_58, e_13_59, e_13_60, e_13_62, e_13_63, e_13_66, e_13_67, e_13_70, e_13_73, e_13_75, e_13_76, e_13_79, e_13_82, e_13_83, e_13_86, e_13_87, e_13_89, e_13_91, e_13_92, e_13_95, e_13_97, e_13_100, e_13_101, e_13_102, e_13_104, e_13_107, e_13_109, e_13_110, e_13_113, e_13_114, e_13_116, e_13_117, e_13_118, e_13_121, e_13_123, e_13_124, e_13_125, e_13_127, e_13_128, e_13_129, e_13_130, e_13_131, e_13_132, e_13_133, e_13_134, e_13_135, e_13_137, e_13_140, e_13_141, e_13_144, e_13_146, e_13_147, e_13_148, e_13_150, e_13_151, e_13_152, e_13_155, e_13_158, nl_int, nl_ref, nl_none, cat_int, cat_ref, cat_0, cat_i, cat_r, cat_l, Option.elim_some, Option.elim_none, Option.bind_some, Option.bind_none, Option.toList_some, Option.toList_none, List.cons_append, List.nil_append, Nat.reduceAdd, Nat.reduceLeDiff, g.f5, ltF (x := nI (cPp c)) (c := cPp c) rfl (show cPp c ≤ who by omega) (by omega), if_false, s_hweigh hk hs hc h2]
    rfl
  | succ n ih =>
    intro d who moved s hw hmv hs
    have h0 := isH_wH hk hs
    have g0 : isCt (wH hp k s) k2 c := isCt_wH hc h2
    have key := for_res (τ := Option Value × Option Value × Option Value) (fun j s y => am_E (d + (n + 1) + 1) 13 25 [some (.ref k), some (.ref k2), some (.ref k3), some (.int (nI who)), some (.int (nI moved)), some (.int (nI j)), y.1, y.2.1, y.2.2] [] (wH hp k s)) (fun _ s => hOK s) (hStep (fun mv s => hSettle c m n (who + 1) mv s) c m who moved) (cHs c) (fun s => some (none, wH hp k s)) (fun s y hs => by
      have g : isCt (wH hp k s) k2 c := isCt_wH hc h2
      try dsimp only
      rw [e_13_25]
      simp (disch := first | exact nl_int | exact nl_ref | exact nl_none | exact Nat.le_of_ble_eq_true rfl | assumption | exact cat_int | exact cat_ref | exact z2 | exact z4 | exact z3 | exact z5 | exact z6 | exact z8 | exact z64) only [e_13_0, e_13_1, e_13_2, e_13_5, e_13_8, e_13_9, e_13_11, e_13_14, e_13_15, e_13_16, e_13_18, e_13_21, e_13_22, e_13_23, e_13_27, e_13_28, e_13_31, e_13_34, e_13_36, e_13_37, e_13_40, e_13_42, e_13_43, e_13_46, e_13_47, e_13_48, e_13_51, e_13_53, e_13_56, e_13_58, e_13_59, e_13_60, e_13_62, e_13_63, e_13_66, e_13_67, e_13_70, e_13_73, e_13_75, e_13_76, e_13_79, e_13_82, e_13_83, e_13_86, e_13_87, e_13_89, e_13_91, e_13_92, e_13_95, e_13_97, e_13_100, e_13_101, e_13_102, e_13_104, e_13_107, e_13_109, e_13_110, e_13_113, e_13_114, e_13_116, e_13_117, e_13_118, e_13_121, e_13_123, e_13_124, e_13_125, e_13_127, e_13_128, e_13_129, e_13_130, e_13_131, e_13_132, e_13_133, e_13_134, e_13_135, e_13_137, e_13_140, e_13_141, e_13_144, e_13_146, e_13_147, e_13_148, e_13_150, e_13_151, e_13_152, e_13_155, e_13_158, nl_int, nl_ref, nl_none, cat_int, cat_ref, cat_0, cat_i, cat_r, cat_l, Option.elim_some, Option.elim_none, Option.bind_some, Option.bind_none, Option.toList_some, Option.toList_none, List.cons_append, List.nil_append, Nat.reduceAdd, Nat.reduceLeDiff, g.f4, ltF (x := nI (cHs c)) (c := cHs c) rfl (Nat.le_refl _) (by omega), if_false]) (fun j s y hj hs => ⟨hStep_ok (fun mv s q => hSettle_ok n (who + 1) mv s q) hs, by
      have h := isH_wH hk hs
      have hcl := h.cl
      have g : isCt (wH hp k s) k2 c := isCt_wH hc h2
      have e : isM (wH hp k s) k3 m := isM_wH hm h3
      have o1 : hOK (hSetCh s who (nI j)) := hs.c
      have h1 := isH_wH hk o1
      have o2 : hOK (hSetLi (hSetCh s who (nI j)) j (hLi s j + hAdd s who (nI j))) := o1.l
      have ll1 : am_ld (wH hp k (hSetCh s who (nI j))) (k + 3) (nI j) = some (hLi s j) := h1.ll (show j < 5 by omega)
      have st : ∀ mv, mv ≤ 4 → am_E (d + (n + 1)) 13 0 [some (.ref k), some (.ref k2), some (.ref k3), some (.int (nI (who + 1))), some (.int (nI mv)), none, none, none, none] [] (wH hp k (hSetLi (hSetCh s who (nI j)) j (hLi s j + hAdd s who (nI j)))) = some (none, wH hp k (hSettle c m n (who + 1) mv (hSetLi (hSetCh s who (nI j)) j (hLi s j + hAdd s who (nI j))))) := fun mv hmv => ih d (who + 1) mv _ (by omega) hmv o2
      have o3 : ∀ mv, hOK (hSettle c m n (who + 1) mv (hSetLi (hSetCh s who (nI j)) j (hLi s j + hAdd s who (nI j)))) := fun mv => hSettle_ok n (who + 1) mv _ o2
      have h9 := fun mv => isH_wH hk (o3 mv)
      have tail : ∀ v : Nat, v ≤ 5 → ∃ y2 : Option Value × Option Value × Option Value, am_E (d + (n + 1) + 1) 13 60 [some (.ref k), some (.ref k2), some (.ref k3), some (.int (nI who)), some (.int (nI moved)), some (.int (nI j)), y.1, y.2.1, y.2.2] [.int (nI v)] (wH hp k s) = am_E (d + (n + 1) + 1) 13 25 [some (.ref k), some (.ref k2), some (.ref k3), some (.int (nI who)), some (.int (nI moved)), some (.int (nI (j + 1))), y2.1, y2.2.1, y2.2.2] [] (wH hp k (if 4 < v then s else if hHope c v s = true then s else hSetLi (hSettle c m n (who + 1) v (hSetLi (hSetCh s who (nI j)) j (hLi s j + hAdd s who (nI j)))) j (hLi (hSettle c m n (who + 1) v (hSetLi (hSetCh s who (nI j)) j (hLi s j + hAdd s who (nI j)))) j - hAdd s who (nI j)))) := by
        intro v hv
        have l4 := gtN (x := 4) (c := 4) rfl (show v < 2 ^ 31 by omega) (by decide)
        by_cases q4 : 4 < v
        · unfold hHope
          by_cases q2 : hLit s = nI (cWk c)
          · by_cases q3 : nI v < hMov s
            · simp (disch := first | exact nl_int | exact nl_ref | exact nl_none | exact Nat.le_of_ble_eq_true rfl | assumption | exact cat_int | exact cat_ref | exact z2 | exact z4 | exact z3 | exact z5 | exact z6 | exact z8 | exact z64) only [e_13_0, e_13_1, e_13_2, e_13_5, e_13_8, e_13_9, e_13_11, e_13_14, e_13_15, e_13_16, e_13_18, e_13_21, e_13_22, e_13_23, e_13_27, e_13_28, e_13_31, e_13_34, e_13_36, e_13_37, e_13_40, e_13_42, e_13_43, e_13_46, e_13_47, e_13_48, e_13_51, e_13_53, e_13_56, e_13_58, e_13_59, e_13_60, e_13_62, e_13_63, e_13_66, e_13_67, e_13_70, e_13_73, e_13_75, e_13_76, e_13_79, e_13_82, e_13_83, e_13_86, e_13_87, e_13_89, e_13_91, e_13_92, e_13_95, e_13_97, e_13_100, e_13_101, e_13_102, e_13_104, e_13_107, e_13_109, e_13_110, e_13_113, e_13_114, e_13_116, e_13_117, e_13_118, e_13_121, e_13_123, e_13_124, e_13_125, e_13_127, e_13_128, e_13_129, e_13_130, e_13_131, e_13_132, e_13_133, e_13_134, e_13_135, e_13_137, e_13_140, e_13_141, e_13_144, e_13_146, e_13_147, e_13_148, e_13_150, e_13_151, e_13_152, e_13_155, e_13_158, nl_int, nl_ref, nl_none, cat_int, cat_ref, cat_0, cat_i, cat_r, cat_l, Option.elim_some, Option.elim_none, Option.bind_some, Option.bind_none, Option.toList_some, Option.toList_none, List.cons_append, List.nil_append, Nat.reduceAdd, Nat.reduceLeDiff, h.f4, h.f5, g.f6, if_pos q2, if_pos q3, l4, if_pos q4, nI_1]
              exact ⟨(_, _, _), rfl⟩
            · simp (disch := first | exact nl_int | exact nl_ref | exact nl_none | exact Nat.le_of_ble_eq_true rfl | assumption | exact cat_int | exact cat_ref | exact z2 | exact z4 | exact z3 | exact z5 | exact z6 | exact z8 | exact z64) only [e_13_0, e_13_1, e_13_2, e_13_5, e_13_8, e_13_9, e_13_11, e_13_14, e_13_15, e_13_16, e_13_18, e_13_21, e_13_22, e_13_23, e_13_27, e_13_28, e_13_31, e_13_34, e_13_36, e_13_37, e_13_40, e_13_42, e_13_43, e_13_46, e_13_47, e_13_48, e_13_51, e_13_53, e_13_56, e_13_58, e_13_59, e_13_60, e_13_62, e_13_63, e_13_66, e_13_67, e_13_70, e_13_73, e_13_75, e_13_76, e_13_79, e_13_82, e_13_83, e_13_86, e_13_87, e_13_89, e_13_91, e_13_92, e_13_95, e_13_97, e_13_100, e_13_101, e_13_102, e_13_104, e_13_107, e_13_109, e_13_110, e_13_113, e_13_114, e_13_116, e_13_117, e_13_118, e_13_121, e_13_123, e_13_124, e_13_125, e_13_127, e_13_128, e_13_129, e_13_130, e_13_131, e_13_132, e_13_133, e_13_134, e_13_135, e_13_137, e_13_140, e_13_141, e_13_144, e_13_146, e_13_147, e_13_148, e_13_150, e_13_151, e_13_152, e_13_155, e_13_158, nl_int, nl_ref, nl_none, cat_int, cat_ref, cat_0, cat_i, cat_r, cat_l, Option.elim_some, Option.elim_none, Option.bind_some, Option.bind_none, Option.toList_some, Option.toList_none, List.cons_append, List.nil_append, Nat.reduceAdd, Nat.reduceLeDiff, h.f4, h.f5, g.f6, if_pos q2, if_neg q3, l4, if_pos q4, nI_1]
              exact ⟨(_, _, _), rfl⟩
          · simp (disch := first | exact nl_int | exact nl_ref | exact nl_none | exact Nat.le_of_ble_eq_true rfl | assumption | exact cat_int | exact cat_ref | exact z2 | exact z4 | exact z3 | exact z5 | exact z6 | exact z8 | exact z64) only [e_13_0, e_13_1, e_13_2, e_13_5, e_13_8, e_13_9, e_13_11, e_13_14, e_13_15, e_13_16, e_13_18, e_13_21, e_13_22, e_13_23, e_13_27, e_13_28, e_13_31, e_13_34, e_13_36, e_13_37, e_13_40, e_13_42, e_13_43, e_13_46, e_13_47, e_13_48, e_13_51, e_13_53, e_13_56, e_13_58, e_13_59, e_13_60, e_13_62, e_13_63, e_13_66, e_13_67, e_13_70, e_13_73, e_13_75, e_13_76, e_13_79, e_13_82, e_13_83, e_13_86, e_13_87, e_13_89, e_13_91, e_13_92, e_13_95, e_13_97, e_13_100, e_13_101, e_13_102, e_13_104, e_13_107, e_13_109, e_13_110, e_13_113, e_13_114, e_13_116, e_13_117, e_13_118, e_13_121, e_13_123, e_13_124, e_13_125, e_13_127, e_13_128, e_13_129, e_13_130, e_13_131, e_13_132, e_13_133, e_13_134, e_13_135, e_13_137, e_13_140, e_13_141, e_13_144, e_13_146, e_13_147, e_13_148, e_13_150, e_13_151, e_13_152, e_13_155, e_13_158, nl_int, nl_ref, nl_none, cat_int, cat_ref, cat_0, cat_i, cat_r, cat_l, Option.elim_some, Option.elim_none, Option.bind_some, Option.bind_none, Option.toList_some, Option.toList_none, List.cons_append, List.nil_append, Nat.reduceAdd, Nat.reduceLeDiff, h.f4, g.f6, if_neg q2, l4, if_pos q4, nI_1]
            exact ⟨(_, _, _), rfl⟩
        · have st2 := st v (by omega)
          have h8 := h9 v
          have hl8 := h8.ll (show j < 5 by omega)
          have go : ∀ z7 : Int32, z7 = 0 → ∃ y2 : Option Value × Option Value × Option Value, am_E (d + (n + 1) + 1) 13 89 [some (.ref k), some (.ref k2), some (.ref k3), some (.int (nI who)), some (.int (nI moved)), some (.int (nI j)), some (.int (nI v)), some (.int z7), y.2.2] [] (wH hp k s) = am_E (d + (n + 1) + 1) 13 25 [some (.ref k), some (.ref k2), some (.ref k3), some (.int (nI who)), some (.int (nI moved)), some (.int (nI (j + 1))), y2.1, y2.2.1, y2.2.2] [] (wH hp k (hSetLi (hSettle c m n (who + 1) v (hSetLi (hSetCh s who (nI j)) j (hLi s j + hAdd s who (nI j)))) j (hLi (hSettle c m n (who + 1) v (hSetLi (hSetCh s who (nI j)) j (hLi s j + hAdd s who (nI j)))) j - hAdd s who (nI j)))) := by
            intro z7 hz7
            subst hz7
            simp (disch := first | exact nl_int | exact nl_ref | exact nl_none | exact Nat.le_of_ble_eq_true rfl | assumption | exact cat_int | exact cat_ref | exact z2 | exact z4 | exact z3 | exact z5 | exact z6 | exact z8 | exact z64) only [e_13_1, e_13_2, e_13_5, e_13_8, e_13_9, e_13_11, e_13_14, e_13_15, e_13_16, e_13_18, e_13_21, e_13_22, e_13_23, e_13_27, e_13_28, e_13_31, e_13_34, e_13_36, e_13_37, e_13_40, e_13_42, e_13_43, e_13_46, e_13_47, e_13_48, e_13_51, e_13_53, e_13_56, e_13_58, e_13_59, e_13_60, e_13_62, e_13_63, e_13_66, e_13_67, e_13_70, e_13_73, e_13_75, e_13_76, e_13_79, e_13_82, e_13_83, e_13_86, e_13_87, e_13_89, e_13_91, e_13_92, e_13_95, e_13_97, e_13_100, e_13_101, e_13_102, e_13_104, e_13_107, e_13_109, e_13_110, e_13_113, e_13_114, e_13_116, e_13_117, e_13_118, e_13_121, e_13_123, e_13_124, e_13_125, e_13_127, e_13_128, e_13_129, e_13_130, e_13_131, e_13_132, e_13_133, e_13_134, e_13_135, e_13_137, e_13_140, e_13_141, e_13_144, e_13_146, e_13_147, e_13_148, e_13_150, e_13_151, e_13_152, e_13_155, e_13_158, nl_int, nl_ref, nl_none, cat_int, cat_ref, cat_0, cat_i, cat_r, cat_l, Option.elim_some, Option.elim_none, Option.bind_some, Option.bind_none, Option.toList_some, Option.toList_none, List.cons_append, List.nil_append, Nat.reduceAdd, Nat.reduceLeDiff, l4, if_neg q4, z0, if_true, s_lightAdded h (show who < 8 by omega), h.f1, wH_s2 hk hs (show who < 8 by omega), h1.f2, ll1, wH_s3 hk o1 (show j < 5 by omega), nI_1, st2, h8.f2, hl8, wH_s3 hk (o3 v) (show j < 5 by omega)]
            exact ⟨(_, _, _), rfl⟩
          unfold hHope
          by_cases q2 : hLit s = nI (cWk c)
          · by_cases q3 : nI v < hMov s
            · simp only [if_neg q4, if_pos q2, if_pos q3, Bool.false_eq_true, if_false]
              simp (disch := first | exact nl_int | exact nl_ref | exact nl_none | exact Nat.le_of_ble_eq_true rfl | assumption | exact cat_int | exact cat_ref | exact z2 | exact z4 | exact z3 | exact z5 | exact z6 | exact z8 | exact z64) only [e_13_0, e_13_1, e_13_2, e_13_5, e_13_8, e_13_9, e_13_11, e_13_14, e_13_15, e_13_16, e_13_18, e_13_21, e_13_22, e_13_23, e_13_27, e_13_28, e_13_31, e_13_34, e_13_36, e_13_37, e_13_40, e_13_42, e_13_43, e_13_46, e_13_47, e_13_48, e_13_51, e_13_53, e_13_56, e_13_58, e_13_59, e_13_60, e_13_62, e_13_63, e_13_66, e_13_67, e_13_70, e_13_73, e_13_75, e_13_76, e_13_79, e_13_82, e_13_83, e_13_86, e_13_87, e_13_91, e_13_92, e_13_95, e_13_97, e_13_100, e_13_101, e_13_102, e_13_104, e_13_107, e_13_109, e_13_110, e_13_113, e_13_114, e_13_116, e_13_117, e_13_118, e_13_121, e_13_123, e_13_124, e_13_125, e_13_127, e_13_128, e_13_129, e_13_130, e_13_131, e_13_132, e_13_133, e_13_134, e_13_135, e_13_137, e_13_140, e_13_141, e_13_144, e_13_146, e_13_147, e_13_148, e_13_150, e_13_151, e_13_152, e_13_155, e_13_158, nl_int, nl_ref, nl_none, cat_int, cat_ref, cat_0, cat_i, cat_r, cat_l, Option.elim_some, Option.elim_none, Option.bind_some, Option.bind_none, Option.toList_some, Option.toList_none, List.cons_append, List.nil_append, Nat.reduceAdd, Nat.reduceLeDiff, h.f4, h.f5, g.f6, if_pos q2, if_pos q3]
              exact go 0 rfl
            · simp only [if_neg q4, if_pos q2, if_neg q3, if_true]
              simp (disch := first | exact nl_int | exact nl_ref | exact nl_none | exact Nat.le_of_ble_eq_true rfl | assumption | exact cat_int | exact cat_ref | exact z2 | exact z4 | exact z3 | exact z5 | exact z6 | exact z8 | exact z64) only [e_13_0, e_13_1, e_13_2, e_13_5, e_13_8, e_13_9, e_13_11, e_13_14, e_13_15, e_13_16, e_13_18, e_13_21, e_13_22, e_13_23, e_13_27, e_13_28, e_13_31, e_13_34, e_13_36, e_13_37, e_13_40, e_13_42, e_13_43, e_13_46, e_13_47, e_13_48, e_13_51, e_13_53, e_13_56, e_13_58, e_13_59, e_13_60, e_13_62, e_13_63, e_13_66, e_13_67, e_13_70, e_13_73, e_13_75, e_13_76, e_13_79, e_13_82, e_13_83, e_13_86, e_13_87, e_13_89, e_13_91, e_13_92, e_13_95, e_13_97, e_13_100, e_13_101, e_13_102, e_13_104, e_13_107, e_13_109, e_13_110, e_13_113, e_13_114, e_13_116, e_13_117, e_13_118, e_13_121, e_13_123, e_13_124, e_13_125, e_13_127, e_13_128, e_13_129, e_13_130, e_13_131, e_13_132, e_13_133, e_13_134, e_13_135, e_13_137, e_13_140, e_13_141, e_13_144, e_13_146, e_13_147, e_13_148, e_13_150, e_13_151, e_13_152, e_13_155, e_13_158, nl_int, nl_ref, nl_none, cat_int, cat_ref, cat_0, cat_i, cat_r, cat_l, Option.elim_some, Option.elim_none, Option.bind_some, Option.bind_none, Option.toList_some, Option.toList_none, List.cons_append, List.nil_append, Nat.reduceAdd, Nat.reduceLeDiff, h.f4, h.f5, g.f6, if_pos q2, if_neg q3, l4, if_neg q4, z1, if_false, nI_1]
              exact ⟨(_, _, _), rfl⟩
          · simp only [if_neg q4, if_neg q2, Bool.false_eq_true, if_false]
            simp (disch := first | exact nl_int | exact nl_ref | exact nl_none | exact Nat.le_of_ble_eq_true rfl | assumption | exact cat_int | exact cat_ref | exact z2 | exact z4 | exact z3 | exact z5 | exact z6 | exact z8 | exact z64) only [e_13_0, e_13_1, e_13_2, e_13_5, e_13_8, e_13_9, e_13_11, e_13_14, e_13_15, e_13_16, e_13_18, e_13_21, e_13_22, e_13_23, e_13_27, e_13_28, e_13_31, e_13_34, e_13_36, e_13_37, e_13_40, e_13_42, e_13_43, e_13_46, e_13_47, e_13_48, e_13_51, e_13_53, e_13_56, e_13_58, e_13_59, e_13_60, e_13_62, e_13_63, e_13_66, e_13_67, e_13_70, e_13_73, e_13_75, e_13_76, e_13_79, e_13_82, e_13_83, e_13_86, e_13_87, e_13_91, e_13_92, e_13_95, e_13_97, e_13_100, e_13_101, e_13_102, e_13_104, e_13_107, e_13_109, e_13_110, e_13_113, e_13_114, e_13_116, e_13_117, e_13_118, e_13_121, e_13_123, e_13_124, e_13_125, e_13_127, e_13_128, e_13_129, e_13_130, e_13_131, e_13_132, e_13_133, e_13_134, e_13_135, e_13_137, e_13_140, e_13_141, e_13_144, e_13_146, e_13_147, e_13_148, e_13_150, e_13_151, e_13_152, e_13_155, e_13_158, nl_int, nl_ref, nl_none, cat_int, cat_ref, cat_0, cat_i, cat_r, cat_l, Option.elim_some, Option.elim_none, Option.bind_some, Option.bind_none, Option.toList_some, Option.toList_none, List.cons_append, List.nil_append, Nat.reduceAdd, Nat.reduceLeDiff, h.f4, g.f6, if_neg q2]
            exact go 0 rfl
      try dsimp only
      rw [e_13_25]
      by_cases q1 : nI j = mH m who
      · have e1 : hMv m who j moved = moved := if_pos q1
        obtain ⟨y2, hy⟩ := tail moved (by omega)
        refine ⟨y2, ?_⟩
        simp (disch := first | exact nl_int | exact nl_ref | exact nl_none | exact Nat.le_of_ble_eq_true rfl | assumption | exact cat_int | exact cat_ref | exact z2 | exact z4 | exact z3 | exact z5 | exact z6 | exact z8 | exact z64) only [e_13_0, e_13_1, e_13_2, e_13_5, e_13_8, e_13_9, e_13_11, e_13_14, e_13_15, e_13_16, e_13_18, e_13_21, e_13_22, e_13_23, e_13_27, e_13_28, e_13_31, e_13_34, e_13_36, e_13_37, e_13_40, e_13_42, e_13_43, e_13_46, e_13_47, e_13_48, e_13_51, e_13_53, e_13_56, e_13_58, e_13_59, e_13_62, e_13_63, e_13_66, e_13_67, e_13_70, e_13_73, e_13_75, e_13_76, e_13_79, e_13_82, e_13_83, e_13_86, e_13_87, e_13_89, e_13_91, e_13_92, e_13_95, e_13_97, e_13_100, e_13_101, e_13_102, e_13_104, e_13_107, e_13_109, e_13_110, e_13_113, e_13_114, e_13_116, e_13_117, e_13_118, e_13_121, e_13_123, e_13_124, e_13_125, e_13_127, e_13_128, e_13_129, e_13_130, e_13_131, e_13_132, e_13_133, e_13_134, e_13_135, e_13_137, e_13_140, e_13_141, e_13_144, e_13_146, e_13_147, e_13_148, e_13_150, e_13_151, e_13_152, e_13_155, e_13_158, nl_int, nl_ref, nl_none, cat_int, cat_ref, cat_0, cat_i, cat_r, cat_l, Option.elim_some, Option.elim_none, Option.bind_some, Option.bind_none, Option.toList_some, Option.toList_none, List.cons_append, List.nil_append, Nat.reduceAdd, Nat.reduceLeDiff, g.f4, ltT (x := nI (cHs c)) (c := cHs c) rfl hj (by omega), ltT (x := 5) (c := 5) rfl (show j < 5 by omega) (by decide), if_true, e.f3, e.lh (show who < 8 by omega), if_pos q1]
        rw [hy]
        unfold hStep
        rw [e1]
      · have e1 : hMv m who j moved = moved + 1 := if_neg q1
        obtain ⟨y2, hy⟩ := tail (moved + 1) (by omega)
        refine ⟨y2, ?_⟩
        simp (disch := first | exact nl_int | exact nl_ref | exact nl_none | exact Nat.le_of_ble_eq_true rfl | assumption | exact cat_int | exact cat_ref | exact z2 | exact z4 | exact z3 | exact z5 | exact z6 | exact z8 | exact z64) only [e_13_0, e_13_1, e_13_2, e_13_5, e_13_8, e_13_9, e_13_11, e_13_14, e_13_15, e_13_16, e_13_18, e_13_21, e_13_22, e_13_23, e_13_27, e_13_28, e_13_31, e_13_34, e_13_36, e_13_37, e_13_40, e_13_42, e_13_43, e_13_46, e_13_47, e_13_48, e_13_51, e_13_53, e_13_56, e_13_58, e_13_59, e_13_62, e_13_63, e_13_66, e_13_67, e_13_70, e_13_73, e_13_75, e_13_76, e_13_79, e_13_82, e_13_83, e_13_86, e_13_87, e_13_89, e_13_91, e_13_92, e_13_95, e_13_97, e_13_100, e_13_101, e_13_102, e_13_104, e_13_107, e_13_109, e_13_110, e_13_113, e_13_114, e_13_116, e_13_117, e_13_118, e_13_121, e_13_123, e_13_124, e_13_125, e_13_127, e_13_128, e_13_129, e_13_130, e_13_131, e_13_132, e_13_133, e_13_134, e_13_135, e_13_137, e_13_140, e_13_141, e_13_144, e_13_146, e_13_147, e_13_148, e_13_150, e_13_151, e_13_152, e_13_155, e_13_158, nl_int, nl_ref, nl_none, cat_int, cat_ref, cat_0, cat_i, cat_r, cat_l, Option.elim_some, Option.elim_none, Option.bind_some, Option.bind_none, Option.toList_some, Option.toList_none, List.cons_append, List.nil_append, Nat.reduceAdd, Nat.reduceLeDiff, g.f4, ltT (x := nI (cHs c)) (c := cHs c) rfl hj (by omega), ltT (x := 5) (c := 5) rfl (show j < 5 by omega) (by decide), if_true, e.f3, e.lh (show who < 8 by omega), if_neg q1, nI_1]
        rw [hy]
        unfold hStep
        rw [e1]⟩) (cHs c) 0 s (none, none, none) (by omega) hs
    simp (disch := first | exact nl_int | exact nl_ref | exact nl_none | exact Nat.le_of_ble_eq_true rfl | assumption | exact cat_int | exact cat_ref | exact z2 | exact z4 | exact z3 | exact z5 | exact z6 | exact z8 | exact z64) only [e_13_0, e_13_1, e_13_2, e_13_5, e_13_8, e_13_9, e_13_11, e_13_14, e_13_15, e_13_16, e_13_18, e_13_21, e_13_22, e_13_23, e_13_27, e_13_28, e_13_31, e_13_34, e_13_36, e_13_37, e_13_40, e_13_42, e_13_43, e_13_46, e_13_47, e_13_48, e_13_51, e_13_53, e_13_56, e_13_58, e_13_59, e_13_60, e_13_62, e_13_63, e_13_66, e_13_67, e_13_70, e_13_73, e_13_75, e_13_76, e_13_79, e_13_82, e_13_83, e_13_86, e_13_87, e_13_89, e_13_91, e_13_92, e_13_95, e_13_97, e_13_100, e_13_101, e_13_102, e_13_104, e_13_107, e_13_109, e_13_110, e_13_113, e_13_114, e_13_116, e_13_117, e_13_118, e_13_121, e_13_123, e_13_124, e_13_125, e_13_127, e_13_128, e_13_129, e_13_130, e_13_131, e_13_132, e_13_133, e_13_134, e_13_135, e_13_137, e_13_140, e_13_141, e_13_144, e_13_146, e_13_147, e_13_148, e_13_150, e_13_151, e_13_152, e_13_155, e_13_158, nl_int, nl_ref, nl_none, cat_int, cat_ref, cat_0, cat_i, cat_r, cat_l, Option.elim_some, Option.elim_none, Option.bind_some, Option.bind_none, Option.toList_some, Option.toList_none, List.cons_append, List.nil_append, Nat.reduceAdd, Nat.reduceLeDiff, g0.f5, ltT (x := nI (cPp c)) (c := cPp c) rfl (show who < cPp c by omega) (by omega), ltT (x := 8) (c := 8) rfl (show who < 8 by omega) (by decide), if_true]
    exact key
/-- the light of all twos, as if they lived together -/
def hTw2 (m : am_Mo) (t : Int32) (i j : Nat) (s : am_Hs) : am_Hs := hSetL2 s (i * 8 + j) (mL2 m i j t)
def hTw1 (m : am_Mo) (t : Int32) (i : Nat) (s : am_Hs) : am_Hs := am_for (hTw2 m t i) (i + 1) (7 - i) s
def hTwos (m : am_Mo) (t : Int32) (s : am_Hs) : am_Hs := am_for (hTw1 m t) 0 8 s
theorem hTw1_ok {m : am_Mo} {t : Int32} {i : Nat} {s : am_Hs} (h : hOK s) : hOK (hTw1 m t i s) := am_for_inv (fun _ s => hOK s) _ _ _ h (fun _ _ _ _ q => q.p)
theorem hTwos_ok {m : am_Mo} {t : Int32} {s : am_Hs} (h : hOK s) : hOK (hTwos m t s) := am_for_inv (fun _ s => hOK s) _ _ _ h (fun _ _ _ _ q => hTw1_ok q)
def hBegin (s : am_Hs) : am_Hs := (s.1, s.2.1, List.replicate 5 0, s.2.2.2.1, -1, 0)
theorem hBegin_ok {s : am_Hs} (h : hOK s) : hOK (hBegin s) := ⟨h.1, h.2.1, rfl, h.2.2.2⟩
def hSearch (c : am_Ci) (m : am_Mo) (hr : Nat) (s : am_Hs) : am_Hs := hSettle c m (cPp c) 0 0 (hBegin (hTwos m (cTalk c m hr) s))
theorem hSearch_ok {c : am_Ci} {m : am_Mo} {hr : Nat} {s : am_Hs} (h : hOK s) : hOK (hSearch c m hr s) := hSettle_ok _ _ _ _ (hBegin_ok (hTwos_ok h))
theorem s_hsearch {d k k2 k3 hr : Nat} {hp : am_H} {c : am_Ci} {m : am_Mo} {s : am_Hs} (hk : k + 4 < hp.length) (hs : hOK s) (hc : isCt hp k2 c) (hm : isM hp k3 m) (h2 : k2 + 9 < k ∨ k + 4 < k2) (h3 : k3 + 5 < k ∨ k + 4 < k3) (hh : m.2.2.2.2.2.1 = nI hr) (hl : hr < 2 ^ 31) : am_E (d + 10) 12 0 [some (.ref k), some (.ref k2), some (.ref k3), none, none, none] [] (wH hp k s) = some (none, wH hp k (hSearch c m hr s)) := by
  obtain ⟨t, et⟩ : ∃ t, t = cTalk c m hr := ⟨_, rfl⟩
  have hpp := hc.pp
  have ft : am_E (d + 9) 7 0 [some (.ref k2), some (.ref k3)] [] (wH hp k s) = some (some (.int t), wH hp k s) := by rw [et]; exact s_talkedOf (isCt_wH hc h2) (isM_wH hm h3) hh hl
  have hclc : am_isC (wH hp k s) k2 0 = true := (isCt_wH hc h2).cl
  have key := for_res (τ := Option Value) (fun i s y => am_E (d + 10) 12 9 [some (.ref k), some (.ref k2), some (.ref k3), some (.int t), some (.int (nI i)), y] [] (wH hp k s)) (fun _ s => hOK s) (hTw1 m t) 8 (fun s => some (none, wH hp k (hSettle c m (cPp c) 0 0 (hBegin s)))) (fun s y hs => by
    have h := isH_wH hk hs
    have o1 : hOK (s.1, s.2.1, List.replicate 5 0, s.2.2.2) := ⟨hs.1, hs.2.1, rfl, hs.2.2.2⟩
    have o2 : hOK (hSetLit (s.1, s.2.1, List.replicate 5 0, s.2.2.2) (-1)) := o1
    have st : am_E (d + (9 - cPp c - 1) + cPp c + 1) 13 0 [some (.ref k), some (.ref k2), some (.ref k3), some (.int (nI 0)), some (.int (nI 0)), none, none, none, none] [] (wH hp k (hBegin s)) = some (none, wH hp k (hSettle c m (cPp c) 0 0 (hBegin s))) := s_settle hk hc hm h2 h3 (cPp c) (d + (9 - cPp c - 1)) 0 0 (hBegin s) (by omega) (by omega) (hBegin_ok hs)
    rw [show d + (9 - cPp c - 1) + cPp c + 1 = d + 9 from by omega] at st
    have st2 : am_E (d + 9) 13 0 [some (.ref k), some (.ref k2), some (.ref k3), some (.int 0), some (.int 0), none, none, none, none] [] (wH hp k (hBegin s)) = some (none, wH hp k (hSettle c m (cPp c) 0 0 (hBegin s))) := st
    have e9 : hSetMov (hSetLit (s.1, s.2.1, List.replicate 5 0, s.2.2.2) (-1)) 0 = hBegin s := rfl
    have p5 := wH_p5 (x := 0) hk o2
    rw [e9] at p5
    try dsimp only
    rw [e_12_9]
    simp (disch := first | exact nl_int | exact nl_ref | exact nl_none | exact Nat.le_of_ble_eq_true rfl | assumption | exact cat_int | exact cat_ref | exact z2 | exact z4 | exact z3 | exact z5 | exact z6 | exact z8 | exact z64) only [e_12_0, e_12_1, e_12_2, e_12_5, e_12_6, e_12_7, e_12_11, e_12_13, e_12_16, e_12_18, e_12_19, e_12_20, e_12_24, e_12_26, e_12_29, e_12_30, e_12_33, e_12_35, e_12_37, e_12_38, e_12_40, e_12_41, e_12_42, e_12_44, e_12_46, e_12_47, e_12_50, e_12_51, e_12_54, e_12_57, e_12_60, e_12_63, e_12_64, e_12_67, e_12_68, e_12_71, e_12_72, e_12_73, e_12_76, e_12_77, e_12_78, e_12_81, e_12_82, e_12_83, e_12_84, e_12_85, e_12_86, e_12_89, nl_int, nl_ref, nl_none, cat_int, cat_ref, cat_0, cat_i, cat_r, cat_l, Option.elim_some, Option.elim_none, Option.bind_some, Option.bind_none, Option.toList_some, Option.toList_none, List.cons_append, List.nil_append, Nat.reduceAdd, Nat.reduceLeDiff, ltF (x := 8) (c := 8) rfl (Nat.le_refl 8) (by decide), if_false, h.f2, s_fill (x := 0) h.2.2.2.1 hs.2.2.1 (by decide), wH_3, wH_p4 hk o1, p5, st2]) (fun i s y hi hs => ⟨hTw1_ok hs, by
    try dsimp only
    rw [e_12_9]
    simp (disch := first | exact nl_int | exact nl_ref | exact nl_none | exact Nat.le_of_ble_eq_true rfl | assumption | exact cat_int | exact cat_ref | exact z2 | exact z4 | exact z3 | exact z5 | exact z6 | exact z8 | exact z64) only [e_12_0, e_12_1, e_12_2, e_12_5, e_12_6, e_12_7, e_12_11, e_12_13, e_12_16, e_12_18, e_12_19, e_12_20, e_12_24, e_12_26, e_12_29, e_12_30, e_12_33, e_12_35, e_12_37, e_12_38, e_12_40, e_12_41, e_12_42, e_12_44, e_12_46, e_12_47, e_12_50, e_12_51, e_12_54, e_12_57, e_12_60, e_12_63, e_12_64, e_12_67, e_12_68, e_12_71, e_12_72, e_12_73, e_12_76, e_12_77, e_12_78, e_12_81, e_12_82, e_12_83, e_12_84, e_12_85, e_12_86, e_12_89, nl_int, nl_ref, nl_none, cat_int, cat_ref, cat_0, cat_i, cat_r, cat_l, Option.elim_some, Option.elim_none, Option.bind_some, Option.bind_none, Option.toList_some, Option.toList_none, List.cons_append, List.nil_append, Nat.reduceAdd, Nat.reduceLeDiff, ltT (x := 8) (c := 8) rfl hi (by decide), if_true, nI_1]
    obtain ⟨h9, -, e2⟩ := for_ex (τ := Unit) (fun j s _ => am_E (d + 10) 12 22 [some (.ref k), some (.ref k2), some (.ref k3), some (.int t), some (.int (nI i)), some (.int (nI j))] [] (wH hp k s)) (fun j s => i < j ∧ hOK s) (hTw2 m t i) 8 (fun j s _ hj hs => ⟨⟨Nat.lt_succ_of_lt hs.1, hs.2.p⟩, (), by
      have h := isH_wH hk hs.2
      have e : isM (wH hp k s) k3 m := isM_wH hm h3
      have hcl := e.c
      have e1 : nI i * 8 + nI j = nI (i * 8 + j) := by rw [show (8 : Int32) = nI 8 from rfl, pk_mul, nI_add]
      try dsimp only
      rw [e_12_22]
      simp (disch := first | exact nl_int | exact nl_ref | exact nl_none | exact Nat.le_of_ble_eq_true rfl | assumption | exact cat_int | exact cat_ref | exact z2 | exact z4 | exact z3 | exact z5 | exact z6 | exact z8 | exact z64) only [e_12_0, e_12_1, e_12_2, e_12_5, e_12_6, e_12_7, e_12_11, e_12_13, e_12_16, e_12_18, e_12_19, e_12_20, e_12_24, e_12_26, e_12_29, e_12_30, e_12_33, e_12_35, e_12_37, e_12_38, e_12_40, e_12_41, e_12_42, e_12_44, e_12_46, e_12_47, e_12_50, e_12_51, e_12_54, e_12_57, e_12_60, e_12_63, e_12_64, e_12_67, e_12_68, e_12_71, e_12_72, e_12_73, e_12_76, e_12_77, e_12_78, e_12_81, e_12_82, e_12_83, e_12_84, e_12_85, e_12_86, e_12_89, nl_int, nl_ref, nl_none, cat_int, cat_ref, cat_0, cat_i, cat_r, cat_l, Option.elim_some, Option.elim_none, Option.bind_some, Option.bind_none, Option.toList_some, Option.toList_none, List.cons_append, List.nil_append, Nat.reduceAdd, Nat.reduceLeDiff, ltT (x := 8) (c := 8) rfl hj (by decide), if_true, h.f0, e1, s_lightOfTwo e hi hj, wH_s1 hk hs.2 (show i * 8 + j < 64 by omega), nI_1]
      rfl⟩) (7 - i) (i + 1) s () (by omega) ⟨Nat.lt_succ_self i, hs⟩
    refine ⟨some (.int (nI 8)), ?_⟩
    rw [e2, e_12_22]
    simp (disch := first | exact nl_int | exact nl_ref | exact nl_none | exact Nat.le_of_ble_eq_true rfl | assumption | exact cat_int | exact cat_ref | exact z2 | exact z4 | exact z3 | exact z5 | exact z6 | exact z8 | exact z64) only [e_12_0, e_12_1, e_12_2, e_12_5, e_12_6, e_12_7, e_12_11, e_12_13, e_12_16, e_12_18, e_12_19, e_12_20, e_12_24, e_12_26, e_12_29, e_12_30, e_12_33, e_12_35, e_12_37, e_12_38, e_12_40, e_12_41, e_12_42, e_12_44, e_12_46, e_12_47, e_12_50, e_12_51, e_12_54, e_12_57, e_12_60, e_12_63, e_12_64, e_12_67, e_12_68, e_12_71, e_12_72, e_12_73, e_12_76, e_12_77, e_12_78, e_12_81, e_12_82, e_12_83, e_12_84, e_12_85, e_12_86, e_12_89, nl_int, nl_ref, nl_none, cat_int, cat_ref, cat_0, cat_i, cat_r, cat_l, Option.elim_some, Option.elim_none, Option.bind_some, Option.bind_none, Option.toList_some, Option.toList_none, List.cons_append, List.nil_append, Nat.reduceAdd, Nat.reduceLeDiff, ltF (x := 8) (c := 8) rfl (Nat.le_refl 8) (by decide), if_false, nI_1]
    rfl⟩) 8 0 s none rfl hs
  simp (disch := first | exact nl_int | exact nl_ref | exact nl_none | exact Nat.le_of_ble_eq_true rfl | assumption | exact cat_int | exact cat_ref | exact z2 | exact z4 | exact z3 | exact z5 | exact z6 | exact z8 | exact z64) only [e_12_0, e_12_1, e_12_2, e_12_5, e_12_6, e_12_7, e_12_11, e_12_13, e_12_16, e_12_18, e_12_19, e_12_20, e_12_24, e_12_26, e_12_29, e_12_30, e_12_33, e_12_35, e_12_37, e_12_38, e_12_40, e_12_41, e_12_42, e_12_44, e_12_46, e_12_47, e_12_50, e_12_51, e_12_54, e_12_57, e_12_60, e_12_63, e_12_64, e_12_67, e_12_68, e_12_71, e_12_72, e_12_73, e_12_76, e_12_77, e_12_78, e_12_81, e_12_82, e_12_83, e_12_84, e_12_85, e_12_86, e_12_89, nl_int, nl_ref, nl_none, cat_int, cat_ref, cat_0, cat_i, cat_r, cat_l, Option.elim_some, Option.elim_none, Option.bind_some, Option.bind_none, Option.toList_some, Option.toList_none, List.cons_append, List.nil_append, Nat.reduceAdd, Nat.reduceLeDiff, ft]
  rw [et] at key ⊢
  exact key
