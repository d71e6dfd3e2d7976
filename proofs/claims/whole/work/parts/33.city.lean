/-! A CITY: its start, works, subjects told, how many houses, people, works, told -/
abbrev am_Ci : Type := am_Mo × List Int32 × List Int32 × List Int32 × Nat × Nat × Nat × Nat
def cS (c : am_Ci) : am_Mo := c.1
def cWH (c : am_Ci) (i : Nat) : Int32 := c.2.1.getD i 0
def cWN (c : am_Ci) (i : Nat) : Int32 := c.2.2.1.getD i 0
def cSj (c : am_Ci) (i : Nat) : Int32 := c.2.2.2.1.getD i 0
def cHs (c : am_Ci) : Nat := c.2.2.2.2.1
def cPp (c : am_Ci) : Nat := c.2.2.2.2.2.1
def cWk (c : am_Ci) : Nat := c.2.2.2.2.2.2.1
def cTd (c : am_Ci) : Nat := c.2.2.2.2.2.2.2
def cObj (k : Nat) (c : am_Ci) : Nat × List Value := (0, [.ref (k + 1), .ref (k + 7), .ref (k + 8), .ref (k + 9), .int (nI (cHs c)), .int (nI (cPp c)), .int (nI (cWk c)), .int (nI (cTd c))])
def cOK (c : am_Ci) : Prop := mOK c.1 ∧ c.2.1.length = 5 ∧ c.2.2.1.length = 5 ∧ c.2.2.2.1.length = 8 ∧ cHs c ≤ 5 ∧ cPp c ≤ 8 ∧ cWk c ≤ 5 ∧ cTd c ≤ 8
def isCt (hp : am_H) (k : Nat) (c : am_Ci) : Prop :=
  am_obj hp k = some (cObj k c) ∧ isM hp (k + 1) c.1 ∧ am_arr hp (k + 7) = some c.2.1 ∧ am_arr hp (k + 8) = some c.2.2.1 ∧ am_arr hp (k + 9) = some c.2.2.2.1 ∧ cOK c
section CTY
variable {hp : am_H} {k i j : Nat} {c : am_Ci}
theorem isCt.cl (h : isCt hp k c) : am_isC hp k 0 = true := am_isC_of h.1
theorem isCt.f0 (h : isCt hp k c) : am_fld hp k 0 0 = some (.ref (k + 1)) := am_fld_of h.1
theorem isCt.f1 (h : isCt hp k c) : am_fld hp k 0 1 = some (.ref (k + 7)) := am_fld_of h.1
theorem isCt.f2 (h : isCt hp k c) : am_fld hp k 0 2 = some (.ref (k + 8)) := am_fld_of h.1
theorem isCt.f3 (h : isCt hp k c) : am_fld hp k 0 3 = some (.ref (k + 9)) := am_fld_of h.1
theorem isCt.f4 (h : isCt hp k c) : am_fld hp k 0 4 = some (.int (nI (cHs c))) := am_fld_of h.1
theorem isCt.f5 (h : isCt hp k c) : am_fld hp k 0 5 = some (.int (nI (cPp c))) := am_fld_of h.1
theorem isCt.f6 (h : isCt hp k c) : am_fld hp k 0 6 = some (.int (nI (cWk c))) := am_fld_of h.1
theorem isCt.f7 (h : isCt hp k c) : am_fld hp k 0 7 = some (.int (nI (cTd c))) := am_fld_of h.1
theorem isCt.lwh (h : isCt hp k c) (hi : i < 5) : am_ld hp (k + 7) (nI i) = some (cWH c i) := am_ld_nI ⟨h.2.2.1, h.2.2.2.2.2.2.1⟩ hi (by decide)
theorem isCt.lwn (h : isCt hp k c) (hi : i < 5) : am_ld hp (k + 8) (nI i) = some (cWN c i) := am_ld_nI ⟨h.2.2.2.1, h.2.2.2.2.2.2.2.1⟩ hi (by decide)
theorem isCt.lsj (h : isCt hp k c) (hi : i < 8) : am_ld hp (k + 9) (nI i) = some (cSj c i) := am_ld_nI ⟨h.2.2.2.2.1, h.2.2.2.2.2.2.2.2.1⟩ hi (by decide)
theorem isCt.hs (h : isCt hp k c) : cHs c ≤ 5 := h.2.2.2.2.2.2.2.2.2.1
theorem isCt.pp (h : isCt hp k c) : cPp c ≤ 8 := h.2.2.2.2.2.2.2.2.2.2.1
theorem isCt.wk (h : isCt hp k c) : cWk c ≤ 5 := h.2.2.2.2.2.2.2.2.2.2.2.1
theorem isCt.td (h : isCt hp k c) : cTd c ≤ 8 := h.2.2.2.2.2.2.2.2.2.2.2.2
end CTY
theorem fmod_nI {a b : Nat} (ha : a < 2 ^ 31) (h0 : 0 < b) (hb : b < 2 ^ 31) : fmod (nI a) (nI b) = nI (a % b) := by
  have e := pk_rem ha h0 hb
  unfold fmod
  rw [e]
  have hx : ¬ nI a ^^^ nI b < 0 := by
    have h1 := nI_pos' ha
    have h2 := nI_pos' hb
    intro h
    have h3 : (nI a ^^^ nI b).toInt < 0 := by simpa using Int32.lt_iff_toInt_lt.mp h
    have e1 : (nI a).toBitVec.toNat = a := pk_tn (by omega)
    have e2 : (nI b).toBitVec.toNat = b := pk_tn (by omega)
    have e3 : (nI a ^^^ nI b).toBitVec.toNat = a ^^^ b := by
      rw [show (nI a ^^^ nI b).toBitVec = (nI a).toBitVec ^^^ (nI b).toBitVec from rfl, BitVec.toNat_xor, e1, e2]
    have e4 : a ^^^ b < 2 ^ 31 := Nat.xor_lt_two_pow ha hb
    have e5 : (nI a ^^^ nI b).toInt = ((nI a ^^^ nI b).toBitVec.toNat : Int) := by
      show (nI a ^^^ nI b).toBitVec.toInt = _
      rw [BitVec.toInt_eq_toNat_of_lt (by rw [e3]; omega)]
    rw [e5] at h3
    omega
  rw [if_neg hx]
/-- the subjects talked of in a moment's next hour -/
def cTalk (c : am_Ci) (m : am_Mo) (hr : Nat) : Int32 := (if cTd c = 0 then 31 else cSj c (hr % cTd c)) &&& (m.2.2.2.2.2.2 ^^^ -1)
theorem s_talkedOf {d k k2 hr : Nat} {hp : am_H} {c : am_Ci} {m : am_Mo} (h : isCt hp k c) (hm : isM hp k2 m) (hh : m.2.2.2.2.2.1 = nI hr) (hl : hr < 2 ^ 31) : am_E (d + 1) 7 0 [some (.ref k), some (.ref k2)] [] hp = some (some (.int (cTalk c m hr)), hp) := by
  have ht := h.td
  unfold cTalk
  by_cases h0 : cTd c = 0
  · have f7 := h.f7
    rw [h0] at f7
    simp (disch := first | exact nl_int | exact nl_ref | exact nl_none | exact Nat.le_of_ble_eq_true rfl | assumption | exact cat_int | exact cat_ref | exact z2 | exact z4 | exact z3 | exact z5 | exact z6 | exact z8 | exact z64) only [e_7_0, e_7_1, e_7_4, e_7_5, e_7_8, e_7_9, e_7_12, e_7_14, e_7_17, e_7_19, e_7_20, e_7_23, e_7_24, e_7_25, e_7_26, e_7_27, e_7_28, e_7_31, e_7_32, e_7_35, e_7_36, e_7_39, e_7_42, e_7_43, e_7_44, e_7_47, e_7_48, e_7_49, e_7_50, nl_int, nl_ref, nl_none, cat_int, cat_ref, cat_0, cat_i, cat_r, cat_l, Option.elim_some, Option.elim_none, Option.bind_some, Option.bind_none, Option.toList_some, Option.toList_none, List.cons_append, List.nil_append, Nat.reduceAdd, Nat.reduceLeDiff, f7, hm.f6, ltT (x := 1) (c := 1) rfl (show 0 < 1 by decide) (by decide), if_true, if_pos h0]
  · have hz : (nI (cTd c) = 0) = False := eq_false (nI_ne0 (by omega) (by omega))
    have hmod : hr % cTd c < 8 := Nat.lt_of_lt_of_le (Nat.mod_lt _ (by omega)) ht
    simp (disch := first | exact nl_int | exact nl_ref | exact nl_none | exact Nat.le_of_ble_eq_true rfl | assumption | exact cat_int | exact cat_ref | exact z2 | exact z4 | exact z3 | exact z5 | exact z6 | exact z8 | exact z64) only [e_7_0, e_7_1, e_7_4, e_7_5, e_7_8, e_7_9, e_7_12, e_7_14, e_7_17, e_7_19, e_7_20, e_7_23, e_7_24, e_7_25, e_7_26, e_7_27, e_7_28, e_7_31, e_7_32, e_7_35, e_7_36, e_7_39, e_7_42, e_7_43, e_7_44, e_7_47, e_7_48, e_7_49, e_7_50, nl_int, nl_ref, nl_none, cat_int, cat_ref, cat_0, cat_i, cat_r, cat_l, Option.elim_some, Option.elim_none, Option.bind_some, Option.bind_none, Option.toList_some, Option.toList_none, List.cons_append, List.nil_append, Nat.reduceAdd, Nat.reduceLeDiff, h.f7, h.f3, hm.f5, hm.f6, hh, ltF (x := 1) (c := 1) rfl (show 1 ≤ cTd c by omega) (by omega), gtF (x := 8) (c := 8) rfl ht (by decide), if_false, s_floorMod hz, fmod_nI hl (show 0 < cTd c by omega) (show cTd c < 2 ^ 31 by omega), h.lsj hmod, if_neg h0]
def cAl (m : am_Mo) (t : Int32) (i : Nat) (s : Int32) : Int32 := s + mLight m (nI i) t
def cAll (c : am_Ci) (m : am_Mo) (t : Int32) : Int32 := am_for (cAl m t) 0 (cHs c) 0
theorem s_lightOfAll {d k k2 : Nat} {hp : am_H} {c : am_Ci} {m : am_Mo} {t : Int32} (h : isCt hp k c) (hm : isM hp k2 m) : am_E (d + 3) 8 0 [some (.ref k), some (.ref k2), some (.int t), none, none] [] hp = some (some (.int (cAll c m t)), hp) := by
  have hcl := hm.c
  have hs := h.hs
  have key := for_res (τ := Unit) (fun i s _ => am_E (d + 3) 8 5 [some (.ref k), some (.ref k2), some (.int t), some (.int s), some (.int (nI i))] [] hp) (fun _ _ => True) (cAl m t) (cHs c) (fun s => some (some (.int s), hp)) (fun s _ _ => by
    try dsimp only
    rw [e_8_5]
    simp (disch := first | exact nl_int | exact nl_ref | exact nl_none | exact Nat.le_of_ble_eq_true rfl | assumption | exact cat_int | exact cat_ref | exact z2 | exact z4 | exact z3 | exact z5 | exact z6 | exact z8 | exact z64) only [e_8_0, e_8_1, e_8_2, e_8_3, e_8_7, e_8_8, e_8_11, e_8_14, e_8_15, e_8_16, e_8_18, e_8_19, e_8_22, e_8_23, e_8_24, e_8_27, e_8_30, e_8_31, nl_int, nl_ref, nl_none, cat_int, cat_ref, cat_0, cat_i, cat_r, cat_l, Option.elim_some, Option.elim_none, Option.bind_some, Option.bind_none, Option.toList_some, Option.toList_none, List.cons_append, List.nil_append, Nat.reduceAdd, Nat.reduceLeDiff, h.f4, ltF (x := nI (cHs c)) (c := cHs c) rfl (Nat.le_refl _) (by omega), if_false]) (fun i s _ hi _ => ⟨trivial, (), by
    try dsimp only
    rw [e_8_5]
    simp (disch := first | exact nl_int | exact nl_ref | exact nl_none | exact Nat.le_of_ble_eq_true rfl | assumption | exact cat_int | exact cat_ref | exact z2 | exact z4 | exact z3 | exact z5 | exact z6 | exact z8 | exact z64) only [e_8_0, e_8_1, e_8_2, e_8_3, e_8_7, e_8_8, e_8_11, e_8_14, e_8_15, e_8_16, e_8_18, e_8_19, e_8_22, e_8_23, e_8_24, e_8_27, e_8_30, e_8_31, nl_int, nl_ref, nl_none, cat_int, cat_ref, cat_0, cat_i, cat_r, cat_l, Option.elim_some, Option.elim_none, Option.bind_some, Option.bind_none, Option.toList_some, Option.toList_none, List.cons_append, List.nil_append, Nat.reduceAdd, Nat.reduceLeDiff, h.f4, ltT (x := nI (cHs c)) (c := cHs c) rfl hi (by omega), if_true, s_lightOf hm, nI_1]
    rfl⟩) (cHs c) 0 0 () (by omega) trivial
  simp (disch := first | exact nl_int | exact nl_ref | exact nl_none | exact Nat.le_of_ble_eq_true rfl | assumption | exact cat_int | exact cat_ref | exact z2 | exact z4 | exact z3 | exact z5 | exact z6 | exact z8 | exact z64) only [e_8_0, e_8_1, e_8_2, e_8_3, e_8_7, e_8_8, e_8_11, e_8_14, e_8_15, e_8_16, e_8_18, e_8_19, e_8_22, e_8_23, e_8_24, e_8_27, e_8_30, e_8_31, nl_int, nl_ref, nl_none, cat_int, cat_ref, cat_0, cat_i, cat_r, cat_l, Option.elim_some, Option.elim_none, Option.bind_some, Option.bind_none, Option.toList_some, Option.toList_none, List.cons_append, List.nil_append, Nat.reduceAdd, Nat.reduceLeDiff]
  exact key
def cWl (c : am_Ci) (m : am_Mo) (t : Int32) (i : Nat) (s : Int32) : Int32 := if mLight m (cWH c i) t < cWN c i then s else s ||| ((1 : Int32) <<< (nI i &&& 31))
def cLit (c : am_Ci) (m : am_Mo) (t : Int32) : Int32 := am_for (cWl c m t) 0 (cWk c) 0
theorem s_worksLit {d k k2 : Nat} {hp : am_H} {c : am_Ci} {m : am_Mo} {t : Int32} (h : isCt hp k c) (hm : isM hp k2 m) : am_E (d + 3) 9 0 [some (.ref k), some (.ref k2), some (.int t), none, none] [] hp = some (some (.int (cLit c m t)), hp) := by
  have hcl := hm.c
  have hs := h.wk
  have key := for_res (τ := Unit) (fun i s _ => am_E (d + 3) 9 5 [some (.ref k), some (.ref k2), some (.int t), some (.int s), some (.int (nI i))] [] hp) (fun _ _ => True) (cWl c m t) (cWk c) (fun s => some (some (.int s), hp)) (fun s _ _ => by
    try dsimp only
    rw [e_9_5]
    simp (disch := first | exact nl_int | exact nl_ref | exact nl_none | exact Nat.le_of_ble_eq_true rfl | assumption | exact cat_int | exact cat_ref | exact z2 | exact z4 | exact z3 | exact z5 | exact z6 | exact z8 | exact z64) only [e_9_0, e_9_1, e_9_2, e_9_3, e_9_7, e_9_8, e_9_11, e_9_14, e_9_16, e_9_17, e_9_20, e_9_21, e_9_22, e_9_25, e_9_27, e_9_28, e_9_29, e_9_32, e_9_33, e_9_36, e_9_38, e_9_39, e_9_42, e_9_43, e_9_44, e_9_46, e_9_47, e_9_48, e_9_49, e_9_52, e_9_55, e_9_56, nl_int, nl_ref, nl_none, cat_int, cat_ref, cat_0, cat_i, cat_r, cat_l, Option.elim_some, Option.elim_none, Option.bind_some, Option.bind_none, Option.toList_some, Option.toList_none, List.cons_append, List.nil_append, Nat.reduceAdd, Nat.reduceLeDiff, h.f6, ltF (x := nI (cWk c)) (c := cWk c) rfl (Nat.le_refl _) (by omega), if_false]) (fun i s _ hi _ => ⟨trivial, (), by
    try dsimp only
    rw [e_9_5]
    simp (disch := first | exact nl_int | exact nl_ref | exact nl_none | exact Nat.le_of_ble_eq_true rfl | assumption | exact cat_int | exact cat_ref | exact z2 | exact z4 | exact z3 | exact z5 | exact z6 | exact z8 | exact z64) only [e_9_0, e_9_1, e_9_2, e_9_3, e_9_7, e_9_8, e_9_11, e_9_14, e_9_16, e_9_17, e_9_20, e_9_21, e_9_22, e_9_25, e_9_27, e_9_28, e_9_29, e_9_32, e_9_33, e_9_36, e_9_38, e_9_39, e_9_42, e_9_43, e_9_44, e_9_46, e_9_47, e_9_48, e_9_49, e_9_52, e_9_55, e_9_56, nl_int, nl_ref, nl_none, cat_int, cat_ref, cat_0, cat_i, cat_r, cat_l, Option.elim_some, Option.elim_none, Option.bind_some, Option.bind_none, Option.toList_some, Option.toList_none, List.cons_append, List.nil_append, Nat.reduceAdd, Nat.reduceLeDiff, h.f6, h.f1, h.f2, h.lwh (show i < 5 by omega), h.lwn (show i < 5 by omega), ltT (x := nI (cWk c)) (c := cWk c) rfl hi (by omega), ltT (x := 5) (c := 5) rfl (show i < 5 by omega) (by decide), if_true, s_lightOf hm, nI_1]
    unfold cWl
    split <;> rfl⟩) (cWk c) 0 0 () (by omega) trivial
  simp (disch := first | exact nl_int | exact nl_ref | exact nl_none | exact Nat.le_of_ble_eq_true rfl | assumption | exact cat_int | exact cat_ref | exact z2 | exact z4 | exact z3 | exact z5 | exact z6 | exact z8 | exact z64) only [e_9_0, e_9_1, e_9_2, e_9_3, e_9_7, e_9_8, e_9_11, e_9_14, e_9_16, e_9_17, e_9_20, e_9_21, e_9_22, e_9_25, e_9_27, e_9_28, e_9_29, e_9_32, e_9_33, e_9_36, e_9_38, e_9_39, e_9_42, e_9_43, e_9_44, e_9_46, e_9_47, e_9_48, e_9_49, e_9_52, e_9_55, e_9_56, nl_int, nl_ref, nl_none, cat_int, cat_ref, cat_0, cat_i, cat_r, cat_l, Option.elim_some, Option.elim_none, Option.bind_some, Option.bind_none, Option.toList_some, Option.toList_none, List.cons_append, List.nil_append, Nat.reduceAdd, Nat.reduceLeDiff]
  exact key
def cDk (m : am_Mo) (t : Int32) (i : Nat) (s : Int32) : Int32 := if mLight m (nI i) t = 0 then s ||| ((1 : Int32) <<< (nI i &&& 31)) else s
def cDark (c : am_Ci) (m : am_Mo) (t : Int32) : Int32 := am_for (cDk m t) 0 (cHs c) 0
theorem s_darkHouses {d k k2 : Nat} {hp : am_H} {c : am_Ci} {m : am_Mo} {t : Int32} (h : isCt hp k c) (hm : isM hp k2 m) : am_E (d + 3) 10 0 [some (.ref k), some (.ref k2), some (.int t), none, none] [] hp = some (some (.int (cDark c m t)), hp) := by
  have hcl := hm.c
  have hs := h.hs
  have key := for_res (τ := Unit) (fun i s _ => am_E (d + 3) 10 5 [some (.ref k), some (.ref k2), some (.int t), some (.int s), some (.int (nI i))] [] hp) (fun _ _ => True) (cDk m t) (cHs c) (fun s => some (some (.int s), hp)) (fun s _ _ => by
    try dsimp only
    rw [e_10_5]
    simp (disch := first | exact nl_int | exact nl_ref | exact nl_none | exact Nat.le_of_ble_eq_true rfl | assumption | exact cat_int | exact cat_ref | exact z2 | exact z4 | exact z3 | exact z5 | exact z6 | exact z8 | exact z64) only [e_10_0, e_10_1, e_10_2, e_10_3, e_10_7, e_10_8, e_10_11, e_10_14, e_10_15, e_10_17, e_10_18, e_10_21, e_10_24, e_10_25, e_10_26, e_10_28, e_10_29, e_10_30, e_10_31, e_10_34, e_10_37, e_10_38, nl_int, nl_ref, nl_none, cat_int, cat_ref, cat_0, cat_i, cat_r, cat_l, Option.elim_some, Option.elim_none, Option.bind_some, Option.bind_none, Option.toList_some, Option.toList_none, List.cons_append, List.nil_append, Nat.reduceAdd, Nat.reduceLeDiff, h.f4, ltF (x := nI (cHs c)) (c := cHs c) rfl (Nat.le_refl _) (by omega), if_false]) (fun i s _ hi _ => ⟨trivial, (), by
    try dsimp only
    rw [e_10_5]
    simp (disch := first | exact nl_int | exact nl_ref | exact nl_none | exact Nat.le_of_ble_eq_true rfl | assumption | exact cat_int | exact cat_ref | exact z2 | exact z4 | exact z3 | exact z5 | exact z6 | exact z8 | exact z64) only [e_10_0, e_10_1, e_10_2, e_10_3, e_10_7, e_10_8, e_10_11, e_10_14, e_10_15, e_10_17, e_10_18, e_10_21, e_10_24, e_10_25, e_10_26, e_10_28, e_10_29, e_10_30, e_10_31, e_10_34, e_10_37, e_10_38, nl_int, nl_ref, nl_none, cat_int, cat_ref, cat_0, cat_i, cat_r, cat_l, Option.elim_some, Option.elim_none, Option.bind_some, Option.bind_none, Option.toList_some, Option.toList_none, List.cons_append, List.nil_append, Nat.reduceAdd, Nat.reduceLeDiff, h.f4, ltT (x := nI (cHs c)) (c := cHs c) rfl hi (by omega), if_true, s_lightOf hm, nI_1]
    unfold cDk
    split <;> rfl⟩) (cHs c) 0 0 () (by omega) trivial
  simp (disch := first | exact nl_int | exact nl_ref | exact nl_none | exact Nat.le_of_ble_eq_true rfl | assumption | exact cat_int | exact cat_ref | exact z2 | exact z4 | exact z3 | exact z5 | exact z6 | exact z8 | exact z64) only [e_10_0, e_10_1, e_10_2, e_10_3, e_10_7, e_10_8, e_10_11, e_10_14, e_10_15, e_10_17, e_10_18, e_10_21, e_10_24, e_10_25, e_10_26, e_10_28, e_10_29, e_10_30, e_10_31, e_10_34, e_10_37, e_10_38, nl_int, nl_ref, nl_none, cat_int, cat_ref, cat_0, cat_i, cat_r, cat_l, Option.elim_some, Option.elim_none, Option.bind_some, Option.bind_none, Option.toList_some, Option.toList_none, List.cons_append, List.nil_append, Nat.reduceAdd, Nat.reduceLeDiff]
  exact key
