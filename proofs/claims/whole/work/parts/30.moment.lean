/-! A MOMENT: kinds, opinions, tempers, homes, foes, the hour, the rations -/
abbrev am_Mo : Type := List Int32 × List Int32 × List Int32 × List Int32 × List Int32 × Int32 × Int32
def isM (hp : am_H) (k : Nat) (m : am_Mo) : Prop :=
  am_obj hp k = some (2, [.ref (k + 1), .ref (k + 2), .ref (k + 3), .ref (k + 4), .ref (k + 5), .int m.2.2.2.2.2.1, .int m.2.2.2.2.2.2]) ∧ (am_arr hp (k + 1) = some m.1 ∧ m.1.length = 8) ∧ (am_arr hp (k + 2) = some m.2.1 ∧ m.2.1.length = 8) ∧ (am_arr hp (k + 3) = some m.2.2.1 ∧ m.2.2.1.length = 8) ∧ (am_arr hp (k + 4) = some m.2.2.2.1 ∧ m.2.2.2.1.length = 8) ∧ (am_arr hp (k + 5) = some m.2.2.2.2.1 ∧ m.2.2.2.2.1.length = 8)
def mK (m : am_Mo) (i : Nat) : Int32 := m.1.getD i 0
def mO (m : am_Mo) (i : Nat) : Int32 := m.2.1.getD i 0
def mT (m : am_Mo) (i : Nat) : Int32 := m.2.2.1.getD i 0
def mH (m : am_Mo) (i : Nat) : Int32 := m.2.2.2.1.getD i 0
def mF (m : am_Mo) (i : Nat) : Int32 := m.2.2.2.2.1.getD i 0
section MOM
variable {hp : am_H} {k i j : Nat} {m : am_Mo}
theorem isM.c (h : isM hp k m) : am_isC hp k 2 = true := am_isC_of h.1
theorem isM.f0 (h : isM hp k m) : am_fld hp k 2 0 = some (.ref (k + 1)) := am_fld_of h.1
theorem isM.f1 (h : isM hp k m) : am_fld hp k 2 1 = some (.ref (k + 2)) := am_fld_of h.1
theorem isM.f2 (h : isM hp k m) : am_fld hp k 2 2 = some (.ref (k + 3)) := am_fld_of h.1
theorem isM.f3 (h : isM hp k m) : am_fld hp k 2 3 = some (.ref (k + 4)) := am_fld_of h.1
theorem isM.f4 (h : isM hp k m) : am_fld hp k 2 4 = some (.ref (k + 5)) := am_fld_of h.1
theorem isM.f5 (h : isM hp k m) : am_fld hp k 2 5 = some (.int m.2.2.2.2.2.1) := am_fld_of h.1
theorem isM.f6 (h : isM hp k m) : am_fld hp k 2 6 = some (.int m.2.2.2.2.2.2) := am_fld_of h.1
theorem isM.lk (h : isM hp k m) (hi : i < 8) : am_ld hp (k + 1) (nI i) = some (mK m i) := am_ld_nI h.2.1 hi (by decide)
theorem isM.lo (h : isM hp k m) (hi : i < 8) : am_ld hp (k + 2) (nI i) = some (mO m i) := am_ld_nI h.2.2.1 hi (by decide)
theorem isM.lt (h : isM hp k m) (hi : i < 8) : am_ld hp (k + 3) (nI i) = some (mT m i) := am_ld_nI h.2.2.2.1 hi (by decide)
theorem isM.lh (h : isM hp k m) (hi : i < 8) : am_ld hp (k + 4) (nI i) = some (mH m i) := am_ld_nI h.2.2.2.2.1 hi (by decide)
theorem isM.lf (h : isM hp k m) (hi : i < 8) : am_ld hp (k + 5) (nI i) = some (mF m i) := am_ld_nI h.2.2.2.2.2 hi (by decide)
end MOM
def ush (x : Int32) (n : Int32) : Int32 := (x.toUInt32 >>> (n.toUInt32 &&& Int32.toUInt32 31)).toInt32
def bc1 (x : Int32) : Int32 := x - (ush x 1 &&& 1431655765)
def bc2 (x : Int32) : Int32 := (x &&& 858993459) + (ush x 2 &&& 858993459)
def bc3 (x : Int32) : Int32 := (x + ush x 4) &&& 252645135
def bc4 (x : Int32) : Int32 := x + ush x 8
def bc5 (x : Int32) : Int32 := x + ush x 16
/-- Integer.bitCount -/
def bitc (x : Int32) : Int32 := bc5 (bc4 (bc3 (bc2 (bc1 x)))) &&& 63
theorem s_bitCount {d : Nat} {hp : am_H} {x : Int32} : am_E d 153 0 [some (.int x)] [] hp = some (some (.int (bitc x)), hp) := by
  simp (disch := first | exact nl_int | exact nl_ref | exact nl_none | exact Nat.le_of_ble_eq_true rfl | assumption | exact cat_int | exact cat_ref | exact z2 | exact z4 | exact z3 | exact z5 | exact z6 | exact z8 | exact z64) only [e_153_0, e_153_1, e_153_2, e_153_3, e_153_4, e_153_7, e_153_8, e_153_9, e_153_10, e_153_11, e_153_14, e_153_15, e_153_16, e_153_17, e_153_18, e_153_21, e_153_22, e_153_23, e_153_24, e_153_25, e_153_26, e_153_27, e_153_28, e_153_29, e_153_32, e_153_33, e_153_34, e_153_35, e_153_36, e_153_38, e_153_39, e_153_40, e_153_41, e_153_42, e_153_43, e_153_45, e_153_46, e_153_47, e_153_48, e_153_49, e_153_51, e_153_52, nl_int, nl_ref, nl_none, cat_int, cat_ref, cat_0, cat_i, cat_r, cat_l, Option.elim_some, Option.elim_none, Option.bind_some, Option.bind_none, Option.toList_some, Option.toList_none, List.cons_append, List.nil_append, Nat.reduceAdd, Nat.reduceLeDiff]
  rfl
def imin (x y : Int32) : Int32 := if y < x then y else x
def imax (x y : Int32) : Int32 := if x < y then y else x
theorem s_min {d : Nat} {hp : am_H} {x y : Int32} : am_E d 161 0 [some (.int x), some (.int y)] [] hp = some (some (.int (imin x y)), hp) := by
  simp (disch := first | exact nl_int | exact nl_ref | exact nl_none | exact Nat.le_of_ble_eq_true rfl | assumption | exact cat_int | exact cat_ref | exact z2 | exact z4 | exact z3 | exact z5 | exact z6 | exact z8 | exact z64) only [e_161_0, e_161_1, e_161_2, e_161_5, e_161_6, e_161_9, e_161_10, nl_int, nl_ref, nl_none, cat_int, cat_ref, cat_0, cat_i, cat_r, cat_l, Option.elim_some, Option.elim_none, Option.bind_some, Option.bind_none, Option.toList_some, Option.toList_none, List.cons_append, List.nil_append, Nat.reduceAdd, Nat.reduceLeDiff, imin]
  split <;> rfl
theorem s_max {d : Nat} {hp : am_H} {x y : Int32} : am_E d 162 0 [some (.int x), some (.int y)] [] hp = some (some (.int (imax x y)), hp) := by
  simp (disch := first | exact nl_int | exact nl_ref | exact nl_none | exact Nat.le_of_ble_eq_true rfl | assumption | exact cat_int | exact cat_ref | exact z2 | exact z4 | exact z3 | exact z5 | exact z6 | exact z8 | exact z64) only [e_162_0, e_162_1, e_162_2, e_162_5, e_162_6, e_162_9, e_162_10, nl_int, nl_ref, nl_none, cat_int, cat_ref, cat_0, cat_i, cat_r, cat_l, Option.elim_some, Option.elim_none, Option.bind_some, Option.bind_none, Option.toList_some, Option.toList_none, List.cons_append, List.nil_append, Nat.reduceAdd, Nat.reduceLeDiff, imax]
  split <;> rfl
/-- Math.floorMod -/
def fmod (x y : Int32) : Int32 := if x ^^^ y < 0 then (if x - x / y * y = 0 then x - x / y * y else x - x / y * y + y) else x - x / y * y
theorem s_floorMod {d : Nat} {hp : am_H} {x y : Int32} (hy : (y = 0) = False) : am_E d 154 0 [some (.int x), some (.int y), none] [] hp = some (some (.int (fmod x y)), hp) := by
  simp (disch := first | exact nl_int | exact nl_ref | exact nl_none | exact Nat.le_of_ble_eq_true rfl | assumption | exact cat_int | exact cat_ref | exact z2 | exact z4 | exact z3 | exact z5 | exact z6 | exact z8 | exact z64) only [e_154_0, e_154_1, e_154_2, e_154_3, e_154_4, e_154_5, e_154_6, e_154_7, e_154_10, e_154_11, e_154_14, e_154_15, e_154_16, e_154_17, e_154_18, e_154_19, nl_int, nl_ref, nl_none, cat_int, cat_ref, cat_0, cat_i, cat_r, cat_l, Option.elim_some, Option.elim_none, Option.bind_some, Option.bind_none, Option.toList_some, Option.toList_none, List.cons_append, List.nil_append, Nat.reduceAdd, Nat.reduceLeDiff, hy]
  unfold fmod
  split
  · split <;> rfl
  · rfl
/-- do two live together -/
def mTog (m : am_Mo) (i j : Nat) : Bool := if mH m i = -1 then false else decide (mH m i = mH m j)
def mHush (m : am_Mo) (i : Nat) : Bool := if mK m i = 1 then decide (mT m i < 3) else false
def mQ (m : am_Mo) (i j : Nat) (t : Int32) : Int32 := if (mHush m i || mHush m j) = true then 0 else (mO m i ^^^ mO m j) &&& t
def mFP (m : am_Mo) (i j : Nat) : Bool := if mK m i = 2 then true else decide (mK m j = 2)
theorem s_together {d k i j : Nat} {hp : am_H} {m : am_Mo} (h : isM hp k m) (hi : i < 8) (hj : j < 8) : am_E d 19 0 [some (.ref k), some (.int (nI i)), some (.int (nI j))] [] hp = some (some (.int (b2 (mTog m i j))), hp) := by
  simp (disch := first | exact nl_int | exact nl_ref | exact nl_none | exact Nat.le_of_ble_eq_true rfl | assumption | exact cat_int | exact cat_ref | exact z2 | exact z4 | exact z3 | exact z5 | exact z6 | exact z8 | exact z64) only [e_19_0, e_19_1, e_19_4, e_19_5, e_19_6, e_19_7, e_19_10, e_19_11, e_19_14, e_19_15, e_19_16, e_19_17, e_19_20, e_19_21, e_19_22, e_19_25, e_19_26, e_19_29, e_19_30, e_19_30_1, nl_int, nl_ref, nl_none, cat_int, cat_ref, cat_0, cat_i, cat_r, cat_l, Option.elim_some, Option.elim_none, Option.bind_some, Option.bind_none, Option.toList_some, Option.toList_none, List.cons_append, List.nil_append, Nat.reduceAdd, Nat.reduceLeDiff, h.f3, h.lh hi, h.lh hj]
  unfold mTog
  split
  · rfl
  · split
    · rename_i q; rw [decide_eq_true q]; rfl
    · rename_i q; rw [decide_eq_false q]; rfl
theorem s_quarrelOf {d k i j : Nat} {hp : am_H} {m : am_Mo} {t : Int32} (h : isM hp k m) (hi : i < 8) (hj : j < 8) : am_E d 20 0 [some (.ref k), some (.int (nI i)), some (.int (nI j)), some (.int t), none] [] hp = some (some (.int (mQ m i j t)), hp) := by
  simp (disch := first | exact nl_int | exact nl_ref | exact nl_none | exact Nat.le_of_ble_eq_true rfl | assumption | exact cat_int | exact cat_ref | exact z2 | exact z4 | exact z3 | exact z5 | exact z6 | exact z8 | exact z64) only [e_20_0, e_20_1, e_20_4, e_20_5, e_20_6, e_20_7, e_20_10, e_20_11, e_20_14, e_20_15, e_20_16, e_20_17, e_20_20, e_20_21, e_20_24, e_20_25, e_20_26, e_20_27, e_20_30, e_20_31, e_20_34, e_20_35, e_20_36, e_20_37, e_20_40, e_20_41, e_20_44, e_20_45, e_20_47, e_20_49, e_20_52, e_20_53, e_20_56, e_20_57, e_20_60, e_20_61, e_20_62, e_20_63, e_20_66, e_20_67, e_20_68, e_20_69, e_20_70, e_20_71, nl_int, nl_ref, nl_none, cat_int, cat_ref, cat_0, cat_i, cat_r, cat_l, Option.elim_some, Option.elim_none, Option.bind_some, Option.bind_none, Option.toList_some, Option.toList_none, List.cons_append, List.nil_append, Nat.reduceAdd, Nat.reduceLeDiff, h.f0, h.f1, h.f2, h.lk hi, h.lk hj, h.lt hi, h.lt hj, h.lo hi, h.lo hj, z1, z0, if_true, if_false]
  unfold mQ mHush
  by_cases h1 : mK m i = 1 <;> by_cases h2 : mT m i < 3 <;> by_cases h3 : mK m j = 1 <;> by_cases h4 : mT m j < 3 <;> simp [h1, h2, h3, h4]
theorem s_isFalsePair {d k i j : Nat} {hp : am_H} {m : am_Mo} (h : isM hp k m) (hi : i < 8) (hj : j < 8) : am_E d 21 0 [some (.ref k), some (.int (nI i)), some (.int (nI j))] [] hp = some (some (.int (b2 (mFP m i j))), hp) := by
  simp (disch := first | exact nl_int | exact nl_ref | exact nl_none | exact Nat.le_of_ble_eq_true rfl | assumption | exact cat_int | exact cat_ref | exact z2 | exact z4 | exact z3 | exact z5 | exact z6 | exact z8 | exact z64) only [e_21_0, e_21_1, e_21_4, e_21_5, e_21_6, e_21_7, e_21_10, e_21_11, e_21_14, e_21_15, e_21_16, e_21_17, e_21_20, e_21_21, e_21_24, e_21_25, e_21_25_1, nl_int, nl_ref, nl_none, cat_int, cat_ref, cat_0, cat_i, cat_r, cat_l, Option.elim_some, Option.elim_none, Option.bind_some, Option.bind_none, Option.toList_some, Option.toList_none, List.cons_append, List.nil_append, Nat.reduceAdd, Nat.reduceLeDiff, h.f0, h.lk hi, h.lk hj]
  unfold mFP
  split
  · rfl
  · split
    · rename_i q; rw [decide_eq_true q]; rfl
    · rename_i q; rw [decide_eq_false q]; rfl
def mL2 (m : am_Mo) (i j : Nat) (t : Int32) : Int32 := if mFP m i j = false then bitc (mQ m i j t) * ((mT m i + mT m j) / 4 + 1) else bitc (mQ m i j t) * ((mT m i + mT m j) / 4 + 1) / 2
theorem s_lightOfTwo {d k i j : Nat} {hp : am_H} {m : am_Mo} {t : Int32} (h : isM hp k m) (hi : i < 8) (hj : j < 8) : am_E (d + 1) 22 0 [some (.ref k), some (.int (nI i)), some (.int (nI j)), some (.int t), none] [] hp = some (some (.int (mL2 m i j t)), hp) := by
  have hcl := h.c
  simp (disch := first | exact nl_int | exact nl_ref | exact nl_none | exact Nat.le_of_ble_eq_true rfl | assumption | exact cat_int | exact cat_ref | exact z2 | exact z4 | exact z3 | exact z5 | exact z6 | exact z8 | exact z64) only [e_22_0, e_22_1, e_22_2, e_22_3, e_22_4, e_22_7, e_22_10, e_22_11, e_22_14, e_22_15, e_22_16, e_22_17, e_22_20, e_22_21, e_22_22, e_22_23, e_22_24, e_22_25, e_22_26, e_22_27, e_22_28, e_22_30, e_22_31, e_22_32, e_22_33, e_22_36, e_22_39, e_22_41, e_22_42, e_22_43, e_22_46, e_22_48, nl_int, nl_ref, nl_none, cat_int, cat_ref, cat_0, cat_i, cat_r, cat_l, Option.elim_some, Option.elim_none, Option.bind_some, Option.bind_none, Option.toList_some, Option.toList_none, List.cons_append, List.nil_append, Nat.reduceAdd, Nat.reduceLeDiff, s_quarrelOf h hi hj, s_isFalsePair h hi hj, s_bitCount, h.f2, h.lt hi, h.lt hj, z4, z2, b2_0]
  unfold mL2
  split <;> rfl
/-- whom one is at odds with, of those below n -/
def mFoe (m : am_Mo) (i : Nat) (t : Int32) (j : Nat) (s : Int32) : Int32 := if i = j then s else if mTog m i j = false then s else if mQ m i j t = 0 then s else s ||| ((1 : Int32) <<< (nI j &&& 31))
def mFoes (m : am_Mo) (i : Nat) (t : Int32) : Int32 := am_for (mFoe m i t) 0 8 0
theorem s_foesOf {d k i : Nat} {hp : am_H} {m : am_Mo} {t : Int32} (h : isM hp k m) (hi : i < 8) : am_E (d + 1) 23 0 [some (.ref k), some (.int (nI i)), some (.int t), none, none] [] hp = some (some (.int (mFoes m i t)), hp) := by
  have hcl := h.c
  have key := for_res (τ := Unit) (fun j s _ => am_E (d + 1) 23 5 [some (.ref k), some (.int (nI i)), some (.int t), some (.int s), some (.int (nI j))] [] hp) (fun _ _ => True) (mFoe m i t) 8 (fun s => some (some (.int s), hp)) (fun s _ _ => by
    try dsimp only
    rw [e_23_5]
    simp (disch := first | exact nl_int | exact nl_ref | exact nl_none | exact Nat.le_of_ble_eq_true rfl | assumption | exact cat_int | exact cat_ref | exact z2 | exact z4 | exact z3 | exact z5 | exact z6 | exact z8 | exact z64) only [e_23_0, e_23_1, e_23_2, e_23_3, e_23_7, e_23_9, e_23_12, e_23_13, e_23_15, e_23_18, e_23_19, e_23_20, e_23_22, e_23_25, e_23_28, e_23_29, e_23_30, e_23_32, e_23_33, e_23_36, e_23_39, e_23_40, e_23_41, e_23_43, e_23_44, e_23_45, e_23_46, e_23_49, e_23_52, e_23_53, nl_int, nl_ref, nl_none, cat_int, cat_ref, cat_0, cat_i, cat_r, cat_l, Option.elim_some, Option.elim_none, Option.bind_some, Option.bind_none, Option.toList_some, Option.toList_none, List.cons_append, List.nil_append, Nat.reduceAdd, Nat.reduceLeDiff, ltF (x := 8) (c := 8) rfl (Nat.le_refl 8) (by decide), if_false]) (fun j s _ hj _ => ⟨trivial, (), by
    try dsimp only
    rw [e_23_5]
    simp (disch := first | exact nl_int | exact nl_ref | exact nl_none | exact Nat.le_of_ble_eq_true rfl | assumption | exact cat_int | exact cat_ref | exact z2 | exact z4 | exact z3 | exact z5 | exact z6 | exact z8 | exact z64) only [e_23_0, e_23_1, e_23_2, e_23_3, e_23_7, e_23_9, e_23_12, e_23_13, e_23_15, e_23_18, e_23_19, e_23_20, e_23_22, e_23_25, e_23_28, e_23_29, e_23_30, e_23_32, e_23_33, e_23_36, e_23_39, e_23_40, e_23_41, e_23_43, e_23_44, e_23_45, e_23_46, e_23_49, e_23_52, e_23_53, nl_int, nl_ref, nl_none, cat_int, cat_ref, cat_0, cat_i, cat_r, cat_l, Option.elim_some, Option.elim_none, Option.bind_some, Option.bind_none, Option.toList_some, Option.toList_none, List.cons_append, List.nil_append, Nat.reduceAdd, Nat.reduceLeDiff, ltT (x := 8) (c := 8) rfl hj (by decide), if_true, s_together h hi hj, s_quarrelOf h hi hj, b2_0, eqI (show i < 2 ^ 31 by omega) (show j < 2 ^ 31 by omega), nI_1]
    unfold mFoe
    by_cases h1 : i = j
    · rw [if_pos h1, if_pos h1]
    · rw [if_neg h1, if_neg h1]
      by_cases h2 : mTog m i j = false
      · rw [if_pos h2, if_pos h2]
      · rw [if_neg h2, if_neg h2]
        by_cases h3 : mQ m i j t = 0
        · rw [if_pos h3, if_pos h3]
        · rw [if_neg h3, if_neg h3]⟩) 8 0 0 () rfl trivial
  simp (disch := first | exact nl_int | exact nl_ref | exact nl_none | exact Nat.le_of_ble_eq_true rfl | assumption | exact cat_int | exact cat_ref | exact z2 | exact z4 | exact z3 | exact z5 | exact z6 | exact z8 | exact z64) only [e_23_0, e_23_1, e_23_2, e_23_3, e_23_7, e_23_9, e_23_12, e_23_13, e_23_15, e_23_18, e_23_19, e_23_20, e_23_22, e_23_25, e_23_28, e_23_29, e_23_30, e_23_32, e_23_33, e_23_36, e_23_39, e_23_40, e_23_41, e_23_43, e_23_44, e_23_45, e_23_46, e_23_49, e_23_52, e_23_53, nl_int, nl_ref, nl_none, cat_int, cat_ref, cat_0, cat_i, cat_r, cat_l, Option.elim_some, Option.elim_none, Option.bind_some, Option.bind_none, Option.toList_some, Option.toList_none, List.cons_append, List.nil_append, Nat.reduceAdd, Nat.reduceLeDiff]
  exact key
/-- who lives in a house, as bits -/
def mRe (m : am_Mo) (h : Int32) (i : Nat) (s : Int32) : Int32 := if mH m i = h then s ||| ((1 : Int32) <<< (nI i &&& 31)) else s
def mRes (m : am_Mo) (h : Int32) : Int32 := am_for (mRe m h) 0 8 0
theorem s_residentsOf {d k : Nat} {hp : am_H} {m : am_Mo} {x : Int32} (h : isM hp k m) : am_E d 24 0 [some (.ref k), some (.int x), none, none] [] hp = some (some (.int (mRes m x)), hp) := by
  have key := for_res (τ := Unit) (fun j s _ => am_E d 24 4 [some (.ref k), some (.int x), some (.int s), some (.int (nI j))] [] hp) (fun _ _ => True) (mRe m x) 8 (fun s => some (some (.int s), hp)) (fun s _ _ => by
    try dsimp only
    rw [e_24_4]
    simp (disch := first | exact nl_int | exact nl_ref | exact nl_none | exact Nat.le_of_ble_eq_true rfl | assumption | exact cat_int | exact cat_ref | exact z2 | exact z4 | exact z3 | exact z5 | exact z6 | exact z8 | exact z64) only [e_24_0, e_24_1, e_24_2, e_24_3, e_24_5, e_24_7, e_24_10, e_24_11, e_24_14, e_24_15, e_24_16, e_24_17, e_24_20, e_24_21, e_24_22, e_24_23, e_24_24, e_24_25, e_24_26, e_24_29, e_24_32, e_24_33, nl_int, nl_ref, nl_none, cat_int, cat_ref, cat_0, cat_i, cat_r, cat_l, Option.elim_some, Option.elim_none, Option.bind_some, Option.bind_none, Option.toList_some, Option.toList_none, List.cons_append, List.nil_append, Nat.reduceAdd, Nat.reduceLeDiff, ltF (x := 8) (c := 8) rfl (Nat.le_refl 8) (by decide), if_false]) (fun j s _ hj _ => ⟨trivial, (), by
    try dsimp only
    rw [e_24_4]
    simp (disch := first | exact nl_int | exact nl_ref | exact nl_none | exact Nat.le_of_ble_eq_true rfl | assumption | exact cat_int | exact cat_ref | exact z2 | exact z4 | exact z3 | exact z5 | exact z6 | exact z8 | exact z64) only [e_24_0, e_24_1, e_24_2, e_24_3, e_24_5, e_24_7, e_24_10, e_24_11, e_24_14, e_24_15, e_24_16, e_24_17, e_24_20, e_24_21, e_24_22, e_24_23, e_24_24, e_24_25, e_24_26, e_24_29, e_24_32, e_24_33, nl_int, nl_ref, nl_none, cat_int, cat_ref, cat_0, cat_i, cat_r, cat_l, Option.elim_some, Option.elim_none, Option.bind_some, Option.bind_none, Option.toList_some, Option.toList_none, List.cons_append, List.nil_append, Nat.reduceAdd, Nat.reduceLeDiff, ltT (x := 8) (c := 8) rfl hj (by decide), if_true, h.f3, h.lh hj, nI_1]
    unfold mRe
    split <;> rfl⟩) 8 0 0 () rfl trivial
  simp (disch := first | exact nl_int | exact nl_ref | exact nl_none | exact Nat.le_of_ble_eq_true rfl | assumption | exact cat_int | exact cat_ref | exact z2 | exact z4 | exact z3 | exact z5 | exact z6 | exact z8 | exact z64) only [e_24_0, e_24_1, e_24_2, e_24_3, e_24_5, e_24_7, e_24_10, e_24_11, e_24_14, e_24_15, e_24_16, e_24_17, e_24_20, e_24_21, e_24_22, e_24_23, e_24_24, e_24_25, e_24_26, e_24_29, e_24_32, e_24_33, nl_int, nl_ref, nl_none, cat_int, cat_ref, cat_0, cat_i, cat_r, cat_l, Option.elim_some, Option.elim_none, Option.bind_some, Option.bind_none, Option.toList_some, Option.toList_none, List.cons_append, List.nil_append, Nat.reduceAdd, Nat.reduceLeDiff]
  exact key
/-- the light of a house: its twos, one behind the other -/
def mLi2 (m : am_Mo) (h t : Int32) (i j : Nat) (s : Int32) : Int32 := if mH m j = h then s + mL2 m i j t else s
def mLi1 (m : am_Mo) (h t : Int32) (i : Nat) (s : Int32) : Int32 := if mH m i = h then am_for (mLi2 m h t i) (i + 1) (7 - i) s else s
def mLight (m : am_Mo) (h t : Int32) : Int32 := imin (am_for (mLi1 m h t) 0 8 0) 60
theorem s_lightOf {d k : Nat} {hp : am_H} {m : am_Mo} {x t : Int32} (h : isM hp k m) : am_E (d + 2) 25 0 [some (.ref k), some (.int x), some (.int t), none, none, none] [] hp = some (some (.int (mLight m x t)), hp) := by
  have hcl := h.c
  have key := for_res (τ := Option Value) (fun i s y => am_E (d + 2) 25 5 [some (.ref k), some (.int x), some (.int t), some (.int s), some (.int (nI i)), y] [] hp) (fun _ _ => True) (mLi1 m x t) 8 (fun s => some (some (.int (imin s 60)), hp)) (fun s _ _ => by
    try dsimp only
    rw [e_25_5]
    simp (disch := first | exact nl_int | exact nl_ref | exact nl_none | exact Nat.le_of_ble_eq_true rfl | assumption | exact cat_int | exact cat_ref | exact z2 | exact z4 | exact z3 | exact z5 | exact z6 | exact z8 | exact z64) only [e_25_0, e_25_1, e_25_2, e_25_3, e_25_7, e_25_9, e_25_12, e_25_14, e_25_15, e_25_16, e_25_20, e_25_22, e_25_25, e_25_26, e_25_29, e_25_31, e_25_32, e_25_33, e_25_36, e_25_37, e_25_40, e_25_42, e_25_43, e_25_44, e_25_47, e_25_48, e_25_49, e_25_51, e_25_53, e_25_54, e_25_57, e_25_58, e_25_59, e_25_62, e_25_65, e_25_68, e_25_71, e_25_72, e_25_74, e_25_77, nl_int, nl_ref, nl_none, cat_int, cat_ref, cat_0, cat_i, cat_r, cat_l, Option.elim_some, Option.elim_none, Option.bind_some, Option.bind_none, Option.toList_some, Option.toList_none, List.cons_append, List.nil_append, Nat.reduceAdd, Nat.reduceLeDiff, ltF (x := 8) (c := 8) rfl (Nat.le_refl 8) (by decide), if_false, s_min]) (fun i s y hi _ => ⟨trivial, by
    try dsimp only
    rw [e_25_5]
    simp (disch := first | exact nl_int | exact nl_ref | exact nl_none | exact Nat.le_of_ble_eq_true rfl | assumption | exact cat_int | exact cat_ref | exact z2 | exact z4 | exact z3 | exact z5 | exact z6 | exact z8 | exact z64) only [e_25_0, e_25_1, e_25_2, e_25_3, e_25_7, e_25_9, e_25_12, e_25_14, e_25_15, e_25_16, e_25_20, e_25_22, e_25_25, e_25_26, e_25_29, e_25_31, e_25_32, e_25_33, e_25_36, e_25_37, e_25_40, e_25_42, e_25_43, e_25_44, e_25_47, e_25_48, e_25_49, e_25_51, e_25_53, e_25_54, e_25_57, e_25_58, e_25_59, e_25_62, e_25_65, e_25_68, e_25_71, e_25_72, e_25_74, e_25_77, nl_int, nl_ref, nl_none, cat_int, cat_ref, cat_0, cat_i, cat_r, cat_l, Option.elim_some, Option.elim_none, Option.bind_some, Option.bind_none, Option.toList_some, Option.toList_none, List.cons_append, List.nil_append, Nat.reduceAdd, Nat.reduceLeDiff, ltT (x := 8) (c := 8) rfl hi (by decide), if_true, nI_1]
    by_cases h1 : mH m i = x
    · refine ⟨some (.int (nI 8)), ?_⟩
      have k2 := for_res (τ := Unit) (fun j s _ => am_E (d + 2) 25 18 [some (.ref k), some (.int x), some (.int t), some (.int s), some (.int (nI i)), some (.int (nI j))] [] hp) (fun j _ => i < j) (mLi2 m x t i) 8 (fun s => am_E (d + 2) 25 5 [some (.ref k), some (.int x), some (.int t), some (.int s), some (.int (nI (i + 1))), some (.int (nI 8))] [] hp) (fun s _ _ => by
        try dsimp only
        rw [e_25_18]
        simp (disch := first | exact nl_int | exact nl_ref | exact nl_none | exact Nat.le_of_ble_eq_true rfl | assumption | exact cat_int | exact cat_ref | exact z2 | exact z4 | exact z3 | exact z5 | exact z6 | exact z8 | exact z64) only [e_25_0, e_25_1, e_25_2, e_25_3, e_25_7, e_25_9, e_25_12, e_25_14, e_25_15, e_25_16, e_25_20, e_25_22, e_25_25, e_25_26, e_25_29, e_25_31, e_25_32, e_25_33, e_25_36, e_25_37, e_25_40, e_25_42, e_25_43, e_25_44, e_25_47, e_25_48, e_25_49, e_25_51, e_25_53, e_25_54, e_25_57, e_25_58, e_25_59, e_25_62, e_25_65, e_25_68, e_25_71, e_25_72, e_25_74, e_25_77, nl_int, nl_ref, nl_none, cat_int, cat_ref, cat_0, cat_i, cat_r, cat_l, Option.elim_some, Option.elim_none, Option.bind_some, Option.bind_none, Option.toList_some, Option.toList_none, List.cons_append, List.nil_append, Nat.reduceAdd, Nat.reduceLeDiff, ltF (x := 8) (c := 8) rfl (Nat.le_refl 8) (by decide), if_false, nI_1]) (fun j s _ hj hij => ⟨Nat.lt_succ_of_lt hij, (), by
        try dsimp only
        rw [e_25_18]
        simp (disch := first | exact nl_int | exact nl_ref | exact nl_none | exact Nat.le_of_ble_eq_true rfl | assumption | exact cat_int | exact cat_ref | exact z2 | exact z4 | exact z3 | exact z5 | exact z6 | exact z8 | exact z64) only [e_25_0, e_25_1, e_25_2, e_25_3, e_25_7, e_25_9, e_25_12, e_25_14, e_25_15, e_25_16, e_25_20, e_25_22, e_25_25, e_25_26, e_25_29, e_25_31, e_25_32, e_25_33, e_25_36, e_25_37, e_25_40, e_25_42, e_25_43, e_25_44, e_25_47, e_25_48, e_25_49, e_25_51, e_25_53, e_25_54, e_25_57, e_25_58, e_25_59, e_25_62, e_25_65, e_25_68, e_25_71, e_25_72, e_25_74, e_25_77, nl_int, nl_ref, nl_none, cat_int, cat_ref, cat_0, cat_i, cat_r, cat_l, Option.elim_some, Option.elim_none, Option.bind_some, Option.bind_none, Option.toList_some, Option.toList_none, List.cons_append, List.nil_append, Nat.reduceAdd, Nat.reduceLeDiff, ltT (x := 8) (c := 8) rfl hj (by decide), if_true, h.f3, h.lh hi, h.lh hj, h1, s_lightOfTwo h hi hj, nI_1]
        unfold mLi2
        split <;> rfl⟩) (7 - i) (i + 1) s () (by omega) (Nat.lt_succ_self i)
      rw [k2]
      unfold mLi1
      rw [if_pos h1]
    · refine ⟨some (.int (nI (i + 1))), ?_⟩
      unfold mLi1
      rw [if_neg h1]
      by_cases h8 : i + 1 < 8
      · rw [e_25_18]
        simp (disch := first | exact nl_int | exact nl_ref | exact nl_none | exact Nat.le_of_ble_eq_true rfl | assumption | exact cat_int | exact cat_ref | exact z2 | exact z4 | exact z3 | exact z5 | exact z6 | exact z8 | exact z64) only [e_25_0, e_25_1, e_25_2, e_25_3, e_25_7, e_25_9, e_25_12, e_25_14, e_25_15, e_25_16, e_25_20, e_25_22, e_25_25, e_25_26, e_25_29, e_25_31, e_25_32, e_25_33, e_25_36, e_25_37, e_25_40, e_25_42, e_25_43, e_25_44, e_25_47, e_25_48, e_25_49, e_25_51, e_25_53, e_25_54, e_25_57, e_25_58, e_25_59, e_25_62, e_25_65, e_25_68, e_25_71, e_25_72, e_25_74, e_25_77, nl_int, nl_ref, nl_none, cat_int, cat_ref, cat_0, cat_i, cat_r, cat_l, Option.elim_some, Option.elim_none, Option.bind_some, Option.bind_none, Option.toList_some, Option.toList_none, List.cons_append, List.nil_append, Nat.reduceAdd, Nat.reduceLeDiff, ltT (x := 8) (c := 8) rfl h8 (by decide), if_true, h.f3, h.lh hi, if_neg h1, nI_1]
      · rw [e_25_18]
        simp (disch := first | exact nl_int | exact nl_ref | exact nl_none | exact Nat.le_of_ble_eq_true rfl | assumption | exact cat_int | exact cat_ref | exact z2 | exact z4 | exact z3 | exact z5 | exact z6 | exact z8 | exact z64) only [e_25_0, e_25_1, e_25_2, e_25_3, e_25_7, e_25_9, e_25_12, e_25_14, e_25_15, e_25_16, e_25_20, e_25_22, e_25_25, e_25_26, e_25_29, e_25_31, e_25_32, e_25_33, e_25_36, e_25_37, e_25_40, e_25_42, e_25_43, e_25_44, e_25_47, e_25_48, e_25_49, e_25_51, e_25_53, e_25_54, e_25_57, e_25_58, e_25_59, e_25_62, e_25_65, e_25_68, e_25_71, e_25_72, e_25_74, e_25_77, nl_int, nl_ref, nl_none, cat_int, cat_ref, cat_0, cat_i, cat_r, cat_l, Option.elim_some, Option.elim_none, Option.bind_some, Option.bind_none, Option.toList_some, Option.toList_none, List.cons_append, List.nil_append, Nat.reduceAdd, Nat.reduceLeDiff, ltF (x := 8) (c := 8) rfl (show 8 ≤ i + 1 by omega) (by omega), if_false, nI_1]⟩) 8 0 0 none rfl trivial
  simp (disch := first | exact nl_int | exact nl_ref | exact nl_none | exact Nat.le_of_ble_eq_true rfl | assumption | exact cat_int | exact cat_ref | exact z2 | exact z4 | exact z3 | exact z5 | exact z6 | exact z8 | exact z64) only [e_25_0, e_25_1, e_25_2, e_25_3, e_25_7, e_25_9, e_25_12, e_25_14, e_25_15, e_25_16, e_25_20, e_25_22, e_25_25, e_25_26, e_25_29, e_25_31, e_25_32, e_25_33, e_25_36, e_25_37, e_25_40, e_25_42, e_25_43, e_25_44, e_25_47, e_25_48, e_25_49, e_25_51, e_25_53, e_25_54, e_25_57, e_25_58, e_25_59, e_25_62, e_25_65, e_25_68, e_25_71, e_25_72, e_25_74, e_25_77, nl_int, nl_ref, nl_none, cat_int, cat_ref, cat_0, cat_i, cat_r, cat_l, Option.elim_some, Option.elim_none, Option.bind_some, Option.bind_none, Option.toList_some, Option.toList_none, List.cons_append, List.nil_append, Nat.reduceAdd, Nat.reduceLeDiff]
  exact key
