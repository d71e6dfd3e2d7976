/-! A MOMENT: kinds, opinions, tempers, homes, foes, the hour, the rations -/
abbrev am_Mo : Type := List Int32 × List Int32 × List Int32 × List Int32 × List Int32 × Int32 × Int32
def isM (hp : am_H) (k : Nat) (m : am_Mo) : Prop :=
  am_obj hp k = some (2, [.ref (k + 1), .ref (k + 2), .ref (k + 3), .ref (k + 4), .ref (k + 5), .int m.2.2.2.2.2.1, .int m.2.2.2.2.2.2]) ∧ (am_arr hp (k + 1) = some m.1 ∧ m.1.length = 8) ∧ (am_arr hp (k + 2) = some m.2.1 ∧ m.2.1.length = 8) ∧ (am_arr hp (k + 3) = some m.2.2.1 ∧ m.2.2.1.length = 8) ∧ (am_arr hp (k + 4) = some m.2.2.2.1 ∧ m.2.2.2.1.length = 8) ∧ (am_arr hp (k + 5) = some m.2.2.2.2.1 ∧ m.2.2.2.2.1.length = 8)
def mK (m : am_Mo) (i : Nat) : Int32 := m.1.getD i 0
def mO (m : am_Mo) (i : Nat) : Int32 := m.2.1.getD i 0
def mT (m : am_Mo) (i : Nat) : Int32 := m.2.2.1.getD i 0
def mH (m : am_Mo) (i : Nat) : Int32 := m.2.2.2.1.getD i 0
def mF (m : am_Mo) (i : Nat) : Int32 := m.2.2.2.2.1.getD i 0
theorem am_ix_nI {i n : Nat} (h : i < n) (hn : n < 2 ^ 31) : am_ix (nI i) n = some i := by
  unfold am_ix
  rw [if_neg (nI_in h hn), nI_clamp (by omega)]
theorem am_ld_nI {hp : am_H} {a i n : Nat} {xs : List Int32} (h : am_arr hp a = some xs ∧ xs.length = n) (hi : i < n) (hn : n < 2 ^ 31) : am_ld hp a (nI i) = some (xs.getD i 0) := by
  unfold am_ld
  rw [h.1]
  dsimp only
  rw [h.2, am_ix_nI hi hn]
theorem am_fld_of {hp : am_H} {k c j : Nat} {fs : List Value} (h : am_obj hp k = some (c, fs)) : am_fld hp k c j = fs[j]? := by
  unfold am_fld
  rw [h]
  dsimp only
  rw [if_pos (by simp)]
theorem am_isC_of {hp : am_H} {k c : Nat} {fs : List Value} (h : am_obj hp k = some (c, fs)) : am_isC hp k c = true := by
  unfold am_isC
  rw [h]
  simp
section MOM
variable {hp : am_H} {k i j : Nat} {m : am_Mo}
theorem isM.c (h : isM hp k m) : am_isC hp k 2 = true := am_isC_of h.1
theorem isM.f0 (h : isM hp k m) : am_fld hp k 2 0 = some (.ref (k + 1)) := am_fld_of h.1
theorem isM.f1 (h : isM hp k m) : am_fld hp k 2 1 = some (.ref (k + 2)) := am_fld_of h.1
theorem isM.f2 (h : isM hp k m) : am_fld hp k 2 2 = some (.ref (k + 3)) := am_fld_of h.1
theorem isM.f3 (h : isM hp k m) : am_fld hp k 2 3 = some (.ref (k + 4)) := am_fld_of h.1
theorem isM.f4 (h : isM hp k m) : am_fld hp k 2 4 = some (.ref (k + 5)) := am_fld_of h.1
theorem isM.f5 (h : isM hp k m) : am_fld hp k 2 5 = some (.int m.2.2.2.2.2.1) := am_fld_of h.1
theorem isM.f6 (h : isM hp k m) : am_fld hp k 2 6 = some (.int m.2.2.2.2.2.2) := am_fld_of h.1
theorem isM.k (h : isM hp k m) (hi : i < 8) : am_ld hp (k + 1) (nI i) = some (mK m i) := am_ld_nI h.2.1 hi (by decide)
theorem isM.o (h : isM hp k m) (hi : i < 8) : am_ld hp (k + 2) (nI i) = some (mO m i) := am_ld_nI h.2.2.1 hi (by decide)
theorem isM.t (h : isM hp k m) (hi : i < 8) : am_ld hp (k + 3) (nI i) = some (mT m i) := am_ld_nI h.2.2.2.1 hi (by decide)
theorem isM.h (h : isM hp k m) (hi : i < 8) : am_ld hp (k + 4) (nI i) = some (mH m i) := am_ld_nI h.2.2.2.2.1 hi (by decide)
theorem isM.e (h : isM hp k m) (hi : i < 8) : am_ld hp (k + 5) (nI i) = some (mF m i) := am_ld_nI h.2.2.2.2.2 hi (by decide)
end MOM
def b2 (b : Bool) : Int32 := if b = true then 1 else 0
/-- do two live together -/
def mTog (m : am_Mo) (i j : Nat) : Bool := !decide (mH m i = -1) && decide (mH m i = mH m j)
def mHush (m : am_Mo) (i : Nat) : Bool := decide (mK m i = 1) && decide (mT m i < 3)
def mQ (m : am_Mo) (i j : Nat) (t : Int32) : Int32 := if (mHush m i || mHush m j) = true then 0 else (mO m i ^^^ mO m j) &&& t
def mFP (m : am_Mo) (i j : Nat) : Bool := decide (mK m i = 2) || decide (mK m j = 2)
theorem s_together {d k i j : Nat} {hp : am_H} {m : am_Mo} (h : isM hp k m) (hi : i < 8) (hj : j < 8) : am_E d 19 0 [some (.ref k), some (.int (nI i)), some (.int (nI j))] [] hp = some (some (.int (b2 (mTog m i j))), hp) := by
  simp only [e_19_0, e_19_1, e_19_4, e_19_5, e_19_6, e_19_7, e_19_10, e_19_11, e_19_14, e_19_15, e_19_16, e_19_17, e_19_20, e_19_21, e_19_22, e_19_25, e_19_26, e_19_29, e_19_30, e_19_30_1, nl_int, nl_ref, nl_none, cat_int, cat_ref, cat_0, cat_i, cat_r, cat_l, Option.elim_some, Option.elim_none, Option.bind_some, Option.bind_none, Option.toList_some, Option.toList_none, List.cons_append, List.nil_append, Nat.reduceAdd, Nat.reduceLeDiff, h.f3, h.h hi, h.h hj]
  unfold mTog b2
  by_cases h1 : mH m i = -1 <;> by_cases h2 : mH m i = mH m j <;> simp [h1, h2]
theorem s_quarrelOf {d k i j : Nat} {hp : am_H} {m : am_Mo} {t : Int32} (h : isM hp k m) (hi : i < 8) (hj : j < 8) : am_E d 20 0 [some (.ref k), some (.int (nI i)), some (.int (nI j)), some (.int t), none] [] hp = some (some (.int (mQ m i j t)), hp) := by
  simp only [e_20_0, e_20_1, e_20_4, e_20_5, e_20_6, e_20_7, e_20_10, e_20_11, e_20_14, e_20_15, e_20_16, e_20_17, e_20_20, e_20_21, e_20_24, e_20_25, e_20_26, e_20_27, e_20_30, e_20_31, e_20_34, e_20_35, e_20_36, e_20_37, e_20_40, e_20_41, e_20_44, e_20_45, e_20_47, e_20_49, e_20_52, e_20_53, e_20_56, e_20_57, e_20_60, e_20_61, e_20_62, e_20_63, e_20_66, e_20_67, e_20_68, e_20_69, e_20_70, e_20_71, nl_int, nl_ref, nl_none, cat_int, cat_ref, cat_0, cat_i, cat_r, cat_l, Option.elim_some, Option.elim_none, Option.bind_some, Option.bind_none, Option.toList_some, Option.toList_none, List.cons_append, List.nil_append, Nat.reduceAdd, Nat.reduceLeDiff, h.f0, h.f1, h.f2, h.k hi, h.k hj, h.t hi, h.t hj, h.o hi, h.o hj]
  unfold mQ mHush
  by_cases h1 : mK m i = 1 <;> by_cases h2 : mT m i < 3 <;> by_cases h3 : mK m j = 1 <;> by_cases h4 : mT m j < 3 <;> simp [h1, h2, h3, h4]
theorem s_isFalsePair {d k i j : Nat} {hp : am_H} {m : am_Mo} (h : isM hp k m) (hi : i < 8) (hj : j < 8) : am_E d 21 0 [some (.ref k), some (.int (nI i)), some (.int (nI j))] [] hp = some (some (.int (b2 (mFP m i j))), hp) := by
  simp only [e_21_0, e_21_1, e_21_4, e_21_5, e_21_6, e_21_7, e_21_10, e_21_11, e_21_14, e_21_15, e_21_16, e_21_17, e_21_20, e_21_21, e_21_24, e_21_25, e_21_25_1, nl_int, nl_ref, nl_none, cat_int, cat_ref, cat_0, cat_i, cat_r, cat_l, Option.elim_some, Option.elim_none, Option.bind_some, Option.bind_none, Option.toList_some, Option.toList_none, List.cons_append, List.nil_append, Nat.reduceAdd, Nat.reduceLeDiff, h.f0, h.k hi, h.k hj]
  unfold mFP b2
  by_cases h1 : mK m i = 2 <;> by_cases h2 : mK m j = 2 <;> simp [h1, h2]
