/-! smoke, kinds by draw, copies, an empty Moment -/
/-- is there smoke of i and one of those from j on -/
def mSm2 (m : am_Mo) (h t : Int32) (i : Nat) : Nat → Nat → Bool
  | _, 0 => false
  | j, n + 1 => if mH m j = h then (if mFP m i j = false then mSm2 m h t i (j + 1) n else if mQ m i j t = 0 then mSm2 m h t i (j + 1) n else true) else mSm2 m h t i (j + 1) n
def mSm1 (m : am_Mo) (h t : Int32) : Nat → Nat → Bool
  | _, 0 => false
  | i, n + 1 => if mH m i = h then (if mSm2 m h t i (i + 1) (7 - i) = true then true else mSm1 m h t (i + 1) n) else mSm1 m h t (i + 1) n
def mSmoke (m : am_Mo) (h t : Int32) : Bool := mSm1 m h t 0 8
theorem s_hasSmoke {d k : Nat} {hp : am_H} {m : am_Mo} {x t : Int32} (h : isM hp k m) : am_E (d + 1) 26 0 [some (.ref k), some (.int x), some (.int t), none, none] [] hp = some (some (.int (b2 (mSmoke m x t))), hp) := by
  have hcl := h.c
  have k2 : ∀ i, i < 8 → mH m i = x → ∀ n j, j + n = 8 → am_E (d + 1) 26 13 [some (.ref k), some (.int x), some (.int t), some (.int (nI i)), some (.int (nI j))] [] hp = if mSm2 m x t i j n = true then some (some (.int 1), hp) else am_E (d + 1) 26 2 [some (.ref k), some (.int x), some (.int t), some (.int (nI (i + 1))), some (.int (nI 8))] [] hp := by
    intro i hi h1 n
    induction n with
    | zero =>
      intro j hj
      obtain rfl : j = 8 := by omega
      rw [e_26_13]
      simp (disch := first | exact nl_int | exact nl_ref | exact nl_none | exact Nat.le_of_ble_eq_true rfl | assumption | exact cat_int | exact cat_ref | exact z2 | exact z4 | exact z3 | exact z5 | exact z6 | exact z8 | exact z64) only [e_26_0, e_26_1, e_26_3, e_26_5, e_26_8, e_26_9, e_26_10, e_26_11, e_26_15, e_26_17, e_26_20, e_26_21, e_26_24, e_26_25, e_26_26, e_26_27, e_26_30, e_26_31, e_26_34, e_26_36, e_26_37, e_26_38, e_26_41, e_26_42, e_26_43, e_26_45, e_26_48, e_26_51, e_26_52, e_26_53, e_26_55, e_26_56, e_26_59, e_26_62, e_26_63, e_26_63_1, e_26_64, e_26_67, e_26_70, e_26_73, e_26_76, e_26_77, e_26_77_1, nl_int, nl_ref, nl_none, cat_int, cat_ref, cat_0, cat_i, cat_r, cat_l, Option.elim_some, Option.elim_none, Option.bind_some, Option.bind_none, Option.toList_some, Option.toList_none, List.cons_append, List.nil_append, Nat.reduceAdd, Nat.reduceLeDiff, ltF (x := 8) (c := 8) rfl (Nat.le_refl 8) (by decide), if_false, nI_1]
      simp [mSm2]
    | succ n ih =>
      intro j hj
      rw [e_26_13]
      simp (disch := first | exact nl_int | exact nl_ref | exact nl_none | exact Nat.le_of_ble_eq_true rfl | assumption | exact cat_int | exact cat_ref | exact z2 | exact z4 | exact z3 | exact z5 | exact z6 | exact z8 | exact z64) only [e_26_0, e_26_1, e_26_3, e_26_5, e_26_8, e_26_9, e_26_10, e_26_11, e_26_15, e_26_17, e_26_20, e_26_21, e_26_24, e_26_25, e_26_26, e_26_27, e_26_30, e_26_31, e_26_34, e_26_36, e_26_37, e_26_38, e_26_41, e_26_42, e_26_43, e_26_45, e_26_48, e_26_51, e_26_52, e_26_53, e_26_55, e_26_56, e_26_59, e_26_62, e_26_63, e_26_63_1, e_26_64, e_26_67, e_26_70, e_26_73, e_26_76, e_26_77, e_26_77_1, nl_int, nl_ref, nl_none, cat_int, cat_ref, cat_0, cat_i, cat_r, cat_l, Option.elim_some, Option.elim_none, Option.bind_some, Option.bind_none, Option.toList_some, Option.toList_none, List.cons_append, List.nil_append, Nat.reduceAdd, Nat.reduceLeDiff, ltT (x := 8) (c := 8) rfl (show j < 8 by omega) (by decide), if_true, nI_1, h.f3, h.lh hi, h.lh (show j < 8 by omega), h1, s_isFalsePair h hi (show j < 8 by omega), s_quarrelOf h hi (show j < 8 by omega), b2_0]
      rw [ih (j + 1) (by omega)]
      rw [mSm2]
      by_cases q1 : mH m j = x
      · by_cases q2 : mFP m i j = false
        · simp only [if_pos q1, if_pos q2]
        · by_cases q3 : mQ m i j t = 0
          · simp only [if_pos q1, if_neg q2, if_pos q3]
          · simp only [if_pos q1, if_neg q2, if_neg q3, if_true]
      · simp only [if_neg q1]
  have k1 : ∀ n i y, i + n = 8 → am_E (d + 1) 26 2 [some (.ref k), some (.int x), some (.int t), some (.int (nI i)), y] [] hp = some (some (.int (b2 (mSm1 m x t i n))), hp) := by
    intro n
    induction n with
    | zero =>
      intro i y hi
      obtain rfl : i = 8 := by omega
      rw [e_26_2]
      simp (disch := first | exact nl_int | exact nl_ref | exact nl_none | exact Nat.le_of_ble_eq_true rfl | assumption | exact cat_int | exact cat_ref | exact z2 | exact z4 | exact z3 | exact z5 | exact z6 | exact z8 | exact z64) only [e_26_0, e_26_1, e_26_3, e_26_5, e_26_8, e_26_9, e_26_10, e_26_11, e_26_15, e_26_17, e_26_20, e_26_21, e_26_24, e_26_25, e_26_26, e_26_27, e_26_30, e_26_31, e_26_34, e_26_36, e_26_37, e_26_38, e_26_41, e_26_42, e_26_43, e_26_45, e_26_48, e_26_51, e_26_52, e_26_53, e_26_55, e_26_56, e_26_59, e_26_62, e_26_63, e_26_63_1, e_26_64, e_26_67, e_26_70, e_26_73, e_26_76, e_26_77, e_26_77_1, nl_int, nl_ref, nl_none, cat_int, cat_ref, cat_0, cat_i, cat_r, cat_l, Option.elim_some, Option.elim_none, Option.bind_some, Option.bind_none, Option.toList_some, Option.toList_none, List.cons_append, List.nil_append, Nat.reduceAdd, Nat.reduceLeDiff, ltF (x := 8) (c := 8) rfl (Nat.le_refl 8) (by decide), if_false]
      rfl
    | succ n ih =>
      intro i y hi
      rw [e_26_2]
      simp (disch := first | exact nl_int | exact nl_ref | exact nl_none | exact Nat.le_of_ble_eq_true rfl | assumption | exact cat_int | exact cat_ref | exact z2 | exact z4 | exact z3 | exact z5 | exact z6 | exact z8 | exact z64) only [e_26_0, e_26_1, e_26_3, e_26_5, e_26_8, e_26_9, e_26_10, e_26_11, e_26_15, e_26_17, e_26_20, e_26_21, e_26_24, e_26_25, e_26_26, e_26_27, e_26_30, e_26_31, e_26_34, e_26_36, e_26_37, e_26_38, e_26_41, e_26_42, e_26_43, e_26_45, e_26_48, e_26_51, e_26_52, e_26_53, e_26_55, e_26_56, e_26_59, e_26_62, e_26_63, e_26_63_1, e_26_64, e_26_67, e_26_70, e_26_73, e_26_76, e_26_77, e_26_77_1, nl_int, nl_ref, nl_none, cat_int, cat_ref, cat_0, cat_i, cat_r, cat_l, Option.elim_some, Option.elim_none, Option.bind_some, Option.bind_none, Option.toList_some, Option.toList_none, List.cons_append, List.nil_append, Nat.reduceAdd, Nat.reduceLeDiff, ltT (x := 8) (c := 8) rfl (show i < 8 by omega) (by decide), if_true, nI_1]
      rw [mSm1]
      by_cases h1 : mH m i = x
      · rw [if_pos h1, k2 i (by omega) h1 (7 - i) (i + 1) (by omega), ih (i + 1) _ (by omega)]
        split <;> rfl
      · rw [if_neg h1, e_26_13]
        by_cases h8 : i + 1 < 8
        · simp (disch := first | exact nl_int | exact nl_ref | exact nl_none | exact Nat.le_of_ble_eq_true rfl | assumption | exact cat_int | exact cat_ref | exact z2 | exact z4 | exact z3 | exact z5 | exact z6 | exact z8 | exact z64) only [e_26_0, e_26_1, e_26_3, e_26_5, e_26_8, e_26_9, e_26_10, e_26_11, e_26_15, e_26_17, e_26_20, e_26_21, e_26_24, e_26_25, e_26_26, e_26_27, e_26_30, e_26_31, e_26_34, e_26_36, e_26_37, e_26_38, e_26_41, e_26_42, e_26_43, e_26_45, e_26_48, e_26_51, e_26_52, e_26_53, e_26_55, e_26_56, e_26_59, e_26_62, e_26_63, e_26_63_1, e_26_64, e_26_67, e_26_70, e_26_73, e_26_76, e_26_77, e_26_77_1, nl_int, nl_ref, nl_none, cat_int, cat_ref, cat_0, cat_i, cat_r, cat_l, Option.elim_some, Option.elim_none, Option.bind_some, Option.bind_none, Option.toList_some, Option.toList_none, List.cons_append, List.nil_append, Nat.reduceAdd, Nat.reduceLeDiff, ltT (x := 8) (c := 8) rfl h8 (by decide), if_true, nI_1, h.f3, h.lh (show i < 8 by omega), if_neg h1]
          exact ih (i + 1) _ (by omega)
        · simp (disch := first | exact nl_int | exact nl_ref | exact nl_none | exact Nat.le_of_ble_eq_true rfl | assumption | exact cat_int | exact cat_ref | exact z2 | exact z4 | exact z3 | exact z5 | exact z6 | exact z8 | exact z64) only [e_26_0, e_26_1, e_26_3, e_26_5, e_26_8, e_26_9, e_26_10, e_26_11, e_26_15, e_26_17, e_26_20, e_26_21, e_26_24, e_26_25, e_26_26, e_26_27, e_26_30, e_26_31, e_26_34, e_26_36, e_26_37, e_26_38, e_26_41, e_26_42, e_26_43, e_26_45, e_26_48, e_26_51, e_26_52, e_26_53, e_26_55, e_26_56, e_26_59, e_26_62, e_26_63, e_26_63_1, e_26_64, e_26_67, e_26_70, e_26_73, e_26_76, e_26_77, e_26_77_1, nl_int, nl_ref, nl_none, cat_int, cat_ref, cat_0, cat_i, cat_r, cat_l, Option.elim_some, Option.elim_none, Option.bind_some, Option.bind_none, Option.toList_some, Option.toList_none, List.cons_append, List.nil_append, Nat.reduceAdd, Nat.reduceLeDiff, ltF (x := 8) (c := 8) rfl (show 8 ≤ i + 1 by omega) (by omega), if_false, nI_1]
          exact ih (i + 1) _ (by omega)
  simp (disch := first | exact nl_int | exact nl_ref | exact nl_none | exact Nat.le_of_ble_eq_true rfl | assumption | exact cat_int | exact cat_ref | exact z2 | exact z4 | exact z3 | exact z5 | exact z6 | exact z8 | exact z64) only [e_26_0, e_26_1, e_26_3, e_26_5, e_26_8, e_26_9, e_26_10, e_26_11, e_26_15, e_26_17, e_26_20, e_26_21, e_26_24, e_26_25, e_26_26, e_26_27, e_26_30, e_26_31, e_26_34, e_26_36, e_26_37, e_26_38, e_26_41, e_26_42, e_26_43, e_26_45, e_26_48, e_26_51, e_26_52, e_26_53, e_26_55, e_26_56, e_26_59, e_26_62, e_26_63, e_26_63_1, e_26_64, e_26_67, e_26_70, e_26_73, e_26_76, e_26_77, e_26_77_1, nl_int, nl_ref, nl_none, cat_int, cat_ref, cat_0, cat_i, cat_r, cat_l, Option.elim_some, Option.elim_none, Option.bind_some, Option.bind_none, Option.toList_some, Option.toList_none, List.cons_append, List.nil_append, Nat.reduceAdd, Nat.reduceLeDiff]
  exact k1 8 0 none rfl
/-- kinds by draw: those of the bits are false -/
def mDk (told : am_Mo) (b : Int32) (i : Nat) (m : am_Mo) : am_Mo := mSetK m i (if (b >>> (nI i &&& 31)) &&& 1 = 1 then 2 else if mK told i = 2 then 0 else mK told i)
def mDraw (told : am_Mo) (b : Int32) (m : am_Mo) : am_Mo := am_for (mDk told b) 0 8 m
theorem mDraw_ok {told m : am_Mo} {b : Int32} (h : mOK m) : mOK (mDraw told b m) := am_for_inv (fun _ s => mOK s) _ _ _ h (fun _ _ _ _ q => q.K)
theorem isM_wM_ne {hp : am_H} {k k2 : Nat} {m m2 : am_Mo} (h : isM hp k2 m2) (hne : k2 + 5 < k ∨ k + 5 < k2) : isM (wM hp k m) k2 m2 := by
  obtain ⟨h0, h1, h2, h3, h4, h5⟩ := h
  refine ⟨?_, ⟨?_, h1.2⟩, ⟨?_, h2.2⟩, ⟨?_, h3.2⟩, ⟨?_, h4.2⟩, ⟨?_, h5.2⟩⟩
  · rw [wM_obj (by omega)]; exact h0
  · rw [wM_arr (by omega)]; exact h1.1
  · rw [wM_arr (by omega)]; exact h2.1
  · rw [wM_arr (by omega)]; exact h3.1
  · rw [wM_arr (by omega)]; exact h4.1
  · rw [wM_arr (by omega)]; exact h5.1
theorem s_drawKinds {d k k2 : Nat} {hp : am_H} {m told : am_Mo} {b : Int32} (hk : k + 5 < hp.length) (hm : mOK m) (ht : isM hp k2 told) (hne : k2 + 5 < k ∨ k + 5 < k2) : am_E d 27 0 [some (.ref k), some (.ref k2), some (.int b), none, none] [] (wM hp k m) = some (none, wM hp k (mDraw told b m)) := by
  have key := for_res (τ := Option Value) (fun i s y => am_E d 27 2 [some (.ref k), some (.ref k2), some (.int b), some (.int (nI i)), y] [] (wM hp k s)) (fun _ s => mOK s) (mDk told b) 8 (fun s => some (none, wM hp k s)) (fun s _ _ => by
    try dsimp only
    rw [e_27_2]
    simp (disch := first | exact nl_int | exact nl_ref | exact nl_none | exact Nat.le_of_ble_eq_true rfl | assumption | exact cat_int | exact cat_ref | exact z2 | exact z4 | exact z3 | exact z5 | exact z6 | exact z8 | exact z64) only [e_27_0, e_27_1, e_27_3, e_27_5, e_27_8, e_27_9, e_27_12, e_27_13, e_27_14, e_27_15, e_27_18, e_27_19, e_27_22, e_27_23, e_27_26, e_27_27, e_27_28, e_27_30, e_27_31, e_27_34, e_27_35, e_27_36, e_27_37, e_27_38, e_27_39, e_27_40, e_27_41, e_27_44, e_27_45, e_27_48, e_27_50, e_27_51, e_27_54, e_27_57, nl_int, nl_ref, nl_none, cat_int, cat_ref, cat_0, cat_i, cat_r, cat_l, Option.elim_some, Option.elim_none, Option.bind_some, Option.bind_none, Option.toList_some, Option.toList_none, List.cons_append, List.nil_append, Nat.reduceAdd, Nat.reduceLeDiff, ltF (x := 8) (c := 8) rfl (Nat.le_refl 8) (by decide), if_false]) (fun i s y hi hs => ⟨hs.K, by
    have h := isM_wM hk hs
    have h2 : isM (wM hp k s) k2 told := isM_wM_ne ht hne
    try dsimp only
    rw [e_27_2]
    simp (disch := first | exact nl_int | exact nl_ref | exact nl_none | exact Nat.le_of_ble_eq_true rfl | assumption | exact cat_int | exact cat_ref | exact z2 | exact z4 | exact z3 | exact z5 | exact z6 | exact z8 | exact z64) only [e_27_0, e_27_1, e_27_3, e_27_5, e_27_8, e_27_9, e_27_12, e_27_13, e_27_14, e_27_15, e_27_18, e_27_19, e_27_22, e_27_23, e_27_26, e_27_27, e_27_28, e_27_30, e_27_31, e_27_34, e_27_35, e_27_36, e_27_37, e_27_38, e_27_39, e_27_40, e_27_41, e_27_44, e_27_45, e_27_48, e_27_50, e_27_51, e_27_54, e_27_57, nl_int, nl_ref, nl_none, cat_int, cat_ref, cat_0, cat_i, cat_r, cat_l, Option.elim_some, Option.elim_none, Option.bind_some, Option.bind_none, Option.toList_some, Option.toList_none, List.cons_append, List.nil_append, Nat.reduceAdd, Nat.reduceLeDiff, ltT (x := 8) (c := 8) rfl hi (by decide), if_true, nI_1, h.f0, h2.f0, h2.lk hi, wM_sK hk hs hi]
    unfold mDk
    by_cases q1 : mK told i = 2
    · by_cases q2 : (b >>> (nI i &&& 31)) &&& 1 = 1
      · simp only [if_pos q1, if_pos q2]
        exact ⟨_, rfl⟩
      · simp only [if_pos q1, if_neg q2]
        exact ⟨_, rfl⟩
    · by_cases q2 : (b >>> (nI i &&& 31)) &&& 1 = 1
      · simp only [if_neg q1, if_pos q2]
        exact ⟨_, rfl⟩
      · simp only [if_neg q1, if_neg q2]
        exact ⟨_, rfl⟩⟩) 8 0 m none rfl hm
  simp (disch := first | exact nl_int | exact nl_ref | exact nl_none | exact Nat.le_of_ble_eq_true rfl | assumption | exact cat_int | exact cat_ref | exact z2 | exact z4 | exact z3 | exact z5 | exact z6 | exact z8 | exact z64) only [e_27_0, e_27_1, e_27_3, e_27_5, e_27_8, e_27_9, e_27_12, e_27_13, e_27_14, e_27_15, e_27_18, e_27_19, e_27_22, e_27_23, e_27_26, e_27_27, e_27_28, e_27_30, e_27_31, e_27_34, e_27_35, e_27_36, e_27_37, e_27_38, e_27_39, e_27_40, e_27_41, e_27_44, e_27_45, e_27_48, e_27_50, e_27_51, e_27_54, e_27_57, nl_int, nl_ref, nl_none, cat_int, cat_ref, cat_0, cat_i, cat_r, cat_l, Option.elim_some, Option.elim_none, Option.bind_some, Option.bind_none, Option.toList_some, Option.toList_none, List.cons_append, List.nil_append, Nat.reduceAdd, Nat.reduceLeDiff]
  exact key
/-- a copy: all but the foes -/
def mCopy (m from_ : am_Mo) : am_Mo := (from_.1, from_.2.1, from_.2.2.1, from_.2.2.2.1, m.2.2.2.2.1, from_.2.2.2.2.2)
theorem mCopy_ok {m f : am_Mo} (h : mOK m) (hf : mOK f) : mOK (mCopy m f) := ⟨hf.1, hf.2.1, hf.2.2.1, hf.2.2.2.1, h.2.2.2.2⟩
theorem s_copy {d k k2 : Nat} {hp : am_H} {m f : am_Mo} (hk : k + 5 < hp.length) (hm : mOK m) (ht : isM hp k2 f) (hne : k2 + 5 < k ∨ k + 5 < k2) : am_E d 18 0 [some (.ref k), some (.ref k2)] [] (wM hp k m) = some (none, wM hp k (mCopy m f)) := by
  have hf := ht.ok
  have h0 := isM_wM hk hm
  have g0 : isM (wM hp k m) k2 f := isM_wM_ne ht hne
  have m1 : mOK ((f.1, m.2) : am_Mo) := ⟨hf.1, hm.2⟩
  have h1 := isM_wM hk m1
  have g1 : isM (wM hp k (f.1, m.2)) k2 f := isM_wM_ne ht hne
  have m2 : mOK ((f.1, f.2.1, m.2.2) : am_Mo) := ⟨hf.1, hf.2.1, hm.2.2⟩
  have h2 := isM_wM hk m2
  have g2 : isM (wM hp k (f.1, f.2.1, m.2.2)) k2 f := isM_wM_ne ht hne
  have m3 : mOK ((f.1, f.2.1, f.2.2.1, m.2.2.2) : am_Mo) := ⟨hf.1, hf.2.1, hf.2.2.1, hm.2.2.2⟩
  have h3 := isM_wM hk m3
  have g3 : isM (wM hp k (f.1, f.2.1, f.2.2.1, m.2.2.2)) k2 f := isM_wM_ne ht hne
  have m4 : mOK ((f.1, f.2.1, f.2.2.1, f.2.2.2.1, m.2.2.2.2) : am_Mo) := ⟨hf.1, hf.2.1, hf.2.2.1, hf.2.2.2.1, hm.2.2.2.2⟩
  have h4 := isM_wM hk m4
  have g4 : isM (wM hp k (f.1, f.2.1, f.2.2.1, f.2.2.2.1, m.2.2.2.2)) k2 f := isM_wM_ne ht hne
  have m5 : mOK (mSetHr (f.1, f.2.1, f.2.2.1, f.2.2.2.1, m.2.2.2.2) f.2.2.2.2.2.1) := m4
  have h5 := isM_wM hk m5
  have g5 : isM (wM hp k (mSetHr (f.1, f.2.1, f.2.2.1, f.2.2.2.1, m.2.2.2.2) f.2.2.2.2.2.1)) k2 f := isM_wM_ne ht hne
  have c0 : am_cp (wM hp k m) (k2 + 1) 0 (k + 1) 0 8 = some (wM hp k (f.1, m.2)) := by rw [am_cp8 (x := 8) (n := 8) rfl g0.2.1 h0.2.1 (by decide), wM_1]
  have c1 : am_cp (wM hp k (f.1, m.2)) (k2 + 2) 0 (k + 2) 0 8 = some (wM hp k (f.1, f.2.1, m.2.2)) := by rw [am_cp8 (x := 8) (n := 8) rfl g1.2.2.1 h1.2.2.1 (by decide), wM_2]
  have c2 : am_cp (wM hp k (f.1, f.2.1, m.2.2)) (k2 + 3) 0 (k + 3) 0 8 = some (wM hp k (f.1, f.2.1, f.2.2.1, m.2.2.2)) := by rw [am_cp8 (x := 8) (n := 8) rfl g2.2.2.2.1 h2.2.2.2.1 (by decide), wM_3]
  have c3 : am_cp (wM hp k (f.1, f.2.1, f.2.2.1, m.2.2.2)) (k2 + 4) 0 (k + 4) 0 8 = some (wM hp k (f.1, f.2.1, f.2.2.1, f.2.2.2.1, m.2.2.2.2)) := by rw [am_cp8 (x := 8) (n := 8) rfl g3.2.2.2.2.1 h3.2.2.2.2.1 (by decide), wM_4]
  simp (disch := first | exact nl_int | exact nl_ref | exact nl_none | exact Nat.le_of_ble_eq_true rfl | assumption | exact cat_int | exact cat_ref | exact z2 | exact z4 | exact z3 | exact z5 | exact z6 | exact z8 | exact z64) only [e_18_0, e_18_1, e_18_4, e_18_5, e_18_6, e_18_9, e_18_10, e_18_12, e_18_15, e_18_16, e_18_19, e_18_20, e_18_21, e_18_24, e_18_25, e_18_27, e_18_30, e_18_31, e_18_34, e_18_35, e_18_36, e_18_39, e_18_40, e_18_42, e_18_45, e_18_46, e_18_49, e_18_50, e_18_51, e_18_54, e_18_55, e_18_57, e_18_60, e_18_61, e_18_62, e_18_65, e_18_68, e_18_69, e_18_70, e_18_73, e_18_76, nl_int, nl_ref, nl_none, cat_int, cat_ref, cat_0, cat_i, cat_r, cat_l, Option.elim_some, Option.elim_none, Option.bind_some, Option.bind_none, Option.toList_some, Option.toList_none, List.cons_append, List.nil_append, Nat.reduceAdd, Nat.reduceLeDiff, h0.f0, g0.f0, c0, h1.f1, g1.f1, c1, h2.f2, g2.f2, c2, h3.f3, g3.f3, c3, g4.f5, wM_pHr hk m4, g5.f6, wM_pRa hk m5]
  rfl
/-- Arrays.fill -/
theorem s_fill {d a n : Nat} {hp : am_H} {xs : List Int32} {x : Int32} (h : am_arr hp a = some xs) (hn : xs.length = n) (hl : n < 2 ^ 31) : am_E d 155 0 [some (.ref a), some (.int x), none, none] [] hp = some (none, hp.set a (.inl (List.replicate n x))) := by
  have key := for_res (τ := Unit) (fun i (s : List Int32) _ => am_E d 155 5 [some (.ref a), some (.int x), some (.int (nI i)), some (.int (nI n))] [] (hp.set a (.inl s))) (fun i s => s.length = n ∧ ∀ j, j < i → s.getD j 0 = x) (fun i s => s.set i x) n (fun s => some (none, hp.set a (.inl (List.replicate n x)))) (fun s _ hs => by
    have e : s = List.replicate n x := list8 n hs.1 (by simp) (fun i hi => by rw [hs.2 i hi]; simp [List.getD_eq_getElem?_getD, List.getElem?_replicate, hi])
    try dsimp only
    rw [e_155_5]
    simp (disch := first | exact nl_int | exact nl_ref | exact nl_none | exact Nat.le_of_ble_eq_true rfl | assumption | exact cat_int | exact cat_ref | exact z2 | exact z4 | exact z3 | exact z5 | exact z6 | exact z8 | exact z64) only [e_155_0, e_155_1, e_155_2, e_155_3, e_155_4, e_155_6, e_155_7, e_155_10, e_155_11, e_155_12, e_155_13, e_155_14, e_155_17, e_155_20, nl_int, nl_ref, nl_none, cat_int, cat_ref, cat_0, cat_i, cat_r, cat_l, Option.elim_some, Option.elim_none, Option.bind_some, Option.bind_none, Option.toList_some, Option.toList_none, List.cons_append, List.nil_append, Nat.reduceAdd, Nat.reduceLeDiff, ltF (x := nI n) (c := n) rfl (Nat.le_refl n) hl, if_false]
    rw [e]) (fun i s _ hi hs => ⟨⟨by rw [List.length_set]; exact hs.1, fun j hj => by
      rw [getD_set (by omega)]
      split
      · rfl
      · exact hs.2 j (by omega)⟩, (), by
    have hA := am_sx_nI (hp := hp.set a (.inl s)) (x := x) ⟨am_arr_setS h, hs.1⟩ hi hl
    rw [List.set_set] at hA
    try dsimp only
    rw [e_155_5]
    simp (disch := first | exact nl_int | exact nl_ref | exact nl_none | exact Nat.le_of_ble_eq_true rfl | assumption | exact cat_int | exact cat_ref | exact z2 | exact z4 | exact z3 | exact z5 | exact z6 | exact z8 | exact z64) only [e_155_0, e_155_1, e_155_2, e_155_3, e_155_4, e_155_6, e_155_7, e_155_10, e_155_11, e_155_12, e_155_13, e_155_14, e_155_17, e_155_20, nl_int, nl_ref, nl_none, cat_int, cat_ref, cat_0, cat_i, cat_r, cat_l, Option.elim_some, Option.elim_none, Option.bind_some, Option.bind_none, Option.toList_some, Option.toList_none, List.cons_append, List.nil_append, Nat.reduceAdd, Nat.reduceLeDiff, ltT (x := nI n) (c := n) rfl hi hl, if_true, nI_1, hA]⟩) n 0 xs () (by omega) ⟨hn, fun j hj => absurd hj (Nat.not_lt_zero j)⟩
  rw [set_self (am_arr_get h)] at key
  simp (disch := first | exact nl_int | exact nl_ref | exact nl_none | exact Nat.le_of_ble_eq_true rfl | assumption | exact cat_int | exact cat_ref | exact z2 | exact z4 | exact z3 | exact z5 | exact z6 | exact z8 | exact z64) only [e_155_0, e_155_1, e_155_2, e_155_3, e_155_4, e_155_6, e_155_7, e_155_10, e_155_11, e_155_12, e_155_13, e_155_14, e_155_17, e_155_20, nl_int, nl_ref, nl_none, cat_int, cat_ref, cat_0, cat_i, cat_r, cat_l, Option.elim_some, Option.elim_none, Option.bind_some, Option.bind_none, Option.toList_some, Option.toList_none, List.cons_append, List.nil_append, Nat.reduceAdd, Nat.reduceLeDiff, h, hn]
  exact key
def mZero : am_Mo := (List.replicate 8 0, List.replicate 8 0, List.replicate 8 0, List.replicate 8 (-1), [], 0, 0)
def mClear (m : am_Mo) : am_Mo := (List.replicate 8 0, List.replicate 8 0, List.replicate 8 0, List.replicate 8 (-1), m.2.2.2.2.1, 0, 0)
theorem mClear_ok {m : am_Mo} (h : mOK m) : mOK (mClear m) := ⟨rfl, rfl, rfl, rfl, h.2.2.2.2⟩
theorem s_clear {d k : Nat} {hp : am_H} {m : am_Mo} (hk : k + 5 < hp.length) (hm : mOK m) : am_E (d + 1) 17 0 [some (.ref k)] [] (wM hp k m) = some (none, wM hp k (mClear m)) := by
  have h0 := isM_wM hk hm
  have m1 : mOK ((List.replicate 8 0, m.2) : am_Mo) := ⟨rfl, hm.2⟩
  have h1 := isM_wM hk m1
  have m2 : mOK ((List.replicate 8 0, List.replicate 8 0, m.2.2) : am_Mo) := ⟨rfl, rfl, hm.2.2⟩
  have h2 := isM_wM hk m2
  have m3 : mOK ((List.replicate 8 0, List.replicate 8 0, List.replicate 8 0, m.2.2.2) : am_Mo) := ⟨rfl, rfl, rfl, hm.2.2.2⟩
  have h3 := isM_wM hk m3
  have m4 : mOK ((List.replicate 8 0, List.replicate 8 0, List.replicate 8 0, List.replicate 8 (-1), m.2.2.2.2) : am_Mo) := ⟨rfl, rfl, rfl, rfl, hm.2.2.2.2⟩
  have h4 := isM_wM hk m4
  have m5 : mOK (mSetHr (List.replicate 8 0, List.replicate 8 0, List.replicate 8 0, List.replicate 8 (-1), m.2.2.2.2) 0) := m4
  simp (disch := first | exact nl_int | exact nl_ref | exact nl_none | exact Nat.le_of_ble_eq_true rfl | assumption | exact cat_int | exact cat_ref | exact z2 | exact z4 | exact z3 | exact z5 | exact z6 | exact z8 | exact z64) only [e_17_0, e_17_1, e_17_4, e_17_5, e_17_8, e_17_9, e_17_12, e_17_13, e_17_16, e_17_17, e_17_20, e_17_21, e_17_24, e_17_25, e_17_28, e_17_29, e_17_32, e_17_33, e_17_34, e_17_37, e_17_38, e_17_39, e_17_42, nl_int, nl_ref, nl_none, cat_int, cat_ref, cat_0, cat_i, cat_r, cat_l, Option.elim_some, Option.elim_none, Option.bind_some, Option.bind_none, Option.toList_some, Option.toList_none, List.cons_append, List.nil_append, Nat.reduceAdd, Nat.reduceLeDiff, h0.f0, s_fill (x := 0) h0.2.1.1 h0.2.1.2 (by decide), wM_1, h1.f1, s_fill (x := 0) h1.2.2.1.1 h1.2.2.1.2 (by decide), wM_2, h2.f2, s_fill (x := 0) h2.2.2.2.1.1 h2.2.2.2.1.2 (by decide), wM_3, h3.f3, s_fill (x := -1) h3.2.2.2.2.1.1 h3.2.2.2.2.1.2 (by decide), wM_4, wM_pHr hk m4, wM_pRa hk m5]
  rfl
