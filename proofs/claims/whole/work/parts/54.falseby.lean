/-! THE CALLS: falseBy -/
def aPow (b t : Int32) : Int32 := am_for (fun _ s => s * b) 0 t.toNatClampNeg 1
def aL2 (c : Int32) (p : Int32 × Int32) : Int32 × Int32 := if p.1 - p.1 / c * c = 0 then (if p.2 - p.2 / c * c = 0 then (p.1 / c, p.2 / c) else p) else p
def aLow (p : Int32 × Int32) : Int32 × Int32 := am_for (fun _ p => aL2 5 (aL2 2 p)) 0 8 p
def aCh (nw : am_Mo) (h x t res many : Int32) (j : Nat) (c : Int32) : Int32 := if nI j &&& (res ^^^ -1) = 0 then (if mSmoke (mDraw nw (nI j) nw) h t = true then c + aPow x (bitc (nI j)) * aPow (10 - x) (many - bitc (nI j)) else c) else c
def aChs (nw : am_Mo) (h x t : Int32) : Int32 := am_for (aCh nw h x t (mRes nw h) (bitc (mRes nw h))) 0 256 0
theorem mSm2_nf {m : am_Mo} {h t : Int32} {i : Nat} {f : List Int32} : ∀ (n j : Nat), mSm2 (mNf m f) h t i j n = mSm2 m h t i j n := by
  intro n
  induction n with
  | zero => intro j; rfl
  | succ n ih => intro j; rw [mSm2, mSm2, ih]; rfl
theorem mSm1_nf {m : am_Mo} {h t : Int32} {f : List Int32} : ∀ (n j : Nat), mSm1 (mNf m f) h t j n = mSm1 m h t j n := by
  intro n
  induction n with
  | zero => intro j; rfl
  | succ n ih => intro j; rw [mSm1, mSm1, ih, mSm2_nf]; rfl
def kDk (told : am_Mo) (b : Int32) (i : Nat) (ks : List Int32) : List Int32 := ks.set i (if (b >>> (nI i &&& 31)) &&& 1 = 1 then 2 else if mK told i = 2 then 0 else mK told i)
theorem mDk_k {told : am_Mo} {b : Int32} : ∀ (n j : Nat) (m : am_Mo), am_for (mDk told b) j n m = (am_for (kDk told b) j n m.1, m.2) := by
  intro n
  induction n with
  | zero => intro j m; rfl
  | succ n ih =>
    intro j m
    rw [am_for, am_for, ih]
    rfl
theorem kDk_all {told : am_Mo} {b : Int32} {xs ys : List Int32} (hx : xs.length = 8) (hy : ys.length = 8) : am_for (kDk told b) 0 8 xs = am_for (kDk told b) 0 8 ys := by
  have key : ∀ zs : List Int32, zs.length = 8 → (am_for (kDk told b) 0 8 zs).length = 8 ∧ ∀ j, j < 8 → (am_for (kDk told b) 0 8 zs).getD j 0 = (if (b >>> (nI j &&& 31)) &&& 1 = 1 then 2 else if mK told j = 2 then 0 else mK told j) := fun zs hz =>
    am_for_inv (f := kDk told b) (fun i s => s.length = 8 ∧ ∀ j, j < i → s.getD j 0 = (if (b >>> (nI j &&& 31)) &&& 1 = 1 then 2 else if mK told j = 2 then 0 else mK told j)) 8 0 zs ⟨hz, fun j hj => absurd hj (Nat.not_lt_zero j)⟩ (fun i s _ hi hs => ⟨(List.length_set).trans hs.1, fun j hj => by
      unfold kDk
      rw [getD_set (by omega)]
      by_cases e : i = j
      · subst e; rw [if_pos rfl]
      · rw [if_neg e]; exact hs.2 j (by omega)⟩)
  exact list8 8 (key xs hx).1 (key ys hy).1 (fun i hi => by rw [(key xs hx).2 i hi, (key ys hy).2 i hi])
theorem mDraw_sim {nw s : am_Mo} {b : Int32} {f : List Int32} (h1 : s.1.length = 8) (h2 : nw.1.length = 8) (hs : s.2 = (mNf nw f).2) : mDraw nw b s = mNf (mDraw nw b nw) f := by
  unfold mDraw
  rw [mDk_k, mDk_k, kDk_all h1 h2, hs]
  rfl
section CLB
variable {d : Nat} {hp hp2 : am_H} {cB : Nat} {dr : am_Ci} {lt : am_Mo} {hs : am_Hs} {tm : Nat → am_Mo} {tk : am_Tk} {sp : List Int32} {tx : am_Tx} {ct : am_Ci} {nw : am_Mo} {pm : Nat → am_Mo} {pn ph : Nat} {km : Nat → am_Mo} {kc : Nat} {sH sL : List Int32} {sc i j n hr who : Nat} {x y z t b : Int32}
theorem s_power : am_E d 85 0 [some (.int b), some (.int t), none, none] [] hp = some (some (.int (aPow b t)), hp) := by
  unfold aPow
  by_cases q : t < 0
  · have q0 : ¬ (0 : Int32) < t := fun w => Int32.lt_irrefl (Int32.lt_trans w q)
    have e0 : t.toNatClampNeg = 0 := by
      have := Int32.lt_iff_toInt_lt.mp q
      rw [show (0 : Int32).toInt = 0 from by decide] at this
      exact Int.toNat_of_nonpos (by omega)
    rw [e0]
    simp (disch := first | exact nl_int | exact nl_ref | exact nl_none | exact Nat.le_of_ble_eq_true rfl | assumption | exact cat_int | exact cat_ref | exact z2 | exact z4 | exact z3 | exact z5 | exact z6 | exact z8 | exact z64) only [e_85_0, e_85_1, e_85_2, e_85_3, e_85_5, e_85_6, e_85_9, e_85_10, e_85_11, e_85_12, e_85_13, e_85_16, e_85_19, e_85_20, nl_int, nl_ref, nl_none, cat_int, cat_ref, cat_0, cat_i, cat_r, cat_l, Option.elim_some, Option.elim_none, Option.bind_some, Option.bind_none, Option.toList_some, Option.toList_none, List.cons_append, List.nil_append, Nat.reduceAdd, Nat.reduceLeDiff]
    rw [e_85_4]
    simp (disch := first | exact nl_int | exact nl_ref | exact nl_none | exact Nat.le_of_ble_eq_true rfl | assumption | exact cat_int | exact cat_ref | exact z2 | exact z4 | exact z3 | exact z5 | exact z6 | exact z8 | exact z64) only [e_85_0, e_85_1, e_85_2, e_85_3, e_85_5, e_85_6, e_85_9, e_85_10, e_85_11, e_85_12, e_85_13, e_85_16, e_85_19, e_85_20, nl_int, nl_ref, nl_none, cat_int, cat_ref, cat_0, cat_i, cat_r, cat_l, Option.elim_some, Option.elim_none, Option.bind_some, Option.bind_none, Option.toList_some, Option.toList_none, List.cons_append, List.nil_append, Nat.reduceAdd, Nat.reduceLeDiff, if_neg q0]
    rfl
  · obtain ⟨n, hn, rfl⟩ := nI_of q
    rw [nI_clamp hn]
    have key := for_res (τ := Unit) (fun j s _ => am_E d 85 4 [some (.int b), some (.int (nI n)), some (.int s), some (.int (nI j))] [] hp) (fun _ _ => True) (fun _ s => s * b) n (fun s => some (some (.int s), hp)) (fun s _ _ => by
      try dsimp only
      rw [e_85_4]
      simp (disch := first | exact nl_int | exact nl_ref | exact nl_none | exact Nat.le_of_ble_eq_true rfl | assumption | exact cat_int | exact cat_ref | exact z2 | exact z4 | exact z3 | exact z5 | exact z6 | exact z8 | exact z64) only [e_85_0, e_85_1, e_85_2, e_85_3, e_85_5, e_85_6, e_85_9, e_85_10, e_85_11, e_85_12, e_85_13, e_85_16, e_85_19, e_85_20, nl_int, nl_ref, nl_none, cat_int, cat_ref, cat_0, cat_i, cat_r, cat_l, Option.elim_some, Option.elim_none, Option.bind_some, Option.bind_none, Option.toList_some, Option.toList_none, List.cons_append, List.nil_append, Nat.reduceAdd, Nat.reduceLeDiff, ltF (x := nI n) (c := n) rfl (Nat.le_refl n) hn, if_false]) (fun j s _ hj _ => ⟨trivial, (), by
      try dsimp only
      rw [e_85_4]
      simp (disch := first | exact nl_int | exact nl_ref | exact nl_none | exact Nat.le_of_ble_eq_true rfl | assumption | exact cat_int | exact cat_ref | exact z2 | exact z4 | exact z3 | exact z5 | exact z6 | exact z8 | exact z64) only [e_85_0, e_85_1, e_85_2, e_85_3, e_85_5, e_85_6, e_85_9, e_85_10, e_85_11, e_85_12, e_85_13, e_85_16, e_85_19, e_85_20, nl_int, nl_ref, nl_none, cat_int, cat_ref, cat_0, cat_i, cat_r, cat_l, Option.elim_some, Option.elim_none, Option.bind_some, Option.bind_none, Option.toList_some, Option.toList_none, List.cons_append, List.nil_append, Nat.reduceAdd, Nat.reduceLeDiff, ltT (x := nI n) (c := n) rfl hj hn, if_true, nI_1]⟩) n 0 1 () (Nat.zero_add n) trivial
    simp (disch := first | exact nl_int | exact nl_ref | exact nl_none | exact Nat.le_of_ble_eq_true rfl | assumption | exact cat_int | exact cat_ref | exact z2 | exact z4 | exact z3 | exact z5 | exact z6 | exact z8 | exact z64) only [e_85_0, e_85_1, e_85_2, e_85_3, e_85_5, e_85_6, e_85_9, e_85_10, e_85_11, e_85_12, e_85_13, e_85_16, e_85_19, e_85_20, nl_int, nl_ref, nl_none, cat_int, cat_ref, cat_0, cat_i, cat_r, cat_l, Option.elim_some, Option.elim_none, Option.bind_some, Option.bind_none, Option.toList_some, Option.toList_none, List.cons_append, List.nil_append, Nat.reduceAdd, Nat.reduceLeDiff]
    exact key
theorem s_lowest : am_E d 86 0 [some (.int x), some (.int y), some (.int z), none, none, none] [] hp = some (some (.int (if z = 0 then (aLow (x, y)).1 else (aLow (x, y)).2)), hp) := by
  have key := for_res (τ := Unit) (fun j (p : Int32 × Int32) _ => am_E d 86 8 [some (.int x), some (.int y), some (.int z), some (.int p.1), some (.int p.2), some (.int (nI j))] [] hp) (fun _ _ => True) (fun _ p => aL2 5 (aL2 2 p)) 8 (fun p => some (some (.int (if z = 0 then p.1 else p.2)), hp)) (fun p _ _ => by
    try dsimp only
    rw [e_86_8]
    simp (disch := first | exact nl_int | exact nl_ref | exact nl_none | exact Nat.le_of_ble_eq_true rfl | assumption | exact cat_int | exact cat_ref | exact z2 | exact z4 | exact z3 | exact z5 | exact z6 | exact z8 | exact z64) only [e_86_0, e_86_1, e_86_2, e_86_3, e_86_5, e_86_6, e_86_10, e_86_12, e_86_15, e_86_16, e_86_17, e_86_18, e_86_21, e_86_23, e_86_24, e_86_25, e_86_28, e_86_29, e_86_30, e_86_31, e_86_32, e_86_34, e_86_35, e_86_36, e_86_38, e_86_39, e_86_40, e_86_41, e_86_44, e_86_46, e_86_47, e_86_48, e_86_51, e_86_52, e_86_53, e_86_54, e_86_55, e_86_57, e_86_58, e_86_59, e_86_61, e_86_64, e_86_67, e_86_68, e_86_71, e_86_72, e_86_75, e_86_77, nl_int, nl_ref, nl_none, cat_int, cat_ref, cat_0, cat_i, cat_r, cat_l, Option.elim_some, Option.elim_none, Option.bind_some, Option.bind_none, Option.toList_some, Option.toList_none, List.cons_append, List.nil_append, Nat.reduceAdd, Nat.reduceLeDiff, ltF (x := 8) (c := 8) rfl (Nat.le_refl 8) (by decide), if_false]
    split <;> rfl) (fun j p _ hj _ => ⟨trivial, (), by
    try dsimp only
    have five : ∀ p : Int32 × Int32, am_E d 86 38 [some (.int x), some (.int y), some (.int z), some (.int p.1), some (.int p.2), some (.int (nI j))] [] hp = am_E d 86 8 [some (.int x), some (.int y), some (.int z), some (.int (aL2 5 p).1), some (.int (aL2 5 p).2), some (.int (nI (j + 1)))] [] hp := fun p => by
      unfold aL2
      by_cases r1 : p.1 - p.1 / 5 * 5 = 0
      · by_cases r2 : p.2 - p.2 / 5 * 5 = 0
        · simp (disch := first | exact nl_int | exact nl_ref | exact nl_none | exact Nat.le_of_ble_eq_true rfl | assumption | exact cat_int | exact cat_ref | exact z2 | exact z4 | exact z3 | exact z5 | exact z6 | exact z8 | exact z64) only [e_86_0, e_86_1, e_86_2, e_86_3, e_86_5, e_86_6, e_86_10, e_86_12, e_86_15, e_86_16, e_86_17, e_86_18, e_86_21, e_86_23, e_86_24, e_86_25, e_86_28, e_86_29, e_86_30, e_86_31, e_86_32, e_86_34, e_86_35, e_86_36, e_86_38, e_86_39, e_86_40, e_86_41, e_86_44, e_86_46, e_86_47, e_86_48, e_86_51, e_86_52, e_86_53, e_86_54, e_86_55, e_86_57, e_86_58, e_86_59, e_86_61, e_86_64, e_86_67, e_86_68, e_86_71, e_86_72, e_86_75, e_86_77, nl_int, nl_ref, nl_none, cat_int, cat_ref, cat_0, cat_i, cat_r, cat_l, Option.elim_some, Option.elim_none, Option.bind_some, Option.bind_none, Option.toList_some, Option.toList_none, List.cons_append, List.nil_append, Nat.reduceAdd, Nat.reduceLeDiff, if_pos r1, if_pos r2, nI_1]
        · simp (disch := first | exact nl_int | exact nl_ref | exact nl_none | exact Nat.le_of_ble_eq_true rfl | assumption | exact cat_int | exact cat_ref | exact z2 | exact z4 | exact z3 | exact z5 | exact z6 | exact z8 | exact z64) only [e_86_0, e_86_1, e_86_2, e_86_3, e_86_5, e_86_6, e_86_10, e_86_12, e_86_15, e_86_16, e_86_17, e_86_18, e_86_21, e_86_23, e_86_24, e_86_25, e_86_28, e_86_29, e_86_30, e_86_31, e_86_32, e_86_34, e_86_35, e_86_36, e_86_38, e_86_39, e_86_40, e_86_41, e_86_44, e_86_46, e_86_47, e_86_48, e_86_51, e_86_52, e_86_53, e_86_54, e_86_55, e_86_57, e_86_58, e_86_59, e_86_61, e_86_64, e_86_67, e_86_68, e_86_71, e_86_72, e_86_75, e_86_77, nl_int, nl_ref, nl_none, cat_int, cat_ref, cat_0, cat_i, cat_r, cat_l, Option.elim_some, Option.elim_none, Option.bind_some, Option.bind_none, Option.toList_some, Option.toList_none, List.cons_append, List.nil_append, Nat.reduceAdd, Nat.reduceLeDiff, if_pos r1, if_neg r2, nI_1]
      · simp (disch := first | exact nl_int | exact nl_ref | exact nl_none | exact Nat.le_of_ble_eq_true rfl | assumption | exact cat_int | exact cat_ref | exact z2 | exact z4 | exact z3 | exact z5 | exact z6 | exact z8 | exact z64) only [e_86_0, e_86_1, e_86_2, e_86_3, e_86_5, e_86_6, e_86_10, e_86_12, e_86_15, e_86_16, e_86_17, e_86_18, e_86_21, e_86_23, e_86_24, e_86_25, e_86_28, e_86_29, e_86_30, e_86_31, e_86_32, e_86_34, e_86_35, e_86_36, e_86_38, e_86_39, e_86_40, e_86_41, e_86_44, e_86_46, e_86_47, e_86_48, e_86_51, e_86_52, e_86_53, e_86_54, e_86_55, e_86_57, e_86_58, e_86_59, e_86_61, e_86_64, e_86_67, e_86_68, e_86_71, e_86_72, e_86_75, e_86_77, nl_int, nl_ref, nl_none, cat_int, cat_ref, cat_0, cat_i, cat_r, cat_l, Option.elim_some, Option.elim_none, Option.bind_some, Option.bind_none, Option.toList_some, Option.toList_none, List.cons_append, List.nil_append, Nat.reduceAdd, Nat.reduceLeDiff, if_neg r1, nI_1]
    rw [← five (aL2 2 p), e_86_8]
    unfold aL2
    by_cases r1 : p.1 - p.1 / 2 * 2 = 0
    · by_cases r2 : p.2 - p.2 / 2 * 2 = 0
      · simp (disch := first | exact nl_int | exact nl_ref | exact nl_none | exact Nat.le_of_ble_eq_true rfl | assumption | exact cat_int | exact cat_ref | exact z2 | exact z4 | exact z3 | exact z5 | exact z6 | exact z8 | exact z64) only [e_86_0, e_86_1, e_86_2, e_86_3, e_86_5, e_86_6, e_86_10, e_86_12, e_86_15, e_86_16, e_86_17, e_86_18, e_86_21, e_86_23, e_86_24, e_86_25, e_86_28, e_86_29, e_86_30, e_86_31, e_86_32, e_86_34, e_86_35, e_86_36, e_86_39, e_86_40, e_86_41, e_86_44, e_86_46, e_86_47, e_86_48, e_86_51, e_86_52, e_86_53, e_86_54, e_86_55, e_86_57, e_86_58, e_86_59, e_86_61, e_86_64, e_86_67, e_86_68, e_86_71, e_86_72, e_86_75, e_86_77, nl_int, nl_ref, nl_none, cat_int, cat_ref, cat_0, cat_i, cat_r, cat_l, Option.elim_some, Option.elim_none, Option.bind_some, Option.bind_none, Option.toList_some, Option.toList_none, List.cons_append, List.nil_append, Nat.reduceAdd, Nat.reduceLeDiff, ltT (x := 8) (c := 8) rfl hj (by decide), if_true, if_pos r1, if_pos r2]
      · simp (disch := first | exact nl_int | exact nl_ref | exact nl_none | exact Nat.le_of_ble_eq_true rfl | assumption | exact cat_int | exact cat_ref | exact z2 | exact z4 | exact z3 | exact z5 | exact z6 | exact z8 | exact z64) only [e_86_0, e_86_1, e_86_2, e_86_3, e_86_5, e_86_6, e_86_10, e_86_12, e_86_15, e_86_16, e_86_17, e_86_18, e_86_21, e_86_23, e_86_24, e_86_25, e_86_28, e_86_29, e_86_30, e_86_31, e_86_32, e_86_34, e_86_35, e_86_36, e_86_39, e_86_40, e_86_41, e_86_44, e_86_46, e_86_47, e_86_48, e_86_51, e_86_52, e_86_53, e_86_54, e_86_55, e_86_57, e_86_58, e_86_59, e_86_61, e_86_64, e_86_67, e_86_68, e_86_71, e_86_72, e_86_75, e_86_77, nl_int, nl_ref, nl_none, cat_int, cat_ref, cat_0, cat_i, cat_r, cat_l, Option.elim_some, Option.elim_none, Option.bind_some, Option.bind_none, Option.toList_some, Option.toList_none, List.cons_append, List.nil_append, Nat.reduceAdd, Nat.reduceLeDiff, ltT (x := 8) (c := 8) rfl hj (by decide), if_true, if_pos r1, if_neg r2]
    · simp (disch := first | exact nl_int | exact nl_ref | exact nl_none | exact Nat.le_of_ble_eq_true rfl | assumption | exact cat_int | exact cat_ref | exact z2 | exact z4 | exact z3 | exact z5 | exact z6 | exact z8 | exact z64) only [e_86_0, e_86_1, e_86_2, e_86_3, e_86_5, e_86_6, e_86_10, e_86_12, e_86_15, e_86_16, e_86_17, e_86_18, e_86_21, e_86_23, e_86_24, e_86_25, e_86_28, e_86_29, e_86_30, e_86_31, e_86_32, e_86_34, e_86_35, e_86_36, e_86_39, e_86_40, e_86_41, e_86_44, e_86_46, e_86_47, e_86_48, e_86_51, e_86_52, e_86_53, e_86_54, e_86_55, e_86_57, e_86_58, e_86_59, e_86_61, e_86_64, e_86_67, e_86_68, e_86_71, e_86_72, e_86_75, e_86_77, nl_int, nl_ref, nl_none, cat_int, cat_ref, cat_0, cat_i, cat_r, cat_l, Option.elim_some, Option.elim_none, Option.bind_some, Option.bind_none, Option.toList_some, Option.toList_none, List.cons_append, List.nil_append, Nat.reduceAdd, Nat.reduceLeDiff, ltT (x := 8) (c := 8) rfl hj (by decide), if_true, if_neg r1]⟩) 8 0 (x, y) () rfl trivial
  simp (disch := first | exact nl_int | exact nl_ref | exact nl_none | exact Nat.le_of_ble_eq_true rfl | assumption | exact cat_int | exact cat_ref | exact z2 | exact z4 | exact z3 | exact z5 | exact z6 | exact z8 | exact z64) only [e_86_0, e_86_1, e_86_2, e_86_3, e_86_5, e_86_6, e_86_10, e_86_12, e_86_15, e_86_16, e_86_17, e_86_18, e_86_21, e_86_23, e_86_24, e_86_25, e_86_28, e_86_29, e_86_30, e_86_31, e_86_32, e_86_34, e_86_35, e_86_36, e_86_38, e_86_39, e_86_40, e_86_41, e_86_44, e_86_46, e_86_47, e_86_48, e_86_51, e_86_52, e_86_53, e_86_54, e_86_55, e_86_57, e_86_58, e_86_59, e_86_61, e_86_64, e_86_67, e_86_68, e_86_71, e_86_72, e_86_75, e_86_77, nl_int, nl_ref, nl_none, cat_int, cat_ref, cat_0, cat_i, cat_r, cat_l, Option.elim_some, Option.elim_none, Option.bind_some, Option.bind_none, Option.toList_some, Option.toList_none, List.cons_append, List.nil_append, Nat.reduceAdd, Nat.reduceLeDiff]
  exact key
theorem s_chances (h : St1 hp cB dr lt hs tm tk sp tx ct nw pm pn ph km kc sH sL sc) (hh : nw.2.2.2.2.2.1 = nI hr) (hl : hr < 2 ^ 31) : ∃ s2, mOK s2 ∧ am_E (d + 2) 84 0 [some (.ref 0), some (.int y), some (.int x), none, none, none, none, none, none] [] hp = some (some (.int (aChs nw y x (cTalk ct nw hr))), wM hp 30 s2) := by
  have hc1 := h.qn.c
  have hc2 := h.qc.cl
  have hc3 := h.ql.c
  obtain ⟨e, h1⟩ := St1_cpL (d := d + 1) h
  obtain ⟨res, er⟩ : ∃ r, r = mRes nw y := ⟨_, rfl⟩
  obtain ⟨tt, et⟩ : ∃ r, r = cTalk ct nw hr := ⟨_, rfl⟩
  have key : ∀ n j c s l8, j + n = 256 → mOK s → s.2 = (mNf nw lt.2.2.2.2.1).2 → ∃ s2, mOK s2 ∧ am_E (d + 2) 84 45 [some (.ref 0), some (.int y), some (.int x), some (.int res), some (.int (bitc res)), some (.int tt), some (.int c), some (.int (nI j)), l8] [] (wM hp 30 s) = some (some (.int (am_for (aCh nw y x tt res (bitc res)) j n c)), wM hp 30 s2) := by
    intro n
    induction n with
    | zero =>
      intro j c s l8 hj hs _
      refine ⟨s, hs, ?_⟩
      rw [e_84_45]
      simp (disch := first | exact nl_int | exact nl_ref | exact nl_none | exact Nat.le_of_ble_eq_true rfl | assumption | exact cat_int | exact cat_ref | exact z2 | exact z4 | exact z3 | exact z5 | exact z6 | exact z8 | exact z64) only [e_84_0, e_84_1, e_84_4, e_84_5, e_84_8, e_84_9, e_84_10, e_84_13, e_84_15, e_84_16, e_84_19, e_84_20, e_84_23, e_84_26, e_84_28, e_84_29, e_84_31, e_84_32, e_84_35, e_84_36, e_84_39, e_84_42, e_84_43, e_84_47, e_84_50, e_84_53, e_84_55, e_84_56, e_84_57, e_84_58, e_84_59, e_84_62, e_84_63, e_84_66, e_84_67, e_84_70, e_84_72, e_84_75, e_84_76, e_84_79, e_84_80, e_84_82, e_84_85, e_84_88, e_84_90, e_84_93, e_84_95, e_84_97, e_84_98, e_84_100, e_84_103, e_84_105, e_84_106, e_84_107, e_84_109, e_84_111, e_84_112, e_84_115, e_84_116, e_84_117, e_84_119, e_84_122, e_84_125, e_84_127, nl_int, nl_ref, nl_none, cat_int, cat_ref, cat_0, cat_i, cat_r, cat_l, Option.elim_some, Option.elim_none, Option.bind_some, Option.bind_none, Option.toList_some, Option.toList_none, List.cons_append, List.nil_append, Nat.reduceAdd, Nat.reduceLeDiff, ltF (x := 256) (c := 256) rfl (show 256 ≤ j by omega) (by omega), if_false]
      rfl
    | succ n ih =>
      intro j c s l8 hj hs hsm
      have g := St1_wl h hs
      have hg := g.ql.c
      have ed := mDraw_sim (b := nI j) hs.1 h.qn.ok.1 hsm
      have o2 : mOK (mDraw nw (nI j) s) := mDraw_ok hs
      have g2 := St1_wl h o2
      have hg2 := g2.ql.c
      have dk := s_drawKinds (d := d + 1) (k := 30) (k2 := 24) (hp := hp) (m := s) (told := nw) (b := nI j) h.ql.len hs h.qn (by omega)
      have sm := s_hasSmoke (d := d) (x := y) (t := tt) g2.ql
      have em : mSmoke (mDraw nw (nI j) s) y tt = mSmoke (mDraw nw (nI j) nw) y tt := by rw [ed]; exact mSm1_nf 8 0
      rw [em] at sm
      have hs2 : (mDraw nw (nI j) s).2 = (mNf nw lt.2.2.2.2.1).2 := by unfold mDraw; rw [mDk_k]; exact hsm
      rw [e_84_45, am_for]
      have a1 := ltT (x := 256) (c := 256) rfl (show j < 256 by omega) (by decide)
      by_cases r1 : nI j &&& (res ^^^ -1) = 0
      · cases r2 : mSmoke (mDraw nw (nI j) nw) y tt with
        | false =>
          rw [r2, b2_f] at sm
          obtain ⟨s2, o3, e3⟩ := ih (j + 1) c _ l8 (by omega) o2 hs2
          refine ⟨s2, o3, ?_⟩
          have ec : aCh nw y x tt res (bitc res) j c = c := by unfold aCh; rw [if_pos r1, r2]; rfl
          rw [ec]
          simp (disch := first | exact nl_int | exact nl_ref | exact nl_none | exact Nat.le_of_ble_eq_true rfl | assumption | exact cat_int | exact cat_ref | exact z2 | exact z4 | exact z3 | exact z5 | exact z6 | exact z8 | exact z64) only [e_84_0, e_84_1, e_84_4, e_84_5, e_84_8, e_84_9, e_84_10, e_84_13, e_84_15, e_84_16, e_84_19, e_84_20, e_84_23, e_84_26, e_84_28, e_84_29, e_84_31, e_84_32, e_84_35, e_84_36, e_84_39, e_84_42, e_84_43, e_84_47, e_84_50, e_84_53, e_84_55, e_84_56, e_84_57, e_84_58, e_84_59, e_84_62, e_84_63, e_84_66, e_84_67, e_84_70, e_84_72, e_84_75, e_84_76, e_84_79, e_84_80, e_84_82, e_84_85, e_84_88, e_84_90, e_84_93, e_84_95, e_84_97, e_84_98, e_84_100, e_84_103, e_84_105, e_84_106, e_84_107, e_84_109, e_84_111, e_84_112, e_84_115, e_84_116, e_84_117, e_84_119, e_84_122, e_84_125, e_84_127, nl_int, nl_ref, nl_none, cat_int, cat_ref, cat_0, cat_i, cat_r, cat_l, Option.elim_some, Option.elim_none, Option.bind_some, Option.bind_none, Option.toList_some, Option.toList_none, List.cons_append, List.nil_append, Nat.reduceAdd, Nat.reduceLeDiff, a1, if_true, if_pos r1, g.f4, g.f3, dk, g2.f4, sm, z0, nI_1, e3]
        | true =>
          rw [r2, b2_t] at sm
          obtain ⟨s2, o3, e3⟩ := ih (j + 1) (c + aPow x (bitc (nI j)) * aPow (10 - x) (bitc res - bitc (nI j))) _ (some (.int (bitc (nI j)))) (by omega) o2 hs2
          refine ⟨s2, o3, ?_⟩
          have ec : aCh nw y x tt res (bitc res) j c = c + aPow x (bitc (nI j)) * aPow (10 - x) (bitc res - bitc (nI j)) := by unfold aCh; rw [if_pos r1, r2]; rfl
          rw [ec]
          simp (disch := first | exact nl_int | exact nl_ref | exact nl_none | exact Nat.le_of_ble_eq_true rfl | assumption | exact cat_int | exact cat_ref | exact z2 | exact z4 | exact z3 | exact z5 | exact z6 | exact z8 | exact z64) only [e_84_0, e_84_1, e_84_4, e_84_5, e_84_8, e_84_9, e_84_10, e_84_13, e_84_15, e_84_16, e_84_19, e_84_20, e_84_23, e_84_26, e_84_28, e_84_29, e_84_31, e_84_32, e_84_35, e_84_36, e_84_39, e_84_42, e_84_43, e_84_47, e_84_50, e_84_53, e_84_55, e_84_56, e_84_57, e_84_58, e_84_59, e_84_62, e_84_63, e_84_66, e_84_67, e_84_70, e_84_72, e_84_75, e_84_76, e_84_79, e_84_80, e_84_82, e_84_85, e_84_88, e_84_90, e_84_93, e_84_95, e_84_97, e_84_98, e_84_100, e_84_103, e_84_105, e_84_106, e_84_107, e_84_109, e_84_111, e_84_112, e_84_115, e_84_116, e_84_117, e_84_119, e_84_122, e_84_125, e_84_127, nl_int, nl_ref, nl_none, cat_int, cat_ref, cat_0, cat_i, cat_r, cat_l, Option.elim_some, Option.elim_none, Option.bind_some, Option.bind_none, Option.toList_some, Option.toList_none, List.cons_append, List.nil_append, Nat.reduceAdd, Nat.reduceLeDiff, a1, if_true, if_pos r1, g.f4, g.f3, dk, g2.f4, sm, z1, if_false, s_bitCount, s_power, nI_1, e3]
      · obtain ⟨s2, o3, e3⟩ := ih (j + 1) c s l8 (by omega) hs hsm
        refine ⟨s2, o3, ?_⟩
        have ec : aCh nw y x tt res (bitc res) j c = c := by unfold aCh; rw [if_neg r1]
        rw [ec]
        simp (disch := first | exact nl_int | exact nl_ref | exact nl_none | exact Nat.le_of_ble_eq_true rfl | assumption | exact cat_int | exact cat_ref | exact z2 | exact z4 | exact z3 | exact z5 | exact z6 | exact z8 | exact z64) only [e_84_0, e_84_1, e_84_4, e_84_5, e_84_8, e_84_9, e_84_10, e_84_13, e_84_15, e_84_16, e_84_19, e_84_20, e_84_23, e_84_26, e_84_28, e_84_29, e_84_31, e_84_32, e_84_35, e_84_36, e_84_39, e_84_42, e_84_43, e_84_47, e_84_50, e_84_53, e_84_55, e_84_56, e_84_57, e_84_58, e_84_59, e_84_62, e_84_63, e_84_66, e_84_67, e_84_70, e_84_72, e_84_75, e_84_76, e_84_79, e_84_80, e_84_82, e_84_85, e_84_88, e_84_90, e_84_93, e_84_95, e_84_97, e_84_98, e_84_100, e_84_103, e_84_105, e_84_106, e_84_107, e_84_109, e_84_111, e_84_112, e_84_115, e_84_116, e_84_117, e_84_119, e_84_122, e_84_125, e_84_127, nl_int, nl_ref, nl_none, cat_int, cat_ref, cat_0, cat_i, cat_r, cat_l, Option.elim_some, Option.elim_none, Option.bind_some, Option.bind_none, Option.toList_some, Option.toList_none, List.cons_append, List.nil_append, Nat.reduceAdd, Nat.reduceLeDiff, a1, if_true, if_neg r1, nI_1, e3]
  obtain ⟨s2, o2, e2⟩ := key 256 0 0 (mCopy lt nw) none rfl h1.ql.ok rfl
  refine ⟨s2, o2, ?_⟩
  unfold aChs
  rw [← er, ← et]
  simp (disch := first | exact nl_int | exact nl_ref | exact nl_none | exact Nat.le_of_ble_eq_true rfl | assumption | exact cat_int | exact cat_ref | exact z2 | exact z4 | exact z3 | exact z5 | exact z6 | exact z8 | exact z64) only [e_84_0, e_84_1, e_84_4, e_84_5, e_84_8, e_84_9, e_84_10, e_84_13, e_84_15, e_84_16, e_84_19, e_84_20, e_84_23, e_84_26, e_84_28, e_84_29, e_84_31, e_84_32, e_84_35, e_84_36, e_84_39, e_84_42, e_84_43, e_84_47, e_84_50, e_84_53, e_84_55, e_84_56, e_84_57, e_84_58, e_84_59, e_84_62, e_84_63, e_84_66, e_84_67, e_84_70, e_84_72, e_84_75, e_84_76, e_84_79, e_84_80, e_84_82, e_84_85, e_84_88, e_84_90, e_84_93, e_84_95, e_84_97, e_84_98, e_84_100, e_84_103, e_84_105, e_84_106, e_84_107, e_84_109, e_84_111, e_84_112, e_84_115, e_84_116, e_84_117, e_84_119, e_84_122, e_84_125, e_84_127, nl_int, nl_ref, nl_none, cat_int, cat_ref, cat_0, cat_i, cat_r, cat_l, Option.elim_some, Option.elim_none, Option.bind_some, Option.bind_none, Option.toList_some, Option.toList_none, List.cons_append, List.nil_append, Nat.reduceAdd, Nat.reduceLeDiff, h.f3, h.f1, h.f4, s_residentsOf h.qn, ← er, s_bitCount, s_talkedOf h.qc h.qn hh hl, ← et, e]
  exact e2
theorem s_falseBy0 (hS : St hp tx ct nw pm pn ph km kc sH sL sc) (q : inR y (cHs ct) = false ∨ x < 0 ∨ 10 < x ∨ z < 0 ∨ 1 < z) : am_E (d + 12) 70 0 [some (.ref 0), some (.int y), some (.int x), some (.int z), none, none] [] hp = some (some (.int (-1)), hp) := by
  obtain ⟨cB, dr, lt, hs, tm, tk, sp, h⟩ := hS
  have hcl := h.cl
  by_cases q0 : inR y (cHs ct) = false
  · simp (disch := first | exact nl_int | exact nl_ref | exact nl_none | exact Nat.le_of_ble_eq_true rfl | assumption | exact cat_int | exact cat_ref | exact z2 | exact z4 | exact z3 | exact z5 | exact z6 | exact z8 | exact z64) only [e_70_0, e_70_1, e_70_2, e_70_5, e_70_8, e_70_9, e_70_12, e_70_13, e_70_15, e_70_18, e_70_19, e_70_22, e_70_23, e_70_24, e_70_27, e_70_28, e_70_29, e_70_30, e_70_31, e_70_32, e_70_35, e_70_37, e_70_39, e_70_40, e_70_43, e_70_44, e_70_47, e_70_50, e_70_53, e_70_55, e_70_57, e_70_59, e_70_60, e_70_63, nl_int, nl_ref, nl_none, cat_int, cat_ref, cat_0, cat_i, cat_r, cat_l, Option.elim_some, Option.elim_none, Option.bind_some, Option.bind_none, Option.toList_some, Option.toList_none, List.cons_append, List.nil_append, Nat.reduceAdd, Nat.reduceLeDiff, s_isHouse h, q0, b2_f, z0, if_true]
  · by_cases q1 : x < 0
    · simp (disch := first | exact nl_int | exact nl_ref | exact nl_none | exact Nat.le_of_ble_eq_true rfl | assumption | exact cat_int | exact cat_ref | exact z2 | exact z4 | exact z3 | exact z5 | exact z6 | exact z8 | exact z64) only [e_70_0, e_70_1, e_70_2, e_70_5, e_70_8, e_70_9, e_70_12, e_70_13, e_70_15, e_70_18, e_70_19, e_70_22, e_70_23, e_70_24, e_70_27, e_70_28, e_70_29, e_70_30, e_70_31, e_70_32, e_70_35, e_70_37, e_70_39, e_70_40, e_70_43, e_70_44, e_70_47, e_70_50, e_70_53, e_70_55, e_70_57, e_70_59, e_70_60, e_70_63, nl_int, nl_ref, nl_none, cat_int, cat_ref, cat_0, cat_i, cat_r, cat_l, Option.elim_some, Option.elim_none, Option.bind_some, Option.bind_none, Option.toList_some, Option.toList_none, List.cons_append, List.nil_append, Nat.reduceAdd, Nat.reduceLeDiff, s_isHouse h, inR_f q0, b2_t, z1, if_false, if_pos q1]
    · by_cases q2 : 10 < x
      · simp (disch := first | exact nl_int | exact nl_ref | exact nl_none | exact Nat.le_of_ble_eq_true rfl | assumption | exact cat_int | exact cat_ref | exact z2 | exact z4 | exact z3 | exact z5 | exact z6 | exact z8 | exact z64) only [e_70_0, e_70_1, e_70_2, e_70_5, e_70_8, e_70_9, e_70_12, e_70_13, e_70_15, e_70_18, e_70_19, e_70_22, e_70_23, e_70_24, e_70_27, e_70_28, e_70_29, e_70_30, e_70_31, e_70_32, e_70_35, e_70_37, e_70_39, e_70_40, e_70_43, e_70_44, e_70_47, e_70_50, e_70_53, e_70_55, e_70_57, e_70_59, e_70_60, e_70_63, nl_int, nl_ref, nl_none, cat_int, cat_ref, cat_0, cat_i, cat_r, cat_l, Option.elim_some, Option.elim_none, Option.bind_some, Option.bind_none, Option.toList_some, Option.toList_none, List.cons_append, List.nil_append, Nat.reduceAdd, Nat.reduceLeDiff, s_isHouse h, inR_f q0, b2_t, z1, if_false, if_neg q1, if_pos q2]
      · by_cases q3 : z < 0
        · simp (disch := first | exact nl_int | exact nl_ref | exact nl_none | exact Nat.le_of_ble_eq_true rfl | assumption | exact cat_int | exact cat_ref | exact z2 | exact z4 | exact z3 | exact z5 | exact z6 | exact z8 | exact z64) only [e_70_0, e_70_1, e_70_2, e_70_5, e_70_8, e_70_9, e_70_12, e_70_13, e_70_15, e_70_18, e_70_19, e_70_22, e_70_23, e_70_24, e_70_27, e_70_28, e_70_29, e_70_30, e_70_31, e_70_32, e_70_35, e_70_37, e_70_39, e_70_40, e_70_43, e_70_44, e_70_47, e_70_50, e_70_53, e_70_55, e_70_57, e_70_59, e_70_60, e_70_63, nl_int, nl_ref, nl_none, cat_int, cat_ref, cat_0, cat_i, cat_r, cat_l, Option.elim_some, Option.elim_none, Option.bind_some, Option.bind_none, Option.toList_some, Option.toList_none, List.cons_append, List.nil_append, Nat.reduceAdd, Nat.reduceLeDiff, s_isHouse h, inR_f q0, b2_t, z1, if_false, if_neg q1, if_neg q2, if_pos q3]
        · have q4 : 1 < z := (((q.resolve_left q0).resolve_left q1).resolve_left q2).resolve_left q3
          simp (disch := first | exact nl_int | exact nl_ref | exact nl_none | exact Nat.le_of_ble_eq_true rfl | assumption | exact cat_int | exact cat_ref | exact z2 | exact z4 | exact z3 | exact z5 | exact z6 | exact z8 | exact z64) only [e_70_0, e_70_1, e_70_2, e_70_5, e_70_8, e_70_9, e_70_12, e_70_13, e_70_15, e_70_18, e_70_19, e_70_22, e_70_23, e_70_24, e_70_27, e_70_28, e_70_29, e_70_30, e_70_31, e_70_32, e_70_35, e_70_37, e_70_39, e_70_40, e_70_43, e_70_44, e_70_47, e_70_50, e_70_53, e_70_55, e_70_57, e_70_59, e_70_60, e_70_63, nl_int, nl_ref, nl_none, cat_int, cat_ref, cat_0, cat_i, cat_r, cat_l, Option.elim_some, Option.elim_none, Option.bind_some, Option.bind_none, Option.toList_some, Option.toList_none, List.cons_append, List.nil_append, Nat.reduceAdd, Nat.reduceLeDiff, s_isHouse h, inR_f q0, b2_t, z1, if_false, if_neg q1, if_neg q2, if_neg q3, if_pos q4]
theorem s_falseBy1 (hS : St hp tx ct nw pm pn ph km kc sH sL sc) (hh : nw.2.2.2.2.2.1 = nI hr) (hl : hr < 2 ^ 31) (q0 : inR y (cHs ct) = true) (q1 : ¬ x < 0) (q2 : ¬ 10 < x) (q3 : ¬ z < 0) (q4 : ¬ 1 < z) : Run d 70 [some (.ref 0), some (.int y), some (.int x), some (.int z), none, none] hp (if z = 0 then (aLow (aChs nw y x (cTalk ct nw hr), aPow 10 (bitc (mRes nw y)))).1 else (aLow (aChs nw y x (cTalk ct nw hr), aPow 10 (bitc (mRes nw y)))).2) (fun h => St h tx ct nw pm pn ph km kc sH sL sc) := by
  obtain ⟨cB, dr, lt, hs, tm, tk, sp, h⟩ := hS
  have hcl := h.cl
  obtain ⟨s2, o2, e2⟩ := s_chances (d := d + 9) (y := y) (x := x) h hh hl
  have g := St1_wl h o2
  have hg := g.qn.c
  refine ⟨_, ?_, ⟨_, _, _, _, _, _, _, g⟩, Fr_wM (by omega)⟩
  simp (disch := first | exact nl_int | exact nl_ref | exact nl_none | exact Nat.le_of_ble_eq_true rfl | assumption | exact cat_int | exact cat_ref | exact z2 | exact z4 | exact z3 | exact z5 | exact z6 | exact z8 | exact z64) only [e_70_0, e_70_1, e_70_2, e_70_5, e_70_8, e_70_9, e_70_12, e_70_13, e_70_15, e_70_18, e_70_19, e_70_22, e_70_23, e_70_24, e_70_27, e_70_28, e_70_29, e_70_30, e_70_31, e_70_32, e_70_35, e_70_37, e_70_39, e_70_40, e_70_43, e_70_44, e_70_47, e_70_50, e_70_53, e_70_55, e_70_57, e_70_59, e_70_60, e_70_63, nl_int, nl_ref, nl_none, cat_int, cat_ref, cat_0, cat_i, cat_r, cat_l, Option.elim_some, Option.elim_none, Option.bind_some, Option.bind_none, Option.toList_some, Option.toList_none, List.cons_append, List.nil_append, Nat.reduceAdd, Nat.reduceLeDiff, s_isHouse h, q0, b2_t, z1, if_false, if_neg q1, if_neg q2, if_neg q3, if_neg q4, e2, g.f3, s_residentsOf g.qn, s_bitCount, s_power, s_lowest]
end CLB
