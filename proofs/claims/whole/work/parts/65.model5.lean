/-! THE REFERENCE: tempers and opinions, changed on both sides -/
def vT (m : am_Mo) (i : Nat) (y : Int32) : Int32 := imax 0 (imin 9 (mT m i + y))
theorem clampT {v : Int32} : imax 0 (imin 9 v) = if v < 0 then 0 else if 9 < v then 9 else v := by
  unfold imax imin
  by_cases q1 : v < 0
  · have q2 : v < 9 := Int32.lt_trans q1 (by decide)
    have q3 : ¬ 0 < v := fun w => Int32.lt_irrefl (Int32.lt_trans w q1)
    rw [if_pos q1, if_pos q2, if_neg q3]
  · rw [if_neg q1]
    obtain ⟨j, hj, rfl⟩ := nI_of q1
    by_cases q2 : 9 < nI j
    · have q3 : ¬ nI j < 9 := fun w => Int32.lt_irrefl (Int32.lt_trans w q2)
      rw [if_pos q2, if_neg q3, if_pos (by decide)]
    · rw [if_neg q2]
      by_cases q3 : nI j < 9
      · rw [if_pos q3]
        by_cases q4 : j = 0
        · subst q4; rfl
        · rw [if_pos (show (0 : Int32) < nI j from nI_lt (a := 0) (by omega) hj)]
      · rw [if_neg q3]
        have a1 : ¬ j < 9 := fun w => q3 (nI_lt (b := 9) w (by decide))
        have a2 : ¬ 9 < j := fun w => q2 (nI_lt (a := 9) w hj)
        obtain rfl : j = 9 := by omega
        rfl
theorem vT_nI {m : am_Mo} {i t : Nat} {y : Int32} (e : mT m i = nI t) (ht : t < 10) (hy : y = 1 ∨ y = -1) : ∃ t2, t2 < 10 ∧ vT m i y = nI t2 := by
  unfold vT
  rw [e]
  have tab : ∀ t, t < 10 → (∃ t2, t2 < 10 ∧ imax 0 (imin 9 (nI t + 1)) = nI t2) ∧ (∃ t2, t2 < 10 ∧ imax 0 (imin 9 (nI t + -1)) = nI t2) := by decide +kernel
  rcases hy with rfl | rfl
  · exact (tab t ht).1
  · exact (tab t ht).2
section MD5
variable {d : Nat} {hp hp2 : am_H} {I : Nat → Int32} {A : Nat → List Int32} {i j k n b p hr tt : Nat} {x y v : Int32} {B C : List Int32} {ct : am_Ci} {nw : am_Mo}
theorem mT_setT (h : mOK nw) (hi : i < 8) : mT (mSetT nw i v) k = if i = k then v else mT nw k := by
  unfold mT mSetT
  exact getD_set (by rw [h.2.2.1]; exact hi)
theorem mO_setO (h : mOK nw) (hi : i < 8) : mO (mSetO nw i v) k = if i = k then v else mO nw k := by
  unfold mO mSetO
  exact getD_set (by rw [h.2.1]; exact hi)
theorem Rl_T (hm : mOK nw) (hC : C.length = 27) (h8 : cPp ct ≤ 8) (hR : Rl ct nw hr B C) (hi : i < cPp ct) : Rl ct (mSetT nw i v) hr B (C.set (4 + 3 * i) v) := by
  obtain ⟨h1, h2, h3, h4, h5, h6⟩ := hR
  refine ⟨h1, h2, h3, h4, ⟨?_, ?_, ?_⟩, fun k hk => ⟨?_, ?_, ?_⟩⟩
  · rw [getD_set (by omega), if_neg (by omega)]; exact h5.1
  · rw [getD_set (by omega), if_neg (by omega)]; exact h5.2.1
  · rw [getD_set (by omega), if_neg (by omega)]; exact h5.2.2
  · rw [getD_set (by omega), if_neg (by omega)]; exact (h6 k hk).1
  · rw [getD_set (by omega), mT_setT hm (by omega)]
    by_cases e : i = k
    · rw [if_pos (by omega), if_pos e]
    · rw [if_neg (by omega), if_neg e]; exact (h6 k hk).2.1
  · rw [getD_set (by omega), if_neg (by omega)]; exact (h6 k hk).2.2
theorem Rl_O (hm : mOK nw) (hC : C.length = 27) (h8 : cPp ct ≤ 8) (hR : Rl ct nw hr B C) (hi : i < cPp ct) : Rl ct (mSetO nw i v) hr B (C.set (3 + 3 * i) v) := by
  obtain ⟨h1, h2, h3, h4, h5, h6⟩ := hR
  refine ⟨h1, h2, h3, h4, ⟨?_, ?_, ?_⟩, fun k hk => ⟨?_, ?_, ?_⟩⟩
  · rw [getD_set (by omega), if_neg (by omega)]; exact h5.1
  · rw [getD_set (by omega), if_neg (by omega)]; exact h5.2.1
  · rw [getD_set (by omega), if_neg (by omega)]; exact h5.2.2
  · rw [getD_set (by omega), mO_setO hm (by omega)]
    by_cases e : i = k
    · rw [if_pos (by omega), if_pos e]
    · rw [if_neg (by omega), if_neg e]; exact (h6 k hk).1
  · rw [getD_set (by omega), if_neg (by omega)]; exact (h6 k hk).2.1
  · rw [getD_set (by omega), if_neg (by omega)]; exact (h6 k hk).2.2
theorem Nm_T (hm : mOK nw) (hN : Nm ct nw) (hi : i < cPp ct) {t : Nat} (ht : t < 10) (e : v = nI t) : Nm ct (mSetT nw i v) := by
  refine ⟨fun k hk => ?_, hN.2⟩
  obtain ⟨o, t1, h, ho, ht1, hh, eo, et, eh⟩ := hN.1 k hk
  have h8 := hN.2.2.1
  by_cases q : i = k
  · exact ⟨o, t, h, ho, ht, hh, eo, by rw [mT_setT hm (by omega), if_pos q, e], eh⟩
  · exact ⟨o, t1, h, ho, ht1, hh, eo, by rw [mT_setT hm (by omega), if_neg q, et], eh⟩
theorem Nm_O (hm : mOK nw) (hN : Nm ct nw) (hi : i < cPp ct) {t : Nat} (ht : t < 32) (e : v = nI t) : Nm ct (mSetO nw i v) := by
  refine ⟨fun k hk => ?_, hN.2⟩
  obtain ⟨o, t1, h, ho, ht1, hh, eo, et, eh⟩ := hN.1 k hk
  have h8 := hN.2.2.1
  by_cases q : i = k
  · exact ⟨t, t1, h, ht, ht1, hh, by rw [mO_setO hm (by omega), if_pos q, e], et, eh⟩
  · exact ⟨o, t1, h, ho, ht1, hh, by rw [mO_setO hm (by omega), if_neg q, eo], et, eh⟩
theorem s7_angers (hl : 154 < hp.length) (hA : aOK A) (hR : Rl ct nw hr (A 0) (A 1)) (h8 : cPp ct ≤ 8) (hi : i < cPp ct) : am_E d 116 0 [some (.ref 141), some (.int (nI i)), some (.int y), none] [] (wD hp I A) = some (none, wD hp I (updA A 1 ((A 1).set (4 + 3 * i) (vT nw i y)))) := by
  have hC : (A 1).length = 27 := hA 1 (by decide)
  have e4 : 3 + 3 * i + 1 = 4 + 3 * i := by omega
  have l1 : am_ld (wD hp I A) 143 (nI (4 + 3 * i)) = some (mT nw i) := by rw [wD_l1 (k := 4 + 3 * i) rfl hl hA (by omega), (hR.2.2.2.2.2 i hi).2.1]
  have s1 := wD_s1 (I := I) (y := mT nw i + y) (k := 4 + 3 * i) rfl hl hA (show 4 + 3 * i < 27 by omega)
  have hA2 : aOK (updA A 1 ((A 1).set (4 + 3 * i) (mT nw i + y))) := updA_ok hA ((List.length_set).trans hC)
  have l2 : am_ld (wD hp I (updA A 1 ((A 1).set (4 + 3 * i) (mT nw i + y)))) 143 (nI (4 + 3 * i)) = some (mT nw i + y) := by
    rw [wD_l1 (k := 4 + 3 * i) rfl hl hA2 (by omega)]
    show some (((A 1).set (4 + 3 * i) (mT nw i + y)).getD (4 + 3 * i) 0) = _
    rw [getD_set (by omega), if_pos rfl]
  have s2 : ∀ z, am_sx (wD hp I (updA A 1 ((A 1).set (4 + 3 * i) (mT nw i + y)))) 143 (nI (4 + 3 * i)) z = some (wD hp I (updA A 1 ((A 1).set (4 + 3 * i) z))) := fun z => by
    rw [wD_s1 (k := 4 + 3 * i) rfl hl hA2 (by omega), updA_updA]
    show some (wD hp I (updA A 1 (((A 1).set (4 + 3 * i) (mT nw i + y)).set (4 + 3 * i) z))) = _
    rw [List.set_set]
  unfold vT
  rw [clampT]
  by_cases q1 : mT nw i + y < 0
  · rw [if_pos q1]
    simp (disch := first | exact nl_int | exact nl_ref | exact nl_none | exact Nat.le_of_ble_eq_true rfl | assumption | exact cat_int | exact cat_ref | exact z2 | exact z4 | exact z3 | exact z5 | exact z6 | exact z8 | exact z64) only [e_116_0, e_116_1, e_116_2, e_116_3, e_116_4, e_116_5, e_116_6, e_116_7, e_116_8, e_116_9, e_116_12, e_116_13, e_116_14, e_116_15, e_116_16, e_116_17, e_116_18, e_116_19, e_116_22, e_116_23, e_116_24, e_116_27, e_116_28, e_116_29, e_116_32, e_116_33, e_116_36, e_116_37, e_116_40, e_116_41, e_116_42, e_116_44, e_116_47, e_116_49, e_116_52, e_116_53, e_116_56, e_116_57, e_116_58, e_116_59, nl_int, nl_ref, nl_none, cat_int, cat_ref, cat_0, cat_i, cat_r, cat_l, Option.elim_some, Option.elim_none, Option.bind_some, Option.bind_none, Option.toList_some, Option.toList_none, List.cons_append, List.nil_append, Nat.reduceAdd, Nat.reduceLeDiff, ix3 (a := 0), nI_1, e4, wD_f1 hl, l1, s1, l2, if_pos q1, s2]
  · rw [if_neg q1]
    by_cases q2 : 9 < mT nw i + y
    · rw [if_pos q2]
      simp (disch := first | exact nl_int | exact nl_ref | exact nl_none | exact Nat.le_of_ble_eq_true rfl | assumption | exact cat_int | exact cat_ref | exact z2 | exact z4 | exact z3 | exact z5 | exact z6 | exact z8 | exact z64) only [e_116_0, e_116_1, e_116_2, e_116_3, e_116_4, e_116_5, e_116_6, e_116_7, e_116_8, e_116_9, e_116_12, e_116_13, e_116_14, e_116_15, e_116_16, e_116_17, e_116_18, e_116_19, e_116_22, e_116_23, e_116_24, e_116_27, e_116_28, e_116_29, e_116_32, e_116_33, e_116_36, e_116_37, e_116_40, e_116_41, e_116_42, e_116_44, e_116_47, e_116_49, e_116_52, e_116_53, e_116_56, e_116_57, e_116_58, e_116_59, nl_int, nl_ref, nl_none, cat_int, cat_ref, cat_0, cat_i, cat_r, cat_l, Option.elim_some, Option.elim_none, Option.bind_some, Option.bind_none, Option.toList_some, Option.toList_none, List.cons_append, List.nil_append, Nat.reduceAdd, Nat.reduceLeDiff, ix3 (a := 0), nI_1, e4, wD_f1 hl, l1, s1, l2, if_neg q1, if_pos q2, s2]
    · rw [if_neg q2]
      simp (disch := first | exact nl_int | exact nl_ref | exact nl_none | exact Nat.le_of_ble_eq_true rfl | assumption | exact cat_int | exact cat_ref | exact z2 | exact z4 | exact z3 | exact z5 | exact z6 | exact z8 | exact z64) only [e_116_0, e_116_1, e_116_2, e_116_3, e_116_4, e_116_5, e_116_6, e_116_7, e_116_8, e_116_9, e_116_12, e_116_13, e_116_14, e_116_15, e_116_16, e_116_17, e_116_18, e_116_19, e_116_22, e_116_23, e_116_24, e_116_27, e_116_28, e_116_29, e_116_32, e_116_33, e_116_36, e_116_37, e_116_40, e_116_41, e_116_42, e_116_44, e_116_47, e_116_49, e_116_52, e_116_53, e_116_56, e_116_57, e_116_58, e_116_59, nl_int, nl_ref, nl_none, cat_int, cat_ref, cat_0, cat_i, cat_r, cat_l, Option.elim_some, Option.elim_none, Option.bind_some, Option.bind_none, Option.toList_some, Option.toList_none, List.cons_append, List.nil_append, Nat.reduceAdd, Nat.reduceLeDiff, ix3 (a := 0), nI_1, e4, wD_f1 hl, l1, s1, l2, if_neg q1, if_neg q2, s2]
end MD5
