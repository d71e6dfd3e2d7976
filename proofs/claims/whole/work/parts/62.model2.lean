/-! THE REFERENCE: odds of two -/
theorem nIx (a b : Nat) : nI a ^^^ nI b = nI (a ^^^ b) := by
  apply Int32.toBitVec_inj.mp
  show BitVec.ofNat 32 a ^^^ BitVec.ofNat 32 b = BitVec.ofNat 32 (a ^^^ b)
  apply BitVec.eq_of_toNat_eq
  rw [BitVec.toNat_xor, BitVec.toNat_ofNat, BitVec.toNat_ofNat, BitVec.toNat_ofNat, Nat.xor_mod_two_pow]
theorem nIa (a b : Nat) : nI a &&& nI b = nI (a &&& b) := by
  apply Int32.toBitVec_inj.mp
  show BitVec.ofNat 32 a &&& BitVec.ofNat 32 b = BitVec.ofNat 32 (a &&& b)
  apply BitVec.eq_of_toNat_eq
  rw [BitVec.toNat_and, BitVec.toNat_ofNat, BitVec.toNat_ofNat, BitVec.toNat_ofNat, Nat.and_mod_two_pow]
def mnF : Nat → Int32 → Int32 → Int32
  | 0, _, n => n
  | f + 1, l, n => if l = 0 then n else mnF f (l &&& (l - 1)) (n + 1)
def mnZ : Nat → Int32 → Bool
  | 0, l => decide (l = 0)
  | f + 1, l => if l = 0 then true else mnZ f (l &&& (l - 1))
theorem mn_tab : (List.range 256).all (fun o => mnZ 9 (nI o) && decide (mnF 9 (nI o) 0 = bitc (nI o))) = true := by decide +kernel
theorem mn_at {o : Nat} (h : o < 256) : mnZ 9 (nI o) = true ∧ mnF 9 (nI o) 0 = bitc (nI o) := by
  have := List.all_eq_true.mp mn_tab o (List.mem_range.mpr h)
  rw [Bool.and_eq_true] at this
  exact ⟨this.1, of_decide_eq_true this.2⟩
theorem s7_many {d o : Nat} {hp : am_H} (h : o < 256) : am_E d 109 0 [some (.int (nI o)), none, none] [] hp = some (some (.int (bitc (nI o))), hp) := by
  have key : ∀ f l n x, mnZ f l = true → am_E d 109 4 [some (.int x), some (.int n), some (.int l)] [] hp = some (some (.int (mnF f l n)), hp) := by
    intro f
    induction f with
    | zero =>
      intro l n x hz
      have e : l = 0 := of_decide_eq_true hz
      rw [e_109_4]
      simp (disch := first | exact nl_int | exact nl_ref | exact nl_none | exact Nat.le_of_ble_eq_true rfl | assumption | exact cat_int | exact cat_ref | exact z2 | exact z4 | exact z3 | exact z5 | exact z6 | exact z8 | exact z64) only [e_109_0, e_109_1, e_109_2, e_109_3, e_109_5, e_109_8, e_109_11, e_109_12, e_109_13, e_109_14, e_109_15, e_109_16, e_109_17, e_109_20, e_109_21, nl_int, nl_ref, nl_none, cat_int, cat_ref, cat_0, cat_i, cat_r, cat_l, Option.elim_some, Option.elim_none, Option.bind_some, Option.bind_none, Option.toList_some, Option.toList_none, List.cons_append, List.nil_append, Nat.reduceAdd, Nat.reduceLeDiff, if_pos e]
      rfl
    | succ f ih =>
      intro l n x hz
      rw [e_109_4, mnF]
      rw [mnZ] at hz
      by_cases e : l = 0
      · rw [if_pos e]
        simp (disch := first | exact nl_int | exact nl_ref | exact nl_none | exact Nat.le_of_ble_eq_true rfl | assumption | exact cat_int | exact cat_ref | exact z2 | exact z4 | exact z3 | exact z5 | exact z6 | exact z8 | exact z64) only [e_109_0, e_109_1, e_109_2, e_109_3, e_109_5, e_109_8, e_109_11, e_109_12, e_109_13, e_109_14, e_109_15, e_109_16, e_109_17, e_109_20, e_109_21, nl_int, nl_ref, nl_none, cat_int, cat_ref, cat_0, cat_i, cat_r, cat_l, Option.elim_some, Option.elim_none, Option.bind_some, Option.bind_none, Option.toList_some, Option.toList_none, List.cons_append, List.nil_append, Nat.reduceAdd, Nat.reduceLeDiff, if_pos e]
      · rw [if_neg e] at hz ⊢
        simp (disch := first | exact nl_int | exact nl_ref | exact nl_none | exact Nat.le_of_ble_eq_true rfl | assumption | exact cat_int | exact cat_ref | exact z2 | exact z4 | exact z3 | exact z5 | exact z6 | exact z8 | exact z64) only [e_109_0, e_109_1, e_109_2, e_109_3, e_109_5, e_109_8, e_109_11, e_109_12, e_109_13, e_109_14, e_109_15, e_109_16, e_109_17, e_109_20, e_109_21, nl_int, nl_ref, nl_none, cat_int, cat_ref, cat_0, cat_i, cat_r, cat_l, Option.elim_some, Option.elim_none, Option.bind_some, Option.bind_none, Option.toList_some, Option.toList_none, List.cons_append, List.nil_append, Nat.reduceAdd, Nat.reduceLeDiff, if_neg e, ih _ _ _ hz]
  have t := mn_at h
  simp (disch := first | exact nl_int | exact nl_ref | exact nl_none | exact Nat.le_of_ble_eq_true rfl | assumption | exact cat_int | exact cat_ref | exact z2 | exact z4 | exact z3 | exact z5 | exact z6 | exact z8 | exact z64) only [e_109_0, e_109_1, e_109_2, e_109_3, e_109_5, e_109_8, e_109_11, e_109_12, e_109_13, e_109_14, e_109_15, e_109_16, e_109_17, e_109_20, e_109_21, nl_int, nl_ref, nl_none, cat_int, cat_ref, cat_0, cat_i, cat_r, cat_l, Option.elim_some, Option.elim_none, Option.bind_some, Option.bind_none, Option.toList_some, Option.toList_none, List.cons_append, List.nil_append, Nat.reduceAdd, Nat.reduceLeDiff]
  rw [← t.2]
  exact key 9 _ _ _ t.1
/-- what is so of every laid city, at every hour -/
def Nm (ct : am_Ci) (nw : am_Mo) : Prop := (∀ i, i < cPp ct → ∃ o t h, o < 32 ∧ t < 10 ∧ h < cHs ct ∧ mO nw i = nI o ∧ mT nw i = nI t ∧ mH nw i = nI h) ∧ (∀ i, cPp ct ≤ i → i < 8 → mH nw i = -1) ∧ cPp ct ≤ 8 ∧ cHs ct ≤ 5
section MD2
variable {d : Nat} {hp hp2 : am_H} {I : Nat → Int32} {A : Nat → List Int32} {i j k n b p hr tt : Nat} {x y : Int32} {xs : List Int32} {ct : am_Ci} {nw : am_Mo}
theorem s7_op (hl : 154 < hp.length) (hA : aOK A) (hR : Rl ct nw hr (A 0) (A 1)) (hi : i < cPp ct) (h8 : cPp ct ≤ 8) : am_E d 96 0 [some (.ref 141), some (.int (nI i))] [] (wD hp I A) = some (some (.int (mO nw i)), wD hp I A) := by
  rw [s7_opinions hl hA (by omega), (hR.2.2.2.2.2 i hi).1]
theorem s7_te (hl : 154 < hp.length) (hA : aOK A) (hR : Rl ct nw hr (A 0) (A 1)) (hi : i < cPp ct) (h8 : cPp ct ≤ 8) : am_E d 97 0 [some (.ref 141), some (.int (nI i))] [] (wD hp I A) = some (some (.int (mT nw i)), wD hp I A) := by
  rw [s7_temper hl hA (by omega), show 3 + 3 * i + 1 = 4 + 3 * i from by omega, (hR.2.2.2.2.2 i hi).2.1]
theorem s7_ho (hl : 154 < hp.length) (hA : aOK A) (hR : Rl ct nw hr (A 0) (A 1)) (hi : i < cPp ct) (h8 : cPp ct ≤ 8) : am_E d 98 0 [some (.ref 141), some (.int (nI i))] [] (wD hp I A) = some (some (.int (mH nw i)), wD hp I A) := by
  rw [s7_house hl hA (by omega), show 3 + 3 * i + 2 = 5 + 3 * i from by omega, (hR.2.2.2.2.2 i hi).2.2]
theorem s7_kind (hl : 154 < hp.length) (hA : aOK A) (hR : Rl ct nw hr (A 0) (A 1)) (hi : i < cPp ct) (h8 : cPp ct ≤ 8) : am_ld (wD hp I A) 142 (nI (3 + i)) = some (mK nw i) := by
  rw [wD_l0 (k := 3 + i) rfl hl hA (by omega), hR.2.1 i hi]
theorem s7_speaks (hl : 154 < hp.length) (hA : aOK A) (hR : Rl ct nw hr (A 0) (A 1)) (hN : Nm ct nw) (hi : i < cPp ct) : am_E (d + 1) 110 0 [some (.ref 141), some (.int (nI i))] [] (wD hp I A) = some (some (.int (b2 (!mHush nw i))), wD hp I A) := by
  have hcl := wD_cl (I := I) (A := A) hl
  obtain ⟨o, t, h, ho, ht, hh, eo, et, eh⟩ := hN.1 i hi
  unfold mHush
  by_cases q : mK nw i = 1
  · rw [if_pos q, et]
    by_cases q2 : t < 3
    · rw [decide_eq_true (show nI t < 3 from nI_lt (b := 3) q2 (by decide))]
      simp (disch := first | exact nl_int | exact nl_ref | exact nl_none | exact Nat.le_of_ble_eq_true rfl | assumption | exact cat_int | exact cat_ref | exact z2 | exact z4 | exact z3 | exact z5 | exact z6 | exact z8 | exact z64) only [e_110_0, e_110_1, e_110_4, e_110_5, e_110_6, e_110_7, e_110_8, e_110_9, e_110_12, e_110_13, e_110_14, e_110_17, e_110_18, e_110_21, e_110_22, e_110_25, e_110_26, e_110_26_1, nl_int, nl_ref, nl_none, cat_int, cat_ref, cat_0, cat_i, cat_r, cat_l, Option.elim_some, Option.elim_none, Option.bind_some, Option.bind_none, Option.toList_some, Option.toList_none, List.cons_append, List.nil_append, Nat.reduceAdd, Nat.reduceLeDiff, wD_f0 hl, ix3a, s7_kind hl hA hR hi hN.2.2.1, if_pos q, s7_te hl hA hR hi hN.2.2.1, et, gtF (x := 2) (c := 2) rfl (show t ≤ 2 by omega) (by decide), if_false, Bool.not_true, b2_f]
    · rw [decide_eq_false (show ¬ nI t < 3 from nI_nlt (b := 3) (by omega) (by omega))]
      simp (disch := first | exact nl_int | exact nl_ref | exact nl_none | exact Nat.le_of_ble_eq_true rfl | assumption | exact cat_int | exact cat_ref | exact z2 | exact z4 | exact z3 | exact z5 | exact z6 | exact z8 | exact z64) only [e_110_0, e_110_1, e_110_4, e_110_5, e_110_6, e_110_7, e_110_8, e_110_9, e_110_12, e_110_13, e_110_14, e_110_17, e_110_18, e_110_21, e_110_22, e_110_25, e_110_26, e_110_26_1, nl_int, nl_ref, nl_none, cat_int, cat_ref, cat_0, cat_i, cat_r, cat_l, Option.elim_some, Option.elim_none, Option.bind_some, Option.bind_none, Option.toList_some, Option.toList_none, List.cons_append, List.nil_append, Nat.reduceAdd, Nat.reduceLeDiff, wD_f0 hl, ix3a, s7_kind hl hA hR hi hN.2.2.1, if_pos q, s7_te hl hA hR hi hN.2.2.1, et, gtT (x := 2) (c := 2) rfl (show 2 < t by omega) (by omega), if_true, Bool.not_false, b2_t]
  · rw [if_neg q]
    simp (disch := first | exact nl_int | exact nl_ref | exact nl_none | exact Nat.le_of_ble_eq_true rfl | assumption | exact cat_int | exact cat_ref | exact z2 | exact z4 | exact z3 | exact z5 | exact z6 | exact z8 | exact z64) only [e_110_0, e_110_1, e_110_4, e_110_5, e_110_6, e_110_7, e_110_8, e_110_9, e_110_12, e_110_13, e_110_14, e_110_17, e_110_18, e_110_21, e_110_22, e_110_25, e_110_26, e_110_26_1, nl_int, nl_ref, nl_none, cat_int, cat_ref, cat_0, cat_i, cat_r, cat_l, Option.elim_some, Option.elim_none, Option.bind_some, Option.bind_none, Option.toList_some, Option.toList_none, List.cons_append, List.nil_append, Nat.reduceAdd, Nat.reduceLeDiff, wD_f0 hl, ix3a, s7_kind hl hA hR hi hN.2.2.1, if_neg q, Bool.not_false, b2_t]
theorem mTog_eq (hN : Nm ct nw) (hi : i < cPp ct) : mTog nw i j = decide (mH nw i = mH nw j) := by
  obtain ⟨o, t, h, ho, ht, hh, eo, et, eh⟩ := hN.1 i hi
  have h5 := hN.2.2.2
  unfold mTog
  rw [if_neg (by rw [eh]; exact fun z => nI_pos (show h < 2 ^ 31 by omega) (by rw [z]; decide))]
theorem s7_odds (hl : 154 < hp.length) (hA : aOK A) (hR : Rl ct nw hr (A 0) (A 1)) (hN : Nm ct nw) (hi : i < cPp ct) (hj : j < cPp ct) (ht : tt < 32) : am_E (d + 2) 111 0 [some (.ref 141), some (.int (nI i)), some (.int (nI j)), some (.int (nI tt))] [] (wD hp I A) = some (some (.int (if mTog nw i j = true then bitc (mQ nw i j (nI tt)) else 0)), wD hp I A) := by
  have hcl := wD_cl (I := I) (A := A) hl
  have h8 := hN.2.2.1
  rw [mTog_eq hN hi]
  by_cases q : mH nw i = mH nw j
  · rw [decide_eq_true q, if_pos rfl]
    unfold mQ
    cases si : mHush nw i with
    | true =>
      have s1 := s7_speaks (d := d) (I := I) hl hA hR hN hi
      rw [si] at s1
      simp (disch := first | exact nl_int | exact nl_ref | exact nl_none | exact Nat.le_of_ble_eq_true rfl | assumption | exact cat_int | exact cat_ref | exact z2 | exact z4 | exact z3 | exact z5 | exact z6 | exact z8 | exact z64) only [e_111_0, e_111_1, e_111_2, e_111_5, e_111_6, e_111_7, e_111_10, e_111_13, e_111_14, e_111_15, e_111_18, e_111_21, e_111_22, e_111_23, e_111_26, e_111_29, e_111_30, e_111_31, e_111_34, e_111_35, e_111_36, e_111_39, e_111_40, e_111_41, e_111_42, e_111_45, e_111_48, e_111_49, nl_int, nl_ref, nl_none, cat_int, cat_ref, cat_0, cat_i, cat_r, cat_l, Option.elim_some, Option.elim_none, Option.bind_some, Option.bind_none, Option.toList_some, Option.toList_none, List.cons_append, List.nil_append, Nat.reduceAdd, Nat.reduceLeDiff, s7_ho hl hA hR hi h8, s7_ho hl hA hR hj h8, if_pos q, s1, Bool.not_true, b2_f, z0, if_true, Bool.true_or]
      rfl
    | false =>
      have s1 := s7_speaks (d := d) (I := I) hl hA hR hN hi
      have s2 := s7_speaks (d := d) (I := I) hl hA hR hN hj
      rw [si] at s1
      cases sj : mHush nw j with
      | true =>
        rw [sj] at s2
        simp (disch := first | exact nl_int | exact nl_ref | exact nl_none | exact Nat.le_of_ble_eq_true rfl | assumption | exact cat_int | exact cat_ref | exact z2 | exact z4 | exact z3 | exact z5 | exact z6 | exact z8 | exact z64) only [e_111_0, e_111_1, e_111_2, e_111_5, e_111_6, e_111_7, e_111_10, e_111_13, e_111_14, e_111_15, e_111_18, e_111_21, e_111_22, e_111_23, e_111_26, e_111_29, e_111_30, e_111_31, e_111_34, e_111_35, e_111_36, e_111_39, e_111_40, e_111_41, e_111_42, e_111_45, e_111_48, e_111_49, nl_int, nl_ref, nl_none, cat_int, cat_ref, cat_0, cat_i, cat_r, cat_l, Option.elim_some, Option.elim_none, Option.bind_some, Option.bind_none, Option.toList_some, Option.toList_none, List.cons_append, List.nil_append, Nat.reduceAdd, Nat.reduceLeDiff, s7_ho hl hA hR hi h8, s7_ho hl hA hR hj h8, if_pos q, s1, s2, Bool.not_true, Bool.not_false, b2_f, b2_t, z0, z1, if_true, if_false, Bool.false_or]
        rfl
      | false =>
        rw [sj] at s2
        obtain ⟨o, t, h, ho, ht1, hh, eo, et, eh⟩ := hN.1 i hi
        obtain ⟨o2, t2, h2, ho2, ht2, hh2, eo2, et2, eh2⟩ := hN.1 j hj
        have ex : (mO nw i ^^^ mO nw j) &&& nI tt = nI ((o ^^^ o2) &&& tt) := by rw [eo, eo2, nIx, nIa]
        have em := s7_many (d := d + 1) (o := (o ^^^ o2) &&& tt) (hp := wD hp I A) (Nat.lt_of_le_of_lt Nat.and_le_right (by omega))
        simp (disch := first | exact nl_int | exact nl_ref | exact nl_none | exact Nat.le_of_ble_eq_true rfl | assumption | exact cat_int | exact cat_ref | exact z2 | exact z4 | exact z3 | exact z5 | exact z6 | exact z8 | exact z64) only [e_111_0, e_111_1, e_111_2, e_111_5, e_111_6, e_111_7, e_111_10, e_111_13, e_111_14, e_111_15, e_111_18, e_111_21, e_111_22, e_111_23, e_111_26, e_111_29, e_111_30, e_111_31, e_111_34, e_111_35, e_111_36, e_111_39, e_111_40, e_111_41, e_111_42, e_111_45, e_111_48, e_111_49, nl_int, nl_ref, nl_none, cat_int, cat_ref, cat_0, cat_i, cat_r, cat_l, Option.elim_some, Option.elim_none, Option.bind_some, Option.bind_none, Option.toList_some, Option.toList_none, List.cons_append, List.nil_append, Nat.reduceAdd, Nat.reduceLeDiff, s7_ho hl hA hR hi h8, s7_ho hl hA hR hj h8, if_pos q, s1, s2, Bool.not_false, b2_t, z1, if_true, if_false, Bool.or_false, s7_op hl hA hR hi h8, s7_op hl hA hR hj h8, ex, em, Bool.false_eq_true]
  · rw [decide_eq_false q, if_neg (by decide)]
    simp (disch := first | exact nl_int | exact nl_ref | exact nl_none | exact Nat.le_of_ble_eq_true rfl | assumption | exact cat_int | exact cat_ref | exact z2 | exact z4 | exact z3 | exact z5 | exact z6 | exact z8 | exact z64) only [e_111_0, e_111_1, e_111_2, e_111_5, e_111_6, e_111_7, e_111_10, e_111_13, e_111_14, e_111_15, e_111_18, e_111_21, e_111_22, e_111_23, e_111_26, e_111_29, e_111_30, e_111_31, e_111_34, e_111_35, e_111_36, e_111_39, e_111_40, e_111_41, e_111_42, e_111_45, e_111_48, e_111_49, nl_int, nl_ref, nl_none, cat_int, cat_ref, cat_0, cat_i, cat_r, cat_l, Option.elim_some, Option.elim_none, Option.bind_some, Option.bind_none, Option.toList_some, Option.toList_none, List.cons_append, List.nil_append, Nat.reduceAdd, Nat.reduceLeDiff, s7_ho hl hA hR hi h8, s7_ho hl hA hR hj h8, if_neg q]
end MD2
