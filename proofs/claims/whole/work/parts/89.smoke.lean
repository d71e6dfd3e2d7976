/-! falseBy: bits, weights, smoke of a drawn set -/
theorem sk8_nI : ∀ a b c d e f g h : Bool, sk8 a b c d e f g h = nI (sk8 a b c d e f g h).toNatClampNeg ∧ (sk8 a b c d e f g h).toNatClampNeg < 256 ∧ (sk8 a b c d e f g h).toNatClampNeg.testBit 0 = a ∧ (sk8 a b c d e f g h).toNatClampNeg.testBit 1 = b ∧ (sk8 a b c d e f g h).toNatClampNeg.testBit 2 = c ∧ (sk8 a b c d e f g h).toNatClampNeg.testBit 3 = d ∧ (sk8 a b c d e f g h).toNatClampNeg.testBit 4 = e ∧ (sk8 a b c d e f g h).toNatClampNeg.testBit 5 = f ∧ (sk8 a b c d e f g h).toNatClampNeg.testBit 6 = g ∧ (sk8 a b c d e f g h).toNatClampNeg.testBit 7 = h := by decide +kernel
theorem sm8_nI (G : Nat → Bool) : ∃ L, L < 256 ∧ sm8 G = nI L ∧ ∀ k, k < 8 → L.testBit k = G k := by
  obtain ⟨h1, h2, b0, b1, b2, b3, b4, b5, b6, b7⟩ := sk8_nI (G 0) (G 1) (G 2) (G 3) (G 4) (G 5) (G 6) (G 7)
  refine ⟨_, h2, by rw [sm8_sk]; exact h1, fun k hk => ?_⟩
  match k, hk with
  | 0, _ => exact b0
  | 1, _ => exact b1
  | 2, _ => exact b2
  | 3, _ => exact b3
  | 4, _ => exact b4
  | 5, _ => exact b5
  | 6, _ => exact b6
  | 7, _ => exact b7
theorem bj_tab : (List.range 256).all (fun j => (List.range 8).all (fun i => decide ((nI j >>> (nI i &&& 31)) &&& 1 = bI (j.testBit i)))) = true := by decide +kernel
theorem bj_at {j i : Nat} (hj : j < 256) (hi : i < 8) : (nI j >>> (nI i &&& 31)) &&& 1 = bI (j.testBit i) := of_decide_eq_true (List.all_eq_true.mp (List.all_eq_true.mp bj_tab j (List.mem_range.mpr hj)) i (List.mem_range.mpr hi))
theorem bcn_tab : (List.range 256).all (fun j => decide (bitc (nI j) = nI (cnb (fun i => j.testBit i) 8))) = true := by decide +kernel
theorem bcn_at {j : Nat} (hj : j < 256) : bitc (nI j) = nI (cnb (fun i => j.testBit i) 8) := of_decide_eq_true (List.all_eq_true.mp bcn_tab j (List.mem_range.mpr hj))
theorem sb_iff {L j : Nat} : ∀ n, sbN L j n = true ↔ ∀ i, i < n → j.testBit i = true → L.testBit i = true := by
  intro n
  induction n with
  | zero => exact ⟨fun _ i hi => absurd hi (Nat.not_lt_zero i), fun _ => rfl⟩
  | succ n ih =>
    rw [sbN, Bool.and_eq_true, ih]
    constructor
    · rintro ⟨h1, h2⟩ i hi hb
      by_cases e : i = n
      · subst e
        rw [hb] at h2
        simpa using h2
      · exact h1 i (by omega) hb
    · intro h
      refine ⟨fun i hi => h i (by omega), ?_⟩
      cases hb : j.testBit n with
      | false => rfl
      | true => rw [h n (by omega) hb]; rfl
theorem hi_bit {j i : Nat} (hj : j < 256) (hi : 8 ≤ i) : j.testBit i = false := Nat.testBit_lt_two_pow (Nat.lt_of_lt_of_le hj (show 2 ^ 8 ≤ 2 ^ i from Nat.pow_le_pow_right (n := 2) (by decide) hi))
theorem sb_and {L j : Nat} (hj : j < 256) (hL : L < 256) : nI j &&& (nI L ^^^ -1) = 0 ↔ sbN L j 8 = true := by
  have e : nI j &&& (nI L ^^^ -1) = nI (j &&& (L ^^^ (2 ^ 32 - 1))) := by
    rw [show (-1 : Int32) = nI (2 ^ 32 - 1) from by decide, nIx, nIa]
  have hle : j &&& (L ^^^ (2 ^ 32 - 1)) ≤ j := Nat.and_le_left
  rw [e, show ((0 : Int32)) = nI 0 from rfl, nI_eq (by omega) (by decide), sb_iff]
  constructor
  · intro h i hi hb
    have := congrArg (fun n => n.testBit i) h
    simp only [Nat.testBit_and, Nat.testBit_xor, Nat.testBit_two_pow_sub_one, Nat.zero_testBit, hb, Bool.true_and] at this
    rw [decide_eq_true (show i < 32 by omega)] at this
    cases hl : L.testBit i with
    | true => rfl
    | false => rw [hl] at this; cases this
  · intro h
    apply Nat.eq_of_testBit_eq
    intro i
    simp only [Nat.testBit_and, Nat.testBit_xor, Nat.testBit_two_pow_sub_one, Nat.zero_testBit]
    by_cases q : i < 8
    · cases hb : j.testBit i with
      | false => rfl
      | true => rw [h i q hb, decide_eq_true (show i < 32 by omega)]; rfl
    · rw [hi_bit hj (by omega)]; rfl
theorem sb_le {L j : Nat} (hj : j < 256) (h : sbN L j 8 = true) : j ≤ L := by
  have e : j &&& L = j := by
    apply Nat.eq_of_testBit_eq
    intro i
    rw [Nat.testBit_and]
    by_cases q : i < 8
    · cases hb : j.testBit i with
      | false => rfl
      | true => rw [(sb_iff 8).mp h i q hb]; rfl
    · rw [hi_bit hj (by omega)]; rfl
  rw [← e]
  exact Nat.and_le_right
theorem cnb_split {L j : Nat} : ∀ n, sbN L j n = true → cnb (fun i => L.testBit i) n = cnb (fun i => j.testBit i) n + cnb (fun i => L.testBit i && !j.testBit i) n := by
  intro n
  induction n with
  | zero => intro _; rfl
  | succ n ih =>
    intro h
    rw [sbN, Bool.and_eq_true] at h
    rw [cnb, cnb, cnb, ih h.1]
    have h2 := h.2
    cases hj : j.testBit n with
    | false =>
      cases hl : L.testBit n with
      | false => simp
      | true => simp; omega
    | true =>
      rw [hj] at h2
      have hl : L.testBit n = true := by simpa using h2
      rw [hl]
      simp
      omega
theorem wt_pow {L j X Y : Nat} : ∀ n, sbN L j n = true → wt L j X Y n = X ^ cnb (fun i => j.testBit i) n * Y ^ cnb (fun i => L.testBit i && !j.testBit i) n := by
  intro n
  induction n with
  | zero => intro _; rfl
  | succ n ih =>
    intro h
    rw [sbN, Bool.and_eq_true] at h
    rw [wt, cnb, cnb, ih h.1]
    have h2 := h.2
    unfold wtF
    cases hj : j.testBit n with
    | false =>
      cases hl : L.testBit n with
      | false => simp
      | true => simp [Nat.pow_succ, Nat.mul_assoc]
    | true =>
      rw [hj] at h2
      have hl : L.testBit n = true := by simpa using h2
      rw [hl]
      simp [Nat.pow_succ]
      rw [Nat.mul_right_comm]
theorem cnb_le {P : Nat → Bool} : ∀ n, cnb P n ≤ n := by
  intro n
  induction n with
  | zero => exact Nat.le_refl 0
  | succ n ih => rw [cnb]; split <;> omega
theorem aPow_nI {X a : Nat} (ha : a < 2 ^ 31) : aPow (nI X) (nI a) = nI (X ^ a) := by
  unfold aPow
  rw [nI_clamp ha]
  have := am_for_inv (f := fun _ s => s * nI X) (fun k s => s = nI (X ^ k)) a 0 1 rfl (fun k s _ _ h => by
    rw [h, pk_mul, Nat.pow_succ])
  rw [Nat.zero_add] at this
  exact this
theorem wt_cut {L j X Y p : Nat} (hL : ∀ i, p ≤ i → i < 8 → L.testBit i = false) : ∀ n, p + n ≤ 8 → wt L j X Y (p + n) = wt L j X Y p := by
  intro n
  induction n with
  | zero => intro _; rfl
  | succ n ih =>
    intro h
    rw [show p + (n + 1) = (p + n) + 1 from rfl, wt, ih (by omega)]
    unfold wtF
    rw [hL (p + n) (by omega) (by omega), if_pos rfl, Nat.mul_one]
section MDN
variable {d : Nat} {hp hp2 : am_H} {I I2 : Nat → Int32} {A A2 : Nat → List Int32} {i j k n b p hr tt g h u N L s X Y : Nat} {x y z t a v w : Int32} {ct : am_Ci} {nw m : am_Mo}
theorem kDk_at {told : am_Mo} {bt : Int32} {ks : List Int32} (hl : ks.length = 8) : ∀ n, n ≤ 8 → (am_for (kDk told bt) 0 n ks).length = 8 ∧ ∀ i, (am_for (kDk told bt) 0 n ks).getD i 0 = if i < n then (if (bt >>> (nI i &&& 31)) &&& 1 = 1 then 2 else if mK told i = 2 then 0 else mK told i) else ks.getD i 0 := by
  intro n
  induction n with
  | zero => intro _; exact ⟨hl, fun i => by rw [if_neg (Nat.not_lt_zero i)]; rfl⟩
  | succ n ih =>
    intro hn
    obtain ⟨h1, h2⟩ := ih (by omega)
    rw [am_for_snoc, Nat.zero_add]
    unfold kDk at h1 h2 ⊢
    refine ⟨(List.length_set).trans h1, fun i => ?_⟩
    rw [getD_set (by omega), h2 i]
    by_cases q : n = i
    · subst q
      rw [if_pos rfl, if_pos (show n < n + 1 by omega)]
    · rw [if_neg q]
      by_cases q2 : i < n
      · rw [if_pos q2, if_pos (show i < n + 1 by omega)]
      · rw [if_neg q2, if_neg (show ¬ i < n + 1 by omega)]
theorem draw_K (hm : mOK nw) (hs : s < 256) (hi : i < 8) : mK (mDraw nw (nI s) nw) i = if s.testBit i = true then 2 else if mK nw i = 2 then 0 else mK nw i := by
  unfold mDraw
  rw [mDk_k]
  show (am_for (kDk nw (nI s)) 0 8 nw.1).getD i 0 = _
  rw [(kDk_at hm.1 8 (Nat.le_refl 8)).2 i, if_pos hi, bj_at hs hi]
  cases s.testBit i <;> rfl
theorem draw_2 : (mDraw nw v nw).2 = nw.2 := by
  unfold mDraw
  rw [mDk_k]
theorem draw_H : mH (mDraw nw v nw) i = mH nw i := by unfold mH; rw [draw_2]
theorem draw_O : mO (mDraw nw v nw) i = mO nw i := by unfold mO; rw [draw_2]
theorem draw_T : mT (mDraw nw v nw) i = mT nw i := by unfold mT; rw [draw_2]
theorem draw_Nm (hN : Nm ct nw) : Nm ct (mDraw nw v nw) := by
  refine ⟨fun i hi => ?_, fun i h1 h2 => ?_, hN.2.2⟩
  · rw [draw_O, draw_T, draw_H]; exact hN.1 i hi
  · rw [draw_H]; exact hN.2.1 i h1 h2
theorem draw_FP (hm : mOK nw) (hs : s < 256) (hi : i < 8) (hj : j < 8) : mFP (mDraw nw (nI s) nw) i j = (s.testBit i || s.testBit j) := by
  unfold mFP
  rw [draw_K hm hs hi, draw_K hm hs hj]
  have nk : ∀ k : Int32, ¬ (if k = 2 then 0 else k) = 2 := fun k w => by
    by_cases q : k = 2
    · rw [if_pos q] at w; exact absurd w (by decide)
    · rw [if_neg q] at w; exact q w
  cases s.testBit i with
  | true => rw [if_pos rfl, if_pos rfl, Bool.true_or]
  | false =>
    rw [if_neg (show ¬ (false = true) by decide), if_neg (nk _), Bool.false_or]
    cases s.testBit j with
    | true => rw [if_pos rfl]; rfl
    | false => rw [if_neg (show ¬ (false = true) by decide)]; exact decide_eq_false (nk _)
theorem draw_Hu (hm : mOK nw) (hs : s < 256) (hi : i < 8) : mHush (mDraw nw (nI s) nw) i = (!s.testBit i && mHush nw i) := by
  unfold mHush
  rw [draw_K hm hs hi, draw_T]
  cases s.testBit i with
  | true => rw [if_pos rfl, if_neg (by decide)]; rfl
  | false =>
    rw [if_neg (show ¬ (false = true) by decide)]
    by_cases q : mK nw i = 2
    · rw [if_pos q, q, if_neg (by decide), if_neg (by decide)]; rfl
    · rw [if_neg q]; rfl
theorem bI_t : bI true = 1 := rfl
theorem bI_f : bI false = 0 := rfl
theorem s7_sj (hl : 154 < hp.length) (ok : Ok7 A ct nw hr) (hs : s < 256) (ht : tt < 32) (hg : g < 5) (hi : i < cPp ct) : ∀ n j b l7 l8, j + n = cPp ct → ∃ m7 m8, am_E (d + 11) 147 23 [some (.ref 141), some (.int (nI g)), some (.int (nI s)), some (.int (nI tt)), some (.int (b2 b)), some (.int (nI i)), some (.int (nI j)), l7, l8] [] (wD hp I A) = am_E (d + 11) 147 161 [some (.ref 141), some (.int (nI g)), some (.int (nI s)), some (.int (nI tt)), some (.int (b2 (am_for (psF (mDraw nw (nI s) nw) g (nI tt) i) j n b))), some (.int (nI i)), some (.int (nI (cPp ct))), m7, m8] [] (wD hp I A) := by
  have p8 := ok.p8
  have hm := ok.2.2.2.2.1
  intro n
  induction n with
  | zero =>
    intro j b l7 l8 hj
    obtain rfl : j = cPp ct := by omega
    refine ⟨l7, l8, ?_⟩
    rw [e_147_23, am_for]
    simp (maxSteps := 1000000) (disch := first | exact nl_int | exact nl_ref | exact nl_none | exact Nat.le_of_ble_eq_true rfl | assumption | exact wD_cl (by assumption) | exact cat_int | exact cat_ref | exact z2 | exact z4 | exact z3 | exact z5 | exact z6 | exact z8 | exact z64) only [e_147_0, e_147_1, e_147_3, e_147_4, e_147_8, e_147_9, e_147_12, e_147_13, e_147_14, e_147_17, e_147_19, e_147_20, e_147_21, e_147_25, e_147_26, e_147_29, e_147_30, e_147_31, e_147_34, e_147_35, e_147_37, e_147_38, e_147_39, e_147_40, e_147_41, e_147_43, e_147_44, e_147_45, e_147_46, e_147_47, e_147_49, e_147_50, e_147_52, e_147_53, e_147_54, e_147_55, e_147_56, e_147_59, e_147_60, e_147_62, e_147_65, e_147_68, e_147_69, e_147_71, e_147_72, e_147_73, e_147_74, e_147_75, e_147_78, e_147_79, e_147_81, e_147_84, e_147_87, e_147_88, e_147_91, e_147_92, e_147_94, e_147_96, e_147_99, e_147_100, e_147_102, e_147_105, e_147_106, e_147_109, e_147_110, e_147_112, e_147_115, e_147_116, e_147_119, e_147_121, e_147_122, e_147_125, e_147_127, e_147_130, e_147_131, e_147_133, e_147_136, e_147_137, e_147_139, e_147_142, e_147_143, e_147_144, e_147_145, e_147_148, e_147_149, e_147_152, e_147_153, e_147_155, e_147_158, e_147_164, e_147_167, e_147_169, e_147_169_1, nl_int, nl_ref, nl_none, cat_int, cat_ref, cat_0, cat_i, cat_r, cat_l, Option.elim_some, Option.elim_none, Option.bind_some, Option.bind_none, Option.toList_some, Option.toList_none, List.cons_append, List.nil_append, Nat.reduceAdd, Nat.reduceLeDiff, wD_f1 hl, ok.lp hl, ltF (x := nI (cPp ct)) (c := cPp ct) rfl (Nat.le_refl _) (by omega), if_false]
  | succ n ih =>
    intro j b l7 l8 hj
    have j8 : j < cPp ct := by omega
    have lt' := ltT (x := nI (cPp ct)) (c := cPp ct) rfl j8 (by omega)
    have b1 := bj_at (i := i) hs (by omega)
    have b2' := bj_at (i := j) hs (by omega)
    have sp1 := s7_speaks (d := d + 9) (I := I) hl ok.1 ok.2.1 ok.2.2.1 hi
    have sp2 := s7_speaks (d := d + 9) (I := I) hl ok.1 ok.2.1 ok.2.2.1 j8
    have eps : psF (mDraw nw (nI s) nw) g (nI tt) i j b = (b || (decide (mH nw i = nI g) && (decide (mH nw j = nI g) && ((s.testBit i || s.testBit j) && (((s.testBit i || !mHush nw i) && (s.testBit j || !mHush nw j)) && !decide ((mO nw i ^^^ mO nw j) &&& nI tt = 0)))))) := by
      unfold psF mQ
      rw [draw_H, draw_H, draw_FP hm hs (by omega) (by omega), draw_Hu hm hs (by omega), draw_Hu hm hs (by omega), draw_O, draw_O]
      congr 4
      cases s.testBit i <;> cases s.testBit j <;> cases mHush nw i <;> cases mHush nw j <;> simp
    rw [am_for, eps]
    have h94 : ∃ z7, (z7 = 1 ↔ (s.testBit i || s.testBit j) = true) ∧ am_E (d + 11) 147 23 [some (.ref 141), some (.int (nI g)), some (.int (nI s)), some (.int (nI tt)), some (.int (b2 b)), some (.int (nI i)), some (.int (nI j)), l7, l8] [] (wD hp I A) = am_E (d + 11) 147 94 [some (.ref 141), some (.int (nI g)), some (.int (nI s)), some (.int (nI tt)), some (.int (b2 b)), some (.int (nI i)), some (.int (nI j)), some (.int z7), some (.int (b2 ((s.testBit i || !mHush nw i) && (s.testBit j || !mHush nw j))))] [] (wD hp I A) := by
      refine ⟨bI (s.testBit i) ||| bI (s.testBit j), by cases s.testBit i <;> cases s.testBit j <;> decide, ?_⟩
      rw [e_147_23]
      cases e1 : s.testBit i with
      | true =>
        rw [e1] at b1
        cases e2 : s.testBit j with
        | true =>
          rw [e2] at b2'
          simp (maxSteps := 1000000) (disch := first | exact nl_int | exact nl_ref | exact nl_none | exact Nat.le_of_ble_eq_true rfl | assumption | exact wD_cl (by assumption) | exact cat_int | exact cat_ref | exact z2 | exact z4 | exact z3 | exact z5 | exact z6 | exact z8 | exact z64) only [e_147_0, e_147_1, e_147_3, e_147_4, e_147_8, e_147_9, e_147_12, e_147_13, e_147_14, e_147_17, e_147_19, e_147_20, e_147_21, e_147_25, e_147_26, e_147_29, e_147_30, e_147_31, e_147_34, e_147_35, e_147_37, e_147_38, e_147_39, e_147_40, e_147_41, e_147_43, e_147_44, e_147_45, e_147_46, e_147_47, e_147_49, e_147_50, e_147_52, e_147_53, e_147_54, e_147_55, e_147_56, e_147_59, e_147_60, e_147_62, e_147_65, e_147_68, e_147_69, e_147_71, e_147_72, e_147_73, e_147_74, e_147_75, e_147_78, e_147_79, e_147_81, e_147_84, e_147_87, e_147_88, e_147_91, e_147_92, e_147_96, e_147_99, e_147_100, e_147_102, e_147_105, e_147_106, e_147_109, e_147_110, e_147_112, e_147_115, e_147_116, e_147_119, e_147_121, e_147_122, e_147_125, e_147_127, e_147_130, e_147_131, e_147_133, e_147_136, e_147_137, e_147_139, e_147_142, e_147_143, e_147_144, e_147_145, e_147_148, e_147_149, e_147_152, e_147_153, e_147_155, e_147_158, e_147_161, e_147_164, e_147_167, e_147_169, e_147_169_1, nl_int, nl_ref, nl_none, cat_int, cat_ref, cat_0, cat_i, cat_r, cat_l, Option.elim_some, Option.elim_none, Option.bind_some, Option.bind_none, Option.toList_some, Option.toList_none, List.cons_append, List.nil_append, Nat.reduceAdd, Nat.reduceLeDiff, wD_f1 hl, ok.lp hl, lt', if_true, b1, b2', bI_t, Bool.true_or, Bool.and_true, b2_t]
        | false =>
          rw [e2] at b2'
          cases e3 : mHush nw j with
          | true =>
            rw [e3] at sp2
            simp (maxSteps := 1000000) (disch := first | exact nl_int | exact nl_ref | exact nl_none | exact Nat.le_of_ble_eq_true rfl | assumption | exact wD_cl (by assumption) | exact cat_int | exact cat_ref | exact z2 | exact z4 | exact z3 | exact z5 | exact z6 | exact z8 | exact z64) only [e_147_0, e_147_1, e_147_3, e_147_4, e_147_8, e_147_9, e_147_12, e_147_13, e_147_14, e_147_17, e_147_19, e_147_20, e_147_21, e_147_25, e_147_26, e_147_29, e_147_30, e_147_31, e_147_34, e_147_35, e_147_37, e_147_38, e_147_39, e_147_40, e_147_41, e_147_43, e_147_44, e_147_45, e_147_46, e_147_47, e_147_49, e_147_50, e_147_52, e_147_53, e_147_54, e_147_55, e_147_56, e_147_59, e_147_60, e_147_62, e_147_65, e_147_68, e_147_69, e_147_71, e_147_72, e_147_73, e_147_74, e_147_75, e_147_78, e_147_79, e_147_81, e_147_84, e_147_87, e_147_88, e_147_91, e_147_92, e_147_96, e_147_99, e_147_100, e_147_102, e_147_105, e_147_106, e_147_109, e_147_110, e_147_112, e_147_115, e_147_116, e_147_119, e_147_121, e_147_122, e_147_125, e_147_127, e_147_130, e_147_131, e_147_133, e_147_136, e_147_137, e_147_139, e_147_142, e_147_143, e_147_144, e_147_145, e_147_148, e_147_149, e_147_152, e_147_153, e_147_155, e_147_158, e_147_161, e_147_164, e_147_167, e_147_169, e_147_169_1, nl_int, nl_ref, nl_none, cat_int, cat_ref, cat_0, cat_i, cat_r, cat_l, Option.elim_some, Option.elim_none, Option.bind_some, Option.bind_none, Option.toList_some, Option.toList_none, List.cons_append, List.nil_append, Nat.reduceAdd, Nat.reduceLeDiff, wD_f1 hl, ok.lp hl, lt', if_true, b1, b2', bI_t, bI_f, show ((0 : Int32) = 1) = False from by decide, if_false, sp2, Bool.not_true, b2_f, z0, Bool.true_or, Bool.false_or, Bool.true_and]
          | false =>
            rw [e3] at sp2
            simp (maxSteps := 1000000) (disch := first | exact nl_int | exact nl_ref | exact nl_none | exact Nat.le_of_ble_eq_true rfl | assumption | exact wD_cl (by assumption) | exact cat_int | exact cat_ref | exact z2 | exact z4 | exact z3 | exact z5 | exact z6 | exact z8 | exact z64) only [e_147_0, e_147_1, e_147_3, e_147_4, e_147_8, e_147_9, e_147_12, e_147_13, e_147_14, e_147_17, e_147_19, e_147_20, e_147_21, e_147_25, e_147_26, e_147_29, e_147_30, e_147_31, e_147_34, e_147_35, e_147_37, e_147_38, e_147_39, e_147_40, e_147_41, e_147_43, e_147_44, e_147_45, e_147_46, e_147_47, e_147_49, e_147_50, e_147_52, e_147_53, e_147_54, e_147_55, e_147_56, e_147_59, e_147_60, e_147_62, e_147_65, e_147_68, e_147_69, e_147_71, e_147_72, e_147_73, e_147_74, e_147_75, e_147_78, e_147_79, e_147_81, e_147_84, e_147_87, e_147_88, e_147_91, e_147_92, e_147_96, e_147_99, e_147_100, e_147_102, e_147_105, e_147_106, e_147_109, e_147_110, e_147_112, e_147_115, e_147_116, e_147_119, e_147_121, e_147_122, e_147_125, e_147_127, e_147_130, e_147_131, e_147_133, e_147_136, e_147_137, e_147_139, e_147_142, e_147_143, e_147_144, e_147_145, e_147_148, e_147_149, e_147_152, e_147_153, e_147_155, e_147_158, e_147_161, e_147_164, e_147_167, e_147_169, e_147_169_1, nl_int, nl_ref, nl_none, cat_int, cat_ref, cat_0, cat_i, cat_r, cat_l, Option.elim_some, Option.elim_none, Option.bind_some, Option.bind_none, Option.toList_some, Option.toList_none, List.cons_append, List.nil_append, Nat.reduceAdd, Nat.reduceLeDiff, wD_f1 hl, ok.lp hl, lt', if_true, b1, b2', bI_t, bI_f, show ((0 : Int32) = 1) = False from by decide, if_false, sp2, Bool.not_false, b2_t, z1, Bool.true_or, Bool.or_true, Bool.true_and]
      | false =>
        rw [e1] at b1
        cases e4 : mHush nw i with
        | true =>
          rw [e4] at sp1
          simp (maxSteps := 1000000) (disch := first | exact nl_int | exact nl_ref | exact nl_none | exact Nat.le_of_ble_eq_true rfl | assumption | exact wD_cl (by assumption) | exact cat_int | exact cat_ref | exact z2 | exact z4 | exact z3 | exact z5 | exact z6 | exact z8 | exact z64) only [e_147_0, e_147_1, e_147_3, e_147_4, e_147_8, e_147_9, e_147_12, e_147_13, e_147_14, e_147_17, e_147_19, e_147_20, e_147_21, e_147_25, e_147_26, e_147_29, e_147_30, e_147_31, e_147_34, e_147_35, e_147_37, e_147_38, e_147_39, e_147_40, e_147_41, e_147_43, e_147_44, e_147_45, e_147_46, e_147_47, e_147_49, e_147_50, e_147_52, e_147_53, e_147_54, e_147_55, e_147_56, e_147_59, e_147_60, e_147_62, e_147_65, e_147_68, e_147_69, e_147_71, e_147_72, e_147_73, e_147_74, e_147_75, e_147_78, e_147_79, e_147_81, e_147_84, e_147_87, e_147_88, e_147_91, e_147_92, e_147_96, e_147_99, e_147_100, e_147_102, e_147_105, e_147_106, e_147_109, e_147_110, e_147_112, e_147_115, e_147_116, e_147_119, e_147_121, e_147_122, e_147_125, e_147_127, e_147_130, e_147_131, e_147_133, e_147_136, e_147_137, e_147_139, e_147_142, e_147_143, e_147_144, e_147_145, e_147_148, e_147_149, e_147_152, e_147_153, e_147_155, e_147_158, e_147_161, e_147_164, e_147_167, e_147_169, e_147_169_1, nl_int, nl_ref, nl_none, cat_int, cat_ref, cat_0, cat_i, cat_r, cat_l, Option.elim_some, Option.elim_none, Option.bind_some, Option.bind_none, Option.toList_some, Option.toList_none, List.cons_append, List.nil_append, Nat.reduceAdd, Nat.reduceLeDiff, wD_f1 hl, ok.lp hl, lt', if_true, b1, b2', bI_f, show ((0 : Int32) = 1) = False from by decide, if_false, sp1, Bool.not_true, b2_f, z0, Bool.false_or, Bool.false_and]
        | false =>
          rw [e4] at sp1
          cases e2 : s.testBit j with
          | true =>
            rw [e2] at b2'
            simp (maxSteps := 1000000) (disch := first | exact nl_int | exact nl_ref | exact nl_none | exact Nat.le_of_ble_eq_true rfl | assumption | exact wD_cl (by assumption) | exact cat_int | exact cat_ref | exact z2 | exact z4 | exact z3 | exact z5 | exact z6 | exact z8 | exact z64) only [e_147_0, e_147_1, e_147_3, e_147_4, e_147_8, e_147_9, e_147_12, e_147_13, e_147_14, e_147_17, e_147_19, e_147_20, e_147_21, e_147_25, e_147_26, e_147_29, e_147_30, e_147_31, e_147_34, e_147_35, e_147_37, e_147_38, e_147_39, e_147_40, e_147_41, e_147_43, e_147_44, e_147_45, e_147_46, e_147_47, e_147_49, e_147_50, e_147_52, e_147_53, e_147_54, e_147_55, e_147_56, e_147_59, e_147_60, e_147_62, e_147_65, e_147_68, e_147_69, e_147_71, e_147_72, e_147_73, e_147_74, e_147_75, e_147_78, e_147_79, e_147_81, e_147_84, e_147_87, e_147_88, e_147_91, e_147_92, e_147_96, e_147_99, e_147_100, e_147_102, e_147_105, e_147_106, e_147_109, e_147_110, e_147_112, e_147_115, e_147_116, e_147_119, e_147_121, e_147_122, e_147_125, e_147_127, e_147_130, e_147_131, e_147_133, e_147_136, e_147_137, e_147_139, e_147_142, e_147_143, e_147_144, e_147_145, e_147_148, e_147_149, e_147_152, e_147_153, e_147_155, e_147_158, e_147_161, e_147_164, e_147_167, e_147_169, e_147_169_1, nl_int, nl_ref, nl_none, cat_int, cat_ref, cat_0, cat_i, cat_r, cat_l, Option.elim_some, Option.elim_none, Option.bind_some, Option.bind_none, Option.toList_some, Option.toList_none, List.cons_append, List.nil_append, Nat.reduceAdd, Nat.reduceLeDiff, wD_f1 hl, ok.lp hl, lt', if_true, b1, b2', bI_t, bI_f, show ((0 : Int32) = 1) = False from by decide, if_false, sp1, Bool.not_false, b2_t, z1, Bool.false_or, Bool.true_or, Bool.and_true]
          | false =>
            rw [e2] at b2'
            cases e3 : mHush nw j with
            | true =>
              rw [e3] at sp2
              simp (maxSteps := 1000000) (disch := first | exact nl_int | exact nl_ref | exact nl_none | exact Nat.le_of_ble_eq_true rfl | assumption | exact wD_cl (by assumption) | exact cat_int | exact cat_ref | exact z2 | exact z4 | exact z3 | exact z5 | exact z6 | exact z8 | exact z64) only [e_147_0, e_147_1, e_147_3, e_147_4, e_147_8, e_147_9, e_147_12, e_147_13, e_147_14, e_147_17, e_147_19, e_147_20, e_147_21, e_147_25, e_147_26, e_147_29, e_147_30, e_147_31, e_147_34, e_147_35, e_147_37, e_147_38, e_147_39, e_147_40, e_147_41, e_147_43, e_147_44, e_147_45, e_147_46, e_147_47, e_147_49, e_147_50, e_147_52, e_147_53, e_147_54, e_147_55, e_147_56, e_147_59, e_147_60, e_147_62, e_147_65, e_147_68, e_147_69, e_147_71, e_147_72, e_147_73, e_147_74, e_147_75, e_147_78, e_147_79, e_147_81, e_147_84, e_147_87, e_147_88, e_147_91, e_147_92, e_147_96, e_147_99, e_147_100, e_147_102, e_147_105, e_147_106, e_147_109, e_147_110, e_147_112, e_147_115, e_147_116, e_147_119, e_147_121, e_147_122, e_147_125, e_147_127, e_147_130, e_147_131, e_147_133, e_147_136, e_147_137, e_147_139, e_147_142, e_147_143, e_147_144, e_147_145, e_147_148, e_147_149, e_147_152, e_147_153, e_147_155, e_147_158, e_147_161, e_147_164, e_147_167, e_147_169, e_147_169_1, nl_int, nl_ref, nl_none, cat_int, cat_ref, cat_0, cat_i, cat_r, cat_l, Option.elim_some, Option.elim_none, Option.bind_some, Option.bind_none, Option.toList_some, Option.toList_none, List.cons_append, List.nil_append, Nat.reduceAdd, Nat.reduceLeDiff, wD_f1 hl, ok.lp hl, lt', if_true, b1, b2', bI_f, show ((0 : Int32) = 1) = False from by decide, if_false, sp1, sp2, Bool.not_true, Bool.not_false, b2_f, b2_t, z0, z1, Bool.false_or, Bool.and_false]
            | false =>
              rw [e3] at sp2
              simp (maxSteps := 1000000) (disch := first | exact nl_int | exact nl_ref | exact nl_none | exact Nat.le_of_ble_eq_true rfl | assumption | exact wD_cl (by assumption) | exact cat_int | exact cat_ref | exact z2 | exact z4 | exact z3 | exact z5 | exact z6 | exact z8 | exact z64) only [e_147_0, e_147_1, e_147_3, e_147_4, e_147_8, e_147_9, e_147_12, e_147_13, e_147_14, e_147_17, e_147_19, e_147_20, e_147_21, e_147_25, e_147_26, e_147_29, e_147_30, e_147_31, e_147_34, e_147_35, e_147_37, e_147_38, e_147_39, e_147_40, e_147_41, e_147_43, e_147_44, e_147_45, e_147_46, e_147_47, e_147_49, e_147_50, e_147_52, e_147_53, e_147_54, e_147_55, e_147_56, e_147_59, e_147_60, e_147_62, e_147_65, e_147_68, e_147_69, e_147_71, e_147_72, e_147_73, e_147_74, e_147_75, e_147_78, e_147_79, e_147_81, e_147_84, e_147_87, e_147_88, e_147_91, e_147_92, e_147_96, e_147_99, e_147_100, e_147_102, e_147_105, e_147_106, e_147_109, e_147_110, e_147_112, e_147_115, e_147_116, e_147_119, e_147_121, e_147_122, e_147_125, e_147_127, e_147_130, e_147_131, e_147_133, e_147_136, e_147_137, e_147_139, e_147_142, e_147_143, e_147_144, e_147_145, e_147_148, e_147_149, e_147_152, e_147_153, e_147_155, e_147_158, e_147_161, e_147_164, e_147_167, e_147_169, e_147_169_1, nl_int, nl_ref, nl_none, cat_int, cat_ref, cat_0, cat_i, cat_r, cat_l, Option.elim_some, Option.elim_none, Option.bind_some, Option.bind_none, Option.toList_some, Option.toList_none, List.cons_append, List.nil_append, Nat.reduceAdd, Nat.reduceLeDiff, wD_f1 hl, ok.lp hl, lt', if_true, b1, b2', bI_f, show ((0 : Int32) = 1) = False from by decide, if_false, sp1, sp2, Bool.not_false, b2_t, z1, Bool.or_true, Bool.and_true]
    obtain ⟨z7, hz7, e94⟩ := h94
    rw [e94]
    obtain ⟨sp, esp⟩ : ∃ sp, sp = ((s.testBit i || !mHush nw i) && (s.testBit j || !mHush nw j)) := ⟨_, rfl⟩
    rw [← esp]
    have go : ∀ b', ∃ m7 m8, am_E (d + 11) 147 153 [some (.ref 141), some (.int (nI g)), some (.int (nI s)), some (.int (nI tt)), some (.int (b2 b)), some (.int (nI i)), some (.int (nI j)), some (.int z7), some (.int (b2 sp))] [.int (b2 b')] (wD hp I A) = am_E (d + 11) 147 161 [some (.ref 141), some (.int (nI g)), some (.int (nI s)), some (.int (nI tt)), some (.int (b2 (am_for (psF (mDraw nw (nI s) nw) g (nI tt) i) (j + 1) n b'))), some (.int (nI i)), some (.int (nI (cPp ct))), m7, m8] [] (wD hp I A) := fun b' => by
      obtain ⟨m7, m8, e⟩ := ih (j + 1) b' (some (.int z7)) (some (.int (b2 sp))) (by omega)
      refine ⟨m7, m8, ?_⟩
      rw [← e]
      simp (maxSteps := 1000000) (disch := first | exact nl_int | exact nl_ref | exact nl_none | exact Nat.le_of_ble_eq_true rfl | assumption | exact wD_cl (by assumption) | exact cat_int | exact cat_ref | exact z2 | exact z4 | exact z3 | exact z5 | exact z6 | exact z8 | exact z64) only [e_147_0, e_147_1, e_147_3, e_147_4, e_147_8, e_147_9, e_147_12, e_147_13, e_147_14, e_147_17, e_147_19, e_147_20, e_147_21, e_147_25, e_147_26, e_147_29, e_147_30, e_147_31, e_147_34, e_147_35, e_147_37, e_147_38, e_147_39, e_147_40, e_147_41, e_147_43, e_147_44, e_147_45, e_147_46, e_147_47, e_147_49, e_147_50, e_147_52, e_147_53, e_147_54, e_147_55, e_147_56, e_147_59, e_147_60, e_147_62, e_147_65, e_147_68, e_147_69, e_147_71, e_147_72, e_147_73, e_147_74, e_147_75, e_147_78, e_147_79, e_147_81, e_147_84, e_147_87, e_147_88, e_147_91, e_147_92, e_147_94, e_147_96, e_147_99, e_147_100, e_147_102, e_147_105, e_147_106, e_147_109, e_147_110, e_147_112, e_147_115, e_147_116, e_147_119, e_147_121, e_147_122, e_147_125, e_147_127, e_147_130, e_147_131, e_147_133, e_147_136, e_147_137, e_147_139, e_147_142, e_147_143, e_147_144, e_147_145, e_147_148, e_147_149, e_147_152, e_147_153, e_147_155, e_147_158, e_147_164, e_147_167, e_147_169, e_147_169_1, nl_int, nl_ref, nl_none, cat_int, cat_ref, cat_0, cat_i, cat_r, cat_l, Option.elim_some, Option.elim_none, Option.bind_some, Option.bind_none, Option.toList_some, Option.toList_none, List.cons_append, List.nil_append, Nat.reduceAdd, Nat.reduceLeDiff, nI_1]
    have ho1 := s7_ho (d := d + 10) (I := I) hl ok.1 ok.2.1 hi p8
    have ho2 := s7_ho (d := d + 10) (I := I) hl ok.1 ok.2.1 j8 p8
    have so1 := s7_op (d := d + 10) (I := I) hl ok.1 ok.2.1 hi p8
    have so2 := s7_op (d := d + 10) (I := I) hl ok.1 ok.2.1 j8 p8
    cases b with
    | true =>
      rw [Bool.true_or]
      obtain ⟨m7, m8, e⟩ := go true
      refine ⟨m7, m8, ?_⟩
      rw [← e, b2_t]
      simp (maxSteps := 1000000) (disch := first | exact nl_int | exact nl_ref | exact nl_none | exact Nat.le_of_ble_eq_true rfl | assumption | exact wD_cl (by assumption) | exact cat_int | exact cat_ref | exact z2 | exact z4 | exact z3 | exact z5 | exact z6 | exact z8 | exact z64) only [e_147_0, e_147_1, e_147_3, e_147_4, e_147_8, e_147_9, e_147_12, e_147_13, e_147_14, e_147_17, e_147_19, e_147_20, e_147_21, e_147_25, e_147_26, e_147_29, e_147_30, e_147_31, e_147_34, e_147_35, e_147_37, e_147_38, e_147_39, e_147_40, e_147_41, e_147_43, e_147_44, e_147_45, e_147_46, e_147_47, e_147_49, e_147_50, e_147_52, e_147_53, e_147_54, e_147_55, e_147_56, e_147_59, e_147_60, e_147_62, e_147_65, e_147_68, e_147_69, e_147_71, e_147_72, e_147_73, e_147_74, e_147_75, e_147_78, e_147_79, e_147_81, e_147_84, e_147_87, e_147_88, e_147_91, e_147_92, e_147_94, e_147_96, e_147_99, e_147_100, e_147_102, e_147_105, e_147_106, e_147_109, e_147_110, e_147_112, e_147_115, e_147_116, e_147_119, e_147_121, e_147_122, e_147_125, e_147_127, e_147_130, e_147_131, e_147_133, e_147_136, e_147_137, e_147_139, e_147_142, e_147_143, e_147_144, e_147_145, e_147_148, e_147_149, e_147_152, e_147_155, e_147_158, e_147_161, e_147_164, e_147_167, e_147_169, e_147_169_1, nl_int, nl_ref, nl_none, cat_int, cat_ref, cat_0, cat_i, cat_r, cat_l, Option.elim_some, Option.elim_none, Option.bind_some, Option.bind_none, Option.toList_some, Option.toList_none, List.cons_append, List.nil_append, Nat.reduceAdd, Nat.reduceLeDiff, z1, if_false]
    | false =>
      rw [Bool.false_or]
      by_cases q1 : mH nw i = nI g
      · rw [decide_eq_true q1, Bool.true_and]
        by_cases q2 : mH nw j = nI g
        · rw [decide_eq_true q2, Bool.true_and]
          cases q3 : (s.testBit i || s.testBit j) with
          | false =>
            rw [Bool.false_and]
            have nz : ¬ z7 = 1 := fun w => by rw [hz7.mp w] at q3; cases q3
            obtain ⟨m7, m8, e⟩ := go false
            refine ⟨m7, m8, ?_⟩
            rw [← e, b2_f]
            simp (maxSteps := 1000000) (disch := first | exact nl_int | exact nl_ref | exact nl_none | exact Nat.le_of_ble_eq_true rfl | assumption | exact wD_cl (by assumption) | exact cat_int | exact cat_ref | exact z2 | exact z4 | exact z3 | exact z5 | exact z6 | exact z8 | exact z64) only [e_147_0, e_147_1, e_147_3, e_147_4, e_147_8, e_147_9, e_147_12, e_147_13, e_147_14, e_147_17, e_147_19, e_147_20, e_147_21, e_147_25, e_147_26, e_147_29, e_147_30, e_147_31, e_147_34, e_147_35, e_147_37, e_147_38, e_147_39, e_147_40, e_147_41, e_147_43, e_147_44, e_147_45, e_147_46, e_147_47, e_147_49, e_147_50, e_147_52, e_147_53, e_147_54, e_147_55, e_147_56, e_147_59, e_147_60, e_147_62, e_147_65, e_147_68, e_147_69, e_147_71, e_147_72, e_147_73, e_147_74, e_147_75, e_147_78, e_147_79, e_147_81, e_147_84, e_147_87, e_147_88, e_147_91, e_147_92, e_147_94, e_147_96, e_147_99, e_147_100, e_147_102, e_147_105, e_147_106, e_147_109, e_147_110, e_147_112, e_147_115, e_147_116, e_147_119, e_147_121, e_147_122, e_147_125, e_147_127, e_147_130, e_147_131, e_147_133, e_147_136, e_147_137, e_147_139, e_147_142, e_147_143, e_147_144, e_147_145, e_147_148, e_147_149, e_147_152, e_147_155, e_147_158, e_147_161, e_147_164, e_147_167, e_147_169, e_147_169_1, nl_int, nl_ref, nl_none, cat_int, cat_ref, cat_0, cat_i, cat_r, cat_l, Option.elim_some, Option.elim_none, Option.bind_some, Option.bind_none, Option.toList_some, Option.toList_none, List.cons_append, List.nil_append, Nat.reduceAdd, Nat.reduceLeDiff, z0, if_true, ho1, ho2, if_pos q1, if_pos q2, if_neg nz]
          | true =>
            rw [Bool.true_and]
            have nz : z7 = 1 := hz7.mpr q3
            cases sp with
            | false =>
              rw [Bool.false_and]
              obtain ⟨m7, m8, e⟩ := go false
              refine ⟨m7, m8, ?_⟩
              rw [← e, b2_f]
              simp (maxSteps := 1000000) (disch := first | exact nl_int | exact nl_ref | exact nl_none | exact Nat.le_of_ble_eq_true rfl | assumption | exact wD_cl (by assumption) | exact cat_int | exact cat_ref | exact z2 | exact z4 | exact z3 | exact z5 | exact z6 | exact z8 | exact z64) only [e_147_0, e_147_1, e_147_3, e_147_4, e_147_8, e_147_9, e_147_12, e_147_13, e_147_14, e_147_17, e_147_19, e_147_20, e_147_21, e_147_25, e_147_26, e_147_29, e_147_30, e_147_31, e_147_34, e_147_35, e_147_37, e_147_38, e_147_39, e_147_40, e_147_41, e_147_43, e_147_44, e_147_45, e_147_46, e_147_47, e_147_49, e_147_50, e_147_52, e_147_53, e_147_54, e_147_55, e_147_56, e_147_59, e_147_60, e_147_62, e_147_65, e_147_68, e_147_69, e_147_71, e_147_72, e_147_73, e_147_74, e_147_75, e_147_78, e_147_79, e_147_81, e_147_84, e_147_87, e_147_88, e_147_91, e_147_92, e_147_94, e_147_96, e_147_99, e_147_100, e_147_102, e_147_105, e_147_106, e_147_109, e_147_110, e_147_112, e_147_115, e_147_116, e_147_119, e_147_121, e_147_122, e_147_125, e_147_127, e_147_130, e_147_131, e_147_133, e_147_136, e_147_137, e_147_139, e_147_142, e_147_143, e_147_144, e_147_145, e_147_148, e_147_149, e_147_152, e_147_155, e_147_158, e_147_161, e_147_164, e_147_167, e_147_169, e_147_169_1, nl_int, nl_ref, nl_none, cat_int, cat_ref, cat_0, cat_i, cat_r, cat_l, Option.elim_some, Option.elim_none, Option.bind_some, Option.bind_none, Option.toList_some, Option.toList_none, List.cons_append, List.nil_append, Nat.reduceAdd, Nat.reduceLeDiff, z0, if_true, ho1, ho2, if_pos q1, if_pos q2, if_pos nz]
            | true =>
              rw [Bool.true_and]
              by_cases q4 : (mO nw i ^^^ mO nw j) &&& nI tt = 0
              · rw [decide_eq_true q4, Bool.not_true]
                obtain ⟨m7, m8, e⟩ := go false
                refine ⟨m7, m8, ?_⟩
                rw [← e, b2_f, b2_t]
                simp (maxSteps := 1000000) (disch := first | exact nl_int | exact nl_ref | exact nl_none | exact Nat.le_of_ble_eq_true rfl | assumption | exact wD_cl (by assumption) | exact cat_int | exact cat_ref | exact z2 | exact z4 | exact z3 | exact z5 | exact z6 | exact z8 | exact z64) only [e_147_0, e_147_1, e_147_3, e_147_4, e_147_8, e_147_9, e_147_12, e_147_13, e_147_14, e_147_17, e_147_19, e_147_20, e_147_21, e_147_25, e_147_26, e_147_29, e_147_30, e_147_31, e_147_34, e_147_35, e_147_37, e_147_38, e_147_39, e_147_40, e_147_41, e_147_43, e_147_44, e_147_45, e_147_46, e_147_47, e_147_49, e_147_50, e_147_52, e_147_53, e_147_54, e_147_55, e_147_56, e_147_59, e_147_60, e_147_62, e_147_65, e_147_68, e_147_69, e_147_71, e_147_72, e_147_73, e_147_74, e_147_75, e_147_78, e_147_79, e_147_81, e_147_84, e_147_87, e_147_88, e_147_91, e_147_92, e_147_94, e_147_96, e_147_99, e_147_100, e_147_102, e_147_105, e_147_106, e_147_109, e_147_110, e_147_112, e_147_115, e_147_116, e_147_119, e_147_121, e_147_122, e_147_125, e_147_127, e_147_130, e_147_131, e_147_133, e_147_136, e_147_137, e_147_139, e_147_142, e_147_143, e_147_144, e_147_145, e_147_148, e_147_149, e_147_152, e_147_155, e_147_158, e_147_161, e_147_164, e_147_167, e_147_169, e_147_169_1, nl_int, nl_ref, nl_none, cat_int, cat_ref, cat_0, cat_i, cat_r, cat_l, Option.elim_some, Option.elim_none, Option.bind_some, Option.bind_none, Option.toList_some, Option.toList_none, List.cons_append, List.nil_append, Nat.reduceAdd, Nat.reduceLeDiff, z0, z1, if_true, if_false, ho1, ho2, if_pos q1, if_pos q2, if_pos nz, so1, so2, if_pos q4]
              · rw [decide_eq_false q4, Bool.not_false]
                obtain ⟨m7, m8, e⟩ := go true
                refine ⟨m7, m8, ?_⟩
                rw [← e, b2_f, b2_t]
                simp (maxSteps := 1000000) (disch := first | exact nl_int | exact nl_ref | exact nl_none | exact Nat.le_of_ble_eq_true rfl | assumption | exact wD_cl (by assumption) | exact cat_int | exact cat_ref | exact z2 | exact z4 | exact z3 | exact z5 | exact z6 | exact z8 | exact z64) only [e_147_0, e_147_1, e_147_3, e_147_4, e_147_8, e_147_9, e_147_12, e_147_13, e_147_14, e_147_17, e_147_19, e_147_20, e_147_21, e_147_25, e_147_26, e_147_29, e_147_30, e_147_31, e_147_34, e_147_35, e_147_37, e_147_38, e_147_39, e_147_40, e_147_41, e_147_43, e_147_44, e_147_45, e_147_46, e_147_47, e_147_49, e_147_50, e_147_52, e_147_53, e_147_54, e_147_55, e_147_56, e_147_59, e_147_60, e_147_62, e_147_65, e_147_68, e_147_69, e_147_71, e_147_72, e_147_73, e_147_74, e_147_75, e_147_78, e_147_79, e_147_81, e_147_84, e_147_87, e_147_88, e_147_91, e_147_92, e_147_94, e_147_96, e_147_99, e_147_100, e_147_102, e_147_105, e_147_106, e_147_109, e_147_110, e_147_112, e_147_115, e_147_116, e_147_119, e_147_121, e_147_122, e_147_125, e_147_127, e_147_130, e_147_131, e_147_133, e_147_136, e_147_137, e_147_139, e_147_142, e_147_143, e_147_144, e_147_145, e_147_148, e_147_149, e_147_152, e_147_155, e_147_158, e_147_161, e_147_164, e_147_167, e_147_169, e_147_169_1, nl_int, nl_ref, nl_none, cat_int, cat_ref, cat_0, cat_i, cat_r, cat_l, Option.elim_some, Option.elim_none, Option.bind_some, Option.bind_none, Option.toList_some, Option.toList_none, List.cons_append, List.nil_append, Nat.reduceAdd, Nat.reduceLeDiff, z0, z1, if_true, if_false, ho1, ho2, if_pos q1, if_pos q2, if_pos nz, so1, so2, if_neg q4]
        · rw [decide_eq_false q2, Bool.false_and]
          obtain ⟨m7, m8, e⟩ := go false
          refine ⟨m7, m8, ?_⟩
          rw [← e, b2_f]
          simp (maxSteps := 1000000) (disch := first | exact nl_int | exact nl_ref | exact nl_none | exact Nat.le_of_ble_eq_true rfl | assumption | exact wD_cl (by assumption) | exact cat_int | exact cat_ref | exact z2 | exact z4 | exact z3 | exact z5 | exact z6 | exact z8 | exact z64) only [e_147_0, e_147_1, e_147_3, e_147_4, e_147_8, e_147_9, e_147_12, e_147_13, e_147_14, e_147_17, e_147_19, e_147_20, e_147_21, e_147_25, e_147_26, e_147_29, e_147_30, e_147_31, e_147_34, e_147_35, e_147_37, e_147_38, e_147_39, e_147_40, e_147_41, e_147_43, e_147_44, e_147_45, e_147_46, e_147_47, e_147_49, e_147_50, e_147_52, e_147_53, e_147_54, e_147_55, e_147_56, e_147_59, e_147_60, e_147_62, e_147_65, e_147_68, e_147_69, e_147_71, e_147_72, e_147_73, e_147_74, e_147_75, e_147_78, e_147_79, e_147_81, e_147_84, e_147_87, e_147_88, e_147_91, e_147_92, e_147_94, e_147_96, e_147_99, e_147_100, e_147_102, e_147_105, e_147_106, e_147_109, e_147_110, e_147_112, e_147_115, e_147_116, e_147_119, e_147_121, e_147_122, e_147_125, e_147_127, e_147_130, e_147_131, e_147_133, e_147_136, e_147_137, e_147_139, e_147_142, e_147_143, e_147_144, e_147_145, e_147_148, e_147_149, e_147_152, e_147_155, e_147_158, e_147_161, e_147_164, e_147_167, e_147_169, e_147_169_1, nl_int, nl_ref, nl_none, cat_int, cat_ref, cat_0, cat_i, cat_r, cat_l, Option.elim_some, Option.elim_none, Option.bind_some, Option.bind_none, Option.toList_some, Option.toList_none, List.cons_append, List.nil_append, Nat.reduceAdd, Nat.reduceLeDiff, z0, if_true, ho1, ho2, if_pos q1, if_neg q2]
      · rw [decide_eq_false q1, Bool.false_and]
        obtain ⟨m7, m8, e⟩ := go false
        refine ⟨m7, m8, ?_⟩
        rw [← e, b2_f]
        simp (maxSteps := 1000000) (disch := first | exact nl_int | exact nl_ref | exact nl_none | exact Nat.le_of_ble_eq_true rfl | assumption | exact wD_cl (by assumption) | exact cat_int | exact cat_ref | exact z2 | exact z4 | exact z3 | exact z5 | exact z6 | exact z8 | exact z64) only [e_147_0, e_147_1, e_147_3, e_147_4, e_147_8, e_147_9, e_147_12, e_147_13, e_147_14, e_147_17, e_147_19, e_147_20, e_147_21, e_147_25, e_147_26, e_147_29, e_147_30, e_147_31, e_147_34, e_147_35, e_147_37, e_147_38, e_147_39, e_147_40, e_147_41, e_147_43, e_147_44, e_147_45, e_147_46, e_147_47, e_147_49, e_147_50, e_147_52, e_147_53, e_147_54, e_147_55, e_147_56, e_147_59, e_147_60, e_147_62, e_147_65, e_147_68, e_147_69, e_147_71, e_147_72, e_147_73, e_147_74, e_147_75, e_147_78, e_147_79, e_147_81, e_147_84, e_147_87, e_147_88, e_147_91, e_147_92, e_147_94, e_147_96, e_147_99, e_147_100, e_147_102, e_147_105, e_147_106, e_147_109, e_147_110, e_147_112, e_147_115, e_147_116, e_147_119, e_147_121, e_147_122, e_147_125, e_147_127, e_147_130, e_147_131, e_147_133, e_147_136, e_147_137, e_147_139, e_147_142, e_147_143, e_147_144, e_147_145, e_147_148, e_147_149, e_147_152, e_147_155, e_147_158, e_147_161, e_147_164, e_147_167, e_147_169, e_147_169_1, nl_int, nl_ref, nl_none, cat_int, cat_ref, cat_0, cat_i, cat_r, cat_l, Option.elim_some, Option.elim_none, Option.bind_some, Option.bind_none, Option.toList_some, Option.toList_none, List.cons_append, List.nil_append, Nat.reduceAdd, Nat.reduceLeDiff, z0, if_true, ho1, if_neg q1]
theorem s7_si (hl : 154 < hp.length) (ok : Ok7 A ct nw hr) (hs : s < 256) (ht : tt < 32) (hg : g < 5) : ∀ n i b l6 l7 l8, i + n = cPp ct → am_E (d + 11) 147 6 [some (.ref 141), some (.int (nI g)), some (.int (nI s)), some (.int (nI tt)), some (.int (b2 b)), some (.int (nI i)), l6, l7, l8] [] (wD hp I A) = some (some (.int (b2 (am_for (psG (mDraw nw (nI s) nw) g (cPp ct) (nI tt)) i n b))), wD hp I A) := by
  have p8 := ok.p8
  intro n
  induction n with
  | zero =>
    intro i b l6 l7 l8 hi
    obtain rfl : i = cPp ct := by omega
    rw [e_147_6, am_for]
    cases b with
    | true => simp (maxSteps := 1000000) (disch := first | exact nl_int | exact nl_ref | exact nl_none | exact Nat.le_of_ble_eq_true rfl | assumption | exact wD_cl (by assumption) | exact cat_int | exact cat_ref | exact z2 | exact z4 | exact z3 | exact z5 | exact z6 | exact z8 | exact z64) only [e_147_0, e_147_1, e_147_3, e_147_4, e_147_8, e_147_9, e_147_12, e_147_13, e_147_14, e_147_17, e_147_19, e_147_20, e_147_21, e_147_25, e_147_26, e_147_29, e_147_30, e_147_31, e_147_34, e_147_35, e_147_37, e_147_38, e_147_39, e_147_40, e_147_41, e_147_43, e_147_44, e_147_45, e_147_46, e_147_47, e_147_49, e_147_50, e_147_52, e_147_53, e_147_54, e_147_55, e_147_56, e_147_59, e_147_60, e_147_62, e_147_65, e_147_68, e_147_69, e_147_71, e_147_72, e_147_73, e_147_74, e_147_75, e_147_78, e_147_79, e_147_81, e_147_84, e_147_87, e_147_88, e_147_91, e_147_92, e_147_94, e_147_96, e_147_99, e_147_100, e_147_102, e_147_105, e_147_106, e_147_109, e_147_110, e_147_112, e_147_115, e_147_116, e_147_119, e_147_121, e_147_122, e_147_125, e_147_127, e_147_130, e_147_131, e_147_133, e_147_136, e_147_137, e_147_139, e_147_142, e_147_143, e_147_144, e_147_145, e_147_148, e_147_149, e_147_152, e_147_153, e_147_155, e_147_158, e_147_161, e_147_164, e_147_167, e_147_169, e_147_169_1, nl_int, nl_ref, nl_none, cat_int, cat_ref, cat_0, cat_i, cat_r, cat_l, Option.elim_some, Option.elim_none, Option.bind_some, Option.bind_none, Option.toList_some, Option.toList_none, List.cons_append, List.nil_append, Nat.reduceAdd, Nat.reduceLeDiff, wD_f1 hl, ok.lp hl, ltF (x := nI (cPp ct)) (c := cPp ct) rfl (Nat.le_refl _) (by omega), if_false, b2_t]
    | false => simp (maxSteps := 1000000) (disch := first | exact nl_int | exact nl_ref | exact nl_none | exact Nat.le_of_ble_eq_true rfl | assumption | exact wD_cl (by assumption) | exact cat_int | exact cat_ref | exact z2 | exact z4 | exact z3 | exact z5 | exact z6 | exact z8 | exact z64) only [e_147_0, e_147_1, e_147_3, e_147_4, e_147_8, e_147_9, e_147_12, e_147_13, e_147_14, e_147_17, e_147_19, e_147_20, e_147_21, e_147_25, e_147_26, e_147_29, e_147_30, e_147_31, e_147_34, e_147_35, e_147_37, e_147_38, e_147_39, e_147_40, e_147_41, e_147_43, e_147_44, e_147_45, e_147_46, e_147_47, e_147_49, e_147_50, e_147_52, e_147_53, e_147_54, e_147_55, e_147_56, e_147_59, e_147_60, e_147_62, e_147_65, e_147_68, e_147_69, e_147_71, e_147_72, e_147_73, e_147_74, e_147_75, e_147_78, e_147_79, e_147_81, e_147_84, e_147_87, e_147_88, e_147_91, e_147_92, e_147_94, e_147_96, e_147_99, e_147_100, e_147_102, e_147_105, e_147_106, e_147_109, e_147_110, e_147_112, e_147_115, e_147_116, e_147_119, e_147_121, e_147_122, e_147_125, e_147_127, e_147_130, e_147_131, e_147_133, e_147_136, e_147_137, e_147_139, e_147_142, e_147_143, e_147_144, e_147_145, e_147_148, e_147_149, e_147_152, e_147_153, e_147_155, e_147_158, e_147_161, e_147_164, e_147_167, e_147_169, e_147_169_1, nl_int, nl_ref, nl_none, cat_int, cat_ref, cat_0, cat_i, cat_r, cat_l, Option.elim_some, Option.elim_none, Option.bind_some, Option.bind_none, Option.toList_some, Option.toList_none, List.cons_append, List.nil_append, Nat.reduceAdd, Nat.reduceLeDiff, wD_f1 hl, ok.lp hl, ltF (x := nI (cPp ct)) (c := cPp ct) rfl (Nat.le_refl _) (by omega), if_false, b2_f]
  | succ n ih =>
    intro i b l6 l7 l8 hi
    have i8 : i < cPp ct := by omega
    obtain ⟨m7, m8, e⟩ := s7_sj (d := d) (I := I) hl ok hs ht hg i8 (cPp ct - 1 - i) (i + 1) b l7 l8 (by omega)
    have e2 := ih (i + 1) (am_for (psF (mDraw nw (nI s) nw) g (nI tt) i) (i + 1) (cPp ct - 1 - i) b) (some (.int (nI (cPp ct)))) m7 m8 (by omega)
    rw [am_for]
    show _ = some (some (Value.int (b2 (am_for (psG (mDraw nw (nI s) nw) g (cPp ct) (nI tt)) (i + 1) n (am_for (psF (mDraw nw (nI s) nw) g (nI tt) i) (i + 1) (cPp ct - 1 - i) b)))), wD hp I A)
    rw [← e2, e_147_6]
    simp (maxSteps := 1000000) (disch := first | exact nl_int | exact nl_ref | exact nl_none | exact Nat.le_of_ble_eq_true rfl | assumption | exact wD_cl (by assumption) | exact cat_int | exact cat_ref | exact z2 | exact z4 | exact z3 | exact z5 | exact z6 | exact z8 | exact z64) only [e_147_0, e_147_1, e_147_3, e_147_4, e_147_8, e_147_9, e_147_12, e_147_13, e_147_14, e_147_17, e_147_19, e_147_20, e_147_21, e_147_25, e_147_26, e_147_29, e_147_30, e_147_31, e_147_34, e_147_35, e_147_37, e_147_38, e_147_39, e_147_40, e_147_41, e_147_43, e_147_44, e_147_45, e_147_46, e_147_47, e_147_49, e_147_50, e_147_52, e_147_53, e_147_54, e_147_55, e_147_56, e_147_59, e_147_60, e_147_62, e_147_65, e_147_68, e_147_69, e_147_71, e_147_72, e_147_73, e_147_74, e_147_75, e_147_78, e_147_79, e_147_81, e_147_84, e_147_87, e_147_88, e_147_91, e_147_92, e_147_94, e_147_96, e_147_99, e_147_100, e_147_102, e_147_105, e_147_106, e_147_109, e_147_110, e_147_112, e_147_115, e_147_116, e_147_119, e_147_121, e_147_122, e_147_125, e_147_127, e_147_130, e_147_131, e_147_133, e_147_136, e_147_137, e_147_139, e_147_142, e_147_143, e_147_144, e_147_145, e_147_148, e_147_149, e_147_152, e_147_153, e_147_155, e_147_158, e_147_161, e_147_164, e_147_167, e_147_169, e_147_169_1, nl_int, nl_ref, nl_none, cat_int, cat_ref, cat_0, cat_i, cat_r, cat_l, Option.elim_some, Option.elim_none, Option.bind_some, Option.bind_none, Option.toList_some, Option.toList_none, List.cons_append, List.nil_append, Nat.reduceAdd, Nat.reduceLeDiff, wD_f1 hl, ok.lp hl, ltT (x := nI (cPp ct)) (c := cPp ct) rfl i8 (by omega), if_true, nI_1, e]
theorem s7_isSmoke (hl : 154 < hp.length) (ok : Ok7 A ct nw hr) (hs : s < 256) (ht : tt < 32) (hg : g < 5) : am_E (d + 11) 147 0 [some (.ref 141), some (.int (nI g)), some (.int (nI s)), some (.int (nI tt)), none, none, none, none, none] [] (wD hp I A) = some (some (.int (b2 (mSmoke (mDraw nw (nI s) nw) (nI g) (nI tt)))), wD hp I A) := by
  have e := s7_si (d := d) (I := I) hl ok hs ht hg (cPp ct) 0 false none none none (Nat.zero_add _)
  rw [ps_cut (draw_Nm ok.2.2.1) hg, b2_f, show nI 0 = 0 from rfl] at e
  simp (maxSteps := 1000000) (disch := first | exact nl_int | exact nl_ref | exact nl_none | exact Nat.le_of_ble_eq_true rfl | assumption | exact wD_cl (by assumption) | exact cat_int | exact cat_ref | exact z2 | exact z4 | exact z3 | exact z5 | exact z6 | exact z8 | exact z64) only [e_147_0, e_147_1, e_147_3, e_147_4, e_147_8, e_147_9, e_147_12, e_147_13, e_147_14, e_147_17, e_147_19, e_147_20, e_147_21, e_147_25, e_147_26, e_147_29, e_147_30, e_147_31, e_147_34, e_147_35, e_147_37, e_147_38, e_147_39, e_147_40, e_147_41, e_147_43, e_147_44, e_147_45, e_147_46, e_147_47, e_147_49, e_147_50, e_147_52, e_147_53, e_147_54, e_147_55, e_147_56, e_147_59, e_147_60, e_147_62, e_147_65, e_147_68, e_147_69, e_147_71, e_147_72, e_147_73, e_147_74, e_147_75, e_147_78, e_147_79, e_147_81, e_147_84, e_147_87, e_147_88, e_147_91, e_147_92, e_147_94, e_147_96, e_147_99, e_147_100, e_147_102, e_147_105, e_147_106, e_147_109, e_147_110, e_147_112, e_147_115, e_147_116, e_147_119, e_147_121, e_147_122, e_147_125, e_147_127, e_147_130, e_147_131, e_147_133, e_147_136, e_147_137, e_147_139, e_147_142, e_147_143, e_147_144, e_147_145, e_147_148, e_147_149, e_147_152, e_147_153, e_147_155, e_147_158, e_147_161, e_147_164, e_147_167, e_147_169, e_147_169_1, nl_int, nl_ref, nl_none, cat_int, cat_ref, cat_0, cat_i, cat_r, cat_l, Option.elim_some, Option.elim_none, Option.bind_some, Option.bind_none, Option.toList_some, Option.toList_none, List.cons_append, List.nil_append, Nat.reduceAdd, Nat.reduceLeDiff, e]
end MDN
