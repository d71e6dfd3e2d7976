/-! PAIRS: homes -/
def enc (H : Nat) (f : Nat → Nat) : Nat → Nat
  | 0 => 0
  | n + 1 => enc H f n * H + f n
theorem enc_lt {H : Nat} {f : Nat → Nat} : ∀ n, (∀ i, i < n → f i < H) → enc H f n < H ^ n := by
  intro n
  induction n with
  | zero => intro _; rw [enc, Nat.pow_zero]; decide
  | succ n ih =>
    intro h
    have h1 := ih (fun i hi => h i (by omega))
    have h2 := h n (by omega)
    rw [enc, Nat.pow_succ]
    calc enc H f n * H + f n < enc H f n * H + H := by omega
      _ = (enc H f n + 1) * H := by rw [Nat.add_mul, Nat.one_mul]
      _ ≤ H ^ n * H := Nat.mul_le_mul_right H h1
theorem enc_dg {H : Nat} {f : Nat → Nat} : ∀ n, (∀ i, i < n → f i < H) → ∀ i, i < n → dgb H n (enc H f n) i = f i := by
  intro n
  induction n with
  | zero => intro _ i hi; omega
  | succ n ih =>
    intro h i hi
    rw [enc]
    by_cases e : i = n
    · subst e
      exact dgb_lo (h i (by omega))
    · rw [dgb_hi (by omega) (h n (by omega))]
      exact ih (fun i hi => h i (by omega)) i (by omega)
theorem FH_pos {lit : Nat → Int32} {mv : Nat → Nat} {N k0 : Nat} (hl : ∀ k, k < N → ¬ lit k < 0) (h0 : k0 < N) (hm : mv k0 < 5) : ¬ (am_for (FH lit mv) 0 N (-1, 0, 0)).1 = -1 := by
  have := am_for_inv (f := FH lit mv) (fun j b => (b.1 = -1 ∧ ∀ k, k < j → ¬ mv k < 5) ∨ ¬ b.1 < 0) N 0 (-1, 0, 0) (Or.inl ⟨rfl, fun k hk => absurd hk (Nat.not_lt_zero k)⟩) (fun j b _ hj h => by
    unfold FH
    have hlj := hl j (by omega)
    by_cases q : mv j < 5
    · rw [if_pos q]
      right
      by_cases q1 : b.1 < lit j
      · rw [if_pos q1]; exact hlj
      · rw [if_neg q1]
        have hb : ¬ b.1 < 0 := by
          rcases h with h | h
          · exfalso
            apply q1
            rw [h.1]
            exact Int32.lt_of_lt_of_le (b := 0) (by decide) (Int32.not_lt.mp hlj)
          · exact h
        split
        · split
          · exact hlj
          · exact hb
        · exact hb
    · rw [if_neg q]
      rcases h with h | h
      · left
        refine ⟨h.1, fun k hk => ?_⟩
        by_cases e : k = j
        · rw [e]; exact q
        · exact h.2 k (by omega)
      · exact Or.inr h)
  rw [Nat.zero_add] at this
  rcases this with h | h
  · exact absurd hm (h.2 k0 h0)
  · intro w
    rw [w] at h
    exact h (by decide)
/-- one more: the figures behind the last that is not the greatest fall to 0 -/
theorem dg_next {H P k j : Nat} (hH : 0 < H) (hj : j < P) (hm : k % H ^ (P - 1 - j) = H ^ (P - 1 - j) - 1) (hd : dgb H P k j + 1 < H) : (∀ i, i < j → dgb H P (k + 1) i = dgb H P k i) ∧ dgb H P (k + 1) j = dgb H P k j + 1 ∧ (∀ i, j < i → i < P → dgb H P (k + 1) i = 0) := by
  obtain ⟨e, he⟩ : ∃ e, e = P - 1 - j := ⟨_, rfl⟩
  have p0 : 0 < H ^ e := Nat.pow_pos hH
  rw [← he] at hm
  obtain ⟨q, eq⟩ : ∃ q, q = k / H ^ e := ⟨_, rfl⟩
  have hk : k + 1 = H ^ e * (q + 1) := by
    have := Nat.div_add_mod k (H ^ e)
    rw [hm, ← eq] at this
    rw [Nat.mul_add, Nat.mul_one]
    omega
  have hdq : dgb H P k j = q % H := by unfold dgb; rw [← he, ← eq]
  rw [hdq] at hd
  have q1 : (q + 1) / H = q / H := by
    have := Nat.div_add_mod q H
    apply Nat.div_eq_of_lt_le
    · rw [Nat.mul_comm]; omega
    · rw [Nat.add_mul, Nat.one_mul, Nat.mul_comm]; omega
  refine ⟨fun i hi => ?_, ?_, fun i h1 h2 => ?_⟩
  · unfold dgb
    obtain ⟨r, hr⟩ : ∃ r, P - 1 - i = e + (1 + r) := ⟨P - 1 - i - e - 1, by omega⟩
    rw [hr, Nat.pow_add, ← Nat.div_div_eq_div_mul, ← Nat.div_div_eq_div_mul, hk, Nat.mul_div_cancel_left _ p0, ← eq, Nat.pow_add, Nat.pow_one, ← Nat.div_div_eq_div_mul, ← Nat.div_div_eq_div_mul, q1]
  · rw [hdq]
    unfold dgb
    rw [← he, hk, Nat.mul_div_cancel_left _ p0]
    have := Nat.div_add_mod q H
    rw [show q + 1 = (q % H + 1) + (q / H) * H from by rw [Nat.mul_comm]; omega, Nat.add_mul_mod_self_right, Nat.mod_eq_of_lt hd]
  · unfold dgb
    obtain ⟨r, hr⟩ : ∃ r, e = (P - 1 - i) + (1 + r) := ⟨e - (P - 1 - i) - 1, by omega⟩
    have p1 : 0 < H ^ (P - 1 - i) := Nat.pow_pos hH
    rw [hk, hr, Nat.pow_add, Nat.mul_assoc, Nat.mul_div_cancel_left _ p1, Nat.pow_add, Nat.pow_one, Nat.mul_assoc, Nat.mul_mod_right]
theorem dg_more {H P k j : Nat} (hj : j < P) (hm : k % H ^ (P - 1 - j) = H ^ (P - 1 - j) - 1) (hH : 0 < H) (hd : dgb H P k j = H - 1) : k % H ^ (P - j) = H ^ (P - j) - 1 := by
  rw [show P - j = (P - 1 - j) + 1 from by omega, Nat.mod_pow_succ, hm, show k / H ^ (P - 1 - j) % H = H - 1 from hd, Nat.pow_succ]
  have p0 : 0 < H ^ (P - 1 - j) := Nat.pow_pos hH
  have : H ^ (P - 1 - j) * H = H ^ (P - 1 - j) * (H - 1) + H ^ (P - 1 - j) := by
    rw [← Nat.mul_succ, show (H - 1).succ = H from by omega]
  omega
theorem dg_end {H P k j : Nat} (hH : 0 < H) (hj : j < P) (hd : dgb H P k j + 1 < H) : ¬ k + 1 = H ^ P := fun e => by
  have p0 : 0 < H ^ (P - 1 - j) := Nat.pow_pos hH
  have hk : k = H ^ P - 1 := by omega
  have hp : H ^ P = H ^ (P - 1 - j) * (H ^ j * H) := by rw [← Nat.pow_succ, ← Nat.pow_add, show P - 1 - j + j.succ = P from by omega]
  have pj : 0 < H ^ j := Nat.pow_pos hH
  have hq : k / H ^ (P - 1 - j) = H ^ j * H - 1 := by
    have big : 0 < H ^ j * H := Nat.mul_pos pj hH
    apply Nat.div_eq_of_lt_le
    · rw [Nat.mul_comm, Nat.mul_sub_one, ← hp]; omega
    · rw [show H ^ j * H - 1 + 1 = H ^ j * H from by omega, Nat.mul_comm, ← hp]
      have : 0 < H ^ P := Nat.pow_pos hH
      omega
  unfold dgb at hd
  rw [hq] at hd
  have : (H ^ j * H - 1) % H = H - 1 := by
    have e1 : H ^ j * H - 1 = (H - 1) + (H ^ j - 1) * H := by
      have : H ^ j * H = (H ^ j - 1) * H + H := by rw [← Nat.succ_mul, show (H ^ j - 1).succ = H ^ j from by omega]
      omega
    rw [e1, Nat.add_mul_mod_self_right, Nat.mod_eq_of_lt (by omega)]
  rw [this] at hd
  omega
/-- the reference's array of an hour with other houses -/
def HC (P : Nat) (C0 : List Int32) (f : Nat → Nat) (C : List Int32) : Prop := C.length = 27 ∧ (∀ p, p < 27 → (∀ i, i < P → p ≠ 5 + 3 * i) → C.getD p 0 = C0.getD p 0) ∧ ∀ i, i < P → C.getD (5 + 3 * i) 0 = nI (f i)
section HMC
variable {d : Nat} {hp hp2 : am_H} {I I2 : Nat → Int32} {A A2 : Nat → List Int32} {i j k n p hr tt g h u N P B who moved : Nat} {x y z t a v w : Int32} {ct c : am_Ci} {nw m : am_Mo} {s : am_Hs} {f f2 : Nat → Nat} {C C0 : List Int32}
theorem HC.cg (h : HC P C0 f C) (e : ∀ i, i < P → f i = f2 i) : HC P C0 f2 C := ⟨h.1, h.2.1, fun i hi => by rw [h.2.2 i hi, e i hi]⟩
theorem HC.put (h : HC P C0 f C) (hP : P ≤ 8) (hi : i < P) {q : Nat} : HC P C0 (fun j => if i = j then q else f j) (C.set (5 + 3 * i) (nI q)) := by
  obtain ⟨h1, h2, h3⟩ := h
  refine ⟨(List.length_set).trans h1, fun p hp hn => ?_, fun j hj => ?_⟩
  · rw [getD_set (by omega), if_neg (fun w => hn i hi w.symm)]; exact h2 p hp hn
  · rw [getD_set (by omega)]
    show _ = nI (if i = j then q else f j)
    by_cases e : i = j
    · rw [if_pos (by omega), if_pos e]
    · rw [if_neg (by omega), if_neg e]; exact h3 j hj
theorem HC.ok (ok : Ok7 A ct nw hr) (hs : Sn A A2) (hA : aOK A2) (h : HC (cPp ct) (A 1) f (A2 1)) (hf : ∀ i, i < cPp ct → f i < cHs ct) : Ok7 A2 ct (mkH nw (cPp ct) f) hr := by
  have p8 := ok.p8
  obtain ⟨g1, g2, g3, g4, g5, g6⟩ := ok.2.1
  have e0 : A2 0 = A 0 := hs 0 (by decide) (by decide) (by decide) (by decide) (by decide) (by decide) (by decide)
  refine ⟨hA, ?_, mkH_Nm ok.2.2.1 hf, ok.2.2.2.1, mkH_ok ok.2.2.2.2.1, ok.2.2.2.2.2.1, ok.2.2.2.2.2.2⟩
  rw [e0]
  refine ⟨g1, g2, g3, g4, ⟨?_, ?_, ?_⟩, fun i hi => ⟨?_, ?_, ?_⟩⟩
  · rw [h.2.1 0 (by decide) (fun i _ => by omega)]; exact g5.1
  · rw [h.2.1 1 (by decide) (fun i _ => by omega)]; exact g5.2.1
  · rw [h.2.1 2 (by decide) (fun i _ => by omega)]; exact g5.2.2
  · rw [h.2.1 _ (by omega) (fun j _ => by omega)]; exact (g6 i hi).1
  · rw [h.2.1 _ (by omega) (fun j _ => by omega)]; exact (g6 i hi).2.1
  · rw [h.2.2 i hi, mkH_H (by omega), if_pos hi]
theorem s7_movers (hl : 154 < hp.length) (ok : Ok7 A ct (mkH nw (cPp ct) f) hr) (h8 : ∀ i, i < cPp ct → (A 8).getD (5 + 3 * i) 0 = mH nw i) : am_E (d + 1) 135 0 [some (.ref 141), none, none] [] (wD hp I A) = some (some (.int (nI (mvc nw f (cPp ct)))), wD hp I A) := by
  have p8 := ok.p8
  have key : ∀ n i, i + n = cPp ct → am_E (d + 1) 135 4 [some (.ref 141), some (.int (nI (mvc nw f i))), some (.int (nI i))] [] (wD hp I A) = some (some (.int (nI (mvc nw f (cPp ct)))), wD hp I A) := by
    intro n
    induction n with
    | zero =>
      intro i hi
      obtain rfl : i = cPp ct := by omega
      rw [e_135_4]
      simp (maxSteps := 1000000) (disch := first | exact nl_int | exact nl_ref | exact nl_none | exact Nat.le_of_ble_eq_true rfl | assumption | exact wD_cl (by assumption) | exact cat_int | exact cat_ref | exact z2 | exact z4 | exact z3 | exact z5 | exact z6 | exact z8 | exact z64) only [e_135_0, e_135_1, e_135_2, e_135_3, e_135_5, e_135_6, e_135_9, e_135_10, e_135_11, e_135_14, e_135_15, e_135_16, e_135_17, e_135_20, e_135_21, e_135_24, e_135_25, e_135_26, e_135_27, e_135_28, e_135_29, e_135_30, e_135_31, e_135_32, e_135_35, e_135_36, e_135_39, e_135_40, e_135_41, e_135_42, e_135_45, e_135_48, e_135_49, nl_int, nl_ref, nl_none, cat_int, cat_ref, cat_0, cat_i, cat_r, cat_l, Option.elim_some, Option.elim_none, Option.bind_some, Option.bind_none, Option.toList_some, Option.toList_none, List.cons_append, List.nil_append, Nat.reduceAdd, Nat.reduceLeDiff, wD_f1 hl, ok.lp hl, ltF (x := nI (cPp ct)) (c := cPp ct) rfl (Nat.le_refl _) (by omega), if_false]
    | succ n ih =>
      intro i hi
      have i8 : i < cPp ct := by omega
      have ho := s7_ho (d := d) (I := I) hl ok.1 ok.2.1 i8 p8
      rw [mkH_H (by omega), if_pos i8] at ho
      have lx : am_ld (wD hp I A) 150 (nI (5 + 3 * i)) = some (mH nw i) := by rw [wD_l8 (k := 5 + 3 * i) rfl hl ok.1 (by omega), h8 i i8]
      have ix : 3 + 3 * nI i = nI (3 + 3 * i) := ix3 (a := 0)
      have e5 : nI (3 + 3 * i) + 2 = nI (5 + 3 * i) := by rw [nI_2, show 3 + 3 * i + 2 = 5 + 3 * i from by omega]
      have lt' := ltT (x := nI (cPp ct)) (c := cPp ct) rfl i8 (by omega)
      rw [← ih (i + 1) (by omega), e_135_4, mvc]
      by_cases q : nI (f i) = mH nw i
      · rw [if_pos q]
        simp (maxSteps := 1000000) (disch := first | exact nl_int | exact nl_ref | exact nl_none | exact Nat.le_of_ble_eq_true rfl | assumption | exact wD_cl (by assumption) | exact cat_int | exact cat_ref | exact z2 | exact z4 | exact z3 | exact z5 | exact z6 | exact z8 | exact z64) only [e_135_0, e_135_1, e_135_2, e_135_3, e_135_5, e_135_6, e_135_9, e_135_10, e_135_11, e_135_14, e_135_15, e_135_16, e_135_17, e_135_20, e_135_21, e_135_24, e_135_25, e_135_26, e_135_27, e_135_28, e_135_29, e_135_30, e_135_31, e_135_32, e_135_35, e_135_36, e_135_39, e_135_40, e_135_41, e_135_42, e_135_45, e_135_48, e_135_49, nl_int, nl_ref, nl_none, cat_int, cat_ref, cat_0, cat_i, cat_r, cat_l, Option.elim_some, Option.elim_none, Option.bind_some, Option.bind_none, Option.toList_some, Option.toList_none, List.cons_append, List.nil_append, Nat.reduceAdd, Nat.reduceLeDiff, wD_f1 hl, wD_f14 hl, ok.lp hl, lt', if_true, ho, ix, e5, lx, if_pos q, Int32.add_zero, Nat.add_zero, nI_1]
      · rw [if_neg q]
        simp (maxSteps := 1000000) (disch := first | exact nl_int | exact nl_ref | exact nl_none | exact Nat.le_of_ble_eq_true rfl | assumption | exact wD_cl (by assumption) | exact cat_int | exact cat_ref | exact z2 | exact z4 | exact z3 | exact z5 | exact z6 | exact z8 | exact z64) only [e_135_0, e_135_1, e_135_2, e_135_3, e_135_5, e_135_6, e_135_9, e_135_10, e_135_11, e_135_14, e_135_15, e_135_16, e_135_17, e_135_20, e_135_21, e_135_24, e_135_25, e_135_26, e_135_27, e_135_28, e_135_29, e_135_30, e_135_31, e_135_32, e_135_35, e_135_36, e_135_39, e_135_40, e_135_41, e_135_42, e_135_45, e_135_48, e_135_49, nl_int, nl_ref, nl_none, cat_int, cat_ref, cat_0, cat_i, cat_r, cat_l, Option.elim_some, Option.elim_none, Option.bind_some, Option.bind_none, Option.toList_some, Option.toList_none, List.cons_append, List.nil_append, Nat.reduceAdd, Nat.reduceLeDiff, wD_f1 hl, wD_f14 hl, ok.lp hl, lt', if_true, ho, ix, e5, lx, if_neg q, nI_1]
  have e := key (cPp ct) 0 (Nat.zero_add _)
  rw [mvc, show nI 0 = 0 from rfl] at e
  simp (maxSteps := 1000000) (disch := first | exact nl_int | exact nl_ref | exact nl_none | exact Nat.le_of_ble_eq_true rfl | assumption | exact wD_cl (by assumption) | exact cat_int | exact cat_ref | exact z2 | exact z4 | exact z3 | exact z5 | exact z6 | exact z8 | exact z64) only [e_135_0, e_135_1, e_135_2, e_135_3, e_135_5, e_135_6, e_135_9, e_135_10, e_135_11, e_135_14, e_135_15, e_135_16, e_135_17, e_135_20, e_135_21, e_135_24, e_135_25, e_135_26, e_135_27, e_135_28, e_135_29, e_135_30, e_135_31, e_135_32, e_135_35, e_135_36, e_135_39, e_135_40, e_135_41, e_135_42, e_135_45, e_135_48, e_135_49, nl_int, nl_ref, nl_none, cat_int, cat_ref, cat_0, cat_i, cat_r, cat_l, Option.elim_some, Option.elim_none, Option.bind_some, Option.bind_none, Option.toList_some, Option.toList_none, List.cons_append, List.nil_append, Nat.reduceAdd, Nat.reduceLeDiff, e]
theorem s7_next (hl : 154 < hp.length) (ok : Ok7 A ct nw hr) (hH : 0 < cHs ct) (hk : k < cHs ct ^ cPp ct) : ∀ j A2 f, j ≤ cPp ct → Sn A A2 → aOK A2 → HC (cPp ct) (A 1) f (A2 1) → (∀ i, i < j → f i = dgb (cHs ct) (cPp ct) k i) → (∀ i, j ≤ i → i < cPp ct → f i = 0) → k % cHs ct ^ (cPp ct - j) = cHs ct ^ (cPp ct - j) - 1 → ∃ C, (k + 1 < cHs ct ^ cPp ct ∧ HC (cPp ct) (A 1) (dgb (cHs ct) (cPp ct) (k + 1)) C ∧ am_E (d + 1) 136 9 [some (.ref 141), some (.int (opD j))] [] (wD hp I A2) = some (some (.int 1), wD hp I (updA A2 1 C))) ∨ (k + 1 = cHs ct ^ cPp ct ∧ C.length = 27 ∧ am_E (d + 1) 136 9 [some (.ref 141), some (.int (opD j))] [] (wD hp I A2) = some (some (.int 0), wD hp I (updA A2 1 C))) := by
  have p8 := ok.p8
  have h5 := ok.h5
  intro j
  induction j with
  | zero =>
    intro A2 f _ sn a2 hC _ _ hm
    refine ⟨A2 1, Or.inr ⟨?_, hC.1, ?_⟩⟩
    · rw [Nat.sub_zero, Nat.mod_eq_of_lt hk] at hm
      have : 0 < cHs ct ^ cPp ct := Nat.pow_pos hH
      omega
    · rw [updA_self, e_136_9]
      simp (maxSteps := 1000000) (disch := first | exact nl_int | exact nl_ref | exact nl_none | exact Nat.le_of_ble_eq_true rfl | assumption | exact wD_cl (by assumption) | exact cat_int | exact cat_ref | exact z2 | exact z4 | exact z3 | exact z5 | exact z6 | exact z8 | exact z64) only [e_136_0, e_136_1, e_136_4, e_136_5, e_136_6, e_136_7, e_136_8, e_136_10, e_136_13, e_136_14, e_136_15, e_136_18, e_136_19, e_136_22, e_136_23, e_136_24, e_136_25, e_136_26, e_136_29, e_136_30, e_136_33, e_136_34, e_136_35, e_136_36, e_136_37, e_136_38, e_136_39, e_136_40, e_136_41, e_136_42, e_136_45, e_136_48, e_136_49, e_136_52, e_136_53, e_136_56, e_136_57, e_136_58, e_136_59, e_136_60, e_136_61, e_136_62, e_136_63, e_136_64, e_136_65, e_136_66, e_136_67, e_136_68, e_136_69, e_136_72, e_136_73, e_136_76, e_136_77, e_136_77_1, nl_int, nl_ref, nl_none, cat_int, cat_ref, cat_0, cat_i, cat_r, cat_l, Option.elim_some, Option.elim_none, Option.bind_some, Option.bind_none, Option.toList_some, Option.toList_none, List.cons_append, List.nil_append, Nat.reduceAdd, Nat.reduceLeDiff, opD_0, if_true]
  | succ j ih =>
    intro A2 f hj sn a2 hC hf1 hf2 hm
    have j8 : j < cPp ct := by omega
    have dl : dgb (cHs ct) (cPp ct) k j < cHs ct := dgb_lt hH
    have hfH : ∀ i, i < cPp ct → f i < cHs ct := fun i hi => by
      by_cases q : i < j + 1
      · rw [hf1 i q]; exact dgb_lt hH
      · rw [hf2 i (by omega) hi]; exact hH
    have ok2 := HC.ok ok sn a2 hC hfH
    have ho := s7_ho (d := d) (I := I) hl ok2.1 ok2.2.1 j8 p8
    rw [mkH_H (by omega), if_pos j8, hf1 j (by omega)] at ho
    have em : nI (cHs ct) - 1 = nI (cHs ct - 1) := pk_sub (b := 1) hH
    have ix : 3 + 3 * nI j = nI (3 + 3 * j) := ix3 (a := 0)
    have e5 : nI (3 + 3 * j) + 2 = nI (5 + 3 * j) := by rw [nI_2, show 3 + 3 * j + 2 = 5 + 3 * j from by omega]
    have hC2 : (A2 1).length = 27 := hC.1
    have sx : ∀ z, am_sx (wD hp I A2) 143 (nI (5 + 3 * j)) z = some (wD hp I (updA A2 1 ((A2 1).set (5 + 3 * j) z))) := fun z => wD_s1 (k := 5 + 3 * j) rfl hl a2 (by omega)
    have lx : am_ld (wD hp I A2) 143 (nI (5 + 3 * j)) = some (nI (dgb (cHs ct) (cPp ct) k j)) := by rw [wD_l1 (k := 5 + 3 * j) rfl hl a2 (by omega), hC.2.2 j j8, hf1 j (by omega)]
    rw [show cPp ct - (j + 1) = cPp ct - 1 - j from by omega] at hm
    by_cases q : dgb (cHs ct) (cPp ct) k j = cHs ct - 1
    · have q' : nI (dgb (cHs ct) (cPp ct) k j) = nI (cHs ct - 1) := by rw [q]
      obtain ⟨C, hC'⟩ := ih (updA A2 1 ((A2 1).set (5 + 3 * j) (nI 0))) (fun i => if j = i then 0 else f i) (by omega) (sn.upd (k := 1) (by omega)) (updA_ok a2 ((List.length_set).trans hC2)) (hC.put p8 j8) (fun i hi => by rw [if_neg (by omega)]; exact hf1 i (by omega)) (fun i h1 h2 => by
        by_cases e : j = i
        · rw [if_pos e]
        · rw [if_neg e]; exact hf2 i (by omega) h2) (dg_more j8 hm hH q)
      rw [updA_updA] at hC'
      refine ⟨C, ?_⟩
      have st : am_E (d + 1) 136 9 [some (.ref 141), some (.int (opD (j + 1)))] [] (wD hp I A2) = am_E (d + 1) 136 9 [some (.ref 141), some (.int (opD j))] [] (wD hp I (updA A2 1 ((A2 1).set (5 + 3 * j) (nI 0)))) := by
        rw [opD_s, e_136_9, show nI 0 = 0 from rfl]
        simp (maxSteps := 1000000) (disch := first | exact nl_int | exact nl_ref | exact nl_none | exact Nat.le_of_ble_eq_true rfl | assumption | exact wD_cl (by assumption) | exact cat_int | exact cat_ref | exact z2 | exact z4 | exact z3 | exact z5 | exact z6 | exact z8 | exact z64) only [e_136_0, e_136_1, e_136_4, e_136_5, e_136_6, e_136_7, e_136_8, e_136_10, e_136_13, e_136_14, e_136_15, e_136_18, e_136_19, e_136_22, e_136_23, e_136_24, e_136_25, e_136_26, e_136_29, e_136_30, e_136_33, e_136_34, e_136_35, e_136_36, e_136_37, e_136_38, e_136_39, e_136_40, e_136_41, e_136_42, e_136_45, e_136_48, e_136_49, e_136_52, e_136_53, e_136_56, e_136_57, e_136_58, e_136_59, e_136_60, e_136_61, e_136_62, e_136_63, e_136_64, e_136_65, e_136_66, e_136_67, e_136_68, e_136_69, e_136_72, e_136_73, e_136_76, e_136_77, e_136_77_1, nl_int, nl_ref, nl_none, cat_int, cat_ref, cat_0, cat_i, cat_r, cat_l, Option.elim_some, Option.elim_none, Option.bind_some, Option.bind_none, Option.toList_some, Option.toList_none, List.cons_append, List.nil_append, Nat.reduceAdd, Nat.reduceLeDiff, ngF (show j < 2 ^ 31 by omega), if_false, ho, wD_f0 hl, wD_f1 hl, ok2.lhs hl, em, if_pos q', ix, e5, sx]
        rfl
      rw [st]
      exact hC'
    · have q' : ¬ nI (dgb (cHs ct) (cPp ct) k j) = nI (cHs ct - 1) := fun w => q ((nI_eq (by omega) (by omega)).mp w)
      obtain ⟨d1, d2, d3⟩ := dg_next hH j8 hm (show dgb (cHs ct) (cPp ct) k j + 1 < cHs ct by omega)
      have ne := dg_end (k := k) hH j8 (show dgb (cHs ct) (cPp ct) k j + 1 < cHs ct by omega)
      refine ⟨(A2 1).set (5 + 3 * j) (nI (dgb (cHs ct) (cPp ct) k j + 1)), Or.inl ⟨by omega, ?_, ?_⟩⟩
      · refine (hC.put p8 j8 (q := dgb (cHs ct) (cPp ct) k j + 1)).cg (fun i hi => ?_)
        by_cases e : j = i
        · rw [if_pos e, ← e, d2]
        · rw [if_neg e]
          by_cases e2 : i < j
          · rw [d1 i e2]; exact hf1 i (by omega)
          · rw [d3 i (by omega) hi]; exact hf2 i (by omega) hi
      · rw [opD_s, e_136_9]
        simp (maxSteps := 1000000) (disch := first | exact nl_int | exact nl_ref | exact nl_none | exact Nat.le_of_ble_eq_true rfl | assumption | exact wD_cl (by assumption) | exact cat_int | exact cat_ref | exact z2 | exact z4 | exact z3 | exact z5 | exact z6 | exact z8 | exact z64) only [e_136_0, e_136_1, e_136_4, e_136_5, e_136_6, e_136_7, e_136_8, e_136_10, e_136_13, e_136_14, e_136_15, e_136_18, e_136_19, e_136_22, e_136_23, e_136_24, e_136_25, e_136_26, e_136_29, e_136_30, e_136_33, e_136_34, e_136_35, e_136_36, e_136_37, e_136_38, e_136_39, e_136_40, e_136_41, e_136_42, e_136_45, e_136_48, e_136_49, e_136_52, e_136_53, e_136_56, e_136_57, e_136_58, e_136_59, e_136_60, e_136_61, e_136_62, e_136_63, e_136_64, e_136_65, e_136_66, e_136_67, e_136_68, e_136_69, e_136_72, e_136_73, e_136_76, e_136_77, e_136_77_1, nl_int, nl_ref, nl_none, cat_int, cat_ref, cat_0, cat_i, cat_r, cat_l, Option.elim_some, Option.elim_none, Option.bind_some, Option.bind_none, Option.toList_some, Option.toList_none, List.cons_append, List.nil_append, Nat.reduceAdd, Nat.reduceLeDiff, ngF (show j < 2 ^ 31 by omega), if_false, ho, wD_f0 hl, wD_f1 hl, ok2.lhs hl, em, if_neg q', ix, e5, lx, nI_1, sx]
end HMC
