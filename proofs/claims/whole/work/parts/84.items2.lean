/-! READING: items, as the reference reads them -/
def S34 (A A2 : Nat → List Int32) : Prop := ∀ k, k ≠ 3 → k ≠ 4 → A2 k = A k
def Fl (v : Option (Option Value × am_H)) (hp : am_H) (I : Nat → Int32) (A : Nat → List Int32) : Prop := ∃ I2 A2, aOK A2 ∧ S34 A A2 ∧ Rj I I2 ∧ v = some (some (.int 0), wD hp I2 A2)
section RDC
variable {d : Nat} {hp hp2 : am_H} {I I2 : Nat → Int32} {A A2 : Nat → List Int32} {i j k n b p a e lo hi : Nat} {x y z v w X Y Z : Int32} {t : am_Tx} {c : am_Ci}
theorem S34.rfl' : S34 A A := fun _ _ _ => rfl
theorem S34.upd {xs : List Int32} (h : S34 A A2) (hk : k = 3 ∨ k = 4) : S34 A (updA A2 k xs) := fun j h3 h4 => by rw [updA_n (by omega)]; exact h j h3 h4
theorem s7_numX (hl : 154 < hp.length) (hA : aOK A) (hT : TxR t I A) (h4 : I 4 = nI a) (ha : a < 900) (hX : X = nI lo) (hY : Y = nI hi) (hZ : Z = nI e) (hlo : lo < 100) (hhi : hi < 100) (he : e < 100) : (pnr t a e lo hi = none → ∃ I2, Ri I I2 ∧ am_E (d + 2) 102 0 [some (.ref 141), some (.int X), some (.int Y), some (.int Z), none] [] (wD hp I A) = some (some (.int 0), wD hp I2 A)) ∧ (∀ q, pnr t a e lo hi = some q → ∃ I2, I2 8 = nI q.1 ∧ I2 4 = nI q.2 ∧ Ri I I2 ∧ am_E (d + 2) 102 0 [some (.ref 141), some (.int X), some (.int Y), some (.int Z), none] [] (wD hp I A) = some (some (.int 1), wD hp I2 A)) := by
  subst hX hY hZ
  exact s7_num hl hA hT h4 ha hlo hhi he
theorem s7_rp3 (hl : 154 < hp.length) (hA : aOK A) (hT : TxR t I A) (h4 : I 4 = nI a) (ha : a < 900) (hn : n < 8) (hc : (i = 0 ∧ hi = 31 ∧ e = 44) ∨ (i = 1 ∧ hi = 9 ∧ e = 44) ∨ (i = 2 ∧ hi = 4 ∧ e = 59)) : (pnr t a e 0 hi = none → ∃ I2, Ri I I2 ∧ am_E (d + 3) 103 46 [some (.ref 141), some (.int (nI n)), some (.int (nI (3 + 3 * n))), some (.int (nI i))] [] (wD hp I A) = some (some (.int 0), wD hp I2 A)) ∧ (∀ q, pnr t a e 0 hi = some q → ∃ I2, I2 4 = nI q.2 ∧ Ri I I2 ∧ am_E (d + 3) 103 46 [some (.ref 141), some (.int (nI n)), some (.int (nI (3 + 3 * n))), some (.int (nI i))] [] (wD hp I A) = am_E (d + 3) 103 46 [some (.ref 141), some (.int (nI n)), some (.int (nI (3 + 3 * n))), some (.int (nI (i + 1)))] [] (wD hp I2 (updA A 4 ((A 4).set (3 + 3 * n + i) (nI q.1))))) := by
  rcases hc with ⟨rfl, rfl, rfl⟩ | ⟨rfl, rfl, rfl⟩ | ⟨rfl, rfl, rfl⟩
  · obtain ⟨f0, f1⟩ := s7_numX (d := d) (X := 0) (Y := 31) (Z := 44) (lo := 0) (hi := 31) (e := 44) hl hA hT h4 ha rfl rfl rfl (by decide) (by decide) (by decide)
    refine ⟨fun h => ?_, fun q h => ?_⟩
    · obtain ⟨I2, r, e⟩ := f0 h
      refine ⟨I2, r, ?_⟩
      rw [e_103_46]
      simp (maxSteps := 1000000) (disch := first | exact nl_int | exact nl_ref | exact nl_none | exact Nat.le_of_ble_eq_true rfl | assumption | exact wD_cl (by assumption) | exact cat_int | exact cat_ref | exact z2 | exact z4 | exact z3 | exact z5 | exact z6 | exact z8 | exact z64) only [e_103_0, e_103_1, e_103_4, e_103_5, e_103_6, e_103_7, e_103_8, e_103_10, e_103_13, e_103_14, e_103_15, e_103_16, e_103_18, e_103_21, e_103_24, e_103_25, e_103_25_1, e_103_26, e_103_27, e_103_30, e_103_31, e_103_32, e_103_33, e_103_34, e_103_37, e_103_38, e_103_39, e_103_40, e_103_41, e_103_42, e_103_43, e_103_44, e_103_45, e_103_47, e_103_48, e_103_51, e_103_52, e_103_53, e_103_54, e_103_57, e_103_59, e_103_62, e_103_63, e_103_64, e_103_67, e_103_69, e_103_72, e_103_73, e_103_74, e_103_75, e_103_78, e_103_80, e_103_83, e_103_85, e_103_88, e_103_91, e_103_92, e_103_92_1, e_103_93, e_103_94, e_103_97, e_103_98, e_103_99, e_103_100, e_103_101, e_103_104, e_103_105, e_103_108, e_103_111, e_103_112, e_103_115, e_103_116, e_103_117, e_103_118, e_103_119, e_103_120, e_103_121, e_103_122, e_103_122_1, nl_int, nl_ref, nl_none, cat_int, cat_ref, cat_0, cat_i, cat_r, cat_l, Option.elim_some, Option.elim_none, Option.bind_some, Option.bind_none, Option.toList_some, Option.toList_none, List.cons_append, List.nil_append, Nat.reduceAdd, Nat.reduceLeDiff, show (nI 0 < 3) = True from by decide, if_true, show (nI 0 = 0) = True from by decide, show (nI 0 = 2) = False from by decide, if_false, e, z0]
    · obtain ⟨I2, r8, r4, r, e⟩ := f1 q h
      have sx : am_sx (wD hp I2 A) 146 (nI (3 + 3 * n + 0)) (nI q.1) = some (wD hp I2 (updA A 4 ((A 4).set (3 + 3 * n + 0) (nI q.1)))) := wD_s4 (k := 3 + 3 * n + 0) rfl hl hA (by omega)
      refine ⟨I2, r4, r, ?_⟩
      rw [e_103_46]
      simp (maxSteps := 1000000) (disch := first | exact nl_int | exact nl_ref | exact nl_none | exact Nat.le_of_ble_eq_true rfl | assumption | exact wD_cl (by assumption) | exact cat_int | exact cat_ref | exact z2 | exact z4 | exact z3 | exact z5 | exact z6 | exact z8 | exact z64) only [e_103_0, e_103_1, e_103_4, e_103_5, e_103_6, e_103_7, e_103_8, e_103_10, e_103_13, e_103_14, e_103_15, e_103_16, e_103_18, e_103_21, e_103_24, e_103_25, e_103_25_1, e_103_26, e_103_27, e_103_30, e_103_31, e_103_32, e_103_33, e_103_34, e_103_37, e_103_38, e_103_39, e_103_40, e_103_41, e_103_42, e_103_43, e_103_44, e_103_45, e_103_47, e_103_48, e_103_51, e_103_52, e_103_53, e_103_54, e_103_57, e_103_59, e_103_62, e_103_63, e_103_64, e_103_67, e_103_69, e_103_72, e_103_73, e_103_74, e_103_75, e_103_78, e_103_80, e_103_83, e_103_85, e_103_88, e_103_91, e_103_92, e_103_92_1, e_103_93, e_103_94, e_103_97, e_103_98, e_103_99, e_103_100, e_103_101, e_103_104, e_103_105, e_103_108, e_103_111, e_103_112, e_103_115, e_103_116, e_103_117, e_103_118, e_103_119, e_103_120, e_103_121, e_103_122, e_103_122_1, nl_int, nl_ref, nl_none, cat_int, cat_ref, cat_0, cat_i, cat_r, cat_l, Option.elim_some, Option.elim_none, Option.bind_some, Option.bind_none, Option.toList_some, Option.toList_none, List.cons_append, List.nil_append, Nat.reduceAdd, Nat.reduceLeDiff, show (nI 0 < 3) = True from by decide, if_true, show (nI 0 = 0) = True from by decide, show (nI 0 = 2) = False from by decide, if_false, e, z1, wD_f6 hl, wD_f8 hl, r8, nI_add, sx, nI_1]
  · obtain ⟨f0, f1⟩ := s7_numX (d := d) (X := 0) (Y := 9) (Z := 44) (lo := 0) (hi := 9) (e := 44) hl hA hT h4 ha rfl rfl rfl (by decide) (by decide) (by decide)
    refine ⟨fun h => ?_, fun q h => ?_⟩
    · obtain ⟨I2, r, e⟩ := f0 h
      refine ⟨I2, r, ?_⟩
      rw [e_103_46]
      simp (maxSteps := 1000000) (disch := first | exact nl_int | exact nl_ref | exact nl_none | exact Nat.le_of_ble_eq_true rfl | assumption | exact wD_cl (by assumption) | exact cat_int | exact cat_ref | exact z2 | exact z4 | exact z3 | exact z5 | exact z6 | exact z8 | exact z64) only [e_103_0, e_103_1, e_103_4, e_103_5, e_103_6, e_103_7, e_103_8, e_103_10, e_103_13, e_103_14, e_103_15, e_103_16, e_103_18, e_103_21, e_103_24, e_103_25, e_103_25_1, e_103_26, e_103_27, e_103_30, e_103_31, e_103_32, e_103_33, e_103_34, e_103_37, e_103_38, e_103_39, e_103_40, e_103_41, e_103_42, e_103_43, e_103_44, e_103_45, e_103_47, e_103_48, e_103_51, e_103_52, e_103_53, e_103_54, e_103_57, e_103_59, e_103_62, e_103_63, e_103_64, e_103_67, e_103_69, e_103_72, e_103_73, e_103_74, e_103_75, e_103_78, e_103_80, e_103_83, e_103_85, e_103_88, e_103_91, e_103_92, e_103_92_1, e_103_93, e_103_94, e_103_97, e_103_98, e_103_99, e_103_100, e_103_101, e_103_104, e_103_105, e_103_108, e_103_111, e_103_112, e_103_115, e_103_116, e_103_117, e_103_118, e_103_119, e_103_120, e_103_121, e_103_122, e_103_122_1, nl_int, nl_ref, nl_none, cat_int, cat_ref, cat_0, cat_i, cat_r, cat_l, Option.elim_some, Option.elim_none, Option.bind_some, Option.bind_none, Option.toList_some, Option.toList_none, List.cons_append, List.nil_append, Nat.reduceAdd, Nat.reduceLeDiff, show (nI 1 < 3) = True from by decide, if_true, show (nI 1 = 0) = False from by decide, show (nI 1 = 1) = True from by decide, show (nI 1 = 2) = False from by decide, if_false, e, z0]
    · obtain ⟨I2, r8, r4, r, e⟩ := f1 q h
      have sx : am_sx (wD hp I2 A) 146 (nI (3 + 3 * n + 1)) (nI q.1) = some (wD hp I2 (updA A 4 ((A 4).set (3 + 3 * n + 1) (nI q.1)))) := wD_s4 (k := 3 + 3 * n + 1) rfl hl hA (by omega)
      refine ⟨I2, r4, r, ?_⟩
      rw [e_103_46]
      simp (maxSteps := 1000000) (disch := first | exact nl_int | exact nl_ref | exact nl_none | exact Nat.le_of_ble_eq_true rfl | assumption | exact wD_cl (by assumption) | exact cat_int | exact cat_ref | exact z2 | exact z4 | exact z3 | exact z5 | exact z6 | exact z8 | exact z64) only [e_103_0, e_103_1, e_103_4, e_103_5, e_103_6, e_103_7, e_103_8, e_103_10, e_103_13, e_103_14, e_103_15, e_103_16, e_103_18, e_103_21, e_103_24, e_103_25, e_103_25_1, e_103_26, e_103_27, e_103_30, e_103_31, e_103_32, e_103_33, e_103_34, e_103_37, e_103_38, e_103_39, e_103_40, e_103_41, e_103_42, e_103_43, e_103_44, e_103_45, e_103_47, e_103_48, e_103_51, e_103_52, e_103_53, e_103_54, e_103_57, e_103_59, e_103_62, e_103_63, e_103_64, e_103_67, e_103_69, e_103_72, e_103_73, e_103_74, e_103_75, e_103_78, e_103_80, e_103_83, e_103_85, e_103_88, e_103_91, e_103_92, e_103_92_1, e_103_93, e_103_94, e_103_97, e_103_98, e_103_99, e_103_100, e_103_101, e_103_104, e_103_105, e_103_108, e_103_111, e_103_112, e_103_115, e_103_116, e_103_117, e_103_118, e_103_119, e_103_120, e_103_121, e_103_122, e_103_122_1, nl_int, nl_ref, nl_none, cat_int, cat_ref, cat_0, cat_i, cat_r, cat_l, Option.elim_some, Option.elim_none, Option.bind_some, Option.bind_none, Option.toList_some, Option.toList_none, List.cons_append, List.nil_append, Nat.reduceAdd, Nat.reduceLeDiff, show (nI 1 < 3) = True from by decide, if_true, show (nI 1 = 0) = False from by decide, show (nI 1 = 1) = True from by decide, show (nI 1 = 2) = False from by decide, if_false, e, z1, wD_f6 hl, wD_f8 hl, r8, nI_add, sx, nI_1]
  · obtain ⟨f0, f1⟩ := s7_numX (d := d) (X := 0) (Y := 4) (Z := 59) (lo := 0) (hi := 4) (e := 59) hl hA hT h4 ha rfl rfl rfl (by decide) (by decide) (by decide)
    refine ⟨fun h => ?_, fun q h => ?_⟩
    · obtain ⟨I2, r, e⟩ := f0 h
      refine ⟨I2, r, ?_⟩
      rw [e_103_46]
      simp (maxSteps := 1000000) (disch := first | exact nl_int | exact nl_ref | exact nl_none | exact Nat.le_of_ble_eq_true rfl | assumption | exact wD_cl (by assumption) | exact cat_int | exact cat_ref | exact z2 | exact z4 | exact z3 | exact z5 | exact z6 | exact z8 | exact z64) only [e_103_0, e_103_1, e_103_4, e_103_5, e_103_6, e_103_7, e_103_8, e_103_10, e_103_13, e_103_14, e_103_15, e_103_16, e_103_18, e_103_21, e_103_24, e_103_25, e_103_25_1, e_103_26, e_103_27, e_103_30, e_103_31, e_103_32, e_103_33, e_103_34, e_103_37, e_103_38, e_103_39, e_103_40, e_103_41, e_103_42, e_103_43, e_103_44, e_103_45, e_103_47, e_103_48, e_103_51, e_103_52, e_103_53, e_103_54, e_103_57, e_103_59, e_103_62, e_103_63, e_103_64, e_103_67, e_103_69, e_103_72, e_103_73, e_103_74, e_103_75, e_103_78, e_103_80, e_103_83, e_103_85, e_103_88, e_103_91, e_103_92, e_103_92_1, e_103_93, e_103_94, e_103_97, e_103_98, e_103_99, e_103_100, e_103_101, e_103_104, e_103_105, e_103_108, e_103_111, e_103_112, e_103_115, e_103_116, e_103_117, e_103_118, e_103_119, e_103_120, e_103_121, e_103_122, e_103_122_1, nl_int, nl_ref, nl_none, cat_int, cat_ref, cat_0, cat_i, cat_r, cat_l, Option.elim_some, Option.elim_none, Option.bind_some, Option.bind_none, Option.toList_some, Option.toList_none, List.cons_append, List.nil_append, Nat.reduceAdd, Nat.reduceLeDiff, show (nI 2 < 3) = True from by decide, if_true, show (nI 2 = 0) = False from by decide, show (nI 2 = 1) = False from by decide, show (nI 2 = 2) = True from by decide, if_false, e, z0]
    · obtain ⟨I2, r8, r4, r, e⟩ := f1 q h
      have sx : am_sx (wD hp I2 A) 146 (nI (3 + 3 * n + 2)) (nI q.1) = some (wD hp I2 (updA A 4 ((A 4).set (3 + 3 * n + 2) (nI q.1)))) := wD_s4 (k := 3 + 3 * n + 2) rfl hl hA (by omega)
      refine ⟨I2, r4, r, ?_⟩
      rw [e_103_46]
      simp (maxSteps := 1000000) (disch := first | exact nl_int | exact nl_ref | exact nl_none | exact Nat.le_of_ble_eq_true rfl | assumption | exact wD_cl (by assumption) | exact cat_int | exact cat_ref | exact z2 | exact z4 | exact z3 | exact z5 | exact z6 | exact z8 | exact z64) only [e_103_0, e_103_1, e_103_4, e_103_5, e_103_6, e_103_7, e_103_8, e_103_10, e_103_13, e_103_14, e_103_15, e_103_16, e_103_18, e_103_21, e_103_24, e_103_25, e_103_25_1, e_103_26, e_103_27, e_103_30, e_103_31, e_103_32, e_103_33, e_103_34, e_103_37, e_103_38, e_103_39, e_103_40, e_103_41, e_103_42, e_103_43, e_103_44, e_103_45, e_103_47, e_103_48, e_103_51, e_103_52, e_103_53, e_103_54, e_103_57, e_103_59, e_103_62, e_103_63, e_103_64, e_103_67, e_103_69, e_103_72, e_103_73, e_103_74, e_103_75, e_103_78, e_103_80, e_103_83, e_103_85, e_103_88, e_103_91, e_103_92, e_103_92_1, e_103_93, e_103_94, e_103_97, e_103_98, e_103_99, e_103_100, e_103_101, e_103_104, e_103_105, e_103_108, e_103_111, e_103_112, e_103_115, e_103_116, e_103_117, e_103_118, e_103_119, e_103_120, e_103_121, e_103_122, e_103_122_1, nl_int, nl_ref, nl_none, cat_int, cat_ref, cat_0, cat_i, cat_r, cat_l, Option.elim_some, Option.elim_none, Option.bind_some, Option.bind_none, Option.toList_some, Option.toList_none, List.cons_append, List.nil_append, Nat.reduceAdd, Nat.reduceLeDiff, show (nI 2 < 3) = True from by decide, if_true, show (nI 2 = 0) = False from by decide, show (nI 2 = 1) = False from by decide, show (nI 2 = 2) = True from by decide, if_false, e, z1, wD_f6 hl, wD_f8 hl, r8, nI_add, sx, nI_1]
theorem pnr_at {q : Nat × Nat} (h : pnr t a e lo hi = some q) (hl : tLn t ≤ 200) : q.2 ≤ 200 ∧ q.1 < 100 ∧ q.1 ≤ hi ∧ lo ≤ q.1 := by
  have p := pnr_pn h
  have := pn_lt p.1
  omega
theorem s7_rp (hl : 154 < hp.length) (hA : aOK A) (hT : TxR t I A) (h4 : I 4 = nI a) (ha : a < 900) (hn : (A 4).getD 0 0 = nI n) (h8 : n ≤ 8) : (n < 8 → ∀ v0 v1 v2 v3 b, itP t a = some (v0, v1, v2, v3, b) → ∃ I2, I2 4 = nI b ∧ Ri I I2 ∧ am_E (d + 3) 103 0 [some (.ref 141), none, none, none] [] (wD hp I A) = some (some (.int 1), wD hp I2 (updA (updA A 3 ((A 3).set (3 + n) (nI v0))) 4 (((((A 4).set (3 + 3 * n + 0) (nI v1)).set (3 + 3 * n + 1) (nI v2)).set (3 + 3 * n + 2) (nI v3)).set 0 (nI (n + 1)))))) ∧ ((¬ n < 8 ∨ itP t a = none) → Fl (am_E (d + 3) 103 0 [some (.ref 141), none, none, none] [] (wD hp I A)) hp I A) := by
  have l0 : am_ld (wD hp I A) 146 0 = some (nI n) := by rw [wD_l4 (x := 0) (k := 0) rfl hl hA (by decide), hn]
  by_cases q8 : n < 8
  · have n8 : (nI n = 8) = False := eq_false (fun w => by have := (nI_eq (b := 8) (by omega) (by decide)).mp w; omega)
    have t2 := hT.2.1
    obtain ⟨f0, f1⟩ := s7_numX (d := d) (X := 0) (Y := 3) (Z := 44) (lo := 0) (hi := 3) (e := 44) hl hA hT h4 ha rfl rfl rfl (by decide) (by decide) (by decide)
    unfold itP
    cases g0 : pnr t a 44 0 3 with
    | none =>
      refine ⟨fun _ v0 v1 v2 v3 b h => (by cases h), fun _ => ?_⟩
      obtain ⟨I2, r, e⟩ := f0 g0
      refine ⟨I2, A, hA, S34.rfl', r.jj, ?_⟩
      simp (maxSteps := 1000000) (disch := first | exact nl_int | exact nl_ref | exact nl_none | exact Nat.le_of_ble_eq_true rfl | assumption | exact wD_cl (by assumption) | exact cat_int | exact cat_ref | exact z2 | exact z4 | exact z3 | exact z5 | exact z6 | exact z8 | exact z64) only [e_103_0, e_103_1, e_103_4, e_103_5, e_103_6, e_103_7, e_103_8, e_103_10, e_103_13, e_103_14, e_103_15, e_103_16, e_103_18, e_103_21, e_103_24, e_103_25, e_103_25_1, e_103_26, e_103_27, e_103_30, e_103_31, e_103_32, e_103_33, e_103_34, e_103_37, e_103_38, e_103_39, e_103_40, e_103_41, e_103_42, e_103_43, e_103_44, e_103_45, e_103_47, e_103_48, e_103_51, e_103_52, e_103_53, e_103_54, e_103_57, e_103_59, e_103_62, e_103_63, e_103_64, e_103_67, e_103_69, e_103_72, e_103_73, e_103_74, e_103_75, e_103_78, e_103_80, e_103_83, e_103_85, e_103_88, e_103_91, e_103_92, e_103_92_1, e_103_93, e_103_94, e_103_97, e_103_98, e_103_99, e_103_100, e_103_101, e_103_104, e_103_105, e_103_108, e_103_111, e_103_112, e_103_115, e_103_116, e_103_117, e_103_118, e_103_119, e_103_120, e_103_121, e_103_122, e_103_122_1, nl_int, nl_ref, nl_none, cat_int, cat_ref, cat_0, cat_i, cat_r, cat_l, Option.elim_some, Option.elim_none, Option.bind_some, Option.bind_none, Option.toList_some, Option.toList_none, List.cons_append, List.nil_append, Nat.reduceAdd, Nat.reduceLeDiff, wD_f6 hl, l0, n8, if_false, e, z0, if_true]
    | some q0 =>
      obtain ⟨I1, r8, r4, r1, e1⟩ := f1 q0 g0
      have s3 : am_sx (wD hp I1 A) 145 (nI (3 + n)) (nI q0.1) = some (wD hp I1 (updA A 3 ((A 3).set (3 + n) (nI q0.1)))) := wD_s3 (k := 3 + n) rfl hl hA (by omega)
      have ix : 3 + 3 * nI n = nI (3 + 3 * n) := ix3 (a := 0)
      have st : am_E (d + 3) 103 0 [some (.ref 141), none, none, none] [] (wD hp I A) = am_E (d + 3) 103 46 [some (.ref 141), some (.int (nI n)), some (.int (nI (3 + 3 * n))), some (.int (nI 0))] [] (wD hp I1 (updA A 3 ((A 3).set (3 + n) (nI q0.1)))) := by
        rw [show nI 0 = 0 from rfl]
        simp (maxSteps := 1000000) (disch := first | exact nl_int | exact nl_ref | exact nl_none | exact Nat.le_of_ble_eq_true rfl | assumption | exact wD_cl (by assumption) | exact cat_int | exact cat_ref | exact z2 | exact z4 | exact z3 | exact z5 | exact z6 | exact z8 | exact z64) only [e_103_0, e_103_1, e_103_4, e_103_5, e_103_6, e_103_7, e_103_8, e_103_10, e_103_13, e_103_14, e_103_15, e_103_16, e_103_18, e_103_21, e_103_24, e_103_25, e_103_25_1, e_103_26, e_103_27, e_103_30, e_103_31, e_103_32, e_103_33, e_103_34, e_103_37, e_103_38, e_103_39, e_103_40, e_103_41, e_103_42, e_103_43, e_103_44, e_103_45, e_103_47, e_103_48, e_103_51, e_103_52, e_103_53, e_103_54, e_103_57, e_103_59, e_103_62, e_103_63, e_103_64, e_103_67, e_103_69, e_103_72, e_103_73, e_103_74, e_103_75, e_103_78, e_103_80, e_103_83, e_103_85, e_103_88, e_103_91, e_103_92, e_103_92_1, e_103_93, e_103_94, e_103_97, e_103_98, e_103_99, e_103_100, e_103_101, e_103_104, e_103_105, e_103_108, e_103_111, e_103_112, e_103_115, e_103_116, e_103_117, e_103_118, e_103_119, e_103_120, e_103_121, e_103_122, e_103_122_1, nl_int, nl_ref, nl_none, cat_int, cat_ref, cat_0, cat_i, cat_r, cat_l, Option.elim_some, Option.elim_none, Option.bind_some, Option.bind_none, Option.toList_some, Option.toList_none, List.cons_append, List.nil_append, Nat.reduceAdd, Nat.reduceLeDiff, wD_f5 hl, wD_f6 hl, l0, n8, if_false, e1, z1, ix3a, wD_f8 hl, r8, s3, ix]
      rw [st, Option.bind_some]
      have b0 := pnr_at g0 t2
      have hA1 : aOK (updA A 3 ((A 3).set (3 + n) (nI q0.1))) := updA_ok hA ((List.length_set).trans (hA 3 (by decide)))
      have hT1 : TxR t I1 (updA A 3 ((A 3).set (3 + n) (nI q0.1))) := hT.ri r1 rfl
      have sA1 : S34 A (updA A 3 ((A 3).set (3 + n) (nI q0.1))) := S34.rfl'.upd (by omega)
      obtain ⟨g10, g11⟩ := s7_rp3 (d := d) (i := 0) (hi := 31) (e := 44) hl hA1 hT1 r4 (by omega) q8 (Or.inl ⟨rfl, rfl, rfl⟩)
      cases g1 : pnr t q0.2 44 0 31 with
      | none =>
        refine ⟨fun _ v0 v1 v2 v3 b h => (by cases h), fun _ => ?_⟩
        obtain ⟨I2, r, e⟩ := g10 g1
        exact ⟨I2, _, hA1, sA1, (r1.trans r).jj, e⟩
      | some q1 =>
        obtain ⟨I2, r42, r2, e2⟩ := g11 q1 g1
        rw [e2, Option.bind_some]
        have b1 := pnr_at g1 t2
        obtain ⟨A2, eA2⟩ : ∃ A2, A2 = updA (updA A 3 ((A 3).set (3 + n) (nI q0.1))) 4 ((A 4).set (3 + 3 * n + 0) (nI q1.1)) := ⟨_, rfl⟩
        rw [show (updA A 3 ((A 3).set (3 + n) (nI q0.1))) 4 = A 4 from rfl, ← eA2]
        have hA2 : aOK A2 := by rw [eA2]; exact updA_ok hA1 ((List.length_set).trans (hA 4 (by decide)))
        have sA2 : S34 A A2 := by rw [eA2]; exact sA1.upd (by omega)
        have hT2 : TxR t I2 A2 := hT1.ri r2 (by rw [eA2]; rfl)
        obtain ⟨g20, g21⟩ := s7_rp3 (d := d) (i := 1) (hi := 9) (e := 44) hl hA2 hT2 r42 (by omega) q8 (Or.inr (Or.inl ⟨rfl, rfl, rfl⟩))
        cases g2 : pnr t q1.2 44 0 9 with
        | none =>
          refine ⟨fun _ v0 v1 v2 v3 b h => (by cases h), fun _ => ?_⟩
          obtain ⟨I3, r, e⟩ := g20 g2
          exact ⟨I3, A2, hA2, sA2, ((r1.trans r2).trans r).jj, e⟩
        | some q2 =>
          obtain ⟨I3, r43, r3, e3⟩ := g21 q2 g2
          rw [e3, Option.bind_some]
          have b2 := pnr_at g2 t2
          obtain ⟨A3, eA3⟩ : ∃ A3, A3 = updA A2 4 ((A2 4).set (3 + 3 * n + 1) (nI q2.1)) := ⟨_, rfl⟩
          rw [← eA3]
          have hA3 : aOK A3 := by rw [eA3]; exact updA_ok hA2 ((List.length_set).trans (hA2 4 (by decide)))
          have sA3 : S34 A A3 := by rw [eA3]; exact sA2.upd (by omega)
          have hT3 : TxR t I3 A3 := hT2.ri r3 (by rw [eA3]; rfl)
          obtain ⟨g30, g31⟩ := s7_rp3 (d := d) (i := 2) (hi := 4) (e := 59) hl hA3 hT3 r43 (by omega) q8 (Or.inr (Or.inr ⟨rfl, rfl, rfl⟩))
          cases g3 : pnr t q2.2 59 0 4 with
          | none =>
            refine ⟨fun _ v0 v1 v2 v3 b h => (by cases h), fun _ => ?_⟩
            obtain ⟨I4, r, e⟩ := g30 g3
            exact ⟨I4, A3, hA3, sA3, (((r1.trans r2).trans r3).trans r).jj, e⟩
          | some q3 =>
            obtain ⟨I4, r44, r4', e4⟩ := g31 q3 g3
            rw [e4, Option.bind_some]
            refine ⟨fun _ v0 v1 v2 v3 b h => ?_, fun h => h.elim (fun w => absurd q8 w) (fun w => by cases w)⟩
            cases h
            refine ⟨I4, r44, ((r1.trans r2).trans r3).trans r4', ?_⟩
            have l4 : (A 4).length = 27 := hA 4 (by decide)
            have e44 : (A3 4).set (3 + 3 * n + 2) (nI q3.1) = (((A 4).set (3 + 3 * n + 0) (nI q1.1)).set (3 + 3 * n + 1) (nI q2.1)).set (3 + 3 * n + 2) (nI q3.1) := by rw [eA3, eA2]; rfl
            have eA4 : updA A3 4 ((A3 4).set (3 + 3 * n + 2) (nI q3.1)) = updA (updA A 3 ((A 3).set (3 + n) (nI q0.1))) 4 ((((A 4).set (3 + 3 * n + 0) (nI q1.1)).set (3 + 3 * n + 1) (nI q2.1)).set (3 + 3 * n + 2) (nI q3.1)) := by rw [e44, eA3, eA2, updA_updA, updA_updA]
            rw [eA4]
            obtain ⟨X4, eX⟩ : ∃ X4, X4 = (((A 4).set (3 + 3 * n + 0) (nI q1.1)).set (3 + 3 * n + 1) (nI q2.1)).set (3 + 3 * n + 2) (nI q3.1) := ⟨_, rfl⟩
            have lX : X4.length = 27 := by rw [eX, List.length_set, List.length_set, List.length_set, l4]
            have x0 : X4.getD 0 0 = nI n := by
              rw [eX, getD_set (by rw [List.length_set, List.length_set]; omega), if_neg (by omega), getD_set (by rw [List.length_set]; omega), if_neg (by omega), getD_set (by omega), if_neg (by omega), hn]
            rw [← eX]
            have hA5 : aOK (updA (updA A 3 ((A 3).set (3 + n) (nI q0.1))) 4 X4) := updA_ok hA1 lX
            have lx : am_ld (wD hp I4 (updA (updA A 3 ((A 3).set (3 + n) (nI q0.1))) 4 X4)) 146 0 = some (nI n) := by
              rw [wD_l4 (x := 0) (k := 0) rfl hl hA5 (by decide), ← x0]
              rfl
            have sx : am_sx (wD hp I4 (updA (updA A 3 ((A 3).set (3 + n) (nI q0.1))) 4 X4)) 146 0 (nI (n + 1)) = some (wD hp I4 (updA (updA A 3 ((A 3).set (3 + n) (nI q0.1))) 4 (X4.set 0 (nI (n + 1))))) := by
              rw [wD_s4 (x := 0) (k := 0) rfl hl hA5 (by decide), updA_updA]
              rfl
            rw [e_103_46]
            simp (maxSteps := 1000000) (disch := first | exact nl_int | exact nl_ref | exact nl_none | exact Nat.le_of_ble_eq_true rfl | assumption | exact wD_cl (by assumption) | exact cat_int | exact cat_ref | exact z2 | exact z4 | exact z3 | exact z5 | exact z6 | exact z8 | exact z64) only [e_103_0, e_103_1, e_103_4, e_103_5, e_103_6, e_103_7, e_103_8, e_103_10, e_103_13, e_103_14, e_103_15, e_103_16, e_103_18, e_103_21, e_103_24, e_103_25, e_103_25_1, e_103_26, e_103_27, e_103_30, e_103_31, e_103_32, e_103_33, e_103_34, e_103_37, e_103_38, e_103_39, e_103_40, e_103_41, e_103_42, e_103_43, e_103_44, e_103_45, e_103_47, e_103_48, e_103_51, e_103_52, e_103_53, e_103_54, e_103_57, e_103_59, e_103_62, e_103_63, e_103_64, e_103_67, e_103_69, e_103_72, e_103_73, e_103_74, e_103_75, e_103_78, e_103_80, e_103_83, e_103_85, e_103_88, e_103_91, e_103_92, e_103_92_1, e_103_93, e_103_94, e_103_97, e_103_98, e_103_99, e_103_100, e_103_101, e_103_104, e_103_105, e_103_108, e_103_111, e_103_112, e_103_115, e_103_116, e_103_117, e_103_118, e_103_119, e_103_120, e_103_121, e_103_122, e_103_122_1, nl_int, nl_ref, nl_none, cat_int, cat_ref, cat_0, cat_i, cat_r, cat_l, Option.elim_some, Option.elim_none, Option.bind_some, Option.bind_none, Option.toList_some, Option.toList_none, List.cons_append, List.nil_append, Nat.reduceAdd, Nat.reduceLeDiff, show (nI (2 + 1) < 3) = False from by decide, if_false, wD_f6 hl, lx, nI_1, sx]
  · refine ⟨fun w => absurd w q8, fun _ => ⟨I, A, hA, S34.rfl', Ri.rfl'.jj, ?_⟩⟩
    have e8 : nI n = 8 := by rw [show n = 8 from by omega]; rfl
    simp (maxSteps := 1000000) (disch := first | exact nl_int | exact nl_ref | exact nl_none | exact Nat.le_of_ble_eq_true rfl | assumption | exact wD_cl (by assumption) | exact cat_int | exact cat_ref | exact z2 | exact z4 | exact z3 | exact z5 | exact z6 | exact z8 | exact z64) only [e_103_0, e_103_1, e_103_4, e_103_5, e_103_6, e_103_7, e_103_8, e_103_10, e_103_13, e_103_14, e_103_15, e_103_16, e_103_18, e_103_21, e_103_24, e_103_25, e_103_25_1, e_103_26, e_103_27, e_103_30, e_103_31, e_103_32, e_103_33, e_103_34, e_103_37, e_103_38, e_103_39, e_103_40, e_103_41, e_103_42, e_103_43, e_103_44, e_103_45, e_103_47, e_103_48, e_103_51, e_103_52, e_103_53, e_103_54, e_103_57, e_103_59, e_103_62, e_103_63, e_103_64, e_103_67, e_103_69, e_103_72, e_103_73, e_103_74, e_103_75, e_103_78, e_103_80, e_103_83, e_103_85, e_103_88, e_103_91, e_103_92, e_103_92_1, e_103_93, e_103_94, e_103_97, e_103_98, e_103_99, e_103_100, e_103_101, e_103_104, e_103_105, e_103_108, e_103_111, e_103_112, e_103_115, e_103_116, e_103_117, e_103_118, e_103_119, e_103_120, e_103_121, e_103_122, e_103_122_1, nl_int, nl_ref, nl_none, cat_int, cat_ref, cat_0, cat_i, cat_r, cat_l, Option.elim_some, Option.elim_none, Option.bind_some, Option.bind_none, Option.toList_some, Option.toList_none, List.cons_append, List.nil_append, Nat.reduceAdd, Nat.reduceLeDiff, wD_f6 hl, l0, if_pos e8]
theorem s7_rw (hl : 154 < hp.length) (hA : aOK A) (hT : TxR t I A) (h4 : I 4 = nI a) (ha : a < 900) (hn : (A 3).getD 1 0 = nI n) (h5 : n ≤ 5) {hs : Nat} (hh : (A 3).getD 0 0 = nI hs) (h1 : 1 ≤ hs) (h6 : hs ≤ 5) : (n < 5 → ∀ v0 v1 b, itW t a hs = some (v0, v1, b) → ∃ I2, I2 4 = nI b ∧ Ri I I2 ∧ am_E (d + 3) 104 0 [some (.ref 141), none] [] (wD hp I A) = some (some (.int 1), wD hp I2 (updA A 3 ((((A 3).set (11 + 2 * n) (nI v0)).set (12 + 2 * n) (nI v1)).set 1 (nI (n + 1)))))) ∧ ((¬ n < 5 ∨ itW t a hs = none) → Fl (am_E (d + 3) 104 0 [some (.ref 141), none] [] (wD hp I A)) hp I A) := by
  have l0 : am_ld (wD hp I A) 145 1 = some (nI n) := by rw [wD_l3 (x := 1) (k := 1) rfl hl hA (by decide), hn]
  have l1 : am_ld (wD hp I A) 145 0 = some (nI hs) := by rw [wD_l3 (x := 0) (k := 0) rfl hl hA (by decide), hh]
  have lA : (A 3).length = 29 := hA 3 (by decide)
  by_cases q8 : n < 5
  · have n8 : (nI n = 5) = False := eq_false (fun w => by have := (nI_eq (b := 5) (by omega) (by decide)).mp w; omega)
    have t2 := hT.2.1
    have em : nI hs - 1 = nI (hs - 1) := pk_sub (b := 1) h1
    obtain ⟨f0, f1⟩ := s7_numX (d := d) (X := 0) (Y := nI (hs - 1)) (Z := 44) (lo := 0) (hi := hs - 1) (e := 44) hl hA hT h4 ha rfl rfl rfl (by decide) (by omega) (by decide)
    unfold itW
    cases g0 : pnr t a 44 0 (hs - 1) with
    | none =>
      refine ⟨fun _ v0 v1 b h => (by cases h), fun _ => ?_⟩
      obtain ⟨I2, r, e⟩ := f0 g0
      refine ⟨I2, A, hA, S34.rfl', r.jj, ?_⟩
      simp (maxSteps := 1000000) (disch := first | exact nl_int | exact nl_ref | exact nl_none | exact Nat.le_of_ble_eq_true rfl | assumption | exact wD_cl (by assumption) | exact cat_int | exact cat_ref | exact z2 | exact z4 | exact z3 | exact z5 | exact z6 | exact z8 | exact z64) only [e_104_0, e_104_1, e_104_4, e_104_5, e_104_6, e_104_7, e_104_8, e_104_9, e_104_12, e_104_13, e_104_14, e_104_15, e_104_18, e_104_19, e_104_20, e_104_21, e_104_22, e_104_24, e_104_27, e_104_30, e_104_31, e_104_31_1, e_104_32, e_104_33, e_104_36, e_104_38, e_104_39, e_104_40, e_104_41, e_104_42, e_104_43, e_104_46, e_104_47, e_104_48, e_104_49, e_104_51, e_104_53, e_104_56, e_104_59, e_104_60, e_104_60_1, e_104_61, e_104_62, e_104_65, e_104_67, e_104_68, e_104_69, e_104_70, e_104_71, e_104_72, e_104_73, e_104_74, e_104_77, e_104_78, e_104_79, e_104_82, e_104_83, e_104_84, e_104_85, e_104_86, e_104_87, e_104_88, e_104_89, e_104_89_1, nl_int, nl_ref, nl_none, cat_int, cat_ref, cat_0, cat_i, cat_r, cat_l, Option.elim_some, Option.elim_none, Option.bind_some, Option.bind_none, Option.toList_some, Option.toList_none, List.cons_append, List.nil_append, Nat.reduceAdd, Nat.reduceLeDiff, wD_f5 hl, l0, l1, em, n8, if_false, e, z0, if_true]
    | some q0 =>
      obtain ⟨I1, r8, r4, r1, e1⟩ := f1 q0 g0
      have b0 := pnr_at g0 t2
      have s3 : am_sx (wD hp I1 A) 145 (nI (11 + 2 * n)) (nI q0.1) = some (wD hp I1 (updA A 3 ((A 3).set (11 + 2 * n) (nI q0.1)))) := wD_s3 (k := 11 + 2 * n) rfl hl hA (by omega)
      have ix : 11 + 2 * nI n = nI (11 + 2 * n) := ix11
      have hA1 : aOK (updA A 3 ((A 3).set (11 + 2 * n) (nI q0.1))) := updA_ok hA ((List.length_set).trans lA)
      have hT1 : TxR t I1 (updA A 3 ((A 3).set (11 + 2 * n) (nI q0.1))) := hT.ri r1 rfl
      obtain ⟨g10, g11⟩ := s7_numX (d := d) (X := 1) (Y := 30) (Z := 59) (lo := 1) (hi := 30) (e := 59) hl hA1 hT1 r4 (by omega) rfl rfl rfl (by decide) (by decide) (by decide)
      rw [Option.bind_some]
      cases g1 : pnr t q0.2 59 1 30 with
      | none =>
        refine ⟨fun _ v0 v1 b h => (by cases h), fun _ => ?_⟩
        obtain ⟨I2, r, e⟩ := g10 g1
        refine ⟨I2, _, hA1, S34.rfl'.upd (k := 3) (by omega), (r1.trans r).jj, ?_⟩
        simp (maxSteps := 1000000) (disch := first | exact nl_int | exact nl_ref | exact nl_none | exact Nat.le_of_ble_eq_true rfl | assumption | exact wD_cl (by assumption) | exact cat_int | exact cat_ref | exact z2 | exact z4 | exact z3 | exact z5 | exact z6 | exact z8 | exact z64) only [e_104_0, e_104_1, e_104_4, e_104_5, e_104_6, e_104_7, e_104_8, e_104_9, e_104_12, e_104_13, e_104_14, e_104_15, e_104_18, e_104_19, e_104_20, e_104_21, e_104_22, e_104_24, e_104_27, e_104_30, e_104_31, e_104_31_1, e_104_32, e_104_33, e_104_36, e_104_38, e_104_39, e_104_40, e_104_41, e_104_42, e_104_43, e_104_46, e_104_47, e_104_48, e_104_49, e_104_51, e_104_53, e_104_56, e_104_59, e_104_60, e_104_60_1, e_104_61, e_104_62, e_104_65, e_104_67, e_104_68, e_104_69, e_104_70, e_104_71, e_104_72, e_104_73, e_104_74, e_104_77, e_104_78, e_104_79, e_104_82, e_104_83, e_104_84, e_104_85, e_104_86, e_104_87, e_104_88, e_104_89, e_104_89_1, nl_int, nl_ref, nl_none, cat_int, cat_ref, cat_0, cat_i, cat_r, cat_l, Option.elim_some, Option.elim_none, Option.bind_some, Option.bind_none, Option.toList_some, Option.toList_none, List.cons_append, List.nil_append, Nat.reduceAdd, Nat.reduceLeDiff, wD_f5 hl, l0, l1, em, n8, if_false, e1, z1, ix, wD_f8 hl, r8, s3, e, z0, if_true]
      | some q1 =>
        obtain ⟨I2, r82, r42, r2, e2⟩ := g11 q1 g1
        rw [Option.bind_some]
        refine ⟨fun _ v0 v1 b h => ?_, fun h => h.elim (fun w => absurd q8 w) (fun w => by cases w)⟩
        cases h
        refine ⟨I2, r42, r1.trans r2, ?_⟩
        have s4 : am_sx (wD hp I2 (updA A 3 ((A 3).set (11 + 2 * n) (nI q0.1)))) 145 (nI (12 + 2 * n)) (nI q1.1) = some (wD hp I2 (updA A 3 (((A 3).set (11 + 2 * n) (nI q0.1)).set (12 + 2 * n) (nI q1.1)))) := by
          rw [wD_s3 (k := 12 + 2 * n) rfl hl hA1 (by omega), updA_updA]
          rfl
        have e12 : nI (11 + 2 * n) + 1 = nI (12 + 2 * n) := by rw [nI_1, show 11 + 2 * n + 1 = 12 + 2 * n from by omega]
        have lX : (((A 3).set (11 + 2 * n) (nI q0.1)).set (12 + 2 * n) (nI q1.1)).length = 29 := by rw [List.length_set, List.length_set, lA]
        have hA2 : aOK (updA A 3 (((A 3).set (11 + 2 * n) (nI q0.1)).set (12 + 2 * n) (nI q1.1))) := updA_ok hA lX
        have l2 : am_ld (wD hp I2 (updA A 3 (((A 3).set (11 + 2 * n) (nI q0.1)).set (12 + 2 * n) (nI q1.1)))) 145 1 = some (nI n) := by
          rw [wD_l3 (x := 1) (k := 1) rfl hl hA2 (by decide)]
          show some ((((A 3).set (11 + 2 * n) (nI q0.1)).set (12 + 2 * n) (nI q1.1)).getD 1 0) = _
          rw [getD_set (by rw [List.length_set]; omega), if_neg (by omega), getD_set (by omega), if_neg (by omega), hn]
        have s5 : am_sx (wD hp I2 (updA A 3 (((A 3).set (11 + 2 * n) (nI q0.1)).set (12 + 2 * n) (nI q1.1)))) 145 1 (nI (n + 1)) = some (wD hp I2 (updA A 3 ((((A 3).set (11 + 2 * n) (nI q0.1)).set (12 + 2 * n) (nI q1.1)).set 1 (nI (n + 1))))) := by
          rw [wD_s3 (x := 1) (k := 1) rfl hl hA2 (by decide), updA_updA]
          rfl
        have en : nI n + 1 = nI (n + 1) := nI_1 n
        simp (maxSteps := 1000000) (disch := first | exact nl_int | exact nl_ref | exact nl_none | exact Nat.le_of_ble_eq_true rfl | assumption | exact wD_cl (by assumption) | exact cat_int | exact cat_ref | exact z2 | exact z4 | exact z3 | exact z5 | exact z6 | exact z8 | exact z64) only [e_104_0, e_104_1, e_104_4, e_104_5, e_104_6, e_104_7, e_104_8, e_104_9, e_104_12, e_104_13, e_104_14, e_104_15, e_104_18, e_104_19, e_104_20, e_104_21, e_104_22, e_104_24, e_104_27, e_104_30, e_104_31, e_104_31_1, e_104_32, e_104_33, e_104_36, e_104_38, e_104_39, e_104_40, e_104_41, e_104_42, e_104_43, e_104_46, e_104_47, e_104_48, e_104_49, e_104_51, e_104_53, e_104_56, e_104_59, e_104_60, e_104_60_1, e_104_61, e_104_62, e_104_65, e_104_67, e_104_68, e_104_69, e_104_70, e_104_71, e_104_72, e_104_73, e_104_74, e_104_77, e_104_78, e_104_79, e_104_82, e_104_83, e_104_84, e_104_85, e_104_86, e_104_87, e_104_88, e_104_89, e_104_89_1, nl_int, nl_ref, nl_none, cat_int, cat_ref, cat_0, cat_i, cat_r, cat_l, Option.elim_some, Option.elim_none, Option.bind_some, Option.bind_none, Option.toList_some, Option.toList_none, List.cons_append, List.nil_append, Nat.reduceAdd, Nat.reduceLeDiff, wD_f5 hl, l0, l1, em, n8, if_false, e1, z1, ix, wD_f8 hl, r8, s3, e2, r82, e12, s4, l2, en, s5]
  · refine ⟨fun w => absurd w q8, fun _ => ⟨I, A, hA, S34.rfl', Ri.rfl'.jj, ?_⟩⟩
    have e8 : nI n = 5 := by rw [show n = 5 from by omega]; rfl
    simp (maxSteps := 1000000) (disch := first | exact nl_int | exact nl_ref | exact nl_none | exact Nat.le_of_ble_eq_true rfl | assumption | exact wD_cl (by assumption) | exact cat_int | exact cat_ref | exact z2 | exact z4 | exact z3 | exact z5 | exact z6 | exact z8 | exact z64) only [e_104_0, e_104_1, e_104_4, e_104_5, e_104_6, e_104_7, e_104_8, e_104_9, e_104_12, e_104_13, e_104_14, e_104_15, e_104_18, e_104_19, e_104_20, e_104_21, e_104_22, e_104_24, e_104_27, e_104_30, e_104_31, e_104_31_1, e_104_32, e_104_33, e_104_36, e_104_38, e_104_39, e_104_40, e_104_41, e_104_42, e_104_43, e_104_46, e_104_47, e_104_48, e_104_49, e_104_51, e_104_53, e_104_56, e_104_59, e_104_60, e_104_60_1, e_104_61, e_104_62, e_104_65, e_104_67, e_104_68, e_104_69, e_104_70, e_104_71, e_104_72, e_104_73, e_104_74, e_104_77, e_104_78, e_104_79, e_104_82, e_104_83, e_104_84, e_104_85, e_104_86, e_104_87, e_104_88, e_104_89, e_104_89_1, nl_int, nl_ref, nl_none, cat_int, cat_ref, cat_0, cat_i, cat_r, cat_l, Option.elim_some, Option.elim_none, Option.bind_some, Option.bind_none, Option.toList_some, Option.toList_none, List.cons_append, List.nil_append, Nat.reduceAdd, Nat.reduceLeDiff, wD_f5 hl, l0, if_pos e8]
theorem s7_rt (hl : 154 < hp.length) (hA : aOK A) (hT : TxR t I A) (h4 : I 4 = nI a) (ha : a < 900) (hn : (A 3).getD 2 0 = nI n) (h8 : n ≤ 8) : (n < 8 → ∀ q, pnr t a 59 0 31 = some q → ∃ I2, I2 4 = nI q.2 ∧ Ri I I2 ∧ am_E (d + 3) 105 0 [some (.ref 141)] [] (wD hp I A) = some (some (.int 1), wD hp I2 (updA A 3 (((A 3).set (21 + n) (nI q.1)).set 2 (nI (n + 1)))))) ∧ ((¬ n < 8 ∨ pnr t a 59 0 31 = none) → Fl (am_E (d + 3) 105 0 [some (.ref 141)] [] (wD hp I A)) hp I A) := by
  have l0 : ∀ I, am_ld (wD hp I A) 145 2 = some (nI n) := fun I => by rw [wD_l3 (x := 2) (k := 2) rfl hl hA (by decide), hn]
  have lA : (A 3).length = 29 := hA 3 (by decide)
  by_cases q8 : n < 8
  · have n8 : (nI n = 8) = False := eq_false (fun w => by have := (nI_eq (b := 8) (by omega) (by decide)).mp w; omega)
    obtain ⟨f0, f1⟩ := s7_numX (d := d) (X := 0) (Y := 31) (Z := 59) (lo := 0) (hi := 31) (e := 59) hl hA hT h4 ha rfl rfl rfl (by decide) (by decide) (by decide)
    cases g0 : pnr t a 59 0 31 with
    | none =>
      refine ⟨fun _ q h => (by cases h), fun _ => ?_⟩
      obtain ⟨I2, r, e⟩ := f0 g0
      refine ⟨I2, A, hA, S34.rfl', r.jj, ?_⟩
      simp (maxSteps := 1000000) (disch := first | exact nl_int | exact nl_ref | exact nl_none | exact Nat.le_of_ble_eq_true rfl | assumption | exact wD_cl (by assumption) | exact cat_int | exact cat_ref | exact z2 | exact z4 | exact z3 | exact z5 | exact z6 | exact z8 | exact z64) only [e_105_0, e_105_1, e_105_4, e_105_5, e_105_6, e_105_8, e_105_11, e_105_12, e_105_13, e_105_15, e_105_17, e_105_20, e_105_23, e_105_24, e_105_24_1, e_105_25, e_105_26, e_105_29, e_105_31, e_105_32, e_105_35, e_105_36, e_105_37, e_105_38, e_105_39, e_105_42, e_105_43, e_105_44, e_105_47, e_105_48, e_105_49, e_105_50, e_105_51, e_105_52, e_105_53, e_105_54, e_105_54_1, nl_int, nl_ref, nl_none, cat_int, cat_ref, cat_0, cat_i, cat_r, cat_l, Option.elim_some, Option.elim_none, Option.bind_some, Option.bind_none, Option.toList_some, Option.toList_none, List.cons_append, List.nil_append, Nat.reduceAdd, Nat.reduceLeDiff, wD_f5 hl, l0, n8, if_false, e, z0, if_true]
    | some q0 =>
      obtain ⟨I1, r8, r4, r1, e1⟩ := f1 q0 g0
      refine ⟨fun _ q h => ?_, fun h => h.elim (fun w => absurd q8 w) (fun w => by cases w)⟩
      cases h
      have s3 : am_sx (wD hp I1 A) 145 (nI (21 + n)) (nI q0.1) = some (wD hp I1 (updA A 3 ((A 3).set (21 + n) (nI q0.1)))) := wD_s3 (k := 21 + n) rfl hl hA (by omega)
      have ix : 21 + nI n = nI (21 + n) := by rw [show (21 : Int32) = nI 21 from rfl, nI_add]
      have hA1 : aOK (updA A 3 ((A 3).set (21 + n) (nI q0.1))) := updA_ok hA ((List.length_set).trans lA)
      have l2 : am_ld (wD hp I1 (updA A 3 ((A 3).set (21 + n) (nI q0.1)))) 145 2 = some (nI n) := by
        rw [wD_l3 (x := 2) (k := 2) rfl hl hA1 (by decide)]
        show some (((A 3).set (21 + n) (nI q0.1)).getD 2 0) = _
        rw [getD_set (by omega), if_neg (by omega), hn]
      have s5 : am_sx (wD hp I1 (updA A 3 ((A 3).set (21 + n) (nI q0.1)))) 145 2 (nI (n + 1)) = some (wD hp I1 (updA A 3 (((A 3).set (21 + n) (nI q0.1)).set 2 (nI (n + 1))))) := by
        rw [wD_s3 (x := 2) (k := 2) rfl hl hA1 (by decide), updA_updA]
        rfl
      refine ⟨I1, r4, r1, ?_⟩
      simp (maxSteps := 1000000) (disch := first | exact nl_int | exact nl_ref | exact nl_none | exact Nat.le_of_ble_eq_true rfl | assumption | exact wD_cl (by assumption) | exact cat_int | exact cat_ref | exact z2 | exact z4 | exact z3 | exact z5 | exact z6 | exact z8 | exact z64) only [e_105_0, e_105_1, e_105_4, e_105_5, e_105_6, e_105_8, e_105_11, e_105_12, e_105_13, e_105_15, e_105_17, e_105_20, e_105_23, e_105_24, e_105_24_1, e_105_25, e_105_26, e_105_29, e_105_31, e_105_32, e_105_35, e_105_36, e_105_37, e_105_38, e_105_39, e_105_42, e_105_43, e_105_44, e_105_47, e_105_48, e_105_49, e_105_50, e_105_51, e_105_52, e_105_53, e_105_54, e_105_54_1, nl_int, nl_ref, nl_none, cat_int, cat_ref, cat_0, cat_i, cat_r, cat_l, Option.elim_some, Option.elim_none, Option.bind_some, Option.bind_none, Option.toList_some, Option.toList_none, List.cons_append, List.nil_append, Nat.reduceAdd, Nat.reduceLeDiff, wD_f5 hl, l0, n8, if_false, e1, z1, ix, wD_f8 hl, r8, s3, l2, nI_1, s5]
  · refine ⟨fun w => absurd w q8, fun _ => ⟨I, A, hA, S34.rfl', Ri.rfl'.jj, ?_⟩⟩
    have e8 : nI n = 8 := by rw [show n = 8 from by omega]; rfl
    simp (maxSteps := 1000000) (disch := first | exact nl_int | exact nl_ref | exact nl_none | exact Nat.le_of_ble_eq_true rfl | assumption | exact wD_cl (by assumption) | exact cat_int | exact cat_ref | exact z2 | exact z4 | exact z3 | exact z5 | exact z6 | exact z8 | exact z64) only [e_105_0, e_105_1, e_105_4, e_105_5, e_105_6, e_105_8, e_105_11, e_105_12, e_105_13, e_105_15, e_105_17, e_105_20, e_105_23, e_105_24, e_105_24_1, e_105_25, e_105_26, e_105_29, e_105_31, e_105_32, e_105_35, e_105_36, e_105_37, e_105_38, e_105_39, e_105_42, e_105_43, e_105_44, e_105_47, e_105_48, e_105_49, e_105_50, e_105_51, e_105_52, e_105_53, e_105_54, e_105_54_1, nl_int, nl_ref, nl_none, cat_int, cat_ref, cat_0, cat_i, cat_r, cat_l, Option.elim_some, Option.elim_none, Option.bind_some, Option.bind_none, Option.toList_some, Option.toList_none, List.cons_append, List.nil_append, Nat.reduceAdd, Nat.reduceLeDiff, wD_f5 hl, l0, if_pos e8]
end RDC
