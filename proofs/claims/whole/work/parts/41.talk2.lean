/-! talks, one hour behind the other -/
def sj (q : Nat) : Int32 := if q = 0 then -1 else nI (q - 1)
theorem sj_1 (q : Nat) : sj q + 1 = sj (q + 1) := by
  unfold sj
  by_cases h : q = 0
  · subst h; decide
  · rw [if_neg h, if_neg (by omega), nI_1]
    congr 1
    omega
theorem sj_lt {q : Nat} (h : q < 6) : (sj q < 5) = True := by
  unfold sj
  by_cases h0 : q = 0
  · rw [if_pos h0]; exact eq_true (by decide)
  · rw [if_neg h0]; exact ltT (x := 5) (c := 5) rfl (by omega) (by decide)
theorem sj_6 : (sj 6 < 5) = False := eq_false (by decide)
theorem sj_0 {q : Nat} (h : q < 6) : (sj q = -1) = (q = 0) := by
  unfold sj
  by_cases h0 : q = 0
  · rw [if_pos h0]; simp [h0]
  · rw [if_neg h0]
    refine propext ⟨fun z => ?_, fun z => absurd z h0⟩
    have h1 := nI_pos (n := q - 1) (by omega)
    rw [z] at h1
    exact absurd (by decide) h1
def kTd (m : am_Mo) (q : Nat) : Int32 := if q = 0 then 0 else ((1 : Int32) <<< (sj q &&& 31)) &&& (m.2.2.2.2.2.2 ^^^ -1)
def kDisc (c : am_Ci) : Nat → Nat → am_Mo → Int32 → am_Tk → am_Tk
  | 0, _, _, had, r => kWeigh had r
  | n + 1, a, m, had, r => am_for (fun q r => kDisc c n (a + 1) (mGo m (kTd m q)) (had + cAll c m (kTd m q)) (kSetRow r a (sj q))) 0 6 r
theorem kDisc_ok {c : am_Ci} : ∀ (n a : Nat) (m : am_Mo) (had : Int32) (r : am_Tk), kOK r → kOK (kDisc c n a m had r) := by
  intro n
  induction n with
  | zero => intro a m had r h; exact kWeigh_ok h
  | succ n ih => intro a m had r h; exact am_for_inv (fun _ s => kOK s) _ _ _ h (fun _ _ _ _ q => ih _ _ _ _ ⟨(List.length_set).trans q.1, q.2⟩)
theorem s_discuss {k k2 hours : Nat} {hp : am_H} {c : am_Ci} (hk : okK hp k) (hc : isCt hp k2 c) (h2 : k2 + 9 < k ∨ k + 33 < k2) (hh : hours ≤ 4) : ∀ (n d a : Nat) (had : Int32) (ms : Nat → am_Mo) (r : am_Tk), a + n = hours → (∀ i, i < 5 → mOK (ms i)) → kOK r → ∃ ms2 : Nat → am_Mo, (∀ i, i < 5 → mOK (ms2 i)) ∧ (∀ i, i ≤ a → ms2 i = ms i) ∧ am_E (d + n + 4) 36 0 [some (.ref k), some (.ref k2), some (.int (nI hours)), some (.int (nI a)), some (.int had), none, none, none, none] [] (wK hp k ms r) = some (none, wK hp k ms2 (kDisc c n a (ms a) had r)) := by
  intro n
  induction n with
  | zero =>
    intro d a had ms r ha hm hr
    refine ⟨ms, hm, fun _ _ => rfl, ?_⟩
    have hcl : am_isC (wK hp k ms r) k 4 = true := am_isC_of (wK_obj hk)
    simp (disch := first | exact nl_int | exact nl_ref | exact nl_none | exact Nat.le_of_ble_eq_true rfl | assumption | exact cat_int | exact cat_ref | exact z2 | exact z4 | exact z3 | exact z5 | exact z6 | exact z8 | exact z64) only [e_36_1, e_36_2, e_36_5, e_36_6, e_36_7, e_36_10, e_36_11, e_36_13, e_36_16, e_36_17, e_36_18, e_36_21, e_36_22, e_36_23, e_36_25, e_36_26, e_36_29, e_36_30, e_36_31, e_36_32, e_36_33, e_36_35, e_36_36, e_36_40, e_36_41, e_36_44, e_36_46, e_36_47, e_36_50, e_36_51, e_36_54, e_36_55, e_36_57, e_36_58, e_36_60, e_36_63, e_36_64, e_36_65, e_36_66, e_36_68, e_36_69, e_36_72, e_36_73, e_36_75, e_36_76, e_36_77, e_36_78, e_36_79, e_36_80, e_36_83, e_36_85, e_36_87, e_36_90, e_36_92, e_36_94, e_36_97, e_36_98, e_36_99, e_36_100, e_36_101, e_36_102, e_36_103, e_36_105, e_36_106, e_36_108, e_36_110, e_36_113, e_36_114, e_36_117, e_36_120, e_36_123, nl_int, nl_ref, nl_none, cat_int, cat_ref, cat_0, cat_i, cat_r, cat_l, Option.elim_some, Option.elim_none, Option.bind_some, Option.bind_none, Option.toList_some, Option.toList_none, List.cons_append, List.nil_append, Nat.reduceAdd, Nat.reduceLeDiff, e_36_0, ltF (x := nI hours) (c := hours) rfl (show hours ≤ a by omega) (by omega), if_false, s_kweigh hk hr]
    rfl
  | succ n ih =>
    intro d a had ms r ha hm hr
    have hcK : ∀ ms r, isCt (wK hp k ms r) k2 c := fun ms r => isCt_get hc (fun b h3 h4 => wK_get (by omega))
    have key := for_ex (τ := Option Value × {ms2 : Nat → am_Mo // (∀ i, i < 5 → mOK (ms2 i)) ∧ ∀ i, i ≤ a → ms2 i = ms i}) (fun q r y => am_E (d + (n + 1) + 4) 36 38 [some (.ref k), some (.ref k2), some (.int (nI hours)), some (.int (nI a)), some (.int had), some (.ref (k + 4 + 6 * a)), some (.ref (k + 4 + 6 * (a + 1))), some (.int (sj q)), y.1] [] (wK hp k y.2.1 r)) (fun _ r => kOK r) (fun q r => kDisc c n (a + 1) (mGo (ms a) (kTd (ms a) q)) (had + cAll c (ms a) (kTd (ms a) q)) (kSetRow r a (sj q))) 6 (fun q r y hq hr => ⟨kDisc_ok _ _ _ _ _ ⟨(List.length_set).trans hr.1, hr.2⟩, by
      obtain ⟨y8, ms1, hm1, he1⟩ := y
      have o1 : kOK (kSetRow r a (sj q)) := ⟨(List.length_set).trans hr.1, hr.2⟩
      have ea : ms1 a = ms a := he1 a (Nat.le_refl a)
      have mA := wK_M (r := r) (i := a) (by omega) hk (hm1 a (by omega))
      rw [ea] at mA
      have f1 : am_fld (wK hp k ms1 r) k 4 1 = some (.ref (k + 2)) := am_fld_of (wK_obj hk)
      have e1 : ∀ {X : Int32}, (if q = 0 then (0 : Int32) else ((1 : Int32) <<< (sj q &&& 31)) &&& ((ms a).2.2.2.2.2.2 ^^^ -1)) = kTd (ms a) q := fun {_} => rfl
      have go : ∀ y9 : Option Value, ∃ y : Option Value × {ms2 : Nat → am_Mo // (∀ i, i < 5 → mOK (ms2 i)) ∧ ∀ i, i ≤ a → ms2 i = ms i}, am_E (d + (n + 1) + 4) 36 66 [some (.ref k), some (.ref k2), some (.int (nI hours)), some (.int (nI a)), some (.int had), some (.ref (k + 4 + 6 * a)), some (.ref (k + 4 + 6 * (a + 1))), some (.int (sj q)), y9] [.int (kTd (ms a) q)] (wK hp k ms1 r) = am_E (d + (n + 1) + 4) 36 38 [some (.ref k), some (.ref k2), some (.int (nI hours)), some (.int (nI a)), some (.int had), some (.ref (k + 4 + 6 * a)), some (.ref (k + 4 + 6 * (a + 1))), some (.int (sj (q + 1))), y.1] [] (wK hp k y.2.1 (kDisc c n (a + 1) (mGo (ms a) (kTd (ms a) q)) (had + cAll c (ms a) (kTd (ms a) q)) (kSetRow r a (sj q)))) := by
        intro y9
        obtain ⟨t, et⟩ : ∃ t, t = kTd (ms a) q := ⟨_, rfl⟩
        rw [← et]
        by_cases q9 : a + 1 < hours
        · have mA2 := wK_M (ms := ms1) (r := kSetRow r a (sj q)) (i := a) (by omega) hk (hm1 a (by omega))
          rw [ea] at mA2
          have mB := hm1 (a + 1) (by omega)
          have mBm := wK_M (ms := ms1) (r := kSetRow r a (sj q)) (i := a + 1) (by omega) hk mB
          have hclB := mBm.c
          have cp : am_E (d + (n + 1) + 3) 18 0 [some (.ref (k + 4 + 6 * (a + 1))), some (.ref (k + 4 + 6 * a))] [] (wK hp k ms1 (kSetRow r a (sj q))) = some (none, wK hp k (updM ms1 (a + 1) (mCopy (ms1 (a + 1)) (ms a))) (kSetRow r a (sj q))) := by
            have e0 := wM_self mBm
            have := s_copy (d := d + (n + 1) + 3) (hp := wK hp k ms1 (kSetRow r a (sj q))) (k := k + 4 + 6 * (a + 1)) (k2 := k + 4 + 6 * a) (m := ms1 (a + 1)) (f := ms a) mBm.len mB mA2 (by omega)
            rw [e0, wK_wM (by omega)] at this
            exact this
          have mC : mOK (mCopy (ms1 (a + 1)) (ms a)) := mCopy_ok mB (by rw [← ea]; exact hm1 a (by omega))
          obtain ⟨ms3, e3⟩ : ∃ ms3, ms3 = updM ms1 (a + 1) (mCopy (ms1 (a + 1)) (ms a)) := ⟨_, rfl⟩
          have h3 : ms3 (a + 1) = mCopy (ms1 (a + 1)) (ms a) := by rw [e3]; exact if_pos rfl
          have ok3 : ∀ i, i < 5 → mOK (ms3 i) := fun i hi => by
            rw [e3]
            unfold updM
            split
            · exact mC
            · exact hm1 i hi
          have mD := wK_M (ms := ms3) (r := kSetRow r a (sj q)) (i := a + 1) (by omega) hk (ok3 (a + 1) (by omega))
          have hclD := mD.c
          have gb : am_E (d + (n + 1) + 3) 28 0 [some (.ref (k + 4 + 6 * (a + 1))), some (.int t), none] [] (wK hp k ms3 (kSetRow r a (sj q))) = some (none, wK hp k (updM ms3 (a + 1) (mGo (ms a) t)) (kSetRow r a (sj q))) := by
            have e0 := wM_self mD
            have := s_goBy (d := d + (n + 1) + 1) (hp := wK hp k ms3 (kSetRow r a (sj q))) (k := k + 4 + 6 * (a + 1)) (m := ms3 (a + 1)) (t := t) mD.len (ok3 (a + 1) (by omega))
            rw [e0, wK_wM (by omega), h3, mCopy_nf, mGo_nf (by rw [← ea]; exact hm1 a (by omega)) mB.2.2.2.2] at this
            exact this
          obtain ⟨ms4, e4⟩ : ∃ ms4, ms4 = updM ms3 (a + 1) (mGo (ms a) t) := ⟨_, rfl⟩
          have h4 : ms4 (a + 1) = mGo (ms a) t := by rw [e4]; exact if_pos rfl
          have h4a : ms4 a = ms a := by rw [e4, e3]; unfold updM; rw [if_neg (by omega), if_neg (by omega), ea]
          have ok4 : ∀ i, i < 5 → mOK (ms4 i) := fun i hi => by
            rw [e4]
            unfold updM
            split
            · exact mGo_ok (by rw [← ea]; exact hm1 a (by omega))
            · exact ok3 i hi
          have mE := wK_M (ms := ms4) (r := kSetRow r a (sj q)) (i := a) (by omega) hk (ok4 a (by omega))
          rw [h4a] at mE
          have hclE := mE.c
          have hclC := (hcK ms4 (kSetRow r a (sj q))).cl
          have la := s_lightOfAll (d := d + (n + 1)) (t := t) (hcK ms4 (kSetRow r a (sj q))) mE
          obtain ⟨ms5, ok5, h5, e5⟩ := ih d (a + 1) (had + cAll c (ms a) t) ms4 (kSetRow r a (sj q)) (by omega) ok4 o1
          rw [h4, show d + n + 4 = d + (n + 1) + 3 from by omega] at e5
          refine ⟨(some (.int t), ⟨ms5, ok5, fun i hi => ?_⟩), ?_⟩
          · rw [h5 i (by omega), e4, e3]
            unfold updM
            rw [if_neg (by omega), if_neg (by omega), he1 i hi]
          · rw [← e3] at cp
            rw [← e4] at gb
            simp (disch := first | exact nl_int | exact nl_ref | exact nl_none | exact Nat.le_of_ble_eq_true rfl | assumption | exact cat_int | exact cat_ref | exact z2 | exact z4 | exact z3 | exact z5 | exact z6 | exact z8 | exact z64) only [e_36_1, e_36_2, e_36_5, e_36_6, e_36_7, e_36_10, e_36_11, e_36_13, e_36_16, e_36_17, e_36_18, e_36_21, e_36_22, e_36_23, e_36_25, e_36_26, e_36_29, e_36_30, e_36_31, e_36_32, e_36_33, e_36_35, e_36_36, e_36_40, e_36_41, e_36_44, e_36_46, e_36_47, e_36_50, e_36_51, e_36_54, e_36_55, e_36_57, e_36_58, e_36_60, e_36_63, e_36_64, e_36_65, e_36_66, e_36_68, e_36_69, e_36_72, e_36_73, e_36_75, e_36_76, e_36_77, e_36_78, e_36_79, e_36_80, e_36_83, e_36_85, e_36_87, e_36_90, e_36_92, e_36_94, e_36_97, e_36_98, e_36_99, e_36_100, e_36_101, e_36_102, e_36_103, e_36_105, e_36_106, e_36_108, e_36_110, e_36_113, e_36_114, e_36_117, e_36_120, e_36_123, nl_int, nl_ref, nl_none, cat_int, cat_ref, cat_0, cat_i, cat_r, cat_l, Option.elim_some, Option.elim_none, Option.bind_some, Option.bind_none, Option.toList_some, Option.toList_none, List.cons_append, List.nil_append, Nat.reduceAdd, Nat.reduceLeDiff, f1, wK_sR hk hr (show a < 4 by omega), nI_1, ltT (x := nI hours) (c := hours) rfl q9 (by omega), if_true, cp, gb, la, e5, sj_1]
        · have hn : n = 0 := by omega
          have mE := wK_M (ms := ms1) (r := kSetRow r a (sj q)) (i := a) (by omega) hk (hm1 a (by omega))
          rw [ea] at mE
          have hclC := (hcK ms1 (kSetRow r a (sj q))).cl
          have la := s_lightOfAll (d := d + (n + 1)) (t := t) (hcK ms1 (kSetRow r a (sj q))) mE
          obtain ⟨ms5, ok5, h5, e5⟩ := ih d (a + 1) (had + cAll c (ms a) t) ms1 (kSetRow r a (sj q)) (by omega) hm1 o1
          have e6 : kDisc c n (a + 1) (ms1 (a + 1)) (had + cAll c (ms a) t) (kSetRow r a (sj q)) = kDisc c n (a + 1) (mGo (ms a) t) (had + cAll c (ms a) t) (kSetRow r a (sj q)) := by rw [hn]; simp only [kDisc]
          rw [e6, show d + n + 4 = d + (n + 1) + 3 from by omega] at e5
          refine ⟨(some (.int t), ⟨ms5, ok5, fun i hi => ?_⟩), ?_⟩
          · rw [h5 i (by omega), he1 i hi]
          · simp (disch := first | exact nl_int | exact nl_ref | exact nl_none | exact Nat.le_of_ble_eq_true rfl | assumption | exact cat_int | exact cat_ref | exact z2 | exact z4 | exact z3 | exact z5 | exact z6 | exact z8 | exact z64) only [e_36_1, e_36_2, e_36_5, e_36_6, e_36_7, e_36_10, e_36_11, e_36_13, e_36_16, e_36_17, e_36_18, e_36_21, e_36_22, e_36_23, e_36_25, e_36_26, e_36_29, e_36_30, e_36_31, e_36_32, e_36_33, e_36_35, e_36_36, e_36_40, e_36_41, e_36_44, e_36_46, e_36_47, e_36_50, e_36_51, e_36_54, e_36_55, e_36_57, e_36_58, e_36_60, e_36_63, e_36_64, e_36_65, e_36_66, e_36_68, e_36_69, e_36_72, e_36_73, e_36_75, e_36_76, e_36_77, e_36_78, e_36_79, e_36_80, e_36_83, e_36_85, e_36_87, e_36_90, e_36_92, e_36_94, e_36_97, e_36_98, e_36_99, e_36_100, e_36_101, e_36_102, e_36_103, e_36_105, e_36_106, e_36_108, e_36_110, e_36_113, e_36_114, e_36_117, e_36_120, e_36_123, nl_int, nl_ref, nl_none, cat_int, cat_ref, cat_0, cat_i, cat_r, cat_l, Option.elim_some, Option.elim_none, Option.bind_some, Option.bind_none, Option.toList_some, Option.toList_none, List.cons_append, List.nil_append, Nat.reduceAdd, Nat.reduceLeDiff, f1, wK_sR hk hr (show a < 4 by omega), nI_1, ltF (x := nI hours) (c := hours) rfl (show hours ≤ a + 1 by omega) (by omega), if_false, la, e5, sj_1]
      try dsimp only
      rw [e_36_38]
      by_cases q0 : q = 0
      · obtain ⟨y2, hy⟩ := go y8
        refine ⟨y2, ?_⟩
        simp (disch := first | exact nl_int | exact nl_ref | exact nl_none | exact Nat.le_of_ble_eq_true rfl | assumption | exact cat_int | exact cat_ref | exact z2 | exact z4 | exact z3 | exact z5 | exact z6 | exact z8 | exact z64) only [e_36_1, e_36_2, e_36_5, e_36_6, e_36_7, e_36_10, e_36_11, e_36_13, e_36_16, e_36_17, e_36_18, e_36_21, e_36_22, e_36_23, e_36_25, e_36_26, e_36_29, e_36_30, e_36_31, e_36_32, e_36_33, e_36_35, e_36_36, e_36_40, e_36_41, e_36_44, e_36_46, e_36_47, e_36_50, e_36_51, e_36_54, e_36_55, e_36_57, e_36_58, e_36_60, e_36_63, e_36_64, e_36_65, e_36_68, e_36_69, e_36_72, e_36_73, e_36_75, e_36_76, e_36_77, e_36_78, e_36_79, e_36_80, e_36_83, e_36_85, e_36_87, e_36_90, e_36_92, e_36_94, e_36_97, e_36_98, e_36_99, e_36_100, e_36_101, e_36_102, e_36_103, e_36_105, e_36_106, e_36_108, e_36_110, e_36_113, e_36_114, e_36_117, e_36_120, e_36_123, nl_int, nl_ref, nl_none, cat_int, cat_ref, cat_0, cat_i, cat_r, cat_l, Option.elim_some, Option.elim_none, Option.bind_some, Option.bind_none, Option.toList_some, Option.toList_none, List.cons_append, List.nil_append, Nat.reduceAdd, Nat.reduceLeDiff, sj_lt hq, if_true, sj_0 hq, if_pos q0]
        rw [← hy, show kTd (ms a) q = 0 from if_pos q0]
      · obtain ⟨y2, hy⟩ := go y8
        refine ⟨y2, ?_⟩
        simp (disch := first | exact nl_int | exact nl_ref | exact nl_none | exact Nat.le_of_ble_eq_true rfl | assumption | exact cat_int | exact cat_ref | exact z2 | exact z4 | exact z3 | exact z5 | exact z6 | exact z8 | exact z64) only [e_36_1, e_36_2, e_36_5, e_36_6, e_36_7, e_36_10, e_36_11, e_36_13, e_36_16, e_36_17, e_36_18, e_36_21, e_36_22, e_36_23, e_36_25, e_36_26, e_36_29, e_36_30, e_36_31, e_36_32, e_36_33, e_36_35, e_36_36, e_36_40, e_36_41, e_36_44, e_36_46, e_36_47, e_36_50, e_36_51, e_36_54, e_36_55, e_36_57, e_36_58, e_36_60, e_36_63, e_36_64, e_36_65, e_36_68, e_36_69, e_36_72, e_36_73, e_36_75, e_36_76, e_36_77, e_36_78, e_36_79, e_36_80, e_36_83, e_36_85, e_36_87, e_36_90, e_36_92, e_36_94, e_36_97, e_36_98, e_36_99, e_36_100, e_36_101, e_36_102, e_36_103, e_36_105, e_36_106, e_36_108, e_36_110, e_36_113, e_36_114, e_36_117, e_36_120, e_36_123, nl_int, nl_ref, nl_none, cat_int, cat_ref, cat_0, cat_i, cat_r, cat_l, Option.elim_some, Option.elim_none, Option.bind_some, Option.bind_none, Option.toList_some, Option.toList_none, List.cons_append, List.nil_append, Nat.reduceAdd, Nat.reduceLeDiff, sj_lt hq, if_true, sj_0 hq, if_neg q0, mA.f6]
        rw [← hy, show kTd (ms a) q = ((1 : Int32) <<< (sj q &&& 31)) &&& ((ms a).2.2.2.2.2.2 ^^^ -1) from if_neg q0]⟩) 6 0 r (none, ⟨ms, hm, fun _ _ => rfl⟩) rfl hr
    obtain ⟨-, ⟨y8, ms2, ok2, h9⟩, e2⟩ := key
    refine ⟨ms2, ok2, h9, ?_⟩
    have f0 : am_fld (wK hp k ms r) k 4 0 = some (.ref (k + 1)) := am_fld_of (wK_obj hk)
    dsimp only at e2
    simp (disch := first | exact nl_int | exact nl_ref | exact nl_none | exact Nat.le_of_ble_eq_true rfl | assumption | exact cat_int | exact cat_ref | exact z2 | exact z4 | exact z3 | exact z5 | exact z6 | exact z8 | exact z64) only [e_36_1, e_36_2, e_36_5, e_36_6, e_36_7, e_36_10, e_36_11, e_36_13, e_36_16, e_36_17, e_36_18, e_36_21, e_36_22, e_36_23, e_36_25, e_36_26, e_36_29, e_36_30, e_36_31, e_36_32, e_36_33, e_36_35, e_36_36, e_36_40, e_36_41, e_36_44, e_36_46, e_36_47, e_36_50, e_36_51, e_36_54, e_36_55, e_36_57, e_36_58, e_36_60, e_36_63, e_36_64, e_36_65, e_36_66, e_36_68, e_36_69, e_36_72, e_36_73, e_36_75, e_36_76, e_36_77, e_36_78, e_36_79, e_36_80, e_36_83, e_36_85, e_36_87, e_36_90, e_36_92, e_36_94, e_36_97, e_36_98, e_36_99, e_36_100, e_36_101, e_36_102, e_36_103, e_36_105, e_36_106, e_36_108, e_36_110, e_36_113, e_36_114, e_36_117, e_36_120, e_36_123, nl_int, nl_ref, nl_none, cat_int, cat_ref, cat_0, cat_i, cat_r, cat_l, Option.elim_some, Option.elim_none, Option.bind_some, Option.bind_none, Option.toList_some, Option.toList_none, List.cons_append, List.nil_append, Nat.reduceAdd, Nat.reduceLeDiff, e_36_0, ltT (x := nI hours) (c := hours) rfl (show a < hours by omega) (by omega), ltT (x := 4) (c := 4) rfl (show a < 4 by omega) (by decide), if_true, f0, wK_ldr hk (show a < 5 by omega), nI_1, wK_ldr hk (show a + 1 < 5 by omega)]
    refine (show _ = _ from e2).trans ?_
    rw [e_36_38]
    simp (disch := first | exact nl_int | exact nl_ref | exact nl_none | exact Nat.le_of_ble_eq_true rfl | assumption | exact cat_int | exact cat_ref | exact z2 | exact z4 | exact z3 | exact z5 | exact z6 | exact z8 | exact z64) only [e_36_1, e_36_2, e_36_5, e_36_6, e_36_7, e_36_10, e_36_11, e_36_13, e_36_16, e_36_17, e_36_18, e_36_21, e_36_22, e_36_23, e_36_25, e_36_26, e_36_29, e_36_30, e_36_31, e_36_32, e_36_33, e_36_35, e_36_36, e_36_40, e_36_41, e_36_44, e_36_46, e_36_47, e_36_50, e_36_51, e_36_54, e_36_55, e_36_57, e_36_58, e_36_60, e_36_63, e_36_64, e_36_65, e_36_66, e_36_68, e_36_69, e_36_72, e_36_73, e_36_75, e_36_76, e_36_77, e_36_78, e_36_79, e_36_80, e_36_83, e_36_85, e_36_87, e_36_90, e_36_92, e_36_94, e_36_97, e_36_98, e_36_99, e_36_100, e_36_101, e_36_102, e_36_103, e_36_105, e_36_106, e_36_108, e_36_110, e_36_113, e_36_114, e_36_117, e_36_120, e_36_123, nl_int, nl_ref, nl_none, cat_int, cat_ref, cat_0, cat_i, cat_r, cat_l, Option.elim_some, Option.elim_none, Option.bind_some, Option.bind_none, Option.toList_some, Option.toList_none, List.cons_append, List.nil_append, Nat.reduceAdd, Nat.reduceLeDiff, sj_6, if_false]
    rfl
/-- the search for talks: what was best before is nothing to it -/
def kSearch (c : am_Ci) (m : am_Mo) (n : Nat) (r : am_Tk) : am_Tk := kDisc c n 0 m 0 (r.1, r.2.1, -1)
theorem kDisc_nf {c : am_Ci} {m : am_Mo} {xs : List Int32} (hm : mOK m) (hx : xs.length = 8) : ∀ (n a : Nat) (had : Int32) (r : am_Tk), kDisc c n a (mNf m xs) had r = kDisc c n a m had r := by
  intro n a had r
  cases n with
  | zero => rfl
  | succ n =>
    have e1 : ∀ q, kTd (mNf m xs) q = kTd m q := fun q => rfl
    have l2 : mL2 (mNf m xs) = mL2 m := rfl
    have lh : mH (mNf m xs) = mH m := rfl
    have li : mLight (mNf m xs) = mLight m := by
      funext h t
      unfold mLight mLi1 mLi2
      rw [l2, lh]
    have e2 : ∀ t, cAll c (mNf m xs) t = cAll c m t := fun t => by
      unfold cAll cAl
      rw [li]
    have e : (fun (q : Nat) (r : am_Tk) => kDisc c n (a + 1) (mGo (mNf m xs) (kTd (mNf m xs) q)) (had + cAll c (mNf m xs) (kTd (mNf m xs) q)) (kSetRow r a (sj q))) = (fun (q : Nat) (r : am_Tk) => kDisc c n (a + 1) (mGo m (kTd m q)) (had + cAll c m (kTd m q)) (kSetRow r a (sj q))) := by
      funext q r
      rw [e1, e2, mGo_nf hm hx]
    rw [kDisc, kDisc, e]
theorem s_ksearch {d k k2 k3 hours : Nat} {hp : am_H} {c : am_Ci} {m : am_Mo} {ms : Nat → am_Mo} {r : am_Tk} (hk : okK hp k) (hr : kOK r) (hms : ∀ i, i < 5 → mOK (ms i)) (hc : isCt hp k2 c) (h2 : k2 + 9 < k ∨ k + 33 < k2) (hm : isM hp k3 m) (h3 : k3 + 5 < k ∨ k + 33 < k3) (hh : hours ≤ 4) : ∃ ms2 : Nat → am_Mo, (∀ i, i < 5 → mOK (ms2 i)) ∧ am_E (d + 9) 35 0 [some (.ref k), some (.ref k2), some (.ref k3), some (.int (nI hours))] [] (wK hp k ms r) = some (none, wK hp k ms2 (kSearch c m hours r)) := by
  have mA := wK_M (r := r) (i := 0) (by omega) hk (hms 0 (by omega))
  have hcl := mA.c
  have hmK : ∀ ms r, isM (wK hp k ms r) k3 m := fun ms r => isM_get hm (fun b h3 h4 => wK_get (by omega))
  have f0 : am_fld (wK hp k ms r) k 4 0 = some (.ref (k + 1)) := am_fld_of (wK_obj hk)
  have l0 : am_lr (wK hp k ms r) (k + 1) 0 = some (k + 4 + 6 * 0) := wK_ldr (i := 0) hk (by decide)
  have cp : am_E (d + 8) 18 0 [some (.ref (k + 4 + 6 * 0)), some (.ref k3)] [] (wK hp k ms r) = some (none, wK hp k (updM ms 0 (mCopy (ms 0) m)) r) := by
    have e0 := wM_self mA
    have := s_copy (d := d + 8) (hp := wK hp k ms r) (k := k + 4 + 6 * 0) (k2 := k3) (m := ms 0) (f := m) mA.len (hms 0 (by omega)) (hmK ms r) (by omega)
    rw [e0, wK_wM (by omega)] at this
    exact this
  have ok1 : ∀ i, i < 5 → mOK (updM ms 0 (mCopy (ms 0) m) i) := fun i hi => by
    unfold updM
    split
    · exact mCopy_ok (hms 0 (by omega)) hm.ok
    · exact hms i hi
  have pm := wK_pM (hp := hp) (ms := updM ms 0 (mCopy (ms 0) m)) (r := r) (x := -1) hk
  obtain ⟨ms2, ok2, -, e2⟩ := s_discuss hk hc h2 hh hours (d + (4 - hours)) 0 0 (updM ms 0 (mCopy (ms 0) m)) (r.1, r.2.1, -1) (by omega) ok1 hr
  rw [show d + (4 - hours) + hours + 4 = d + 8 from by omega, show updM ms 0 (mCopy (ms 0) m) 0 = mNf m (ms 0).2.2.2.2.1 from if_pos rfl, kDisc_nf hm.ok (hms 0 (by omega)).2.2.2.2] at e2
  have e3 : am_E (d + 8) 36 0 [some (.ref k), some (.ref k2), some (.int (nI hours)), some (.int 0), some (.int 0), none, none, none, none] [] (wK hp k (updM ms 0 (mCopy (ms 0) m)) (r.1, r.2.1, -1)) = some (none, wK hp k ms2 (kSearch c m hours r)) := e2
  refine ⟨ms2, ok2, ?_⟩
  simp (disch := first | exact nl_int | exact nl_ref | exact nl_none | exact Nat.le_of_ble_eq_true rfl | assumption | exact cat_int | exact cat_ref | exact z2 | exact z4 | exact z3 | exact z5 | exact z6 | exact z8 | exact z64) only [e_35_0, e_35_1, e_35_4, e_35_5, e_35_6, e_35_7, e_35_10, e_35_11, e_35_12, e_35_15, e_35_16, e_35_17, e_35_18, e_35_19, e_35_20, e_35_23, nl_int, nl_ref, nl_none, cat_int, cat_ref, cat_0, cat_i, cat_r, cat_l, Option.elim_some, Option.elim_none, Option.bind_some, Option.bind_none, Option.toList_some, Option.toList_none, List.cons_append, List.nil_append, Nat.reduceAdd, Nat.reduceLeDiff, f0, l0, cp, pm, e3]
