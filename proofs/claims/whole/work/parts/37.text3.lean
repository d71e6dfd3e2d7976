/-! items, the whole text -/
theorem lk_o {x : Int32} (h1 : x ≠ 104) (h2 : x ≠ 112) (h3 : x ≠ 115) (h4 : x ≠ 119) : Op.lookupswitch.offset (#[(104, 69), (112, 44), (115, 129), (119, 96)] : Array (Int × Int)).toList 156 x.toInt = 156 := by
  have e : ∀ {c : Int32} {n : Int}, c.toInt = n → x ≠ c → (n == x.toInt) = false := by
    intro c n hc hx
    have : ¬ n = x.toInt := fun z => hx (Int32.toInt_inj.mp (by rw [hc, z]))
    simpa using this
  have e2 : ∀ {c : Int32} {n : Int}, c.toInt = n → x ≠ c → (x.toInt == n) = false := by
    intro c n hc hx
    have : ¬ x.toInt = n := fun z => hx (Int32.toInt_inj.mp (by rw [hc, z]))
    simpa using this
  have d1 : ¬ x.toInt = 104 := fun z => h1 (Int32.toInt_inj.mp (by rw [z]; decide))
  have d2 : ¬ x.toInt = 112 := fun z => h2 (Int32.toInt_inj.mp (by rw [z]; decide))
  have d3 : ¬ x.toInt = 115 := fun z => h3 (Int32.toInt_inj.mp (by rw [z]; decide))
  have d4 : ¬ x.toInt = 119 := fun z => h4 (Int32.toInt_inj.mp (by rw [z]; decide))
  simp [Op.lookupswitch.offset, d1, d2, d3, d4, Ne.symm d1, Ne.symm d2, Ne.symm d3, Ne.symm d4]
theorem list4 {l : List Nat} (h : l.length = 4) : l.map nI = [nI (l.getD 0 0), nI (l.getD 1 0), nI (l.getD 2 0), nI (l.getD 3 0)] := by
  match l, h with
  | [a, b, c, d], _ => rfl
theorem s_readItem {d x k : Nat} {hp : am_H} {t : am_Tx} {c : am_Ci} (hx : x + 2 < hp.length) (hk : k + 9 < hp.length) (hxk : x + 2 < k ∨ k + 9 < x) (ht : tOK t) (hc : cOK c) (ha : tAt t < tLn t) : am_E (d + 3) 41 0 [some (.ref x), some (.ref k), none] [] (wX (wC hp k c) x t) = some (some (.int (b2 (tItem t c).1)), wX (wC hp k (tItem t c).2.2) x (tItem t c).2.1) := by
  have hln := ht.2.2.1
  have hx2 : x + 2 < (wC hp k c).length := by rw [wC_len]; exact hx
  have h := isX_wX hx2 ht
  have hcl := h.cl
  have t1 : tOK (tSetAt t (tAt t + 1)) := ht.At (by omega)
  have h1 := isX_wX hx2 t1
  have hcl1 := h1.cl
  have hC := ht.2.2.2.2.1 (tAt t)
  have rd : ∀ many, many ≤ 4 → am_E (d + 2) 42 0 [some (.ref x), some (.int (nI many)), none, none, none] [] (wX (wC hp k c) x (tSetAt t (tAt t + 1))) = some (some (.int (b2 (tNums many 0 many (tSetAt t (tAt t + 1))).1)), wX (wC hp k c) x (tNums many 0 many (tSetAt t (tAt t + 1))).2) := fun many hm => s_readNumbers hx2 t1 (show tAt t + 1 < 800 by omega) hm
  have ok : ∀ many, tOK (tNums many 0 many (tSetAt t (tAt t + 1))).2 := fun many => (tNums_ok many 0 _ t1 (show tAt t + 1 ≤ 210 by omega)).1
  have hX := fun many => isX_wX hx2 (ok many)
  have hcC : ∀ t2, am_isC (wX (wC hp k c) x t2) k 0 = true := fun t2 => by
    rw [← wC_wX hxk]
    exact (isCt_wC (by rw [wX_len]; exact hk) hc).cl
  have hhere : tHere t = nI (tC t (tAt t)) := if_pos ha
  have hk2 : ∀ t2 : am_Tx, k + 9 < (wX hp x t2).length := fun t2 => by rw [wX_len]; exact hk
  unfold tItem
  by_cases p1 : tC t (tAt t) = 112
  · rw [if_pos p1]
    obtain ⟨T, hT⟩ : ∃ T, T = tNums 4 0 4 (tSetAt t (tAt t + 1)) := ⟨_, rfl⟩
    have rd4 : am_E (d + 2) 42 0 [some (.ref x), some (.int 4), none, none, none] [] (wX (wC hp k c) x (tSetAt t (tAt t + 1))) = some (some (.int (b2 T.1)), wX (wC hp k c) x T.2) := by rw [hT]; exact rd 4 (by decide)
    have okT : tOK T.2 := by rw [hT]; exact ok 4
    have hXT := isX_wX hx2 okT
    have hclT := hcC T.2
    have ap : am_E (d + 2) 2 0 [some (.ref k), some (.ref (x + 2))] [] (wX (wC hp k c) x T.2) = if cPp c < 8 ∧ tN T.2 0 ≤ 3 ∧ tN T.2 1 ≤ 31 ∧ tN T.2 2 ≤ 9 ∧ tN T.2 3 < 5 then some (some (.int 1), wX (wC hp k (cPut c (tN T.2 0) (tN T.2 1) (tN T.2 2) (tN T.2 3))) x T.2) else some (some (.int 0), wX (wC hp k c) x T.2) := by
      rw [← wC_wX hxk, s_addPerson (q := x + 2) (a0 := tN T.2 0) (a1 := tN T.2 1) (a2 := tN T.2 2) (a3 := tN T.2 3) (hk2 T.2) hc (by rw [(isX_wX hx okT).2.2.1]; exact congrArg some (list4 okT.2.1)) (by omega) (okT.2.2.2.2.2 0) (okT.2.2.2.2.2 1) (okT.2.2.2.2.2 2) (okT.2.2.2.2.2 3), wC_wX hxk]
    rw [← hT]
    simp (disch := first | exact nl_int | exact nl_ref | exact nl_none | exact Nat.le_of_ble_eq_true rfl | assumption | exact cat_int | exact cat_ref | exact z2 | exact z4 | exact z3 | exact z5 | exact z6 | exact z8 | exact z64) only [e_41_0, e_41_1, e_41_4, e_41_5, e_41_6, e_41_7, e_41_10, e_41_11, e_41_12, e_41_15, e_41_16_104, e_41_16_112, e_41_16_115, e_41_16_119, e_41_60, e_41_61, e_41_62, e_41_65, e_41_68, e_41_69, e_41_70, e_41_73, e_41_76, e_41_79, e_41_80, e_41_83, e_41_84, e_41_84_1, e_41_85, e_41_86, e_41_87, e_41_90, e_41_93, e_41_94, e_41_95, e_41_98, e_41_99, e_41_100, e_41_103, e_41_106, e_41_107, e_41_110, e_41_111, e_41_111_1, e_41_112, e_41_113, e_41_114, e_41_117, e_41_120, e_41_121, e_41_122, e_41_125, e_41_126, e_41_127, e_41_128, e_41_131, e_41_132, e_41_133, e_41_136, e_41_139, e_41_140, e_41_143, e_41_144, e_41_144_1, e_41_145, e_41_146, e_41_147, e_41_150, e_41_153, e_41_154, e_41_155, e_41_158, e_41_159, e_41_160, e_41_163, e_41_166, e_41_167, e_41_170, e_41_171, e_41_171_1, e_41_172, e_41_173, e_41_173_1, nl_int, nl_ref, nl_none, cat_int, cat_ref, cat_0, cat_i, cat_r, cat_l, Option.elim_some, Option.elim_none, Option.bind_some, Option.bind_none, Option.toList_some, Option.toList_none, List.cons_append, List.nil_append, Nat.reduceAdd, Nat.reduceLeDiff, s_letterHere h, hhere, p1, show nI 112 = (112 : Int32) from rfl, h.f3, nI_1, wX_p3 hx2 ht, rd4, b2_0, hXT.f1, ap]
    cases hT1 : T.1 with
    | false => rfl
    | true =>
      simp only [if_true, if_false, Bool.true_eq_false]
      split
      · simp (disch := first | exact nl_int | exact nl_ref | exact nl_none | exact Nat.le_of_ble_eq_true rfl | assumption | exact cat_int | exact cat_ref | exact z2 | exact z4 | exact z3 | exact z5 | exact z6 | exact z8 | exact z64) only [e_41_0, e_41_1, e_41_4, e_41_5, e_41_6, e_41_7, e_41_10, e_41_11, e_41_12, e_41_15, e_41_16_104, e_41_16_112, e_41_16_115, e_41_16_119, e_41_60, e_41_61, e_41_62, e_41_65, e_41_68, e_41_69, e_41_70, e_41_73, e_41_76, e_41_79, e_41_80, e_41_83, e_41_84, e_41_84_1, e_41_85, e_41_86, e_41_87, e_41_90, e_41_93, e_41_94, e_41_95, e_41_98, e_41_99, e_41_100, e_41_103, e_41_106, e_41_107, e_41_110, e_41_111, e_41_111_1, e_41_112, e_41_113, e_41_114, e_41_117, e_41_120, e_41_121, e_41_122, e_41_125, e_41_126, e_41_127, e_41_128, e_41_131, e_41_132, e_41_133, e_41_136, e_41_139, e_41_140, e_41_143, e_41_144, e_41_144_1, e_41_145, e_41_146, e_41_147, e_41_150, e_41_153, e_41_154, e_41_155, e_41_158, e_41_159, e_41_160, e_41_163, e_41_166, e_41_167, e_41_170, e_41_171, e_41_171_1, e_41_172, e_41_173, e_41_173_1, nl_int, nl_ref, nl_none, cat_int, cat_ref, cat_0, cat_i, cat_r, cat_l, Option.elim_some, Option.elim_none, Option.bind_some, Option.bind_none, Option.toList_some, Option.toList_none, List.cons_append, List.nil_append, Nat.reduceAdd, Nat.reduceLeDiff, z1, if_false]
        rfl
      · simp (disch := first | exact nl_int | exact nl_ref | exact nl_none | exact Nat.le_of_ble_eq_true rfl | assumption | exact cat_int | exact cat_ref | exact z2 | exact z4 | exact z3 | exact z5 | exact z6 | exact z8 | exact z64) only [e_41_0, e_41_1, e_41_4, e_41_5, e_41_6, e_41_7, e_41_10, e_41_11, e_41_12, e_41_15, e_41_16_104, e_41_16_112, e_41_16_115, e_41_16_119, e_41_60, e_41_61, e_41_62, e_41_65, e_41_68, e_41_69, e_41_70, e_41_73, e_41_76, e_41_79, e_41_80, e_41_83, e_41_84, e_41_84_1, e_41_85, e_41_86, e_41_87, e_41_90, e_41_93, e_41_94, e_41_95, e_41_98, e_41_99, e_41_100, e_41_103, e_41_106, e_41_107, e_41_110, e_41_111, e_41_111_1, e_41_112, e_41_113, e_41_114, e_41_117, e_41_120, e_41_121, e_41_122, e_41_125, e_41_126, e_41_127, e_41_128, e_41_131, e_41_132, e_41_133, e_41_136, e_41_139, e_41_140, e_41_143, e_41_144, e_41_144_1, e_41_145, e_41_146, e_41_147, e_41_150, e_41_153, e_41_154, e_41_155, e_41_158, e_41_159, e_41_160, e_41_163, e_41_166, e_41_167, e_41_170, e_41_171, e_41_171_1, e_41_172, e_41_173, e_41_173_1, nl_int, nl_ref, nl_none, cat_int, cat_ref, cat_0, cat_i, cat_r, cat_l, Option.elim_some, Option.elim_none, Option.bind_some, Option.bind_none, Option.toList_some, Option.toList_none, List.cons_append, List.nil_append, Nat.reduceAdd, Nat.reduceLeDiff, z0, if_true]
        rfl
  · rw [if_neg p1]
    by_cases p2 : tC t (tAt t) = 104
    · rw [if_pos p2]
      obtain ⟨T, hT⟩ : ∃ T, T = tNums 1 0 1 (tSetAt t (tAt t + 1)) := ⟨_, rfl⟩
      have rd4 : am_E (d + 2) 42 0 [some (.ref x), some (.int 1), none, none, none] [] (wX (wC hp k c) x (tSetAt t (tAt t + 1))) = some (some (.int (b2 T.1)), wX (wC hp k c) x T.2) := by rw [hT]; exact rd 1 (by decide)
      have okT : tOK T.2 := by rw [hT]; exact ok 1
      have hXT := isX_wX hx2 okT
      have hclT := hcC T.2
      have ld0 : am_ld (wX (wC hp k c) x T.2) (x + 2) 0 = some (nI (tN T.2 0)) := hXT.ln (i := 0) (by decide)
      have ap : am_E (d + 2) 3 0 [some (.ref k), some (.int (nI (tN T.2 0)))] [] (wX (wC hp k c) x T.2) = if cPp c + cWk c + cTd c = 0 ∧ 1 ≤ tN T.2 0 ∧ tN T.2 0 ≤ 5 then some (some (.int 1), wX (wC hp k (cSetHs c (tN T.2 0))) x T.2) else some (some (.int 0), wX (wC hp k c) x T.2) := by
        rw [← wC_wX hxk, s_tellHouses (hk2 T.2) hc (okT.2.2.2.2.2 0), wC_wX hxk]
      rw [← hT]
      simp (disch := first | exact nl_int | exact nl_ref | exact nl_none | exact Nat.le_of_ble_eq_true rfl | assumption | exact cat_int | exact cat_ref | exact z2 | exact z4 | exact z3 | exact z5 | exact z6 | exact z8 | exact z64) only [e_41_0, e_41_1, e_41_4, e_41_5, e_41_6, e_41_7, e_41_10, e_41_11, e_41_12, e_41_15, e_41_16_104, e_41_16_112, e_41_16_115, e_41_16_119, e_41_60, e_41_61, e_41_62, e_41_65, e_41_68, e_41_69, e_41_70, e_41_73, e_41_76, e_41_79, e_41_80, e_41_83, e_41_84, e_41_84_1, e_41_85, e_41_86, e_41_87, e_41_90, e_41_93, e_41_94, e_41_95, e_41_98, e_41_99, e_41_100, e_41_103, e_41_106, e_41_107, e_41_110, e_41_111, e_41_111_1, e_41_112, e_41_113, e_41_114, e_41_117, e_41_120, e_41_121, e_41_122, e_41_125, e_41_126, e_41_127, e_41_128, e_41_131, e_41_132, e_41_133, e_41_136, e_41_139, e_41_140, e_41_143, e_41_144, e_41_144_1, e_41_145, e_41_146, e_41_147, e_41_150, e_41_153, e_41_154, e_41_155, e_41_158, e_41_159, e_41_160, e_41_163, e_41_166, e_41_167, e_41_170, e_41_171, e_41_171_1, e_41_172, e_41_173, e_41_173_1, nl_int, nl_ref, nl_none, cat_int, cat_ref, cat_0, cat_i, cat_r, cat_l, Option.elim_some, Option.elim_none, Option.bind_some, Option.bind_none, Option.toList_some, Option.toList_none, List.cons_append, List.nil_append, Nat.reduceAdd, Nat.reduceLeDiff, s_letterHere h, hhere, p2, show nI 104 = (104 : Int32) from rfl, h.f3, nI_1, wX_p3 hx2 ht, rd4, b2_0, hXT.f1, ld0, ap]
      cases hT1 : T.1 with
      | false => rfl
      | true =>
        simp only [if_true, if_false, Bool.true_eq_false]
        split
        · simp (disch := first | exact nl_int | exact nl_ref | exact nl_none | exact Nat.le_of_ble_eq_true rfl | assumption | exact cat_int | exact cat_ref | exact z2 | exact z4 | exact z3 | exact z5 | exact z6 | exact z8 | exact z64) only [e_41_0, e_41_1, e_41_4, e_41_5, e_41_6, e_41_7, e_41_10, e_41_11, e_41_12, e_41_15, e_41_16_104, e_41_16_112, e_41_16_115, e_41_16_119, e_41_60, e_41_61, e_41_62, e_41_65, e_41_68, e_41_69, e_41_70, e_41_73, e_41_76, e_41_79, e_41_80, e_41_83, e_41_84, e_41_84_1, e_41_85, e_41_86, e_41_87, e_41_90, e_41_93, e_41_94, e_41_95, e_41_98, e_41_99, e_41_100, e_41_103, e_41_106, e_41_107, e_41_110, e_41_111, e_41_111_1, e_41_112, e_41_113, e_41_114, e_41_117, e_41_120, e_41_121, e_41_122, e_41_125, e_41_126, e_41_127, e_41_128, e_41_131, e_41_132, e_41_133, e_41_136, e_41_139, e_41_140, e_41_143, e_41_144, e_41_144_1, e_41_145, e_41_146, e_41_147, e_41_150, e_41_153, e_41_154, e_41_155, e_41_158, e_41_159, e_41_160, e_41_163, e_41_166, e_41_167, e_41_170, e_41_171, e_41_171_1, e_41_172, e_41_173, e_41_173_1, nl_int, nl_ref, nl_none, cat_int, cat_ref, cat_0, cat_i, cat_r, cat_l, Option.elim_some, Option.elim_none, Option.bind_some, Option.bind_none, Option.toList_some, Option.toList_none, List.cons_append, List.nil_append, Nat.reduceAdd, Nat.reduceLeDiff, z1, if_false]
          rfl
        · simp (disch := first | exact nl_int | exact nl_ref | exact nl_none | exact Nat.le_of_ble_eq_true rfl | assumption | exact cat_int | exact cat_ref | exact z2 | exact z4 | exact z3 | exact z5 | exact z6 | exact z8 | exact z64) only [e_41_0, e_41_1, e_41_4, e_41_5, e_41_6, e_41_7, e_41_10, e_41_11, e_41_12, e_41_15, e_41_16_104, e_41_16_112, e_41_16_115, e_41_16_119, e_41_60, e_41_61, e_41_62, e_41_65, e_41_68, e_41_69, e_41_70, e_41_73, e_41_76, e_41_79, e_41_80, e_41_83, e_41_84, e_41_84_1, e_41_85, e_41_86, e_41_87, e_41_90, e_41_93, e_41_94, e_41_95, e_41_98, e_41_99, e_41_100, e_41_103, e_41_106, e_41_107, e_41_110, e_41_111, e_41_111_1, e_41_112, e_41_113, e_41_114, e_41_117, e_41_120, e_41_121, e_41_122, e_41_125, e_41_126, e_41_127, e_41_128, e_41_131, e_41_132, e_41_133, e_41_136, e_41_139, e_41_140, e_41_143, e_41_144, e_41_144_1, e_41_145, e_41_146, e_41_147, e_41_150, e_41_153, e_41_154, e_41_155, e_41_158, e_41_159, e_41_160, e_41_163, e_41_166, e_41_167, e_41_170, e_41_171, e_41_171_1, e_41_172, e_41_173, e_41_173_1, nl_int, nl_ref, nl_none, cat_int, cat_ref, cat_0, cat_i, cat_r, cat_l, Option.elim_some, Option.elim_none, Option.bind_some, Option.bind_none, Option.toList_some, Option.toList_none, List.cons_append, List.nil_append, Nat.reduceAdd, Nat.reduceLeDiff, z0, if_true]
          rfl
    · rw [if_neg p2]
      by_cases p3 : tC t (tAt t) = 119
      · rw [if_pos p3]
        obtain ⟨T, hT⟩ : ∃ T, T = tNums 2 0 2 (tSetAt t (tAt t + 1)) := ⟨_, rfl⟩
        have rd4 : am_E (d + 2) 42 0 [some (.ref x), some (.int 2), none, none, none] [] (wX (wC hp k c) x (tSetAt t (tAt t + 1))) = some (some (.int (b2 T.1)), wX (wC hp k c) x T.2) := by rw [hT]; exact rd 2 (by decide)
        have okT : tOK T.2 := by rw [hT]; exact ok 2
        have hXT := isX_wX hx2 okT
        have hclT := hcC T.2
        have ld0 : am_ld (wX (wC hp k c) x T.2) (x + 2) 0 = some (nI (tN T.2 0)) := hXT.ln (i := 0) (by decide)
        have ld1 : am_ld (wX (wC hp k c) x T.2) (x + 2) 1 = some (nI (tN T.2 1)) := hXT.ln (i := 1) (by decide)
        have ap : am_E (d + 2) 4 0 [some (.ref k), some (.int (nI (tN T.2 0))), some (.int (nI (tN T.2 1)))] [] (wX (wC hp k c) x T.2) = if cWk c < 5 ∧ tN T.2 0 < cHs c ∧ 1 ≤ tN T.2 1 ∧ tN T.2 1 ≤ 30 then some (some (.int 1), wX (wC hp k (cSetWk (cSetWN (cSetWH c (cWk c) (nI (tN T.2 0))) (cWk c) (nI (tN T.2 1))) (cWk c + 1))) x T.2) else some (some (.int 0), wX (wC hp k c) x T.2) := by
          rw [← wC_wX hxk, s_addWork (hk2 T.2) hc (okT.2.2.2.2.2 0) (okT.2.2.2.2.2 1), wC_wX hxk]
        rw [← hT]
        simp (disch := first | exact nl_int | exact nl_ref | exact nl_none | exact Nat.le_of_ble_eq_true rfl | assumption | exact cat_int | exact cat_ref | exact z2 | exact z4 | exact z3 | exact z5 | exact z6 | exact z8 | exact z64) only [e_41_0, e_41_1, e_41_4, e_41_5, e_41_6, e_41_7, e_41_10, e_41_11, e_41_12, e_41_15, e_41_16_104, e_41_16_112, e_41_16_115, e_41_16_119, e_41_60, e_41_61, e_41_62, e_41_65, e_41_68, e_41_69, e_41_70, e_41_73, e_41_76, e_41_79, e_41_80, e_41_83, e_41_84, e_41_84_1, e_41_85, e_41_86, e_41_87, e_41_90, e_41_93, e_41_94, e_41_95, e_41_98, e_41_99, e_41_100, e_41_103, e_41_106, e_41_107, e_41_110, e_41_111, e_41_111_1, e_41_112, e_41_113, e_41_114, e_41_117, e_41_120, e_41_121, e_41_122, e_41_125, e_41_126, e_41_127, e_41_128, e_41_131, e_41_132, e_41_133, e_41_136, e_41_139, e_41_140, e_41_143, e_41_144, e_41_144_1, e_41_145, e_41_146, e_41_147, e_41_150, e_41_153, e_41_154, e_41_155, e_41_158, e_41_159, e_41_160, e_41_163, e_41_166, e_41_167, e_41_170, e_41_171, e_41_171_1, e_41_172, e_41_173, e_41_173_1, nl_int, nl_ref, nl_none, cat_int, cat_ref, cat_0, cat_i, cat_r, cat_l, Option.elim_some, Option.elim_none, Option.bind_some, Option.bind_none, Option.toList_some, Option.toList_none, List.cons_append, List.nil_append, Nat.reduceAdd, Nat.reduceLeDiff, s_letterHere h, hhere, p3, show nI 119 = (119 : Int32) from rfl, h.f3, nI_1, wX_p3 hx2 ht, rd4, b2_0, hXT.f1, ld0, ld1, ap]
        cases hT1 : T.1 with
        | false => rfl
        | true =>
          simp only [if_true, if_false, Bool.true_eq_false]
          split
          · simp (disch := first | exact nl_int | exact nl_ref | exact nl_none | exact Nat.le_of_ble_eq_true rfl | assumption | exact cat_int | exact cat_ref | exact z2 | exact z4 | exact z3 | exact z5 | exact z6 | exact z8 | exact z64) only [e_41_0, e_41_1, e_41_4, e_41_5, e_41_6, e_41_7, e_41_10, e_41_11, e_41_12, e_41_15, e_41_16_104, e_41_16_112, e_41_16_115, e_41_16_119, e_41_60, e_41_61, e_41_62, e_41_65, e_41_68, e_41_69, e_41_70, e_41_73, e_41_76, e_41_79, e_41_80, e_41_83, e_41_84, e_41_84_1, e_41_85, e_41_86, e_41_87, e_41_90, e_41_93, e_41_94, e_41_95, e_41_98, e_41_99, e_41_100, e_41_103, e_41_106, e_41_107, e_41_110, e_41_111, e_41_111_1, e_41_112, e_41_113, e_41_114, e_41_117, e_41_120, e_41_121, e_41_122, e_41_125, e_41_126, e_41_127, e_41_128, e_41_131, e_41_132, e_41_133, e_41_136, e_41_139, e_41_140, e_41_143, e_41_144, e_41_144_1, e_41_145, e_41_146, e_41_147, e_41_150, e_41_153, e_41_154, e_41_155, e_41_158, e_41_159, e_41_160, e_41_163, e_41_166, e_41_167, e_41_170, e_41_171, e_41_171_1, e_41_172, e_41_173, e_41_173_1, nl_int, nl_ref, nl_none, cat_int, cat_ref, cat_0, cat_i, cat_r, cat_l, Option.elim_some, Option.elim_none, Option.bind_some, Option.bind_none, Option.toList_some, Option.toList_none, List.cons_append, List.nil_append, Nat.reduceAdd, Nat.reduceLeDiff, z1, if_false]
            rfl
          · simp (disch := first | exact nl_int | exact nl_ref | exact nl_none | exact Nat.le_of_ble_eq_true rfl | assumption | exact cat_int | exact cat_ref | exact z2 | exact z4 | exact z3 | exact z5 | exact z6 | exact z8 | exact z64) only [e_41_0, e_41_1, e_41_4, e_41_5, e_41_6, e_41_7, e_41_10, e_41_11, e_41_12, e_41_15, e_41_16_104, e_41_16_112, e_41_16_115, e_41_16_119, e_41_60, e_41_61, e_41_62, e_41_65, e_41_68, e_41_69, e_41_70, e_41_73, e_41_76, e_41_79, e_41_80, e_41_83, e_41_84, e_41_84_1, e_41_85, e_41_86, e_41_87, e_41_90, e_41_93, e_41_94, e_41_95, e_41_98, e_41_99, e_41_100, e_41_103, e_41_106, e_41_107, e_41_110, e_41_111, e_41_111_1, e_41_112, e_41_113, e_41_114, e_41_117, e_41_120, e_41_121, e_41_122, e_41_125, e_41_126, e_41_127, e_41_128, e_41_131, e_41_132, e_41_133, e_41_136, e_41_139, e_41_140, e_41_143, e_41_144, e_41_144_1, e_41_145, e_41_146, e_41_147, e_41_150, e_41_153, e_41_154, e_41_155, e_41_158, e_41_159, e_41_160, e_41_163, e_41_166, e_41_167, e_41_170, e_41_171, e_41_171_1, e_41_172, e_41_173, e_41_173_1, nl_int, nl_ref, nl_none, cat_int, cat_ref, cat_0, cat_i, cat_r, cat_l, Option.elim_some, Option.elim_none, Option.bind_some, Option.bind_none, Option.toList_some, Option.toList_none, List.cons_append, List.nil_append, Nat.reduceAdd, Nat.reduceLeDiff, z0, if_true]
            rfl
      · rw [if_neg p3]
        by_cases p4 : tC t (tAt t) = 115
        · rw [if_pos p4]
          obtain ⟨T, hT⟩ : ∃ T, T = tNums 1 0 1 (tSetAt t (tAt t + 1)) := ⟨_, rfl⟩
          have rd4 : am_E (d + 2) 42 0 [some (.ref x), some (.int 1), none, none, none] [] (wX (wC hp k c) x (tSetAt t (tAt t + 1))) = some (some (.int (b2 T.1)), wX (wC hp k c) x T.2) := by rw [hT]; exact rd 1 (by decide)
          have okT : tOK T.2 := by rw [hT]; exact ok 1
          have hXT := isX_wX hx2 okT
          have hclT := hcC T.2
          have ld0 : am_ld (wX (wC hp k c) x T.2) (x + 2) 0 = some (nI (tN T.2 0)) := hXT.ln (i := 0) (by decide)
          have ap : am_E (d + 2) 5 0 [some (.ref k), some (.int (nI (tN T.2 0)))] [] (wX (wC hp k c) x T.2) = if cTd c < 8 ∧ tN T.2 0 ≤ 31 then some (some (.int 1), wX (wC hp k (cSetTd (cSetSj c (cTd c) (nI (tN T.2 0))) (cTd c + 1))) x T.2) else some (some (.int 0), wX (wC hp k c) x T.2) := by
            rw [← wC_wX hxk, s_addSubjects (hk2 T.2) hc (okT.2.2.2.2.2 0), wC_wX hxk]
          rw [← hT]
          simp (disch := first | exact nl_int | exact nl_ref | exact nl_none | exact Nat.le_of_ble_eq_true rfl | assumption | exact cat_int | exact cat_ref | exact z2 | exact z4 | exact z3 | exact z5 | exact z6 | exact z8 | exact z64) only [e_41_0, e_41_1, e_41_4, e_41_5, e_41_6, e_41_7, e_41_10, e_41_11, e_41_12, e_41_15, e_41_16_104, e_41_16_112, e_41_16_115, e_41_16_119, e_41_60, e_41_61, e_41_62, e_41_65, e_41_68, e_41_69, e_41_70, e_41_73, e_41_76, e_41_79, e_41_80, e_41_83, e_41_84, e_41_84_1, e_41_85, e_41_86, e_41_87, e_41_90, e_41_93, e_41_94, e_41_95, e_41_98, e_41_99, e_41_100, e_41_103, e_41_106, e_41_107, e_41_110, e_41_111, e_41_111_1, e_41_112, e_41_113, e_41_114, e_41_117, e_41_120, e_41_121, e_41_122, e_41_125, e_41_126, e_41_127, e_41_128, e_41_131, e_41_132, e_41_133, e_41_136, e_41_139, e_41_140, e_41_143, e_41_144, e_41_144_1, e_41_145, e_41_146, e_41_147, e_41_150, e_41_153, e_41_154, e_41_155, e_41_158, e_41_159, e_41_160, e_41_163, e_41_166, e_41_167, e_41_170, e_41_171, e_41_171_1, e_41_172, e_41_173, e_41_173_1, nl_int, nl_ref, nl_none, cat_int, cat_ref, cat_0, cat_i, cat_r, cat_l, Option.elim_some, Option.elim_none, Option.bind_some, Option.bind_none, Option.toList_some, Option.toList_none, List.cons_append, List.nil_append, Nat.reduceAdd, Nat.reduceLeDiff, s_letterHere h, hhere, p4, show nI 115 = (115 : Int32) from rfl, h.f3, nI_1, wX_p3 hx2 ht, rd4, b2_0, hXT.f1, ld0, ap]
          cases hT1 : T.1 with
          | false => rfl
          | true =>
            simp only [if_true, if_false, Bool.true_eq_false]
            split
            · simp (disch := first | exact nl_int | exact nl_ref | exact nl_none | exact Nat.le_of_ble_eq_true rfl | assumption | exact cat_int | exact cat_ref | exact z2 | exact z4 | exact z3 | exact z5 | exact z6 | exact z8 | exact z64) only [e_41_0, e_41_1, e_41_4, e_41_5, e_41_6, e_41_7, e_41_10, e_41_11, e_41_12, e_41_15, e_41_16_104, e_41_16_112, e_41_16_115, e_41_16_119, e_41_60, e_41_61, e_41_62, e_41_65, e_41_68, e_41_69, e_41_70, e_41_73, e_41_76, e_41_79, e_41_80, e_41_83, e_41_84, e_41_84_1, e_41_85, e_41_86, e_41_87, e_41_90, e_41_93, e_41_94, e_41_95, e_41_98, e_41_99, e_41_100, e_41_103, e_41_106, e_41_107, e_41_110, e_41_111, e_41_111_1, e_41_112, e_41_113, e_41_114, e_41_117, e_41_120, e_41_121, e_41_122, e_41_125, e_41_126, e_41_127, e_41_128, e_41_131, e_41_132, e_41_133, e_41_136, e_41_139, e_41_140, e_41_143, e_41_144, e_41_144_1, e_41_145, e_41_146, e_41_147, e_41_150, e_41_153, e_41_154, e_41_155, e_41_158, e_41_159, e_41_160, e_41_163, e_41_166, e_41_167, e_41_170, e_41_171, e_41_171_1, e_41_172, e_41_173, e_41_173_1, nl_int, nl_ref, nl_none, cat_int, cat_ref, cat_0, cat_i, cat_r, cat_l, Option.elim_some, Option.elim_none, Option.bind_some, Option.bind_none, Option.toList_some, Option.toList_none, List.cons_append, List.nil_append, Nat.reduceAdd, Nat.reduceLeDiff, z1, if_false]
              rfl
            · simp (disch := first | exact nl_int | exact nl_ref | exact nl_none | exact Nat.le_of_ble_eq_true rfl | assumption | exact cat_int | exact cat_ref | exact z2 | exact z4 | exact z3 | exact z5 | exact z6 | exact z8 | exact z64) only [e_41_0, e_41_1, e_41_4, e_41_5, e_41_6, e_41_7, e_41_10, e_41_11, e_41_12, e_41_15, e_41_16_104, e_41_16_112, e_41_16_115, e_41_16_119, e_41_60, e_41_61, e_41_62, e_41_65, e_41_68, e_41_69, e_41_70, e_41_73, e_41_76, e_41_79, e_41_80, e_41_83, e_41_84, e_41_84_1, e_41_85, e_41_86, e_41_87, e_41_90, e_41_93, e_41_94, e_41_95, e_41_98, e_41_99, e_41_100, e_41_103, e_41_106, e_41_107, e_41_110, e_41_111, e_41_111_1, e_41_112, e_41_113, e_41_114, e_41_117, e_41_120, e_41_121, e_41_122, e_41_125, e_41_126, e_41_127, e_41_128, e_41_131, e_41_132, e_41_133, e_41_136, e_41_139, e_41_140, e_41_143, e_41_144, e_41_144_1, e_41_145, e_41_146, e_41_147, e_41_150, e_41_153, e_41_154, e_41_155, e_41_158, e_41_159, e_41_160, e_41_163, e_41_166, e_41_167, e_41_170, e_41_171, e_41_171_1, e_41_172, e_41_173, e_41_173_1, nl_int, nl_ref, nl_none, cat_int, cat_ref, cat_0, cat_i, cat_r, cat_l, Option.elim_some, Option.elim_none, Option.bind_some, Option.bind_none, Option.toList_some, Option.toList_none, List.cons_append, List.nil_append, Nat.reduceAdd, Nat.reduceLeDiff, z0, if_true]
              rfl
        · rw [if_neg p4]
          have hne : ∀ {n : Nat} {y : Int32}, y = nI n → n < 128 → ¬ tC t (tAt t) = n → nI (tC t (tAt t)) ≠ y := fun hy hn hne z => hne ((nI_eq (by omega) (by omega)).mp (by rw [z, hy]))
          have ho := lk_o (x := nI (tC t (tAt t))) (hne (n := 104) rfl (by decide) p2) (hne (n := 112) rfl (by decide) p1) (hne (n := 115) rfl (by decide) p4) (hne (n := 119) rfl (by decide) p3)
          simp (disch := first | exact nl_int | exact nl_ref | exact nl_none | exact Nat.le_of_ble_eq_true rfl | assumption | exact cat_int | exact cat_ref | exact z2 | exact z4 | exact z3 | exact z5 | exact z6 | exact z8 | exact z64) only [e_41_0, e_41_1, e_41_4, e_41_5, e_41_6, e_41_7, e_41_10, e_41_11, e_41_12, e_41_15, e_41_16_104, e_41_16_112, e_41_16_115, e_41_16_119, e_41_60, e_41_61, e_41_62, e_41_65, e_41_68, e_41_69, e_41_70, e_41_73, e_41_76, e_41_79, e_41_80, e_41_83, e_41_84, e_41_84_1, e_41_85, e_41_86, e_41_87, e_41_90, e_41_93, e_41_94, e_41_95, e_41_98, e_41_99, e_41_100, e_41_103, e_41_106, e_41_107, e_41_110, e_41_111, e_41_111_1, e_41_112, e_41_113, e_41_114, e_41_117, e_41_120, e_41_121, e_41_122, e_41_125, e_41_126, e_41_127, e_41_128, e_41_131, e_41_132, e_41_133, e_41_136, e_41_139, e_41_140, e_41_143, e_41_144, e_41_144_1, e_41_145, e_41_146, e_41_147, e_41_150, e_41_153, e_41_154, e_41_155, e_41_158, e_41_159, e_41_160, e_41_163, e_41_166, e_41_167, e_41_170, e_41_171, e_41_171_1, e_41_172, e_41_173, e_41_173_1, nl_int, nl_ref, nl_none, cat_int, cat_ref, cat_0, cat_i, cat_r, cat_l, Option.elim_some, Option.elim_none, Option.bind_some, Option.bind_none, Option.toList_some, Option.toList_none, List.cons_append, List.nil_append, Nat.reduceAdd, Nat.reduceLeDiff, s_letterHere h, hhere, h.f3, nI_1, wX_p3 hx2 ht]
          rw [e_41_16_o ho]
          simp (disch := first | exact nl_int | exact nl_ref | exact nl_none | exact Nat.le_of_ble_eq_true rfl | assumption | exact cat_int | exact cat_ref | exact z2 | exact z4 | exact z3 | exact z5 | exact z6 | exact z8 | exact z64) only [e_41_0, e_41_1, e_41_4, e_41_5, e_41_6, e_41_7, e_41_10, e_41_11, e_41_12, e_41_15, e_41_16_104, e_41_16_112, e_41_16_115, e_41_16_119, e_41_60, e_41_61, e_41_62, e_41_65, e_41_68, e_41_69, e_41_70, e_41_73, e_41_76, e_41_79, e_41_80, e_41_83, e_41_84, e_41_84_1, e_41_85, e_41_86, e_41_87, e_41_90, e_41_93, e_41_94, e_41_95, e_41_98, e_41_99, e_41_100, e_41_103, e_41_106, e_41_107, e_41_110, e_41_111, e_41_111_1, e_41_112, e_41_113, e_41_114, e_41_117, e_41_120, e_41_121, e_41_122, e_41_125, e_41_126, e_41_127, e_41_128, e_41_131, e_41_132, e_41_133, e_41_136, e_41_139, e_41_140, e_41_143, e_41_144, e_41_144_1, e_41_145, e_41_146, e_41_147, e_41_150, e_41_153, e_41_154, e_41_155, e_41_158, e_41_159, e_41_160, e_41_163, e_41_166, e_41_167, e_41_170, e_41_171, e_41_171_1, e_41_172, e_41_173, e_41_173_1, nl_int, nl_ref, nl_none, cat_int, cat_ref, cat_0, cat_i, cat_r, cat_l, Option.elim_some, Option.elim_none, Option.bind_some, Option.bind_none, Option.toList_some, Option.toList_none, List.cons_append, List.nil_append, Nat.reduceAdd, Nat.reduceLeDiff]
          rfl
theorem tItem_ok {t : am_Tx} {c : am_Ci} (ht : tOK t) (hc : cOK c) (ha : tAt t < tLn t) : tOK (tItem t c).2.1 ∧ cOK (tItem t c).2.2 ∧ tAt t < tAt (tItem t c).2.1 ∧ tAt (tItem t c).2.1 ≤ 210 ∧ tLn (tItem t c).2.1 = tLn t ∧ (tItem t c).2.1.1 = t.1 := by
  have hln := ht.2.2.1
  have t1 : tOK (tSetAt t (tAt t + 1)) := ht.At (by omega)
  have nk := fun many => tNums_ok (many := many) many 0 _ t1 (show tAt t + 1 ≤ 210 by omega)
  have fin : ∀ many, tOK (tNums many 0 many (tSetAt t (tAt t + 1))).2 ∧ tAt t < tAt (tNums many 0 many (tSetAt t (tAt t + 1))).2 ∧ tAt (tNums many 0 many (tSetAt t (tAt t + 1))).2 ≤ 210 ∧ tLn (tNums many 0 many (tSetAt t (tAt t + 1))).2 = tLn t ∧ (tNums many 0 many (tSetAt t (tAt t + 1))).2.1 = t.1 := fun many => by
    have h := nk many
    have h2 : tAt t + 1 ≤ tAt (tNums many 0 many (tSetAt t (tAt t + 1))).2 := h.2.1
    exact ⟨h.1, by omega, h.2.2.1, h.2.2.2.1, h.2.2.2.2⟩
  unfold tItem
  by_cases p1 : tC t (tAt t) = 112
  · rw [if_pos p1]
    by_cases q1 : (tNums 4 0 4 (tSetAt t (tAt t + 1))).1 = true
    · rw [if_pos q1]
      by_cases q2 : cPp c < 8 ∧ tN (tNums 4 0 4 (tSetAt t (tAt t + 1))).2 0 ≤ 3 ∧ tN (tNums 4 0 4 (tSetAt t (tAt t + 1))).2 1 ≤ 31 ∧ tN (tNums 4 0 4 (tSetAt t (tAt t + 1))).2 2 ≤ 9 ∧ tN (tNums 4 0 4 (tSetAt t (tAt t + 1))).2 3 < 5
      · rw [if_pos q2]
        exact ⟨(fin 4).1, ⟨hc.1.K.O.T.H, hc.2.1, hc.2.2.1, hc.2.2.2.1, hc.2.2.2.2.1, show cPp c + 1 ≤ 8 from q2.1, hc.2.2.2.2.2.2⟩, (fin 4).2⟩
      · rw [if_neg q2]
        exact ⟨(fin 4).1, hc, (fin 4).2⟩
    · rw [if_neg q1]
      exact ⟨(fin 4).1, hc, (fin 4).2⟩
  · rw [if_neg p1]
    by_cases p2 : tC t (tAt t) = 104
    · rw [if_pos p2]
      by_cases q1 : (tNums 1 0 1 (tSetAt t (tAt t + 1))).1 = true
      · rw [if_pos q1]
        by_cases q2 : cPp c + cWk c + cTd c = 0 ∧ 1 ≤ tN (tNums 1 0 1 (tSetAt t (tAt t + 1))).2 0 ∧ tN (tNums 1 0 1 (tSetAt t (tAt t + 1))).2 0 ≤ 5
        · rw [if_pos q2]
          exact ⟨(fin 1).1, ⟨hc.1, hc.2.1, hc.2.2.1, hc.2.2.2.1, q2.2.2, hc.2.2.2.2.2⟩, (fin 1).2⟩
        · rw [if_neg q2]
          exact ⟨(fin 1).1, hc, (fin 1).2⟩
      · rw [if_neg q1]
        exact ⟨(fin 1).1, hc, (fin 1).2⟩
    · rw [if_neg p2]
      by_cases p3 : tC t (tAt t) = 119
      · rw [if_pos p3]
        by_cases q1 : (tNums 2 0 2 (tSetAt t (tAt t + 1))).1 = true
        · rw [if_pos q1]
          by_cases q2 : cWk c < 5 ∧ tN (tNums 2 0 2 (tSetAt t (tAt t + 1))).2 0 < cHs c ∧ 1 ≤ tN (tNums 2 0 2 (tSetAt t (tAt t + 1))).2 1 ∧ tN (tNums 2 0 2 (tSetAt t (tAt t + 1))).2 1 ≤ 30
          · rw [if_pos q2]
            exact ⟨(fin 2).1, ⟨hc.1, (List.length_set).trans hc.2.1, (List.length_set).trans hc.2.2.1, hc.2.2.2.1, hc.2.2.2.2.1, hc.2.2.2.2.2.1, show cWk c + 1 ≤ 5 from q2.1, hc.2.2.2.2.2.2.2⟩, (fin 2).2⟩
          · rw [if_neg q2]
            exact ⟨(fin 2).1, hc, (fin 2).2⟩
        · rw [if_neg q1]
          exact ⟨(fin 2).1, hc, (fin 2).2⟩
      · rw [if_neg p3]
        by_cases p4 : tC t (tAt t) = 115
        · rw [if_pos p4]
          by_cases q1 : (tNums 1 0 1 (tSetAt t (tAt t + 1))).1 = true
          · rw [if_pos q1]
            by_cases q2 : cTd c < 8 ∧ tN (tNums 1 0 1 (tSetAt t (tAt t + 1))).2 0 ≤ 31
            · rw [if_pos q2]
              exact ⟨(fin 1).1, ⟨hc.1, hc.2.1, hc.2.2.1, (List.length_set).trans hc.2.2.2.1, hc.2.2.2.2.1, hc.2.2.2.2.2.1, hc.2.2.2.2.2.2.1, show cTd c + 1 ≤ 8 from q2.1⟩, (fin 1).2⟩
            · rw [if_neg q2]
              exact ⟨(fin 1).1, hc, (fin 1).2⟩
          · rw [if_neg q1]
            exact ⟨(fin 1).1, hc, (fin 1).2⟩
        · rw [if_neg p4]
          exact ⟨t1, hc, Nat.lt_succ_self _, show tAt t + 1 ≤ 210 by omega, rfl, rfl⟩
/-- the whole text is read: the place of the first fault, or none; the text and the city behind it -/
def tRead : Nat → am_Tx → am_Ci → Int32 × am_Tx × am_Ci
  | 0, t, c => (-4, t, c)
  | n + 1, t, c => if tAt t < tLn t then (if (tItem t c).1 = false then (nI (tAt t), (tItem t c).2.1, (tItem t c).2.2) else tRead n (tItem t c).2.1 (tItem t c).2.2) else (-4, t, c)
theorem tRead_ok : ∀ (n : Nat) (t : am_Tx) (c : am_Ci), tOK t → cOK c → tOK (tRead n t c).2.1 ∧ cOK (tRead n t c).2.2 ∧ tLn (tRead n t c).2.1 = tLn t ∧ (tRead n t c).2.1.1 = t.1 := by
  intro n
  induction n with
  | zero => intro t c ht hc; exact ⟨ht, hc, rfl, rfl⟩
  | succ n ih =>
    intro t c ht hc
    rw [tRead]
    by_cases ha : tAt t < tLn t
    · rw [if_pos ha]
      have h := tItem_ok ht hc ha
      by_cases hb : (tItem t c).1 = false
      · rw [if_pos hb]
        exact ⟨h.1, h.2.1, h.2.2.2.2.1, h.2.2.2.2.2⟩
      · rw [if_neg hb]
        have h2 := ih _ _ h.1 h.2.1
        exact ⟨h2.1, h2.2.1, h2.2.2.1.trans h.2.2.2.2.1, h2.2.2.2.trans h.2.2.2.2.2⟩
    · rw [if_neg ha]
      exact ⟨ht, hc, rfl, rfl⟩
theorem s_readInto {d x k : Nat} {hp : am_H} {t : am_Tx} {c : am_Ci} (hx : x + 2 < hp.length) (hk : k + 9 < hp.length) (hxk : x + 2 < k ∨ k + 9 < x) (ht : tOK t) (hc : cOK c) : am_E (d + 4) 40 0 [some (.ref x), some (.ref k), none, none] [] (wX (wC hp k c) x t) = some (some (.int (tRead 200 (tSetAt t 0) (cClear c)).1), wX (wC hp k (tRead 200 (tSetAt t 0) (cClear c)).2.2) x (tRead 200 (tSetAt t 0) (cClear c)).2.1) := by
  have hX2 : ∀ c2, x + 2 < (wC hp k c2).length := fun c2 => by rw [wC_len]; exact hx
  have hC2 : ∀ t2, k + 9 < (wX hp x t2).length := fun t2 => by rw [wX_len]; exact hk
  have key : ∀ n j t c y, j + n = 200 → tOK t → cOK c → am_E (d + 4) 40 11 [some (.ref x), some (.ref k), some (.int (nI j)), y] [] (wX (wC hp k c) x t) = some (some (.int (tRead n t c).1), wX (wC hp k (tRead n t c).2.2) x (tRead n t c).2.1) := by
    intro n
    induction n with
    | zero =>
      intro j t c y hj ht hc
      rw [e_40_11]
      simp (disch := first | exact nl_int | exact nl_ref | exact nl_none | exact Nat.le_of_ble_eq_true rfl | assumption | exact cat_int | exact cat_ref | exact z2 | exact z4 | exact z3 | exact z5 | exact z6 | exact z8 | exact z64) only [e_40_0, e_40_1, e_40_4, e_40_5, e_40_6, e_40_9, e_40_10, e_40_12, e_40_15, e_40_18, e_40_19, e_40_22, e_40_23, e_40_26, e_40_29, e_40_30, e_40_33, e_40_34, e_40_35, e_40_36, e_40_39, e_40_42, e_40_43, e_40_44, e_40_47, e_40_50, e_40_52, nl_int, nl_ref, nl_none, cat_int, cat_ref, cat_0, cat_i, cat_r, cat_l, Option.elim_some, Option.elim_none, Option.bind_some, Option.bind_none, Option.toList_some, Option.toList_none, List.cons_append, List.nil_append, Nat.reduceAdd, Nat.reduceLeDiff, ltF (x := 200) (c := 200) rfl (show 200 ≤ j by omega) (by omega), if_false]
      rfl
    | succ n ih =>
      intro j t c y hj ht hc
      have h := isX_wX (hX2 c) ht
      have hcl := h.cl
      have hln := ht.2.2.1
      have hat := ht.2.2.2.1
      rw [e_40_11, tRead]
      by_cases ha : tAt t < tLn t
      · have ok := tItem_ok ht hc ha
        simp (disch := first | exact nl_int | exact nl_ref | exact nl_none | exact Nat.le_of_ble_eq_true rfl | assumption | exact cat_int | exact cat_ref | exact z2 | exact z4 | exact z3 | exact z5 | exact z6 | exact z8 | exact z64) only [e_40_0, e_40_1, e_40_4, e_40_5, e_40_6, e_40_9, e_40_10, e_40_12, e_40_15, e_40_18, e_40_19, e_40_22, e_40_23, e_40_26, e_40_29, e_40_30, e_40_33, e_40_34, e_40_35, e_40_36, e_40_39, e_40_42, e_40_43, e_40_44, e_40_47, e_40_50, e_40_52, nl_int, nl_ref, nl_none, cat_int, cat_ref, cat_0, cat_i, cat_r, cat_l, Option.elim_some, Option.elim_none, Option.bind_some, Option.bind_none, Option.toList_some, Option.toList_none, List.cons_append, List.nil_append, Nat.reduceAdd, Nat.reduceLeDiff, ltT (x := 200) (c := 200) rfl (show j < 200 by omega) (by decide), ltT (x := nI (tLn t)) (c := tLn t) rfl ha (by omega), if_true, h.f2, h.f3, s_readItem hx hk hxk ht hc ha, b2_0, nI_1, ih (j + 1) _ _ _ (by omega) ok.1 ok.2.1]
        rw [if_pos ha]
        split <;> rfl
      · simp (disch := first | exact nl_int | exact nl_ref | exact nl_none | exact Nat.le_of_ble_eq_true rfl | assumption | exact cat_int | exact cat_ref | exact z2 | exact z4 | exact z3 | exact z5 | exact z6 | exact z8 | exact z64) only [e_40_0, e_40_1, e_40_4, e_40_5, e_40_6, e_40_9, e_40_10, e_40_12, e_40_15, e_40_18, e_40_19, e_40_22, e_40_23, e_40_26, e_40_29, e_40_30, e_40_33, e_40_34, e_40_35, e_40_36, e_40_39, e_40_42, e_40_43, e_40_44, e_40_47, e_40_50, e_40_52, nl_int, nl_ref, nl_none, cat_int, cat_ref, cat_0, cat_i, cat_r, cat_l, Option.elim_some, Option.elim_none, Option.bind_some, Option.bind_none, Option.toList_some, Option.toList_none, List.cons_append, List.nil_append, Nat.reduceAdd, Nat.reduceLeDiff, ltT (x := 200) (c := 200) rfl (show j < 200 by omega) (by decide), ltF (x := nI (tLn t)) (c := tLn t) rfl (show tLn t ≤ tAt t by omega) (by omega), if_true, if_false, h.f2, h.f3]
        rw [if_neg ha]
  have hcl0 : am_isC (wX (wC hp k c) x t) k 0 = true := by rw [← wC_wX hxk]; exact (isCt_wC (hC2 t) hc).cl
  have e0 : am_E (d + 3) 1 0 [some (.ref k)] [] (wX (wC hp k c) x t) = some (none, wX (wC hp k (cClear c)) x t) := by
    rw [← wC_wX hxk, s_cclear (hC2 t) hc, wC_wX hxk]
  have p3 := wX_p3 (n := 0) (hX2 (cClear c)) ht
  rw [← n0] at p3
  simp (disch := first | exact nl_int | exact nl_ref | exact nl_none | exact Nat.le_of_ble_eq_true rfl | assumption | exact cat_int | exact cat_ref | exact z2 | exact z4 | exact z3 | exact z5 | exact z6 | exact z8 | exact z64) only [e_40_0, e_40_1, e_40_4, e_40_5, e_40_6, e_40_9, e_40_10, e_40_12, e_40_15, e_40_18, e_40_19, e_40_22, e_40_23, e_40_26, e_40_29, e_40_30, e_40_33, e_40_34, e_40_35, e_40_36, e_40_39, e_40_42, e_40_43, e_40_44, e_40_47, e_40_50, e_40_52, nl_int, nl_ref, nl_none, cat_int, cat_ref, cat_0, cat_i, cat_r, cat_l, Option.elim_some, Option.elim_none, Option.bind_some, Option.bind_none, Option.toList_some, Option.toList_none, List.cons_append, List.nil_append, Nat.reduceAdd, Nat.reduceLeDiff, e0, p3]
  exact key 200 0 _ _ none rfl (ht.At (by decide)) (cClear_ok hc)
