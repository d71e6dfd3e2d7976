/-! THE CALLS: what is asked of one, and the acts -/
section CL3
variable {d : Nat} {hp hp2 : am_H} {cB : Nat} {dr : am_Ci} {lt : am_Mo} {hs : am_Hs} {tm : Nat → am_Mo} {tk : am_Tk} {sp : List Int32} {tx : am_Tx} {ct : am_Ci} {nw : am_Mo} {pm : Nat → am_Mo} {pn ph : Nat} {km : Nat → am_Mo} {kc : Nat} {sH sL : List Int32} {sc i n hr : Nat} {x y : Int32}
theorem sw_o {n : Nat} {y : Int32} {m : Int} (hm : m = n) (h : ∀ i, i ≤ n → y ≠ nI i) : (y.toInt < 0 ∨ m < y.toInt) = True := by
  refine eq_true ?_
  by_cases q : y < 0
  · exact Or.inl (Int32.lt_iff_toInt_lt.mp q)
  · obtain ⟨j, hj, ej⟩ := nI_of q
    right
    rw [ej, nI_toInt hj, hm]
    have : ¬ j ≤ n := fun z => h j z ej
    omega
def aPerson (ct : am_Ci) (nw : am_Mo) (hr : Nat) (x y : Int32) : Int32 := if inR x (cPp ct) = false then -1 else if y = 0 then mK nw x.toNatClampNeg else if y = 1 then mO nw x.toNatClampNeg else if y = 2 then mT nw x.toNatClampNeg else if y = 3 then mH nw x.toNatClampNeg else if y = 4 then mFoes nw x.toNatClampNeg (cTalk ct nw hr) else -1
theorem s_person (hS : St hp tx ct nw pm pn ph km kc sH sL sc) (hh : nw.2.2.2.2.2.1 = nI hr) (hl : hr < 2 ^ 31) : am_E (d + 12) 50 0 [some (.ref 0), some (.int x), some (.int y)] [] hp = some (some (.int (aPerson ct nw hr x y)), hp) := by
  obtain ⟨cB, dr, lt, hs, tm, tk, sp, h⟩ := hS
  have hcl := h.cl
  have hcl2 := h.qn.c
  have hcl3 := h.qc.cl
  have hp8 := h.qc.pp
  unfold aPerson
  by_cases q : inR x (cPp ct) = false
  · rw [if_pos q]
    simp (disch := first | exact nl_int | exact nl_ref | exact nl_none | exact Nat.le_of_ble_eq_true rfl | assumption | exact cat_int | exact cat_ref | exact z2 | exact z4 | exact z3 | exact z5 | exact z6 | exact z8 | exact z64) only [e_50_0, e_50_1, e_50_2, e_50_5, e_50_8, e_50_9, e_50_10, e_50_11_0, e_50_11_1, e_50_11_2, e_50_11_3, e_50_11_4, e_50_44, e_50_45, e_50_48, e_50_51, e_50_52, e_50_53, e_50_54, e_50_55, e_50_58, e_50_61, e_50_62, e_50_63, e_50_64, e_50_65, e_50_68, e_50_71, e_50_72, e_50_73, e_50_74, e_50_75, e_50_78, e_50_81, e_50_82, e_50_83, e_50_84, e_50_85, e_50_88, e_50_89, e_50_90, e_50_93, e_50_94, e_50_97, e_50_100, e_50_103, e_50_104, e_50_105, nl_int, nl_ref, nl_none, cat_int, cat_ref, cat_0, cat_i, cat_r, cat_l, Option.elim_some, Option.elim_none, Option.bind_some, Option.bind_none, Option.toList_some, Option.toList_none, List.cons_append, List.nil_append, Nat.reduceAdd, Nat.reduceLeDiff, s_isPerson h, q, b2_f, z0, if_true]
  · rw [if_neg q]
    have qt : inR x (cPp ct) = true := by simpa using q
    obtain ⟨i, hi, rfl⟩ := inR_t qt (by omega)
    rw [nI_clamp (by omega)]
    have i8 : i < 8 := by omega
    have ip := s_isPerson (d := d + 11) (x := nI i) h
    rw [qt, b2_t] at ip
    have f0 : am_fld hp 24 2 0 = some (.ref 25) := h.qn.f0
    have f1 : am_fld hp 24 2 1 = some (.ref 26) := h.qn.f1
    have f2 : am_fld hp 24 2 2 = some (.ref 27) := h.qn.f2
    have f3 : am_fld hp 24 2 3 = some (.ref 28) := h.qn.f3
    by_cases y0 : y = 0
    · subst y0
      simp (disch := first | exact nl_int | exact nl_ref | exact nl_none | exact Nat.le_of_ble_eq_true rfl | assumption | exact cat_int | exact cat_ref | exact z2 | exact z4 | exact z3 | exact z5 | exact z6 | exact z8 | exact z64) only [e_50_0, e_50_1, e_50_2, e_50_5, e_50_8, e_50_9, e_50_10, e_50_11_0, e_50_11_1, e_50_11_2, e_50_11_3, e_50_11_4, e_50_44, e_50_45, e_50_48, e_50_51, e_50_52, e_50_53, e_50_54, e_50_55, e_50_58, e_50_61, e_50_62, e_50_63, e_50_64, e_50_65, e_50_68, e_50_71, e_50_72, e_50_73, e_50_74, e_50_75, e_50_78, e_50_81, e_50_82, e_50_83, e_50_84, e_50_85, e_50_88, e_50_89, e_50_90, e_50_93, e_50_94, e_50_97, e_50_100, e_50_103, e_50_104, e_50_105, nl_int, nl_ref, nl_none, cat_int, cat_ref, cat_0, cat_i, cat_r, cat_l, Option.elim_some, Option.elim_none, Option.bind_some, Option.bind_none, Option.toList_some, Option.toList_none, List.cons_append, List.nil_append, Nat.reduceAdd, Nat.reduceLeDiff, ip, z1, if_false, if_true, h.f3, f0, h.nk i8]
    · rw [if_neg y0]
      by_cases y1 : y = 1
      · subst y1
        simp (disch := first | exact nl_int | exact nl_ref | exact nl_none | exact Nat.le_of_ble_eq_true rfl | assumption | exact cat_int | exact cat_ref | exact z2 | exact z4 | exact z3 | exact z5 | exact z6 | exact z8 | exact z64) only [e_50_0, e_50_1, e_50_2, e_50_5, e_50_8, e_50_9, e_50_10, e_50_11_0, e_50_11_1, e_50_11_2, e_50_11_3, e_50_11_4, e_50_44, e_50_45, e_50_48, e_50_51, e_50_52, e_50_53, e_50_54, e_50_55, e_50_58, e_50_61, e_50_62, e_50_63, e_50_64, e_50_65, e_50_68, e_50_71, e_50_72, e_50_73, e_50_74, e_50_75, e_50_78, e_50_81, e_50_82, e_50_83, e_50_84, e_50_85, e_50_88, e_50_89, e_50_90, e_50_93, e_50_94, e_50_97, e_50_100, e_50_103, e_50_104, e_50_105, nl_int, nl_ref, nl_none, cat_int, cat_ref, cat_0, cat_i, cat_r, cat_l, Option.elim_some, Option.elim_none, Option.bind_some, Option.bind_none, Option.toList_some, Option.toList_none, List.cons_append, List.nil_append, Nat.reduceAdd, Nat.reduceLeDiff, ip, z1, if_false, if_true, h.f3, f1, h.no i8]
      · rw [if_neg y1]
        by_cases y2 : y = 2
        · subst y2
          simp (disch := first | exact nl_int | exact nl_ref | exact nl_none | exact Nat.le_of_ble_eq_true rfl | assumption | exact cat_int | exact cat_ref | exact z2 | exact z4 | exact z3 | exact z5 | exact z6 | exact z8 | exact z64) only [e_50_0, e_50_1, e_50_2, e_50_5, e_50_8, e_50_9, e_50_10, e_50_11_0, e_50_11_1, e_50_11_2, e_50_11_3, e_50_11_4, e_50_44, e_50_45, e_50_48, e_50_51, e_50_52, e_50_53, e_50_54, e_50_55, e_50_58, e_50_61, e_50_62, e_50_63, e_50_64, e_50_65, e_50_68, e_50_71, e_50_72, e_50_73, e_50_74, e_50_75, e_50_78, e_50_81, e_50_82, e_50_83, e_50_84, e_50_85, e_50_88, e_50_89, e_50_90, e_50_93, e_50_94, e_50_97, e_50_100, e_50_103, e_50_104, e_50_105, nl_int, nl_ref, nl_none, cat_int, cat_ref, cat_0, cat_i, cat_r, cat_l, Option.elim_some, Option.elim_none, Option.bind_some, Option.bind_none, Option.toList_some, Option.toList_none, List.cons_append, List.nil_append, Nat.reduceAdd, Nat.reduceLeDiff, ip, z1, if_false, if_true, h.f3, f2, h.nt i8]
        · rw [if_neg y2]
          by_cases y3 : y = 3
          · subst y3
            simp (disch := first | exact nl_int | exact nl_ref | exact nl_none | exact Nat.le_of_ble_eq_true rfl | assumption | exact cat_int | exact cat_ref | exact z2 | exact z4 | exact z3 | exact z5 | exact z6 | exact z8 | exact z64) only [e_50_0, e_50_1, e_50_2, e_50_5, e_50_8, e_50_9, e_50_10, e_50_11_0, e_50_11_1, e_50_11_2, e_50_11_3, e_50_11_4, e_50_44, e_50_45, e_50_48, e_50_51, e_50_52, e_50_53, e_50_54, e_50_55, e_50_58, e_50_61, e_50_62, e_50_63, e_50_64, e_50_65, e_50_68, e_50_71, e_50_72, e_50_73, e_50_74, e_50_75, e_50_78, e_50_81, e_50_82, e_50_83, e_50_84, e_50_85, e_50_88, e_50_89, e_50_90, e_50_93, e_50_94, e_50_97, e_50_100, e_50_103, e_50_104, e_50_105, nl_int, nl_ref, nl_none, cat_int, cat_ref, cat_0, cat_i, cat_r, cat_l, Option.elim_some, Option.elim_none, Option.bind_some, Option.bind_none, Option.toList_some, Option.toList_none, List.cons_append, List.nil_append, Nat.reduceAdd, Nat.reduceLeDiff, ip, z1, if_false, if_true, h.f3, f3, h.nh i8]
          · rw [if_neg y3]
            by_cases y4 : y = 4
            · subst y4
              simp (disch := first | exact nl_int | exact nl_ref | exact nl_none | exact Nat.le_of_ble_eq_true rfl | assumption | exact cat_int | exact cat_ref | exact z2 | exact z4 | exact z3 | exact z5 | exact z6 | exact z8 | exact z64) only [e_50_0, e_50_1, e_50_2, e_50_5, e_50_8, e_50_9, e_50_10, e_50_11_0, e_50_11_1, e_50_11_2, e_50_11_3, e_50_11_4, e_50_44, e_50_45, e_50_48, e_50_51, e_50_52, e_50_53, e_50_54, e_50_55, e_50_58, e_50_61, e_50_62, e_50_63, e_50_64, e_50_65, e_50_68, e_50_71, e_50_72, e_50_73, e_50_74, e_50_75, e_50_78, e_50_81, e_50_82, e_50_83, e_50_84, e_50_85, e_50_88, e_50_89, e_50_90, e_50_93, e_50_94, e_50_97, e_50_100, e_50_103, e_50_104, e_50_105, nl_int, nl_ref, nl_none, cat_int, cat_ref, cat_0, cat_i, cat_r, cat_l, Option.elim_some, Option.elim_none, Option.bind_some, Option.bind_none, Option.toList_some, Option.toList_none, List.cons_append, List.nil_append, Nat.reduceAdd, Nat.reduceLeDiff, ip, z1, if_false, if_true, h.f3, h.f1, s_talkedOf h.qc h.qn hh hl, s_foesOf h.qn i8]
            · rw [if_neg y4]
              have so : (y.toInt < 0 ∨ 4 < y.toInt) = True := sw_o (n := 4) rfl (fun j hj => by
                match j, hj with
                | 0, _ => exact y0
                | 1, _ => exact y1
                | 2, _ => exact y2
                | 3, _ => exact y3
                | 4, _ => exact y4)
              simp (disch := first | exact nl_int | exact nl_ref | exact nl_none | exact Nat.le_of_ble_eq_true rfl | assumption | exact cat_int | exact cat_ref | exact z2 | exact z4 | exact z3 | exact z5 | exact z6 | exact z8 | exact z64) only [e_50_0, e_50_1, e_50_2, e_50_5, e_50_8, e_50_9, e_50_10, e_50_11_0, e_50_11_1, e_50_11_2, e_50_11_3, e_50_11_4, e_50_44, e_50_45, e_50_48, e_50_51, e_50_52, e_50_53, e_50_54, e_50_55, e_50_58, e_50_61, e_50_62, e_50_63, e_50_64, e_50_65, e_50_68, e_50_71, e_50_72, e_50_73, e_50_74, e_50_75, e_50_78, e_50_81, e_50_82, e_50_83, e_50_84, e_50_85, e_50_88, e_50_89, e_50_90, e_50_93, e_50_94, e_50_97, e_50_100, e_50_103, e_50_104, e_50_105, nl_int, nl_ref, nl_none, cat_int, cat_ref, cat_0, cat_i, cat_r, cat_l, Option.elim_some, Option.elim_none, Option.bind_some, Option.bind_none, Option.toList_some, Option.toList_none, List.cons_append, List.nil_append, Nat.reduceAdd, Nat.reduceLeDiff, ip, z1, if_false, e_50_11_o so]
def aWork (ct : am_Ci) (nw : am_Mo) (hr : Nat) (x y : Int32) : Int32 := if inR x (cWk ct) = false then -1 else if y = 0 then cWH ct x.toNatClampNeg else if y = 1 then cWN ct x.toNatClampNeg else if y = 2 then (cLit ct nw (cTalk ct nw hr) >>> (x &&& 31)) &&& 1 else -1
theorem s_work (hS : St hp tx ct nw pm pn ph km kc sH sL sc) (hh : nw.2.2.2.2.2.1 = nI hr) (hl : hr < 2 ^ 31) : am_E (d + 12) 51 0 [some (.ref 0), some (.int x), some (.int y)] [] hp = some (some (.int (aWork ct nw hr x y)), hp) := by
  obtain ⟨cB, dr, lt, hs, tm, tk, sp, h⟩ := hS
  have hcl := h.cl
  have hcl2 := h.qn.c
  have hcl3 := h.qc.cl
  have hw5 := h.qc.wk
  unfold aWork
  by_cases q : inR x (cWk ct) = false
  · rw [if_pos q]
    unfold inR at q
    by_cases q0 : x < 0
    · simp (disch := first | exact nl_int | exact nl_ref | exact nl_none | exact Nat.le_of_ble_eq_true rfl | assumption | exact cat_int | exact cat_ref | exact z2 | exact z4 | exact z3 | exact z5 | exact z6 | exact z8 | exact z64) only [e_51_0, e_51_1, e_51_4, e_51_5, e_51_6, e_51_9, e_51_12, e_51_15, e_51_16, e_51_17, e_51_20, e_51_21, e_51_22, e_51_23_0, e_51_23_1, e_51_23_2, e_51_48, e_51_49, e_51_52, e_51_55, e_51_56, e_51_57, e_51_58, e_51_59, e_51_62, e_51_65, e_51_66, e_51_67, e_51_68, e_51_69, e_51_72, e_51_73, e_51_76, e_51_77, e_51_80, e_51_81, e_51_84, e_51_87, e_51_90, e_51_91, e_51_92, e_51_93, e_51_94, e_51_95, e_51_96, nl_int, nl_ref, nl_none, cat_int, cat_ref, cat_0, cat_i, cat_r, cat_l, Option.elim_some, Option.elim_none, Option.bind_some, Option.bind_none, Option.toList_some, Option.toList_none, List.cons_append, List.nil_append, Nat.reduceAdd, Nat.reduceLeDiff, if_pos q0]
    · rw [if_neg q0] at q
      have q1 : ¬ x < nI (cWk ct) := of_decide_eq_false q
      simp (disch := first | exact nl_int | exact nl_ref | exact nl_none | exact Nat.le_of_ble_eq_true rfl | assumption | exact cat_int | exact cat_ref | exact z2 | exact z4 | exact z3 | exact z5 | exact z6 | exact z8 | exact z64) only [e_51_0, e_51_1, e_51_4, e_51_5, e_51_6, e_51_9, e_51_12, e_51_15, e_51_16, e_51_17, e_51_20, e_51_21, e_51_22, e_51_23_0, e_51_23_1, e_51_23_2, e_51_48, e_51_49, e_51_52, e_51_55, e_51_56, e_51_57, e_51_58, e_51_59, e_51_62, e_51_65, e_51_66, e_51_67, e_51_68, e_51_69, e_51_72, e_51_73, e_51_76, e_51_77, e_51_80, e_51_81, e_51_84, e_51_87, e_51_90, e_51_91, e_51_92, e_51_93, e_51_94, e_51_95, e_51_96, nl_int, nl_ref, nl_none, cat_int, cat_ref, cat_0, cat_i, cat_r, cat_l, Option.elim_some, Option.elim_none, Option.bind_some, Option.bind_none, Option.toList_some, Option.toList_none, List.cons_append, List.nil_append, Nat.reduceAdd, Nat.reduceLeDiff, if_neg q0, h.f1, h.qc.f6, if_neg q1]
  · rw [if_neg q]
    have qt : inR x (cWk ct) = true := by simpa using q
    obtain ⟨i, hi, rfl⟩ := inR_t qt (by omega)
    rw [nI_clamp (by omega)]
    have i5 : i < 5 := by omega
    have a0 := ngF (j := i) (by omega)
    have a1 := ltT (x := nI (cWk ct)) (c := cWk ct) rfl hi (by omega)
    have a2 := ltT (x := 5) (c := 5) rfl i5 (by decide)
    by_cases y0 : y = 0
    · subst y0
      simp (disch := first | exact nl_int | exact nl_ref | exact nl_none | exact Nat.le_of_ble_eq_true rfl | assumption | exact cat_int | exact cat_ref | exact z2 | exact z4 | exact z3 | exact z5 | exact z6 | exact z8 | exact z64) only [e_51_0, e_51_1, e_51_4, e_51_5, e_51_6, e_51_9, e_51_12, e_51_15, e_51_16, e_51_17, e_51_20, e_51_21, e_51_22, e_51_23_0, e_51_23_1, e_51_23_2, e_51_48, e_51_49, e_51_52, e_51_55, e_51_56, e_51_57, e_51_58, e_51_59, e_51_62, e_51_65, e_51_66, e_51_67, e_51_68, e_51_69, e_51_72, e_51_73, e_51_76, e_51_77, e_51_80, e_51_81, e_51_84, e_51_87, e_51_90, e_51_91, e_51_92, e_51_93, e_51_94, e_51_95, e_51_96, nl_int, nl_ref, nl_none, cat_int, cat_ref, cat_0, cat_i, cat_r, cat_l, Option.elim_some, Option.elim_none, Option.bind_some, Option.bind_none, Option.toList_some, Option.toList_none, List.cons_append, List.nil_append, Nat.reduceAdd, Nat.reduceLeDiff, a0, a1, a2, if_false, if_true, h.f1, h.qc.f6, h.qc.f1, h.qc.lwh i5]
    · rw [if_neg y0]
      by_cases y1 : y = 1
      · subst y1
        simp (disch := first | exact nl_int | exact nl_ref | exact nl_none | exact Nat.le_of_ble_eq_true rfl | assumption | exact cat_int | exact cat_ref | exact z2 | exact z4 | exact z3 | exact z5 | exact z6 | exact z8 | exact z64) only [e_51_0, e_51_1, e_51_4, e_51_5, e_51_6, e_51_9, e_51_12, e_51_15, e_51_16, e_51_17, e_51_20, e_51_21, e_51_22, e_51_23_0, e_51_23_1, e_51_23_2, e_51_48, e_51_49, e_51_52, e_51_55, e_51_56, e_51_57, e_51_58, e_51_59, e_51_62, e_51_65, e_51_66, e_51_67, e_51_68, e_51_69, e_51_72, e_51_73, e_51_76, e_51_77, e_51_80, e_51_81, e_51_84, e_51_87, e_51_90, e_51_91, e_51_92, e_51_93, e_51_94, e_51_95, e_51_96, nl_int, nl_ref, nl_none, cat_int, cat_ref, cat_0, cat_i, cat_r, cat_l, Option.elim_some, Option.elim_none, Option.bind_some, Option.bind_none, Option.toList_some, Option.toList_none, List.cons_append, List.nil_append, Nat.reduceAdd, Nat.reduceLeDiff, a0, a1, a2, if_false, if_true, h.f1, h.qc.f6, h.qc.f2, h.qc.lwn i5]
      · rw [if_neg y1]
        by_cases y2 : y = 2
        · subst y2
          simp (disch := first | exact nl_int | exact nl_ref | exact nl_none | exact Nat.le_of_ble_eq_true rfl | assumption | exact cat_int | exact cat_ref | exact z2 | exact z4 | exact z3 | exact z5 | exact z6 | exact z8 | exact z64) only [e_51_0, e_51_1, e_51_4, e_51_5, e_51_6, e_51_9, e_51_12, e_51_15, e_51_16, e_51_17, e_51_20, e_51_21, e_51_22, e_51_23_0, e_51_23_1, e_51_23_2, e_51_48, e_51_49, e_51_52, e_51_55, e_51_56, e_51_57, e_51_58, e_51_59, e_51_62, e_51_65, e_51_66, e_51_67, e_51_68, e_51_69, e_51_72, e_51_73, e_51_76, e_51_77, e_51_80, e_51_81, e_51_84, e_51_87, e_51_90, e_51_91, e_51_92, e_51_93, e_51_94, e_51_95, e_51_96, nl_int, nl_ref, nl_none, cat_int, cat_ref, cat_0, cat_i, cat_r, cat_l, Option.elim_some, Option.elim_none, Option.bind_some, Option.bind_none, Option.toList_some, Option.toList_none, List.cons_append, List.nil_append, Nat.reduceAdd, Nat.reduceLeDiff, a0, a1, a2, if_false, if_true, h.f1, h.f3, h.qc.f6, s_talkedOf h.qc h.qn hh hl, s_worksLit h.qc h.qn]
        · rw [if_neg y2]
          have so : (y.toInt < 0 ∨ 2 < y.toInt) = True := sw_o (n := 2) rfl (fun j hj => by
            match j, hj with
            | 0, _ => exact y0
            | 1, _ => exact y1
            | 2, _ => exact y2)
          simp (disch := first | exact nl_int | exact nl_ref | exact nl_none | exact Nat.le_of_ble_eq_true rfl | assumption | exact cat_int | exact cat_ref | exact z2 | exact z4 | exact z3 | exact z5 | exact z6 | exact z8 | exact z64) only [e_51_0, e_51_1, e_51_4, e_51_5, e_51_6, e_51_9, e_51_12, e_51_15, e_51_16, e_51_17, e_51_20, e_51_21, e_51_22, e_51_23_0, e_51_23_1, e_51_23_2, e_51_48, e_51_49, e_51_52, e_51_55, e_51_56, e_51_57, e_51_58, e_51_59, e_51_62, e_51_65, e_51_66, e_51_67, e_51_68, e_51_69, e_51_72, e_51_73, e_51_76, e_51_77, e_51_80, e_51_81, e_51_84, e_51_87, e_51_90, e_51_91, e_51_92, e_51_93, e_51_94, e_51_95, e_51_96, nl_int, nl_ref, nl_none, cat_int, cat_ref, cat_0, cat_i, cat_r, cat_l, Option.elim_some, Option.elim_none, Option.bind_some, Option.bind_none, Option.toList_some, Option.toList_none, List.cons_append, List.nil_append, Nat.reduceAdd, Nat.reduceLeDiff, a0, a1, a2, if_false, if_true, h.f1, h.qc.f6, e_51_23_o so]
def aCount (tx : am_Tx) (ct : am_Ci) (nw : am_Mo) (ph kc sc : Nat) (y : Int32) : Int32 := if y = 0 then nI (cPp ct) else if y = 1 then nI (cHs ct) else if y = 2 then nI (cWk ct) else if y = 3 then nw.2.2.2.2.2.1 else if y = 4 then bitc nw.2.2.2.2.2.2 else if y = 5 then nI sc else if y = 6 then nI ph else if y = 7 then nI kc else if y = 8 then nI (tLn tx) else -1
theorem s_count (hS : St hp tx ct nw pm pn ph km kc sH sL sc) : am_E (d + 12) 74 0 [some (.ref 0), some (.int y)] [] hp = some (some (.int (aCount tx ct nw ph kc sc y)), hp) := by
  obtain ⟨cB, dr, lt, hs, tm, tk, sp, h⟩ := hS
  unfold aCount
  by_cases y0 : y = 0
  · subst y0
    simp (disch := first | exact nl_int | exact nl_ref | exact nl_none | exact Nat.le_of_ble_eq_true rfl | assumption | exact cat_int | exact cat_ref | exact z2 | exact z4 | exact z3 | exact z5 | exact z6 | exact z8 | exact z64) only [e_74_0, e_74_1_0, e_74_1_1, e_74_1_2, e_74_1_3, e_74_1_4, e_74_1_5, e_74_1_6, e_74_1_7, e_74_1_8, e_74_52, e_74_53, e_74_56, e_74_59, e_74_60, e_74_61, e_74_64, e_74_67, e_74_68, e_74_69, e_74_72, e_74_75, e_74_76, e_74_77, e_74_80, e_74_83, e_74_84, e_74_85, e_74_88, e_74_91, e_74_94, e_74_95, e_74_96, e_74_99, e_74_100, e_74_101, e_74_104, e_74_107, e_74_108, e_74_109, e_74_112, e_74_113, e_74_114, e_74_117, e_74_120, e_74_121, e_74_122, nl_int, nl_ref, nl_none, cat_int, cat_ref, cat_0, cat_i, cat_r, cat_l, Option.elim_some, Option.elim_none, Option.bind_some, Option.bind_none, Option.toList_some, Option.toList_none, List.cons_append, List.nil_append, Nat.reduceAdd, Nat.reduceLeDiff, if_true, h.f1, h.qc.f5]
  · rw [if_neg y0]
    by_cases y1 : y = 1
    · subst y1
      simp (disch := first | exact nl_int | exact nl_ref | exact nl_none | exact Nat.le_of_ble_eq_true rfl | assumption | exact cat_int | exact cat_ref | exact z2 | exact z4 | exact z3 | exact z5 | exact z6 | exact z8 | exact z64) only [e_74_0, e_74_1_0, e_74_1_1, e_74_1_2, e_74_1_3, e_74_1_4, e_74_1_5, e_74_1_6, e_74_1_7, e_74_1_8, e_74_52, e_74_53, e_74_56, e_74_59, e_74_60, e_74_61, e_74_64, e_74_67, e_74_68, e_74_69, e_74_72, e_74_75, e_74_76, e_74_77, e_74_80, e_74_83, e_74_84, e_74_85, e_74_88, e_74_91, e_74_94, e_74_95, e_74_96, e_74_99, e_74_100, e_74_101, e_74_104, e_74_107, e_74_108, e_74_109, e_74_112, e_74_113, e_74_114, e_74_117, e_74_120, e_74_121, e_74_122, nl_int, nl_ref, nl_none, cat_int, cat_ref, cat_0, cat_i, cat_r, cat_l, Option.elim_some, Option.elim_none, Option.bind_some, Option.bind_none, Option.toList_some, Option.toList_none, List.cons_append, List.nil_append, Nat.reduceAdd, Nat.reduceLeDiff, if_true, h.f1, h.qc.f4]
    · rw [if_neg y1]
      by_cases y2 : y = 2
      · subst y2
        simp (disch := first | exact nl_int | exact nl_ref | exact nl_none | exact Nat.le_of_ble_eq_true rfl | assumption | exact cat_int | exact cat_ref | exact z2 | exact z4 | exact z3 | exact z5 | exact z6 | exact z8 | exact z64) only [e_74_0, e_74_1_0, e_74_1_1, e_74_1_2, e_74_1_3, e_74_1_4, e_74_1_5, e_74_1_6, e_74_1_7, e_74_1_8, e_74_52, e_74_53, e_74_56, e_74_59, e_74_60, e_74_61, e_74_64, e_74_67, e_74_68, e_74_69, e_74_72, e_74_75, e_74_76, e_74_77, e_74_80, e_74_83, e_74_84, e_74_85, e_74_88, e_74_91, e_74_94, e_74_95, e_74_96, e_74_99, e_74_100, e_74_101, e_74_104, e_74_107, e_74_108, e_74_109, e_74_112, e_74_113, e_74_114, e_74_117, e_74_120, e_74_121, e_74_122, nl_int, nl_ref, nl_none, cat_int, cat_ref, cat_0, cat_i, cat_r, cat_l, Option.elim_some, Option.elim_none, Option.bind_some, Option.bind_none, Option.toList_some, Option.toList_none, List.cons_append, List.nil_append, Nat.reduceAdd, Nat.reduceLeDiff, if_true, h.f1, h.qc.f6]
      · rw [if_neg y2]
        by_cases y3 : y = 3
        · subst y3
          simp (disch := first | exact nl_int | exact nl_ref | exact nl_none | exact Nat.le_of_ble_eq_true rfl | assumption | exact cat_int | exact cat_ref | exact z2 | exact z4 | exact z3 | exact z5 | exact z6 | exact z8 | exact z64) only [e_74_0, e_74_1_0, e_74_1_1, e_74_1_2, e_74_1_3, e_74_1_4, e_74_1_5, e_74_1_6, e_74_1_7, e_74_1_8, e_74_52, e_74_53, e_74_56, e_74_59, e_74_60, e_74_61, e_74_64, e_74_67, e_74_68, e_74_69, e_74_72, e_74_75, e_74_76, e_74_77, e_74_80, e_74_83, e_74_84, e_74_85, e_74_88, e_74_91, e_74_94, e_74_95, e_74_96, e_74_99, e_74_100, e_74_101, e_74_104, e_74_107, e_74_108, e_74_109, e_74_112, e_74_113, e_74_114, e_74_117, e_74_120, e_74_121, e_74_122, nl_int, nl_ref, nl_none, cat_int, cat_ref, cat_0, cat_i, cat_r, cat_l, Option.elim_some, Option.elim_none, Option.bind_some, Option.bind_none, Option.toList_some, Option.toList_none, List.cons_append, List.nil_append, Nat.reduceAdd, Nat.reduceLeDiff, if_true, h.f3, h.qn.f5]
        · rw [if_neg y3]
          by_cases y4 : y = 4
          · subst y4
            simp (disch := first | exact nl_int | exact nl_ref | exact nl_none | exact Nat.le_of_ble_eq_true rfl | assumption | exact cat_int | exact cat_ref | exact z2 | exact z4 | exact z3 | exact z5 | exact z6 | exact z8 | exact z64) only [e_74_0, e_74_1_0, e_74_1_1, e_74_1_2, e_74_1_3, e_74_1_4, e_74_1_5, e_74_1_6, e_74_1_7, e_74_1_8, e_74_52, e_74_53, e_74_56, e_74_59, e_74_60, e_74_61, e_74_64, e_74_67, e_74_68, e_74_69, e_74_72, e_74_75, e_74_76, e_74_77, e_74_80, e_74_83, e_74_84, e_74_85, e_74_88, e_74_91, e_74_94, e_74_95, e_74_96, e_74_99, e_74_100, e_74_101, e_74_104, e_74_107, e_74_108, e_74_109, e_74_112, e_74_113, e_74_114, e_74_117, e_74_120, e_74_121, e_74_122, nl_int, nl_ref, nl_none, cat_int, cat_ref, cat_0, cat_i, cat_r, cat_l, Option.elim_some, Option.elim_none, Option.bind_some, Option.bind_none, Option.toList_some, Option.toList_none, List.cons_append, List.nil_append, Nat.reduceAdd, Nat.reduceLeDiff, if_true, h.f3, h.qn.f6, s_bitCount]
          · rw [if_neg y4]
            by_cases y5 : y = 5
            · subst y5
              simp (disch := first | exact nl_int | exact nl_ref | exact nl_none | exact Nat.le_of_ble_eq_true rfl | assumption | exact cat_int | exact cat_ref | exact z2 | exact z4 | exact z3 | exact z5 | exact z6 | exact z8 | exact z64) only [e_74_0, e_74_1_0, e_74_1_1, e_74_1_2, e_74_1_3, e_74_1_4, e_74_1_5, e_74_1_6, e_74_1_7, e_74_1_8, e_74_52, e_74_53, e_74_56, e_74_59, e_74_60, e_74_61, e_74_64, e_74_67, e_74_68, e_74_69, e_74_72, e_74_75, e_74_76, e_74_77, e_74_80, e_74_83, e_74_84, e_74_85, e_74_88, e_74_91, e_74_94, e_74_95, e_74_96, e_74_99, e_74_100, e_74_101, e_74_104, e_74_107, e_74_108, e_74_109, e_74_112, e_74_113, e_74_114, e_74_117, e_74_120, e_74_121, e_74_122, nl_int, nl_ref, nl_none, cat_int, cat_ref, cat_0, cat_i, cat_r, cat_l, Option.elim_some, Option.elim_none, Option.bind_some, Option.bind_none, Option.toList_some, Option.toList_none, List.cons_append, List.nil_append, Nat.reduceAdd, Nat.reduceLeDiff, if_true, h.f10]
            · rw [if_neg y5]
              by_cases y6 : y = 6
              · subst y6
                simp (disch := first | exact nl_int | exact nl_ref | exact nl_none | exact Nat.le_of_ble_eq_true rfl | assumption | exact cat_int | exact cat_ref | exact z2 | exact z4 | exact z3 | exact z5 | exact z6 | exact z8 | exact z64) only [e_74_0, e_74_1_0, e_74_1_1, e_74_1_2, e_74_1_3, e_74_1_4, e_74_1_5, e_74_1_6, e_74_1_7, e_74_1_8, e_74_52, e_74_53, e_74_56, e_74_59, e_74_60, e_74_61, e_74_64, e_74_67, e_74_68, e_74_69, e_74_72, e_74_75, e_74_76, e_74_77, e_74_80, e_74_83, e_74_84, e_74_85, e_74_88, e_74_91, e_74_94, e_74_95, e_74_96, e_74_99, e_74_100, e_74_101, e_74_104, e_74_107, e_74_108, e_74_109, e_74_112, e_74_113, e_74_114, e_74_117, e_74_120, e_74_121, e_74_122, nl_int, nl_ref, nl_none, cat_int, cat_ref, cat_0, cat_i, cat_r, cat_l, Option.elim_some, Option.elim_none, Option.bind_some, Option.bind_none, Option.toList_some, Option.toList_none, List.cons_append, List.nil_append, Nat.reduceAdd, Nat.reduceLeDiff, if_true, h.f5, h.qp.f2]
              · rw [if_neg y6]
                by_cases y7 : y = 7
                · subst y7
                  simp (disch := first | exact nl_int | exact nl_ref | exact nl_none | exact Nat.le_of_ble_eq_true rfl | assumption | exact cat_int | exact cat_ref | exact z2 | exact z4 | exact z3 | exact z5 | exact z6 | exact z8 | exact z64) only [e_74_0, e_74_1_0, e_74_1_1, e_74_1_2, e_74_1_3, e_74_1_4, e_74_1_5, e_74_1_6, e_74_1_7, e_74_1_8, e_74_52, e_74_53, e_74_56, e_74_59, e_74_60, e_74_61, e_74_64, e_74_67, e_74_68, e_74_69, e_74_72, e_74_75, e_74_76, e_74_77, e_74_80, e_74_83, e_74_84, e_74_85, e_74_88, e_74_91, e_74_94, e_74_95, e_74_96, e_74_99, e_74_100, e_74_101, e_74_104, e_74_107, e_74_108, e_74_109, e_74_112, e_74_113, e_74_114, e_74_117, e_74_120, e_74_121, e_74_122, nl_int, nl_ref, nl_none, cat_int, cat_ref, cat_0, cat_i, cat_r, cat_l, Option.elim_some, Option.elim_none, Option.bind_some, Option.bind_none, Option.toList_some, Option.toList_none, List.cons_append, List.nil_append, Nat.reduceAdd, Nat.reduceLeDiff, if_true, h.f7]
                · rw [if_neg y7]
                  by_cases y8 : y = 8
                  · subst y8
                    simp (disch := first | exact nl_int | exact nl_ref | exact nl_none | exact Nat.le_of_ble_eq_true rfl | assumption | exact cat_int | exact cat_ref | exact z2 | exact z4 | exact z3 | exact z5 | exact z6 | exact z8 | exact z64) only [e_74_0, e_74_1_0, e_74_1_1, e_74_1_2, e_74_1_3, e_74_1_4, e_74_1_5, e_74_1_6, e_74_1_7, e_74_1_8, e_74_52, e_74_53, e_74_56, e_74_59, e_74_60, e_74_61, e_74_64, e_74_67, e_74_68, e_74_69, e_74_72, e_74_75, e_74_76, e_74_77, e_74_80, e_74_83, e_74_84, e_74_85, e_74_88, e_74_91, e_74_94, e_74_95, e_74_96, e_74_99, e_74_100, e_74_101, e_74_104, e_74_107, e_74_108, e_74_109, e_74_112, e_74_113, e_74_114, e_74_117, e_74_120, e_74_121, e_74_122, nl_int, nl_ref, nl_none, cat_int, cat_ref, cat_0, cat_i, cat_r, cat_l, Option.elim_some, Option.elim_none, Option.bind_some, Option.bind_none, Option.toList_some, Option.toList_none, List.cons_append, List.nil_append, Nat.reduceAdd, Nat.reduceLeDiff, if_true, h.f0, h.qx.f2]
                  · rw [if_neg y8]
                    have so : (y.toInt < 0 ∨ 8 < y.toInt) = True := sw_o (n := 8) rfl (fun j hj => by
                      match j, hj with
                      | 0, _ => exact y0
                      | 1, _ => exact y1
                      | 2, _ => exact y2
                      | 3, _ => exact y3
                      | 4, _ => exact y4
                      | 5, _ => exact y5
                      | 6, _ => exact y6
                      | 7, _ => exact y7
                      | 8, _ => exact y8)
                    simp (disch := first | exact nl_int | exact nl_ref | exact nl_none | exact Nat.le_of_ble_eq_true rfl | assumption | exact cat_int | exact cat_ref | exact z2 | exact z4 | exact z3 | exact z5 | exact z6 | exact z8 | exact z64) only [e_74_0, e_74_1_0, e_74_1_1, e_74_1_2, e_74_1_3, e_74_1_4, e_74_1_5, e_74_1_6, e_74_1_7, e_74_1_8, e_74_52, e_74_53, e_74_56, e_74_59, e_74_60, e_74_61, e_74_64, e_74_67, e_74_68, e_74_69, e_74_72, e_74_75, e_74_76, e_74_77, e_74_80, e_74_83, e_74_84, e_74_85, e_74_88, e_74_91, e_74_94, e_74_95, e_74_96, e_74_99, e_74_100, e_74_101, e_74_104, e_74_107, e_74_108, e_74_109, e_74_112, e_74_113, e_74_114, e_74_117, e_74_120, e_74_121, e_74_122, nl_int, nl_ref, nl_none, cat_int, cat_ref, cat_0, cat_i, cat_r, cat_l, Option.elim_some, Option.elim_none, Option.bind_some, Option.bind_none, Option.toList_some, Option.toList_none, List.cons_append, List.nil_append, Nat.reduceAdd, Nat.reduceLeDiff, e_74_1_o so]
theorem s_forget (hS : St hp tx ct nw pm pn ph km kc sH sL sc) : Run d 66 [some (.ref 0), none] hp (nI sc) (fun h => St h tx ct nw pm pn ph km kc sH sL 0) := by
  obtain ⟨cB, dr, lt, hs, tm, tk, sp, h⟩ := hS
  obtain ⟨p1, h1⟩ := St1_ps (n := 0) h (by omega)
  rw [← n0] at p1
  refine ⟨_, ?_, ⟨_, _, _, _, _, _, _, h1⟩, Fr_set (by omega)⟩
  simp (disch := first | exact nl_int | exact nl_ref | exact nl_none | exact Nat.le_of_ble_eq_true rfl | assumption | exact cat_int | exact cat_ref | exact z2 | exact z4 | exact z3 | exact z5 | exact z6 | exact z8 | exact z64) only [e_66_0, e_66_1, e_66_4, e_66_5, e_66_6, e_66_7, e_66_10, e_66_11, nl_int, nl_ref, nl_none, cat_int, cat_ref, cat_0, cat_i, cat_r, cat_l, Option.elim_some, Option.elim_none, Option.bind_some, Option.bind_none, Option.toList_some, Option.toList_none, List.cons_append, List.nil_append, Nat.reduceAdd, Nat.reduceLeDiff, h.f10, p1]
end CL3
