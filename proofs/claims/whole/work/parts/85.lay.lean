/-! READING: the text whole; PAIRS: fault, lay -/
def Nr (c : am_Ci) : Prop := (∀ i, i < cPp c → ∃ o t h, o < 32 ∧ t < 10 ∧ h < 5 ∧ mO c.1 i = nI o ∧ mT c.1 i = nI t ∧ mH c.1 i = nI h) ∧ (∀ i, cPp c ≤ i → i < 8 → mH c.1 i = -1) ∧ 1 ≤ cHs c ∧ (∀ k, k < cTd c → ∃ s, s < 32 ∧ cSj c k = nI s) ∧ (∀ k, k < cWk c → ∃ h n, h < cHs c ∧ cWH c k = nI h ∧ n ≤ 30 ∧ cWN c k = nI n) ∧ c.1.2.2.2.2.2 = (0, 0)
def moreI (c : am_Ci) : Int32 := if cPp c + cWk c + cTd c = 0 then 0 else 1
def Rd (t : am_Tx) (c : am_Ci) (I : Nat → Int32) (A : Nat → List Int32) : Prop := aOK A ∧ TxR t I A ∧ I 4 = nI (tAt t) ∧ tOK t ∧ cOK c ∧ Rl c c.1 0 (A 3) (A 4) ∧ Nr c ∧ I 7 = moreI c
section RDD
variable {d : Nat} {hp hp2 : am_H} {I I2 : Nat → Int32} {A A2 : Nat → List Int32} {i j k n b p a e lo hi v0 v1 v2 v3 : Nat} {x y z v w X Y Z : Int32} {B C : List Int32} {t : am_Tx} {c : am_Ci}
theorem getN_set {xs : List Int32} {i j : Nat} {x : Int32} (h : i < xs.length) (hne : i ≠ j) : (xs.set i x).getD j 0 = xs.getD j 0 := by rw [getD_set h, if_neg hne]
theorem getS_set {xs : List Int32} {i : Nat} {x : Int32} (h : i < xs.length) : (xs.set i x).getD i 0 = x := by rw [getD_set h, if_pos rfl]
theorem put_Rl (hB : B.length = 29) (hC : C.length = 27) (hc : cOK c) (h8 : cPp c < 8) (hR : Rl c c.1 0 B C) : Rl (cPut c v0 v1 v2 v3) (cPut c v0 v1 v2 v3).1 0 (B.set (3 + cPp c) (nI v0)) ((((C.set (3 + 3 * cPp c + 0) (nI v1)).set (3 + 3 * cPp c + 1) (nI v2)).set (3 + 3 * cPp c + 2) (nI v3)).set 0 (nI (cPp c + 1))) := by
  obtain ⟨h1, h2, h3, h4, h5, h6⟩ := hR
  have w5 : cWk c ≤ 5 := hc.2.2.2.2.2.2.1
  have t8 : cTd c ≤ 8 := hc.2.2.2.2.2.2.2
  have l1 : (C.set (3 + 3 * cPp c + 0) (nI v1)).length = 27 := (List.length_set).trans hC
  have l2 : ((C.set (3 + 3 * cPp c + 0) (nI v1)).set (3 + 3 * cPp c + 1) (nI v2)).length = 27 := (List.length_set).trans l1
  have l3 : (((C.set (3 + 3 * cPp c + 0) (nI v1)).set (3 + 3 * cPp c + 1) (nI v2)).set (3 + 3 * cPp c + 2) (nI v3)).length = 27 := (List.length_set).trans l2
  obtain ⟨k8, o8, t8', g8, f8⟩ := hc.1
  have gk : ∀ j, mK (cPut c v0 v1 v2 v3).1 j = if cPp c = j then nI v0 else mK c.1 j := fun j => getD_set (by rw [k8]; exact h8)
  have go : ∀ j, mO (cPut c v0 v1 v2 v3).1 j = if cPp c = j then nI v1 else mO c.1 j := fun j => getD_set (show cPp c < c.1.2.1.length by rw [o8]; exact h8)
  have gt : ∀ j, mT (cPut c v0 v1 v2 v3).1 j = if cPp c = j then nI v2 else mT c.1 j := fun j => getD_set (show cPp c < c.1.2.2.1.length by rw [t8']; exact h8)
  have gh : ∀ j, mH (cPut c v0 v1 v2 v3).1 j = if cPp c = j then nI v3 else mH c.1 j := fun j => getD_set (show cPp c < c.1.2.2.2.1.length by rw [g8]; exact h8)
  refine ⟨⟨?_, ?_, ?_⟩, fun j hj => ?_, fun k hk => ⟨?_, ?_⟩, fun k hk => ?_, ⟨?_, ?_, ?_⟩, fun j hj => ?_⟩
  · rw [getN_set (by omega) (by omega)]; exact h1.1
  · rw [getN_set (by omega) (by omega)]; exact h1.2.1
  · rw [getN_set (by omega) (by omega)]; exact h1.2.2
  · have hj2 : j < cPp c + 1 := hj
    rw [gk, getD_set (by omega)]
    by_cases q : cPp c = j
    · rw [if_pos q, if_pos (by omega)]
    · rw [if_neg q, if_neg (by omega)]; exact h2 j (by omega)
  · have hk2 : k < cWk c := hk
    rw [getN_set (by omega) (by omega)]; exact (h3 k hk).1
  · have hk2 : k < cWk c := hk
    rw [getN_set (by omega) (by omega)]; exact (h3 k hk).2
  · have hk2 : k < cTd c := hk
    rw [getN_set (by omega) (by omega)]; exact h4 k hk
  · rw [getS_set (by omega)]; rfl
  · rw [getN_set (by omega) (by omega), getN_set (by omega) (by omega), getN_set (by omega) (by omega), getN_set (by omega) (by omega)]; exact h5.2.1
  · rw [getN_set (by omega) (by omega), getN_set (by omega) (by omega), getN_set (by omega) (by omega), getN_set (by omega) (by omega)]; exact h5.2.2
  · have hj2 : j < cPp c + 1 := hj
    rw [go, gt, gh]
    by_cases q : cPp c = j
    · subst q
      rw [if_pos rfl, if_pos rfl, if_pos rfl]
      refine ⟨?_, ?_, ?_⟩
      · rw [getN_set (by omega) (by omega), getN_set (by omega) (by omega), getN_set (by omega) (by omega), show 3 + 3 * cPp c = 3 + 3 * cPp c + 0 from rfl, getS_set (by omega)]
      · rw [getN_set (by omega) (by omega), getN_set (by omega) (by omega), show 4 + 3 * cPp c = 3 + 3 * cPp c + 1 from by omega, getS_set (by omega)]
      · rw [getN_set (by omega) (by omega), show 5 + 3 * cPp c = 3 + 3 * cPp c + 2 from by omega, getS_set (by omega)]
    · rw [if_neg q, if_neg q, if_neg q]
      obtain ⟨a1, a2, a3⟩ := h6 j (by omega)
      refine ⟨?_, ?_, ?_⟩
      · rw [getN_set (by omega) (by omega), getN_set (by omega) (by omega), getN_set (by omega) (by omega), getN_set (by omega) (by omega)]; exact a1
      · rw [getN_set (by omega) (by omega), getN_set (by omega) (by omega), getN_set (by omega) (by omega), getN_set (by omega) (by omega)]; exact a2
      · rw [getN_set (by omega) (by omega), getN_set (by omega) (by omega), getN_set (by omega) (by omega), getN_set (by omega) (by omega)]; exact a3
theorem put_Nr (hc : cOK c) (h8 : cPp c < 8) (hN : Nr c) (b1 : v1 ≤ 31) (b2 : v2 ≤ 9) (b3 : v3 ≤ 4) : Nr (cPut c v0 v1 v2 v3) := by
  obtain ⟨n1, n2, n3, n4, n5, n6⟩ := hN
  obtain ⟨k8, o8, t8', g8, f8⟩ := hc.1
  have go : ∀ j, mO (cPut c v0 v1 v2 v3).1 j = if cPp c = j then nI v1 else mO c.1 j := fun j => getD_set (show cPp c < c.1.2.1.length by rw [o8]; exact h8)
  have gt : ∀ j, mT (cPut c v0 v1 v2 v3).1 j = if cPp c = j then nI v2 else mT c.1 j := fun j => getD_set (show cPp c < c.1.2.2.1.length by rw [t8']; exact h8)
  have gh : ∀ j, mH (cPut c v0 v1 v2 v3).1 j = if cPp c = j then nI v3 else mH c.1 j := fun j => getD_set (show cPp c < c.1.2.2.2.1.length by rw [g8]; exact h8)
  refine ⟨fun j hj => ?_, fun j h1 h2 => ?_, n3, n4, n5, n6⟩
  · have hj2 : j < cPp c + 1 := hj
    rw [go, gt, gh]
    by_cases q : cPp c = j
    · rw [if_pos q, if_pos q, if_pos q]
      exact ⟨v1, v2, v3, by omega, by omega, by omega, rfl, rfl, rfl⟩
    · rw [if_neg q, if_neg q, if_neg q]
      exact n1 j (by omega)
  · have h1' : cPp c + 1 ≤ j := h1
    rw [gh, if_neg (by omega)]
    exact n2 j (by omega) h2
theorem wk_Rl (hB : B.length = 29) (hc : cOK c) (h5 : cWk c < 5) (hR : Rl c c.1 0 B C) : Rl (cSetWk (cSetWN (cSetWH c (cWk c) (nI v0)) (cWk c) (nI v1)) (cWk c + 1)) c.1 0 (((B.set (11 + 2 * cWk c) (nI v0)).set (12 + 2 * cWk c) (nI v1)).set 1 (nI (cWk c + 1))) C := by
  obtain ⟨h1, h2, h3, h4, h5', h6⟩ := hR
  have p8 : cPp c ≤ 8 := hc.2.2.2.2.2.1
  have t8 : cTd c ≤ 8 := hc.2.2.2.2.2.2.2
  have l1 : (B.set (11 + 2 * cWk c) (nI v0)).length = 29 := (List.length_set).trans hB
  have l2 : ((B.set (11 + 2 * cWk c) (nI v0)).set (12 + 2 * cWk c) (nI v1)).length = 29 := (List.length_set).trans l1
  have gw : ∀ j, cWH (cSetWk (cSetWN (cSetWH c (cWk c) (nI v0)) (cWk c) (nI v1)) (cWk c + 1)) j = if cWk c = j then nI v0 else cWH c j := fun j => getD_set (by rw [hc.2.1]; exact h5)
  have gn : ∀ j, cWN (cSetWk (cSetWN (cSetWH c (cWk c) (nI v0)) (cWk c) (nI v1)) (cWk c + 1)) j = if cWk c = j then nI v1 else cWN c j := fun j => getD_set (show cWk c < c.2.2.1.length by rw [hc.2.2.1]; exact h5)
  refine ⟨⟨?_, ?_, ?_⟩, fun j hj => ?_, fun k hk => ?_, fun k hk => ?_, h5', h6⟩
  · rw [getN_set (by omega) (by omega), getN_set (by omega) (by omega), getN_set (by omega) (by omega)]; exact h1.1
  · rw [getS_set (by omega)]; rfl
  · rw [getN_set (by omega) (by omega), getN_set (by omega) (by omega), getN_set (by omega) (by omega)]; exact h1.2.2
  · have hj2 : j < cPp c := hj
    rw [getN_set (by omega) (by omega), getN_set (by omega) (by omega), getN_set (by omega) (by omega)]; exact h2 j hj
  · have hk2 : k < cWk c + 1 := hk
    rw [gw, gn]
    by_cases q : cWk c = k
    · subst q
      rw [if_pos rfl, if_pos rfl]
      refine ⟨?_, ?_⟩
      · rw [getN_set (by omega) (by omega), getN_set (by omega) (by omega), getS_set (by omega)]
      · rw [getN_set (by omega) (by omega), getS_set (by omega)]
    · rw [if_neg q, if_neg q]
      obtain ⟨a1, a2⟩ := h3 k (by omega)
      refine ⟨?_, ?_⟩
      · rw [getN_set (by omega) (by omega), getN_set (by omega) (by omega), getN_set (by omega) (by omega)]; exact a1
      · rw [getN_set (by omega) (by omega), getN_set (by omega) (by omega), getN_set (by omega) (by omega)]; exact a2
  · have hk2 : k < cTd c := hk
    rw [getN_set (by omega) (by omega), getN_set (by omega) (by omega), getN_set (by omega) (by omega)]; exact h4 k hk
theorem wk_Nr (hc : cOK c) (h5 : cWk c < 5) (hN : Nr c) (b0 : v0 < cHs c) (b1 : v1 ≤ 30) : Nr (cSetWk (cSetWN (cSetWH c (cWk c) (nI v0)) (cWk c) (nI v1)) (cWk c + 1)) := by
  obtain ⟨n1, n2, n3, n4, n5, n6⟩ := hN
  have gw : ∀ j, cWH (cSetWk (cSetWN (cSetWH c (cWk c) (nI v0)) (cWk c) (nI v1)) (cWk c + 1)) j = if cWk c = j then nI v0 else cWH c j := fun j => getD_set (by rw [hc.2.1]; exact h5)
  have gn : ∀ j, cWN (cSetWk (cSetWN (cSetWH c (cWk c) (nI v0)) (cWk c) (nI v1)) (cWk c + 1)) j = if cWk c = j then nI v1 else cWN c j := fun j => getD_set (show cWk c < c.2.2.1.length by rw [hc.2.2.1]; exact h5)
  refine ⟨n1, n2, n3, n4, fun k hk => ?_, n6⟩
  have hk2 : k < cWk c + 1 := hk
  rw [gw, gn]
  by_cases q : cWk c = k
  · rw [if_pos q, if_pos q]
    exact ⟨v0, v1, b0, rfl, b1, rfl⟩
  · rw [if_neg q, if_neg q]
    exact n5 k (by omega)
theorem td_Rl (hB : B.length = 29) (hc : cOK c) (h8 : cTd c < 8) (hR : Rl c c.1 0 B C) : Rl (cSetTd (cSetSj c (cTd c) (nI v0)) (cTd c + 1)) c.1 0 ((B.set (21 + cTd c) (nI v0)).set 2 (nI (cTd c + 1))) C := by
  obtain ⟨h1, h2, h3, h4, h5', h6⟩ := hR
  have p8 : cPp c ≤ 8 := hc.2.2.2.2.2.1
  have w5 : cWk c ≤ 5 := hc.2.2.2.2.2.2.1
  have l1 : (B.set (21 + cTd c) (nI v0)).length = 29 := (List.length_set).trans hB
  have gs : ∀ j, cSj (cSetTd (cSetSj c (cTd c) (nI v0)) (cTd c + 1)) j = if cTd c = j then nI v0 else cSj c j := fun j => getD_set (by rw [hc.2.2.2.1]; exact h8)
  refine ⟨⟨?_, ?_, ?_⟩, fun j hj => ?_, fun k hk => ⟨?_, ?_⟩, fun k hk => ?_, h5', h6⟩
  · rw [getN_set (by omega) (by omega), getN_set (by omega) (by omega)]; exact h1.1
  · rw [getN_set (by omega) (by omega), getN_set (by omega) (by omega)]; exact h1.2.1
  · rw [getS_set (by omega)]; rfl
  · have hj2 : j < cPp c := hj
    rw [getN_set (by omega) (by omega), getN_set (by omega) (by omega)]; exact h2 j hj
  · have hk2 : k < cWk c := hk
    rw [getN_set (by omega) (by omega), getN_set (by omega) (by omega)]; exact (h3 k hk).1
  · have hk2 : k < cWk c := hk
    rw [getN_set (by omega) (by omega), getN_set (by omega) (by omega)]; exact (h3 k hk).2
  · have hk2 : k < cTd c + 1 := hk
    rw [gs]
    by_cases q : cTd c = k
    · subst q
      rw [if_pos rfl, getN_set (by omega) (by omega), getS_set (by omega)]
    · rw [if_neg q, getN_set (by omega) (by omega), getN_set (by omega) (by omega)]; exact h4 k (by omega)
theorem td_Nr (hc : cOK c) (h8 : cTd c < 8) (hN : Nr c) (b0 : v0 ≤ 31) : Nr (cSetTd (cSetSj c (cTd c) (nI v0)) (cTd c + 1)) := by
  obtain ⟨n1, n2, n3, n4, n5, n6⟩ := hN
  have gs : ∀ j, cSj (cSetTd (cSetSj c (cTd c) (nI v0)) (cTd c + 1)) j = if cTd c = j then nI v0 else cSj c j := fun j => getD_set (by rw [hc.2.2.2.1]; exact h8)
  refine ⟨n1, n2, n3, fun k hk => ?_, n5, n6⟩
  have hk2 : k < cTd c + 1 := hk
  rw [gs]
  by_cases q : cTd c = k
  · rw [if_pos q]; exact ⟨v0, by omega, rfl⟩
  · rw [if_neg q]; exact n4 k (by omega)
theorem hs_Rl (hB : B.length = 29) (hc : cOK c) (hR : Rl c c.1 0 B C) : Rl (cSetHs c v0) c.1 0 (B.set 0 (nI v0)) C := by
  obtain ⟨h1, h2, h3, h4, h5', h6⟩ := hR
  have p8 : cPp c ≤ 8 := hc.2.2.2.2.2.1
  have w5 : cWk c ≤ 5 := hc.2.2.2.2.2.2.1
  have t8 : cTd c ≤ 8 := hc.2.2.2.2.2.2.2
  refine ⟨⟨?_, ?_, ?_⟩, fun j hj => ?_, fun k hk => ⟨?_, ?_⟩, fun k hk => ?_, h5', h6⟩
  · rw [getS_set (by omega)]; rfl
  · rw [getN_set (by omega) (by omega)]; exact h1.2.1
  · rw [getN_set (by omega) (by omega)]; exact h1.2.2
  · have hj2 : j < cPp c := hj
    rw [getN_set (by omega) (by omega)]; exact h2 j hj
  · have hk2 : k < cWk c := hk
    rw [getN_set (by omega) (by omega)]; exact (h3 k hk).1
  · have hk2 : k < cWk c := hk
    rw [getN_set (by omega) (by omega)]; exact (h3 k hk).2
  · have hk2 : k < cTd c := hk
    rw [getN_set (by omega) (by omega)]; exact h4 k hk
theorem TxR.tx {T : am_Tx} (h : TxR t I A) (e1 : T.1 = t.1) (e2 : tLn T = tLn t) : TxR T I A := by
  have ec : ∀ k, tC T k = tC t k := fun k => by unfold tC; rw [e1]
  obtain ⟨a1, a2, a3, a4⟩ := h
  exact ⟨by rw [e2]; exact a1, by rw [e2]; exact a2, fun k hk => by rw [ec]; exact a3 k (by rw [← e2]; exact hk), fun k => by rw [ec]; exact a4 k⟩
/-- what an item leaves -/
theorem s7_item (hl : 154 < hp.length) (hR : Rd t c I A) (ha : tAt t < tLn t) : ((tItem t c).1 = true ∧ ∃ I2 A2, am_E (d + 4) 106 0 [some (.ref 141), none, none] [] (wD hp I A) = some (some (.int 1), wD hp I2 A2) ∧ S34 A A2 ∧ Rj I I2 ∧ Rd (tItem t c).2.1 (tItem t c).2.2 I2 A2) ∨ ((tItem t c).1 = false ∧ Fl (am_E (d + 4) 106 0 [some (.ref 141), none, none] [] (wD hp I A)) hp I A) := by
  obtain ⟨hA, hT, h4, ht, hc, hRl, hN, h7⟩ := hR
  have tok := tItem_ok (c := c) ht hc ha
  have t2 := hT.2.1
  have lB : (A 3).length = 29 := hA 3 (by decide)
  have lC : (A 4).length = 27 := hA 4 (by decide)
  have p8 : cPp c ≤ 8 := hc.2.2.2.2.2.1
  have w5 : cWk c ≤ 5 := hc.2.2.2.2.2.2.1
  have d8 : cTd c ≤ 8 := hc.2.2.2.2.2.2.2
  have h5 : cHs c ≤ 5 := hc.2.2.2.2.1
  have c128 := hT.2.2.2 (tAt t)
  have lx : am_ld (wD hp I A) 144 (nI (tAt t)) = some (nI (tC t (tAt t))) := by rw [wD_l2 (k := tAt t) rfl hl hA (by omega), hT.2.2.1 _ ha]
  have eqc : ∀ v : Nat, v < 2 ^ 31 → (nI (tC t (tAt t)) = nI v) = (tC t (tAt t) = v) := fun v hv => propext (nI_eq (by omega) hv)
  have q104 := eqc 104 (by decide)
  have q112 := eqc 112 (by decide)
  have q119 := eqc 119 (by decide)
  have q115 := eqc 115 (by decide)
  rw [show nI 104 = 104 from rfl] at q104
  rw [show nI 112 = 112 from rfl] at q112
  rw [show nI 119 = 119 from rfl] at q119
  rw [show nI 115 = 115 from rfl] at q115
  obtain ⟨J, eJ⟩ : ∃ J, J = updI I 4 (nI (tAt t + 1)) := ⟨_, rfl⟩
  have rJ : Ri I J := fun k k4 k8 => by rw [eJ]; exact if_neg k4
  have J4 : J 4 = nI (tAt t + 1) := by rw [eJ]; rfl
  have J7 : J 7 = moreI c := by rw [eJ]; exact h7
  have pJ : am_pf (wD hp I A) 141 7 4 (.int (nI (tAt t + 1))) = some (wD hp J A) := by rw [eJ]; exact wD_p4 hl
  obtain ⟨K, eK⟩ : ∃ K, K = updI J 7 1 := ⟨_, rfl⟩
  have rK : Rj I K := fun k k4 k7 k8 => by rw [eK, show updI J 7 1 k = J k from if_neg k7]; exact rJ k k4 k8
  have K4 : K 4 = nI (tAt t + 1) := by rw [eK]; exact J4
  have K7 : K 7 = 1 := by rw [eK]; rfl
  have pK : am_pf (wD hp J A) 141 7 7 (.int 1) = some (wD hp K A) := by rw [eK]; exact wD_p7 hl
  have o1 : (1 : Int32) = 0 ∨ (1 : Int32) = 1 := Or.inr rfl
  have hTK : TxR t K A := hT.rj rK rfl
  by_cases c104 : tC t (tAt t) = 104
  · obtain ⟨i1, i0⟩ := tItem_h (c := c) c104 ht.2.1
    have hTJ : TxR t J A := hT.ri rJ rfl
    obtain ⟨f0, f1⟩ := s7_numX (d := d + 1) (X := 1) (Y := 5) (Z := 59) (lo := 1) (hi := 5) (e := 59) hl hA hTJ J4 (by omega) rfl rfl rfl (by decide) (by decide) (by decide)
    have l0 : ∀ I, am_ld (wD hp I A) 145 0 = some ((A 3).getD 0 0) := fun I => wD_l3 (x := 0) (k := 0) rfl hl hA (by decide)
    have s0 : ∀ I z, am_sx (wD hp I A) 145 0 z = some (wD hp I (updA A 3 ((A 3).set 0 z))) := fun I z => wD_s3 (x := 0) (k := 0) rfl hl hA (by decide)
    by_cases qm : cPp c + cWk c + cTd c = 0
    · have em : J 7 = 0 := by rw [J7]; unfold moreI; rw [if_pos qm]
      cases g : pnr t (tAt t + 1) 59 1 5 with
      | none =>
        right
        refine ⟨i0 (Or.inr g), ?_⟩
        obtain ⟨I2, r, e⟩ := f0 g
        refine ⟨I2, updA A 3 ((A 3).set 0 ((A 3).getD 0 0)), updA_ok hA ((List.length_set).trans lB), S34.rfl'.upd (by omega), (rJ.trans r).jj, ?_⟩
        simp (maxSteps := 1000000) (disch := first | exact nl_int | exact nl_ref | exact nl_none | exact Nat.le_of_ble_eq_true rfl | assumption | exact wD_cl (by assumption) | exact cat_int | exact cat_ref | exact z2 | exact z4 | exact z3 | exact z5 | exact z6 | exact z8 | exact z64) only [e_106_0, e_106_1, e_106_4, e_106_5, e_106_8, e_106_9, e_106_10, e_106_11, e_106_12, e_106_15, e_106_16, e_106_17, e_106_20, e_106_21, e_106_23, e_106_26, e_106_27, e_106_30, e_106_33, e_106_34, e_106_35, e_106_36, e_106_38, e_106_41, e_106_44, e_106_45, e_106_48, e_106_49, e_106_50, e_106_51, e_106_54, e_106_55, e_106_56, e_106_59, e_106_60, e_106_63, e_106_66, e_106_67, e_106_70, e_106_71, e_106_72, e_106_73, e_106_74, e_106_74_1, e_106_75, e_106_76, e_106_77, e_106_80, e_106_81, e_106_83, e_106_86, e_106_87, e_106_90, e_106_93, e_106_94, e_106_96, e_106_99, e_106_100, e_106_103, e_106_106, e_106_107, e_106_109, e_106_112, e_106_113, e_106_116, e_106_119, e_106_120, e_106_123, e_106_124, e_106_124_1, nl_int, nl_ref, nl_none, cat_int, cat_ref, cat_0, cat_i, cat_r, cat_l, Option.elim_some, Option.elim_none, Option.bind_some, Option.bind_none, Option.toList_some, Option.toList_none, List.cons_append, List.nil_append, Nat.reduceAdd, Nat.reduceLeDiff, wD_f2 hl, wD_f4 hl, wD_f5 hl, wD_f7 hl, h4, lx, nI_1, pJ, q104, if_pos c104, if_pos em, e, z0, if_true, l0, s0]
      | some q =>
        left
        obtain ⟨T, eT, aT, t1, tl⟩ := i1 q qm g
        obtain ⟨I2, r8, r4, r, e⟩ := f1 q g
        rw [eT] at tok ⊢
        dsimp only at tok ⊢
        have bq := pnr_at g t2
        refine ⟨rfl, I2, updA A 3 ((A 3).set 0 (nI q.1)), ?_, S34.rfl'.upd (by omega), (rJ.trans r).jj, updA_ok hA ((List.length_set).trans lB), (hT.ri (rJ.trans r) rfl).tx t1 tl, by rw [r4, aT], tok.1, tok.2.1, hs_Rl lB hc hRl, ?_, ?_⟩
        · simp (maxSteps := 1000000) (disch := first | exact nl_int | exact nl_ref | exact nl_none | exact Nat.le_of_ble_eq_true rfl | assumption | exact wD_cl (by assumption) | exact cat_int | exact cat_ref | exact z2 | exact z4 | exact z3 | exact z5 | exact z6 | exact z8 | exact z64) only [e_106_0, e_106_1, e_106_4, e_106_5, e_106_8, e_106_9, e_106_10, e_106_11, e_106_12, e_106_15, e_106_16, e_106_17, e_106_20, e_106_21, e_106_23, e_106_26, e_106_27, e_106_30, e_106_33, e_106_34, e_106_35, e_106_36, e_106_38, e_106_41, e_106_44, e_106_45, e_106_48, e_106_49, e_106_50, e_106_51, e_106_54, e_106_55, e_106_56, e_106_59, e_106_60, e_106_63, e_106_66, e_106_67, e_106_70, e_106_71, e_106_72, e_106_73, e_106_74, e_106_74_1, e_106_75, e_106_76, e_106_77, e_106_80, e_106_81, e_106_83, e_106_86, e_106_87, e_106_90, e_106_93, e_106_94, e_106_96, e_106_99, e_106_100, e_106_103, e_106_106, e_106_107, e_106_109, e_106_112, e_106_113, e_106_116, e_106_119, e_106_120, e_106_123, e_106_124, e_106_124_1, nl_int, nl_ref, nl_none, cat_int, cat_ref, cat_0, cat_i, cat_r, cat_l, Option.elim_some, Option.elim_none, Option.bind_some, Option.bind_none, Option.toList_some, Option.toList_none, List.cons_append, List.nil_append, Nat.reduceAdd, Nat.reduceLeDiff, wD_f2 hl, wD_f4 hl, wD_f5 hl, wD_f7 hl, h4, lx, nI_1, pJ, q104, if_pos c104, if_pos em, e, z1, if_false, wD_f8 hl, r8, s0]
        · obtain ⟨n1, n2, n3, n4, n5, n6⟩ := hN
          exact ⟨n1, n2, bq.2.2.2, n4, fun k hk => absurd (show k < cWk c from hk) (by omega), n6⟩
        · rw [(rJ.trans r) 7 (by decide) (by decide), h7]; rfl
    · have em : ¬ J 7 = 0 := by rw [J7]; unfold moreI; rw [if_neg qm]; decide
      right
      refine ⟨i0 (Or.inl qm), J, updA A 3 ((A 3).set 0 ((A 3).getD 0 0)), updA_ok hA ((List.length_set).trans lB), S34.rfl'.upd (by omega), rJ.jj, ?_⟩
      simp (maxSteps := 1000000) (disch := first | exact nl_int | exact nl_ref | exact nl_none | exact Nat.le_of_ble_eq_true rfl | assumption | exact wD_cl (by assumption) | exact cat_int | exact cat_ref | exact z2 | exact z4 | exact z3 | exact z5 | exact z6 | exact z8 | exact z64) only [e_106_0, e_106_1, e_106_4, e_106_5, e_106_8, e_106_9, e_106_10, e_106_11, e_106_12, e_106_15, e_106_16, e_106_17, e_106_20, e_106_21, e_106_23, e_106_26, e_106_27, e_106_30, e_106_33, e_106_34, e_106_35, e_106_36, e_106_38, e_106_41, e_106_44, e_106_45, e_106_48, e_106_49, e_106_50, e_106_51, e_106_54, e_106_55, e_106_56, e_106_59, e_106_60, e_106_63, e_106_66, e_106_67, e_106_70, e_106_71, e_106_72, e_106_73, e_106_74, e_106_74_1, e_106_75, e_106_76, e_106_77, e_106_80, e_106_81, e_106_83, e_106_86, e_106_87, e_106_90, e_106_93, e_106_94, e_106_96, e_106_99, e_106_100, e_106_103, e_106_106, e_106_107, e_106_109, e_106_112, e_106_113, e_106_116, e_106_119, e_106_120, e_106_123, e_106_124, e_106_124_1, nl_int, nl_ref, nl_none, cat_int, cat_ref, cat_0, cat_i, cat_r, cat_l, Option.elim_some, Option.elim_none, Option.bind_some, Option.bind_none, Option.toList_some, Option.toList_none, List.cons_append, List.nil_append, Nat.reduceAdd, Nat.reduceLeDiff, wD_f2 hl, wD_f4 hl, wD_f5 hl, wD_f7 hl, h4, lx, nI_1, pJ, q104, if_pos c104, if_neg em, z0, if_true, l0, s0]
  · by_cases c112 : tC t (tAt t) = 112
    · obtain ⟨i1, i0⟩ := tItem_p (c := c) c112 ht.2.1
      obtain ⟨f1, f0⟩ := s7_rp (d := d) (n := cPp c) hl hA hTK K4 (by omega) hRl.2.2.2.2.1.1 p8
      have go : ∀ v hp2, am_E (d + 3) 103 0 [some (.ref 141), none, none, none] [] (wD hp K A) = some (some (.int v), hp2) → (v = 0 ∨ v = 1) → am_E (d + 4) 106 0 [some (.ref 141), none, none] [] (wD hp I A) = some (some (.int v), hp2) := fun v hp2 e ov => by
        rcases ov with rfl | rfl
        · simp (maxSteps := 1000000) (disch := first | exact nl_int | exact nl_ref | exact nl_none | exact Nat.le_of_ble_eq_true rfl | assumption | exact wD_cl (by assumption) | exact cat_int | exact cat_ref | exact z2 | exact z4 | exact z3 | exact z5 | exact z6 | exact z8 | exact z64) only [e_106_0, e_106_1, e_106_4, e_106_5, e_106_8, e_106_9, e_106_10, e_106_11, e_106_12, e_106_15, e_106_16, e_106_17, e_106_20, e_106_21, e_106_23, e_106_26, e_106_27, e_106_30, e_106_33, e_106_34, e_106_35, e_106_36, e_106_38, e_106_41, e_106_44, e_106_45, e_106_48, e_106_49, e_106_50, e_106_51, e_106_54, e_106_55, e_106_56, e_106_59, e_106_60, e_106_63, e_106_66, e_106_67, e_106_70, e_106_71, e_106_72, e_106_73, e_106_74, e_106_74_1, e_106_75, e_106_76, e_106_77, e_106_80, e_106_81, e_106_83, e_106_86, e_106_87, e_106_90, e_106_93, e_106_94, e_106_96, e_106_99, e_106_100, e_106_103, e_106_106, e_106_107, e_106_109, e_106_112, e_106_113, e_106_116, e_106_119, e_106_120, e_106_123, e_106_124, e_106_124_1, nl_int, nl_ref, nl_none, cat_int, cat_ref, cat_0, cat_i, cat_r, cat_l, Option.elim_some, Option.elim_none, Option.bind_some, Option.bind_none, Option.toList_some, Option.toList_none, List.cons_append, List.nil_append, Nat.reduceAdd, Nat.reduceLeDiff, wD_f2 hl, wD_f4 hl, h4, lx, nI_1, pJ, q104, if_neg c104, pK, q112, if_pos c112, e]
        · simp (maxSteps := 1000000) (disch := first | exact nl_int | exact nl_ref | exact nl_none | exact Nat.le_of_ble_eq_true rfl | assumption | exact wD_cl (by assumption) | exact cat_int | exact cat_ref | exact z2 | exact z4 | exact z3 | exact z5 | exact z6 | exact z8 | exact z64) only [e_106_0, e_106_1, e_106_4, e_106_5, e_106_8, e_106_9, e_106_10, e_106_11, e_106_12, e_106_15, e_106_16, e_106_17, e_106_20, e_106_21, e_106_23, e_106_26, e_106_27, e_106_30, e_106_33, e_106_34, e_106_35, e_106_36, e_106_38, e_106_41, e_106_44, e_106_45, e_106_48, e_106_49, e_106_50, e_106_51, e_106_54, e_106_55, e_106_56, e_106_59, e_106_60, e_106_63, e_106_66, e_106_67, e_106_70, e_106_71, e_106_72, e_106_73, e_106_74, e_106_74_1, e_106_75, e_106_76, e_106_77, e_106_80, e_106_81, e_106_83, e_106_86, e_106_87, e_106_90, e_106_93, e_106_94, e_106_96, e_106_99, e_106_100, e_106_103, e_106_106, e_106_107, e_106_109, e_106_112, e_106_113, e_106_116, e_106_119, e_106_120, e_106_123, e_106_124, e_106_124_1, nl_int, nl_ref, nl_none, cat_int, cat_ref, cat_0, cat_i, cat_r, cat_l, Option.elim_some, Option.elim_none, Option.bind_some, Option.bind_none, Option.toList_some, Option.toList_none, List.cons_append, List.nil_append, Nat.reduceAdd, Nat.reduceLeDiff, wD_f2 hl, wD_f4 hl, h4, lx, nI_1, pJ, q104, if_neg c104, pK, q112, if_pos c112, e]
      by_cases q8 : cPp c < 8
      · cases g : itP t (tAt t + 1) with
        | none =>
          right
          obtain ⟨I2, A2, a1, a2, a3, a4⟩ := f0 (Or.inr g)
          exact ⟨i0 (Or.inr g), I2, A2, a1, a2, rK.trans a3, go _ _ a4 (Or.inl rfl)⟩
        | some q =>
          obtain ⟨v0, v1, v2, v3, b⟩ := q
          left
          obtain ⟨T, eT, aT, t1, tl⟩ := i1 v0 v1 v2 v3 b q8 g
          obtain ⟨I2, r4, r, e⟩ := f1 q8 v0 v1 v2 v3 b g
          rw [eT] at tok ⊢
          dsimp only at tok ⊢
          have bnd : v1 ≤ 31 ∧ v2 ≤ 9 ∧ v3 ≤ 4 := by
            unfold itP at g
            obtain ⟨q0, g0, g⟩ := Option.bind_eq_some_iff.mp g
            obtain ⟨q1, g1, g⟩ := Option.bind_eq_some_iff.mp g
            obtain ⟨q2, g2, g⟩ := Option.bind_eq_some_iff.mp g
            obtain ⟨q3, g3, g⟩ := Option.bind_eq_some_iff.mp g
            cases g
            exact ⟨(pnr_at g1 t2).2.2.1, (pnr_at g2 t2).2.2.1, (pnr_at g3 t2).2.2.1⟩
          have hA2 : aOK (updA (updA A 3 ((A 3).set (3 + cPp c) (nI v0))) 4 (((((A 4).set (3 + 3 * cPp c + 0) (nI v1)).set (3 + 3 * cPp c + 1) (nI v2)).set (3 + 3 * cPp c + 2) (nI v3)).set 0 (nI (cPp c + 1)))) := updA_ok (updA_ok hA ((List.length_set).trans lB)) (by rw [List.length_set, List.length_set, List.length_set, List.length_set]; exact lC)
          refine ⟨rfl, I2, _, go _ _ e (Or.inr rfl), (S34.rfl'.upd (k := 3) (by omega)).upd (k := 4) (by omega), rK.trans r.jj, hA2, (hT.rj (rK.trans r.jj) rfl).tx t1 tl, by rw [r4, aT], tok.1, tok.2.1, put_Rl lB lC hc q8 hRl, put_Nr hc q8 hN bnd.1 bnd.2.1 bnd.2.2, ?_⟩
          rw [r 7 (by decide) (by decide), K7]; unfold moreI; rw [if_neg (by show ¬ ((cPp c + 1) + cWk c + cTd c = 0); omega)]
      · right
        obtain ⟨I2, A2, a1, a2, a3, a4⟩ := f0 (Or.inl q8)
        exact ⟨i0 (Or.inl q8), I2, A2, a1, a2, rK.trans a3, go _ _ a4 (Or.inl rfl)⟩
    · by_cases c119 : tC t (tAt t) = 119
      · obtain ⟨i1, i0⟩ := tItem_w (c := c) c119 ht.2.1 hN.2.2.1
        obtain ⟨f1, f0⟩ := s7_rw (d := d) (n := cWk c) (hs := cHs c) hl hA hTK K4 (by omega) hRl.1.2.1 w5 hRl.1.1 hN.2.2.1 h5
        have go : ∀ v hp2, am_E (d + 3) 104 0 [some (.ref 141), none] [] (wD hp K A) = some (some (.int v), hp2) → (v = 0 ∨ v = 1) → am_E (d + 4) 106 0 [some (.ref 141), none, none] [] (wD hp I A) = some (some (.int v), hp2) := fun v hp2 e ov => by
          rcases ov with rfl | rfl
          · simp (maxSteps := 1000000) (disch := first | exact nl_int | exact nl_ref | exact nl_none | exact Nat.le_of_ble_eq_true rfl | assumption | exact wD_cl (by assumption) | exact cat_int | exact cat_ref | exact z2 | exact z4 | exact z3 | exact z5 | exact z6 | exact z8 | exact z64) only [e_106_0, e_106_1, e_106_4, e_106_5, e_106_8, e_106_9, e_106_10, e_106_11, e_106_12, e_106_15, e_106_16, e_106_17, e_106_20, e_106_21, e_106_23, e_106_26, e_106_27, e_106_30, e_106_33, e_106_34, e_106_35, e_106_36, e_106_38, e_106_41, e_106_44, e_106_45, e_106_48, e_106_49, e_106_50, e_106_51, e_106_54, e_106_55, e_106_56, e_106_59, e_106_60, e_106_63, e_106_66, e_106_67, e_106_70, e_106_71, e_106_72, e_106_73, e_106_74, e_106_74_1, e_106_75, e_106_76, e_106_77, e_106_80, e_106_81, e_106_83, e_106_86, e_106_87, e_106_90, e_106_93, e_106_94, e_106_96, e_106_99, e_106_100, e_106_103, e_106_106, e_106_107, e_106_109, e_106_112, e_106_113, e_106_116, e_106_119, e_106_120, e_106_123, e_106_124, e_106_124_1, nl_int, nl_ref, nl_none, cat_int, cat_ref, cat_0, cat_i, cat_r, cat_l, Option.elim_some, Option.elim_none, Option.bind_some, Option.bind_none, Option.toList_some, Option.toList_none, List.cons_append, List.nil_append, Nat.reduceAdd, Nat.reduceLeDiff, wD_f2 hl, wD_f4 hl, h4, lx, nI_1, pJ, q104, if_neg c104, pK, q112, if_neg c112, q119, if_pos c119, e]
          · simp (maxSteps := 1000000) (disch := first | exact nl_int | exact nl_ref | exact nl_none | exact Nat.le_of_ble_eq_true rfl | assumption | exact wD_cl (by assumption) | exact cat_int | exact cat_ref | exact z2 | exact z4 | exact z3 | exact z5 | exact z6 | exact z8 | exact z64) only [e_106_0, e_106_1, e_106_4, e_106_5, e_106_8, e_106_9, e_106_10, e_106_11, e_106_12, e_106_15, e_106_16, e_106_17, e_106_20, e_106_21, e_106_23, e_106_26, e_106_27, e_106_30, e_106_33, e_106_34, e_106_35, e_106_36, e_106_38, e_106_41, e_106_44, e_106_45, e_106_48, e_106_49, e_106_50, e_106_51, e_106_54, e_106_55, e_106_56, e_106_59, e_106_60, e_106_63, e_106_66, e_106_67, e_106_70, e_106_71, e_106_72, e_106_73, e_106_74, e_106_74_1, e_106_75, e_106_76, e_106_77, e_106_80, e_106_81, e_106_83, e_106_86, e_106_87, e_106_90, e_106_93, e_106_94, e_106_96, e_106_99, e_106_100, e_106_103, e_106_106, e_106_107, e_106_109, e_106_112, e_106_113, e_106_116, e_106_119, e_106_120, e_106_123, e_106_124, e_106_124_1, nl_int, nl_ref, nl_none, cat_int, cat_ref, cat_0, cat_i, cat_r, cat_l, Option.elim_some, Option.elim_none, Option.bind_some, Option.bind_none, Option.toList_some, Option.toList_none, List.cons_append, List.nil_append, Nat.reduceAdd, Nat.reduceLeDiff, wD_f2 hl, wD_f4 hl, h4, lx, nI_1, pJ, q104, if_neg c104, pK, q112, if_neg c112, q119, if_pos c119, e]
        by_cases q5 : cWk c < 5
        · cases g : itW t (tAt t + 1) (cHs c) with
          | none =>
            right
            obtain ⟨I2, A2, a1, a2, a3, a4⟩ := f0 (Or.inr g)
            exact ⟨i0 (Or.inr g), I2, A2, a1, a2, rK.trans a3, go _ _ a4 (Or.inl rfl)⟩
          | some q =>
            obtain ⟨v0, v1, b⟩ := q
            left
            obtain ⟨T, eT, aT, t1, tl⟩ := i1 v0 v1 b q5 g
            obtain ⟨I2, r4, r, e⟩ := f1 q5 v0 v1 b g
            rw [eT] at tok ⊢
            dsimp only at tok ⊢
            have bnd : v0 < cHs c ∧ v1 ≤ 30 := by
              have := hN.2.2.1
              unfold itW at g
              obtain ⟨q0, g0, g⟩ := Option.bind_eq_some_iff.mp g
              obtain ⟨q1, g1, g⟩ := Option.bind_eq_some_iff.mp g
              cases g
              have := (pnr_at g0 t2).2.2.1
              exact ⟨by omega, (pnr_at g1 t2).2.2.1⟩
            have hA2 : aOK (updA A 3 ((((A 3).set (11 + 2 * cWk c) (nI v0)).set (12 + 2 * cWk c) (nI v1)).set 1 (nI (cWk c + 1)))) := updA_ok hA (by rw [List.length_set, List.length_set, List.length_set]; exact lB)
            refine ⟨rfl, I2, _, go _ _ e (Or.inr rfl), S34.rfl'.upd (k := 3) (by omega), rK.trans r.jj, hA2, (hT.rj (rK.trans r.jj) rfl).tx t1 tl, by rw [r4, aT], tok.1, tok.2.1, wk_Rl lB hc q5 hRl, wk_Nr hc q5 hN bnd.1 bnd.2, ?_⟩
            rw [r 7 (by decide) (by decide), K7]; unfold moreI; rw [if_neg (by show ¬ (cPp c + (cWk c + 1) + cTd c = 0); omega)]
        · right
          obtain ⟨I2, A2, a1, a2, a3, a4⟩ := f0 (Or.inl q5)
          exact ⟨i0 (Or.inl q5), I2, A2, a1, a2, rK.trans a3, go _ _ a4 (Or.inl rfl)⟩
      · by_cases c115 : tC t (tAt t) = 115
        · obtain ⟨i1, i0⟩ := tItem_s (c := c) c115 ht.2.1
          obtain ⟨f1, f0⟩ := s7_rt (d := d) (n := cTd c) hl hA hTK K4 (by omega) hRl.1.2.2 d8
          have go : ∀ v hp2, am_E (d + 3) 105 0 [some (.ref 141)] [] (wD hp K A) = some (some (.int v), hp2) → (v = 0 ∨ v = 1) → am_E (d + 4) 106 0 [some (.ref 141), none, none] [] (wD hp I A) = some (some (.int v), hp2) := fun v hp2 e ov => by
            rcases ov with rfl | rfl
            · simp (maxSteps := 1000000) (disch := first | exact nl_int | exact nl_ref | exact nl_none | exact Nat.le_of_ble_eq_true rfl | assumption | exact wD_cl (by assumption) | exact cat_int | exact cat_ref | exact z2 | exact z4 | exact z3 | exact z5 | exact z6 | exact z8 | exact z64) only [e_106_0, e_106_1, e_106_4, e_106_5, e_106_8, e_106_9, e_106_10, e_106_11, e_106_12, e_106_15, e_106_16, e_106_17, e_106_20, e_106_21, e_106_23, e_106_26, e_106_27, e_106_30, e_106_33, e_106_34, e_106_35, e_106_36, e_106_38, e_106_41, e_106_44, e_106_45, e_106_48, e_106_49, e_106_50, e_106_51, e_106_54, e_106_55, e_106_56, e_106_59, e_106_60, e_106_63, e_106_66, e_106_67, e_106_70, e_106_71, e_106_72, e_106_73, e_106_74, e_106_74_1, e_106_75, e_106_76, e_106_77, e_106_80, e_106_81, e_106_83, e_106_86, e_106_87, e_106_90, e_106_93, e_106_94, e_106_96, e_106_99, e_106_100, e_106_103, e_106_106, e_106_107, e_106_109, e_106_112, e_106_113, e_106_116, e_106_119, e_106_120, e_106_123, e_106_124, e_106_124_1, nl_int, nl_ref, nl_none, cat_int, cat_ref, cat_0, cat_i, cat_r, cat_l, Option.elim_some, Option.elim_none, Option.bind_some, Option.bind_none, Option.toList_some, Option.toList_none, List.cons_append, List.nil_append, Nat.reduceAdd, Nat.reduceLeDiff, wD_f2 hl, wD_f4 hl, h4, lx, nI_1, pJ, q104, if_neg c104, pK, q112, if_neg c112, q119, if_neg c119, q115, if_pos c115, e, z0, if_true]
            · simp (maxSteps := 1000000) (disch := first | exact nl_int | exact nl_ref | exact nl_none | exact Nat.le_of_ble_eq_true rfl | assumption | exact wD_cl (by assumption) | exact cat_int | exact cat_ref | exact z2 | exact z4 | exact z3 | exact z5 | exact z6 | exact z8 | exact z64) only [e_106_0, e_106_1, e_106_4, e_106_5, e_106_8, e_106_9, e_106_10, e_106_11, e_106_12, e_106_15, e_106_16, e_106_17, e_106_20, e_106_21, e_106_23, e_106_26, e_106_27, e_106_30, e_106_33, e_106_34, e_106_35, e_106_36, e_106_38, e_106_41, e_106_44, e_106_45, e_106_48, e_106_49, e_106_50, e_106_51, e_106_54, e_106_55, e_106_56, e_106_59, e_106_60, e_106_63, e_106_66, e_106_67, e_106_70, e_106_71, e_106_72, e_106_73, e_106_74, e_106_74_1, e_106_75, e_106_76, e_106_77, e_106_80, e_106_81, e_106_83, e_106_86, e_106_87, e_106_90, e_106_93, e_106_94, e_106_96, e_106_99, e_106_100, e_106_103, e_106_106, e_106_107, e_106_109, e_106_112, e_106_113, e_106_116, e_106_119, e_106_120, e_106_123, e_106_124, e_106_124_1, nl_int, nl_ref, nl_none, cat_int, cat_ref, cat_0, cat_i, cat_r, cat_l, Option.elim_some, Option.elim_none, Option.bind_some, Option.bind_none, Option.toList_some, Option.toList_none, List.cons_append, List.nil_append, Nat.reduceAdd, Nat.reduceLeDiff, wD_f2 hl, wD_f4 hl, h4, lx, nI_1, pJ, q104, if_neg c104, pK, q112, if_neg c112, q119, if_neg c119, q115, if_pos c115, e, z1, if_false]
          by_cases q5 : cTd c < 8
          · cases g : pnr t (tAt t + 1) 59 0 31 with
            | none =>
              right
              obtain ⟨I2, A2, a1, a2, a3, a4⟩ := f0 (Or.inr g)
              exact ⟨i0 (Or.inr g), I2, A2, a1, a2, rK.trans a3, go _ _ a4 (Or.inl rfl)⟩
            | some q =>
              left
              obtain ⟨T, eT, aT, t1, tl⟩ := i1 q q5 g
              obtain ⟨I2, r4, r, e⟩ := f1 q5 q g
              rw [eT] at tok ⊢
              dsimp only at tok ⊢
              have bq := pnr_at g t2
              have hA2 : aOK (updA A 3 (((A 3).set (21 + cTd c) (nI q.1)).set 2 (nI (cTd c + 1)))) := updA_ok hA (by rw [List.length_set, List.length_set]; exact lB)
              refine ⟨rfl, I2, _, go _ _ e (Or.inr rfl), S34.rfl'.upd (k := 3) (by omega), rK.trans r.jj, hA2, (hT.rj (rK.trans r.jj) rfl).tx t1 tl, by rw [r4, aT], tok.1, tok.2.1, td_Rl lB hc q5 hRl, td_Nr hc q5 hN bq.2.2.1, ?_⟩
              rw [r 7 (by decide) (by decide), K7]; unfold moreI; rw [if_neg (by show ¬ (cPp c + cWk c + (cTd c + 1) = 0); omega)]
          · right
            obtain ⟨I2, A2, a1, a2, a3, a4⟩ := f0 (Or.inl q5)
            exact ⟨i0 (Or.inl q5), I2, A2, a1, a2, rK.trans a3, go _ _ a4 (Or.inl rfl)⟩
        · right
          refine ⟨tItem_o c112 c104 c119 c115, K, A, hA, S34.rfl', rK, ?_⟩
          simp (maxSteps := 1000000) (disch := first | exact nl_int | exact nl_ref | exact nl_none | exact Nat.le_of_ble_eq_true rfl | assumption | exact wD_cl (by assumption) | exact cat_int | exact cat_ref | exact z2 | exact z4 | exact z3 | exact z5 | exact z6 | exact z8 | exact z64) only [e_106_0, e_106_1, e_106_4, e_106_5, e_106_8, e_106_9, e_106_10, e_106_11, e_106_12, e_106_15, e_106_16, e_106_17, e_106_20, e_106_21, e_106_23, e_106_26, e_106_27, e_106_30, e_106_33, e_106_34, e_106_35, e_106_36, e_106_38, e_106_41, e_106_44, e_106_45, e_106_48, e_106_49, e_106_50, e_106_51, e_106_54, e_106_55, e_106_56, e_106_59, e_106_60, e_106_63, e_106_66, e_106_67, e_106_70, e_106_71, e_106_72, e_106_73, e_106_74, e_106_74_1, e_106_75, e_106_76, e_106_77, e_106_80, e_106_81, e_106_83, e_106_86, e_106_87, e_106_90, e_106_93, e_106_94, e_106_96, e_106_99, e_106_100, e_106_103, e_106_106, e_106_107, e_106_109, e_106_112, e_106_113, e_106_116, e_106_119, e_106_120, e_106_123, e_106_124, e_106_124_1, nl_int, nl_ref, nl_none, cat_int, cat_ref, cat_0, cat_i, cat_r, cat_l, Option.elim_some, Option.elim_none, Option.bind_some, Option.bind_none, Option.toList_some, Option.toList_none, List.cons_append, List.nil_append, Nat.reduceAdd, Nat.reduceLeDiff, wD_f2 hl, wD_f4 hl, h4, lx, nI_1, pJ, q104, if_neg c104, pK, q112, if_neg c112, q119, if_neg c119, q115, if_neg c115]
end RDD
