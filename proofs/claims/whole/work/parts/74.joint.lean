/-! CLASS AND REFERENCE TOGETHER -/
section MDE
variable {d : Nat} {hp hp2 : am_H} {I I2 : Nat → Int32} {A A2 : Nat → List Int32} {i j k n b p hr tt h u : Nat} {x y t a : Int32} {B C : List Int32} {ct : am_Ci}  {tx : am_Tx} {nw : am_Mo} {pm : Nat → am_Mo} {pn ph : Nat} {km : Nat → am_Mo} {kc : Nat} {sH sL : List Int32} {sc : Nat}
theorem St_lo (hS : St hp tx ct nw pm pn ph km kc sH sL sc) (hl : hp2.length = hp.length) (hg : ∀ b, b < 141 → hp2[b]? = hp[b]?) : St hp2 tx ct nw pm pn ph km kc sH sL sc := by
  obtain ⟨cB, dr, lt, hs, tm, tk, sp, q1, q2, q3, q4, q5, q6, q7, q8, q9, q10, q11, q12, q13, q14, q15, q16⟩ := hS
  have ha : ∀ b, b < 141 → am_arr hp2 b = am_arr hp b := fun b hb => by unfold am_arr; rw [hg b hb]
  have ho : ∀ b, b < 141 → am_obj hp2 b = am_obj hp b := fun b hb => by unfold am_obj; rw [hg b hb]
  have hr : ∀ b, b < 141 → am_rar hp2 b = am_rar hp b := fun b hb => by unfold am_rar; rw [hg b hb]
  exact ⟨cB, dr, lt, hs, tm, tk, sp, q1, (ho 0 (by omega)).trans q2, isX_get q3 (fun b _ _ => hg b (by omega)), isCt_get q4 (fun b _ _ => hg b (by omega)), isCt_get q5 (fun b _ _ => hg b (by omega)), isM_get q6 (fun b _ _ => hg b (by omega)), isM_get q7 (fun b _ _ => hg b (by omega)), isP_get q8 (fun b _ _ => hg b (by omega)), ⟨(hr 86 (by omega)).trans q9.1, isM_get q9.2.1 (fun b _ _ => hg b (by omega)), isM_get q9.2.2 (fun b _ _ => hg b (by omega))⟩, ⟨⟨(ha 87 (by omega)).trans q10.1.1, q10.1.2⟩, ⟨(ha 88 (by omega)).trans q10.2.1, q10.2.2⟩⟩, isH_get q11 (fun b _ _ => hg b (by omega)), isK_get q12 hl (fun b _ _ => hg b (by omega)), ⟨(ha 128 (by omega)).trans q13.1, q13.2⟩, q14, q15, by rw [hl]; exact q16⟩
theorem St_wD (hS : St hp tx ct nw pm pn ph km kc sH sL sc) : St (wD hp I A) tx ct nw pm pn ph km kc sH sL sc := St_lo hS wD_len (fun b hb => wD_get (by omega))
/-- a moment that the reference holds in the k-th row of an array -/
def Sl (ct : am_Ci) (B U : List Int32) (k : Nat) (m : am_Mo) : Prop := ∃ C r ra, (∀ j, j < 27 → C.getD j 0 = U.getD (27 * k + j) 0) ∧ C.length = 27 ∧ r ≤ 999 ∧ m.2.2.2.2.2.1 = nI r ∧ ra < 32 ∧ m.2.2.2.2.2.2 = nI ra ∧ Rl ct m r B C ∧ Nm ct m ∧ mOK m
def Jr (tx : am_Tx) (ct : am_Ci) (nw : am_Mo) (pm : Nat → am_Mo) (pn ph : Nat) (km : Nat → am_Mo) (kc : Nat) (sH sL : List Int32) (sc hr : Nat) (I : Nat → Int32) (A : Nat → List Int32) : Prop :=
  Ok7 A ct nw hr ∧ hr ≤ 999 ∧ (∃ ra, ra < 32 ∧ nw.2.2.2.2.2.2 = nI ra) ∧ (I 3 = nI (tLn tx) ∧ tLn tx ≤ 200 ∧ ∀ k, k < tLn tx → (A 2).getD k 0 = nI (tC tx k)) ∧ (I 20 = nI sc ∧ sc ≤ 8 ∧ ∀ k, k < sc → (A 10).getD k 0 = sH.getD k 0 ∧ (A 11).getD k 0 = sL.getD k 0 ∧ ∃ h, h < 5 ∧ sH.getD k 0 = nI h) ∧ (I 13 = nI ph ∧ ph ≤ 8 ∧ pn < 8 ∧ ∀ k, k < ph → Sl ct (A 0) (A 7) k (pm ((pn + 8 - ph + k) % 8))) ∧ (I 22 = nI kc ∧ kc ≤ 2 ∧ ∀ k, k < kc → Sl ct (A 0) (A 12) k (km k))
def JJ (hp : am_H) : Prop := hp.length = 155 ∧ ∃ tx ct nw pm pn ph km kc sH sL sc hr I A, St hp tx ct nw pm pn ph km kc sH sL sc ∧ isD hp I A ∧ Jr tx ct nw pm pn ph km kc sH sL sc hr I A
theorem Jr.sq (h : Jr tx ct nw pm pn ph km kc sH sL sc hr I A) (hA : aOK A2) (hs : Sq A A2) (hi : Si I I2) : Jr tx ct nw pm pn ph km kc sH sL sc hr I2 A2 := by
  obtain ⟨q1, q2, q3, q4, q5, q6, q7⟩ := h
  have e : ∀ k, k ≠ 3 → k ≠ 4 → k ≠ 5 → k ≠ 6 → k ≠ 8 → k ≠ 9 → A2 k = A k := hs
  refine ⟨q1.sq hA hs, q2, q3, ?_, ?_, ?_, ?_⟩
  · rw [hi 3 (by omega), e 2 (by decide) (by decide) (by decide) (by decide) (by decide) (by decide)]; exact q4
  · rw [hi 20 (by omega), e 10 (by decide) (by decide) (by decide) (by decide) (by decide) (by decide), e 11 (by decide) (by decide) (by decide) (by decide) (by decide) (by decide)]; exact q5
  · rw [hi 13 (by omega), e 7 (by decide) (by decide) (by decide) (by decide) (by decide) (by decide), e 0 (by decide) (by decide) (by decide) (by decide) (by decide) (by decide)]; exact q6
  · rw [hi 22 (by omega), e 12 (by decide) (by decide) (by decide) (by decide) (by decide) (by decide), e 0 (by decide) (by decide) (by decide) (by decide) (by decide) (by decide)]; exact q7
/-- a call of the class and the same call of the reference: one answer, and both go on together -/
def Pr (d M6 : Nat) (L6 : List (Option Value)) (M7 : Nat) (L7 : List (Option Value)) (hp : am_H) : Prop := ∃ a hp1 hp2, am_E (d + 12) M6 0 L6 [] hp = some (some (.int a), hp1) ∧ am_E (d + 12) M7 0 L7 [] hp1 = some (some (.int a), hp2) ∧ JJ hp2 ∧ am_isC hp1 141 7 = true ∧ am_isC hp2 0 6 = true
def Ask (d M : Nat) (L : List (Option Value)) (hp : am_H) (I : Nat → Int32) (A : Nat → List Int32) (a : Int32) : Prop := ∃ I2 A2, Si I I2 ∧ aOK A2 ∧ Sq A A2 ∧ am_E (d + 12) M 0 L [] (wD hp I A) = some (some (.int a), wD hp I2 A2)
theorem Ask.same {M : Nat} {L : List (Option Value)} (hA : aOK A) (e : am_E (d + 12) M 0 L [] (wD hp I A) = some (some (.int a), wD hp I A)) : Ask d M L hp I A a := ⟨I, A, Si.rfl', hA, Sq.rfl', e⟩
theorem Run.same {M : Nat} {L : List (Option Value)} {P : am_H → Prop} (hP : P hp) (e : am_E (d + 12) M 0 L [] hp = some (some (.int a), hp)) : Run d M L hp a P := ⟨hp, e, hP, Fr.rfl'⟩
theorem St.isC (hS : St hp tx ct nw pm pn ph km kc sH sL sc) : am_isC hp 0 6 = true := by
  obtain ⟨cB, dr, lt, hs, tm, tk, sp, h⟩ := hS
  exact h.cl
theorem Pr_act {M6 M7 : Nat} {L6 L7 : List (Option Value)} {tx2 : am_Tx} {ct2 : am_Ci} {nw2 : am_Mo} {pm2 : Nat → am_Mo} {pn2 ph2 : Nat} {km2 : Nat → am_Mo} {kc2 : Nat} {sH2 sL2 : List Int32} {sc2 hr2 : Nat} (hl : hp.length = 155) (hD : isD hp I A) (h6 : Run d M6 L6 hp a (fun h => St h tx2 ct2 nw2 pm2 pn2 ph2 km2 kc2 sH2 sL2 sc2)) (h7 : ∀ hp, 154 < hp.length → ∃ I2 A2, am_E (d + 12) M7 0 L7 [] (wD hp I A) = some (some (.int a), wD hp I2 A2) ∧ Jr tx2 ct2 nw2 pm2 pn2 ph2 km2 kc2 sH2 sL2 sc2 hr2 I2 A2) : Pr d M6 L6 M7 L7 hp := by
  obtain ⟨hp1, e1, hS, hf⟩ := h6
  have hD1 := isD_fr hD hf
  have hl1 : 154 < hp1.length := by rw [hf.1, hl]; decide
  obtain ⟨I2, A2, e2, hj⟩ := h7 hp1 hl1
  rw [wD_self hD1] at e2
  refine ⟨a, hp1, wD hp1 I2 A2, e1, e2, ⟨by rw [wD_len, hf.1, hl], tx2, ct2, nw2, pm2, pn2, ph2, km2, kc2, sH2, sL2, sc2, hr2, I2, A2, St_wD hS, isD_wD hl1 hj.1.1, hj⟩, am_isC_of hD1.1, (St_wD hS).isC⟩
theorem Pr_ask {M6 M7 : Nat} {L6 L7 : List (Option Value)} (hl : hp.length = 155) (hD : isD hp I A) (hj : Jr tx ct nw pm pn ph km kc sH sL sc hr I A) (h6 : Run d M6 L6 hp a (fun h => St h tx ct nw pm pn ph km kc sH sL sc)) (h7 : ∀ hp, 154 < hp.length → Ask d M7 L7 hp I A a) : Pr d M6 L6 M7 L7 hp := Pr_act hl hD h6 (fun hp h => by
  obtain ⟨I2, A2, a1, a2, a3, a4⟩ := h7 hp h
  exact ⟨I2, A2, a4, hj.sq a2 a3 a1⟩)
/-! what the reference reads -/
theorem Ok7.lp (hl : 154 < hp.length) (h : Ok7 A ct nw hr) : am_ld (wD hp I A) 143 0 = some (nI (cPp ct)) := by rw [wD_l1 (x := 0) (k := 0) rfl hl h.1 (by decide), h.2.1.2.2.2.2.1.1]
theorem Ok7.lhr (hl : 154 < hp.length) (h : Ok7 A ct nw hr) : am_ld (wD hp I A) 143 1 = some (nI hr) := by rw [wD_l1 (x := 1) (k := 1) rfl hl h.1 (by decide), h.2.1.2.2.2.2.1.2.1]
theorem Ok7.lra (hl : 154 < hp.length) (h : Ok7 A ct nw hr) : am_ld (wD hp I A) 143 2 = some nw.2.2.2.2.2.2 := by rw [wD_l1 (x := 2) (k := 2) rfl hl h.1 (by decide), h.2.1.2.2.2.2.1.2.2]
theorem Ok7.lhs (hl : 154 < hp.length) (h : Ok7 A ct nw hr) : am_ld (wD hp I A) 142 0 = some (nI (cHs ct)) := by rw [wD_l0 (x := 0) (k := 0) rfl hl h.1 (by decide), h.2.1.1.1]
theorem Ok7.lwk (hl : 154 < hp.length) (h : Ok7 A ct nw hr) : am_ld (wD hp I A) 142 1 = some (nI (cWk ct)) := by rw [wD_l0 (x := 1) (k := 1) rfl hl h.1 (by decide), h.2.1.1.2.1]
theorem Ok7.p8 (h : Ok7 A ct nw hr) : cPp ct ≤ 8 := h.2.2.1.2.2.1
theorem Ok7.h5 (h : Ok7 A ct nw hr) : cHs ct ≤ 5 := h.2.2.1.2.2.2
theorem Ok7.w5 (h : Ok7 A ct nw hr) : cWk ct ≤ 5 := h.2.2.2.2.2.1.1
theorem Ok7.lk (hl : 154 < hp.length) (h : Ok7 A ct nw hr) (hi : i < cPp ct) : am_ld (wD hp I A) 142 (nI (3 + i)) = some (mK nw i) := by have := h.p8; rw [wD_l0 (k := 3 + i) rfl hl h.1 (by omega), h.2.1.2.1 i hi]
theorem Ok7.lo (hl : 154 < hp.length) (h : Ok7 A ct nw hr) (hi : i < cPp ct) : am_ld (wD hp I A) 143 (nI (3 + 3 * i)) = some (mO nw i) := by have := h.p8; rw [wD_l1 (k := 3 + 3 * i) rfl hl h.1 (by omega), (h.2.1.2.2.2.2.2 i hi).1]
theorem Ok7.lt (hl : 154 < hp.length) (h : Ok7 A ct nw hr) (hi : i < cPp ct) : am_ld (wD hp I A) 143 (nI (4 + 3 * i)) = some (mT nw i) := by have := h.p8; rw [wD_l1 (k := 4 + 3 * i) rfl hl h.1 (by omega), (h.2.1.2.2.2.2.2 i hi).2.1]
theorem Ok7.lh (hl : 154 < hp.length) (h : Ok7 A ct nw hr) (hi : i < cPp ct) : am_ld (wD hp I A) 143 (nI (5 + 3 * i)) = some (mH nw i) := by have := h.p8; rw [wD_l1 (k := 5 + 3 * i) rfl hl h.1 (by omega), (h.2.1.2.2.2.2.2 i hi).2.2]
theorem Ok7.lwh (hl : 154 < hp.length) (h : Ok7 A ct nw hr) (hi : i < cWk ct) : am_ld (wD hp I A) 142 (nI (11 + 2 * i)) = some (cWH ct i) := by have := h.w5; rw [wD_l0 (k := 11 + 2 * i) rfl hl h.1 (by omega), (h.2.1.2.2.1 i hi).1]
theorem Ok7.lwn (hl : 154 < hp.length) (h : Ok7 A ct nw hr) (hi : i < cWk ct) : am_ld (wD hp I A) 142 (nI (12 + 2 * i)) = some (cWN ct i) := by have := h.w5; rw [wD_l0 (k := 12 + 2 * i) rfl hl h.1 (by omega), (h.2.1.2.2.1 i hi).2]
theorem s7_ip (hl : 154 < hp.length) (h : Ok7 A ct nw hr) : am_E (d + 1) 93 0 [some (.ref 141), some (.int x)] [] (wD hp I A) = some (some (.int (b2 (inR x (cPp ct)))), wD hp I A) := s7_isPerson hl h.1 h.2.1.2.2.2.2.1.1 h.p8
theorem s7_ih (hl : 154 < hp.length) (h : Ok7 A ct nw hr) : am_E (d + 1) 94 0 [some (.ref 141), some (.int x)] [] (wD hp I A) = some (some (.int (b2 (inR x (cHs ct)))), wD hp I A) := s7_isHouse hl h.1 h.2.1.1.1 (by have := h.h5; omega)
theorem inC_t {m : Nat} (q : inC y 0 (nI m) = true) (hm : m < 2 ^ 31) : ∃ j, j ≤ m ∧ y = nI j := by
  unfold inC at q
  by_cases q1 : y < 0
  · rw [if_pos q1] at q; cases q
  · rw [if_neg q1] at q
    by_cases q2 : nI m < y
    · rw [if_pos q2] at q; cases q
    · obtain ⟨j, hj, rfl⟩ := nI_of q1
      exact ⟨j, Nat.le_of_not_lt (fun z => q2 (nI_lt z hj)), rfl⟩
theorem inC_n {m : Nat} (h1 : ¬ y < 0) (h2 : ¬ nI m < y) : inC y 0 (nI m) = true := by unfold inC; rw [if_neg h1, if_neg h2]
theorem inC_f {l m : Int32} (q : y < l ∨ m < y) : inC y l m = false := by
  unfold inC
  by_cases q1 : y < l
  · rw [if_pos q1]
  · rw [if_neg q1, if_pos (q.resolve_left q1)]
theorem inC_g {l m : Int32} (q1 : ¬ y < l) (q2 : ¬ m < y) : inC y l m = true := by unfold inC; rw [if_neg q1, if_neg q2]
theorem inC_x {l m : Int32} (q : inC y l m = false) : y < l ∨ m < y := by
  unfold inC at q
  by_cases q1 : y < l
  · exact Or.inl q1
  · rw [if_neg q1] at q
    by_cases q2 : m < y
    · exact Or.inr q2
    · rw [if_neg q2] at q; cases q
theorem s7_in0 {lo hi : Int32} {a c : Int64} (q : x < lo ∨ hi < x) (ha : a = lo.toInt64) (hc : c = hi.toInt64) : am_E d 89 0 [some (.long x.toInt64), none, some (.long a), none, some (.long c), none] [] hp = some (some (.int 0), hp) := by rw [s7_in ha hc, inC_f q]; rfl
theorem s7_in1 {lo hi : Int32} {a c : Int64} (q1 : ¬ x < lo) (q2 : ¬ hi < x) (ha : a = lo.toInt64) (hc : c = hi.toInt64) : am_E d 89 0 [some (.long x.toInt64), none, some (.long a), none, some (.long c), none] [] hp = some (some (.int 1), hp) := by rw [s7_in ha hc, inC_g q1 q2]; rfl
end MDE
