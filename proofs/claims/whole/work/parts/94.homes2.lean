/-! homes: the class's search as one row of numbers -/
def FH (lit : Nat → Int32) (mv : Nat → Nat) (k : Nat) (b : Int32 × Nat × Nat) : Int32 × Nat × Nat := if mv k < 5 then (if b.1 < lit k then (lit k, mv k, k) else if lit k = b.1 then (if mv k < b.2.1 then (lit k, mv k, k) else b) else b) else b
def litK (ct : am_Ci) (nw : am_Mo) (t : Int32) (k : Nat) : Int32 := bitc (cLit ct (mkH nw (cPp ct) (dgb (cHs ct) (cPp ct) k)) t)
def mvK (ct : am_Ci) (nw : am_Mo) (k : Nat) : Nat := mvc nw (dgb (cHs ct) (cPp ct) k) (cPp ct)
def Rh (ct : am_Ci) (s : am_Hs) (b : Int32 × Nat × Nat) : Prop := hLit s = b.1 ∧ (b.1 = -1 ∨ (hMov s = nI b.2.1 ∧ b.2.1 ≤ 8 ∧ ∀ i, i < cPp ct → hBe s i = nI (dgb (cHs ct) (cPp ct) b.2.2 i)))
def Cst (ct : am_Ci) (nw : am_Mo) (t : Int32) (who B : Nat) (s : am_Hs) : Prop := (∀ i j, i < j → j < 8 → hL2 s (i * 8 + j) = mL2 nw i j t) ∧ (∀ i, i < who → hCh s i = nI (dgb (cHs ct) who B i)) ∧ (∀ h, h < 5 → hLi s h = S1 (gF nw t (dgb (cHs ct) who B) h) who)
section HMB
variable {i j k n b p hr tt g h u N P B who moved : Nat} {x y z t a v w : Int32} {ct c : am_Ci} {nw m : am_Mo} {s : am_Hs} {f f2 : Nat → Nat}
theorem gF_congr {n : Nat} (hf : ∀ i, i < n → f i = f2 i) : S1 (gF nw t f h) n = S1 (gF nw t f2 h) n := by
  unfold S1
  refine suI_congr n (fun j hj => suI_congr j (fun i hi => ?_))
  unfold gF
  rw [hf i (by omega), hf j hj]
theorem hAdd_su (hC : ∀ i, i < who → hCh s i = nI (f i)) (hL : ∀ i j, i < j → j < 8 → hL2 s (i * 8 + j) = mL2 nw i j t) (hw : who < 8) (hh : h < 2 ^ 31) (hf : ∀ i, i < who → f i < 2 ^ 31) : hAdd s who (nI h) = suI (fun i => if f i = h then mL2 nw i who t else 0) who := by
  unfold hAdd
  have e : am_for (hAd s who (nI h)) 0 who 0 = am_for (fun i a => a + (if f i = h then mL2 nw i who t else 0)) 0 who 0 := am_for_congr _ _ _ (fun i a _ hi => by
    unfold hAd
    have i8 : i < who := by omega
    rw [hC i i8, hL i who i8 hw]
    have q : (nI (f i) = nI h) ↔ f i = h := nI_eq (hf i i8) hh
    by_cases w : f i = h
    · rw [if_pos (q.mpr w), if_pos w]
    · rw [if_neg (fun z => w (q.mp z)), if_neg w, Int32.add_zero])
  rw [e, suI_for, Int32.zero_add]
  exact suI_congr _ (fun i _ => by rw [Nat.zero_add])
theorem Cst_step (hs : hOK s) (hC : Cst ct nw t who B s) (hw : who < 8) (hh : h < cHs ct) (h5 : cHs ct ≤ 5) : Cst ct nw t (who + 1) (B * cHs ct + h) (hSetLi (hSetCh s who (nI h)) h (hLi s h + hAdd s who (nI h))) := by
  obtain ⟨c1, c2, c3⟩ := hC
  have hb : 0 < cHs ct := by omega
  have gc : ∀ i, hCh (hSetLi (hSetCh s who (nI h)) h (hLi s h + hAdd s who (nI h))) i = if who = i then nI h else hCh s i := fun i => getD_set (by rw [hs.2.1]; exact hw)
  have gl : ∀ g, hLi (hSetLi (hSetCh s who (nI h)) h (hLi s h + hAdd s who (nI h))) g = if h = g then hLi s h + hAdd s who (nI h) else hLi s g := fun g => getD_set (show h < s.2.2.1.length by rw [hs.2.2.1]; omega)
  refine ⟨c1, fun i hi => ?_, fun g hg => ?_⟩
  · rw [gc]
    by_cases e : who = i
    · rw [if_pos e, ← e, dgb_lo hh]
    · rw [if_neg e, dgb_hi (by omega) hh]
      exact c2 i (by omega)
  · rw [gl]
    have eS : S1 (gF nw t (dgb (cHs ct) (who + 1) (B * cHs ct + h)) g) (who + 1) = S1 (gF nw t (dgb (cHs ct) who B) g) who + suI (fun i => gF nw t (dgb (cHs ct) (who + 1) (B * cHs ct + h)) g i who) who := by
      rw [← gF_congr (f := dgb (cHs ct) (who + 1) (B * cHs ct + h)) (fun i hi => dgb_hi hi hh)]
      rfl
    rw [eS]
    by_cases e : h = g
    · subst e
      rw [if_pos rfl, c3 h hg, hAdd_su c2 c1 hw (by omega) (fun i _ => by have := dgb_lt (b := cHs ct) (a := who) (B := B) (i := i) hb; omega)]
      congr 1
      refine suI_congr who (fun i hi => ?_)
      unfold gF
      rw [dgb_hi hi hh, dgb_lo hh, if_pos rfl]
    · rw [if_neg e, c3 g hg, suI_zero who (fun i hi => by
        unfold gF
        rw [dgb_lo hh, if_neg e]
        split <;> rfl), Int32.add_zero]
theorem blk_row {H n B row : Nat} (h0 : 0 < H) (h1 : B * H ^ n ≤ row) (h2 : row < B * H ^ n + H ^ n) : row / H ^ n = B := by
  have p0 : 0 < H ^ n := Nat.pow_pos h0
  have a1 : B ≤ row / H ^ n := (Nat.le_div_iff_mul_le p0).mpr h1
  have a2 : row / H ^ n < B + 1 := (Nat.div_lt_iff_lt_mul p0).mpr (by rw [Nat.add_mul, Nat.one_mul]; exact h2)
  omega
theorem mvK_ge {row : Nat} (hP : who + n = cPp ct) (hr : row / cHs ct ^ n = B) : mvc nw (dgb (cHs ct) who B) who ≤ mvK ct nw row := by
  unfold mvK
  rw [← mvc_congr who (fun i hi => dgb_pre hP hr hi), ← hP]
  exact mvc_mono who n
theorem hs_flat (hW : Wok ct) (hN : Nm ct nw) (hH : 0 < cHs ct) : ∀ (n who moved : Nat) (s : am_Hs) (B : Nat) (b : Int32 × Nat × Nat), who + n = cPp ct → moved = mvc nw (dgb (cHs ct) who B) who → moved ≤ 4 → hOK s → Cst ct nw t who B s → Rh ct s b → Rh ct (hSettle ct nw n who moved s) (am_for (FH (litK ct nw t) (mvK ct nw)) (B * cHs ct ^ n) (cHs ct ^ n) b) ∧ (hSettle ct nw n who moved s).1 = s.1 ∧ (hSettle ct nw n who moved s).2.2.1 = s.2.2.1 ∧ ∀ i, i < who → hCh (hSettle ct nw n who moved s) i = hCh s i := by
  have p8 := hN.2.2.1
  have h5 := hN.2.2.2
  have w5 := hW.1
  intro n
  induction n with
  | zero =>
    intro who moved s B b hP hmv h4 hs hC hR
    obtain rfl : who = cPp ct := by omega
    rw [Nat.pow_zero, Nat.mul_one, am_for, am_for, hSettle]
    have eL : hWks ct s = litK ct nw t B := hWks_lit hW hN (fun i _ => dgb_lt hH) hC.2.2
    have eM : mvK ct nw B = moved := hmv.symm
    obtain ⟨c, hc, ec⟩ := lit_nI (m := mkH nw (cPp ct) (dgb (cHs ct) (cPp ct) B)) (t := t) w5
    have ec2 : litK ct nw t B = nI c := ec
    unfold hWeigh hWe FH
    rw [eL, eM, if_pos (show moved < 5 by omega), hR.1, ec2]
    have tk : Rh ct (hTake s (nI c) (nI moved)) (nI c, moved, B) := ⟨rfl, Or.inr ⟨rfl, by show moved ≤ 8; omega, hC.2.1⟩⟩
    by_cases q1 : b.1 < nI c
    · rw [if_pos q1, if_pos q1]
      exact ⟨tk, rfl, rfl, fun _ _ => rfl⟩
    · rw [if_neg q1, if_neg q1]
      by_cases q2 : nI c = b.1
      · rw [if_pos q2, if_pos q2]
        have nb : ¬ b.1 = -1 := fun w => nI_pos (show c < 2 ^ 31 by omega) (by rw [q2, w]; decide)
        obtain ⟨e1, e2, e3⟩ := hR.2.resolve_left nb
        rw [e1]
        have q3 : (nI moved < nI b.2.1) ↔ moved < b.2.1 := nI_ltI (by omega) (by omega)
        by_cases w : moved < b.2.1
        · rw [if_pos (q3.mpr w), if_pos w]
          exact ⟨tk, rfl, rfl, fun _ _ => rfl⟩
        · rw [if_neg (fun z => w (q3.mp z)), if_neg w]
          exact ⟨hR, rfl, rfl, fun _ _ => rfl⟩
      · rw [if_neg q2, if_neg q2]
        exact ⟨hR, rfl, rfl, fun _ _ => rfl⟩
  | succ n ih =>
    intro who moved s B b hP hmv h4 hs hC hR
    have w8 : who < 8 := by omega
    have blk := for_blk (F := FH (litK ct nw t) (mvK ct nw)) (K := cHs ct ^ n) (cHs ct) (B * cHs ct) b
    have eB : B * cHs ct ^ (n + 1) = B * cHs ct * cHs ct ^ n := by rw [Nat.pow_succ, Nat.mul_comm (cHs ct ^ n) (cHs ct), ← Nat.mul_assoc]
    have e6 : cHs ct ^ (n + 1) = cHs ct * cHs ct ^ n := by rw [Nat.pow_succ, Nat.mul_comm]
    rw [eB, e6, blk, hSettle]
    have key : ∀ k h (s : am_Hs) (b : Int32 × Nat × Nat), h + k = cHs ct → hOK s → Cst ct nw t who B s → Rh ct s b → Rh ct (am_for (hStep (fun mv s => hSettle ct nw n (who + 1) mv s) ct nw who moved) h k s) (am_for (fun q s => am_for (FH (litK ct nw t) (mvK ct nw)) (q * cHs ct ^ n) (cHs ct ^ n) s) (B * cHs ct + h) k b) ∧ (am_for (hStep (fun mv s => hSettle ct nw n (who + 1) mv s) ct nw who moved) h k s).1 = s.1 ∧ (am_for (hStep (fun mv s => hSettle ct nw n (who + 1) mv s) ct nw who moved) h k s).2.2.1 = s.2.2.1 ∧ ∀ i, i < who → hCh (am_for (hStep (fun mv s => hSettle ct nw n (who + 1) mv s) ct nw who moved) h k s) i = hCh s i := by
      intro k
      induction k with
      | zero => intro h s b _ _ _ hR; exact ⟨hR, rfl, rfl, fun _ _ => rfl⟩
      | succ k ik =>
        intro h s b hk hs hC hR
        have hh : h < cHs ct := by omega
        have emv : hMv nw who h moved = mvc nw (dgb (cHs ct) (who + 1) (B * cHs ct + h)) (who + 1) := by
          unfold hMv
          rw [mvc, mvc_congr who (fun i hi => dgb_hi hi hh), dgb_lo hh, ← hmv]
          split <;> rfl
        rw [am_for, am_for]
        have mvr : ∀ row, (B * cHs ct + h) * cHs ct ^ n ≤ row → row < (B * cHs ct + h) * cHs ct ^ n + cHs ct ^ n → hMv nw who h moved ≤ mvK ct nw row := fun row h1 h2 => by
          rw [emv]
          exact mvK_ge (by omega) (blk_row hH h1 h2)
        by_cases q1 : 4 < hMv nw who h moved
        · have e1 : hStep (fun mv s => hSettle ct nw n (who + 1) mv s) ct nw who moved h s = s := by unfold hStep; rw [if_pos q1]
          have e3 : am_for (FH (litK ct nw t) (mvK ct nw)) ((B * cHs ct + h) * cHs ct ^ n) (cHs ct ^ n) b = b := am_for_id2 _ _ _ (fun row h1 h2 => by
            unfold FH
            rw [if_neg (show ¬ mvK ct nw row < 5 by have := mvr row h1 h2; omega)])
          rw [e1, e3]
          exact ik (h + 1) s b (by omega) hs hC hR
        · by_cases q2 : hHope ct (hMv nw who h moved) s = true
          · have e1 : hStep (fun mv s => hSettle ct nw n (who + 1) mv s) ct nw who moved h s = s := by unfold hStep; rw [if_neg q1, if_pos q2]
            suffices e3 : am_for (FH (litK ct nw t) (mvK ct nw)) ((B * cHs ct + h) * cHs ct ^ n) (cHs ct ^ n) b = b by
              rw [e1, e3]
              exact ik (h + 1) s b (by omega) hs hC hR
            refine am_for_id2 _ _ _ (fun row h1 h2 => ?_)
            unfold hHope at q2
            have q3 : hLit s = nI (cWk ct) := by
              by_cases w : hLit s = nI (cWk ct)
              · exact w
              · rw [if_neg w] at q2; cases q2
            rw [if_pos q3] at q2
            have q4 : ¬ nI (hMv nw who h moved) < hMov s := fun w => by rw [if_pos w] at q2; cases q2
            have eb : b.1 = nI (cWk ct) := hR.1.symm.trans q3
            have nb : ¬ b.1 = -1 := fun w => nI_pos (show cWk ct < 2 ^ 31 by omega) (by rw [← eb, w]; decide)
            obtain ⟨e1, e2, e3⟩ := hR.2.resolve_left nb
            rw [e1] at q4
            have q5 : b.2.1 ≤ hMv nw who h moved := Nat.le_of_not_lt (fun w => q4 (nI_lt w (by omega)))
            have m1 := mvr row h1 h2
            obtain ⟨c, hc, ec⟩ := lit_nI (m := mkH nw (cPp ct) (dgb (cHs ct) (cPp ct) row)) (t := t) w5
            have ec2 : litK ct nw t row = nI c := ec
            unfold FH
            rw [ec2, eb, if_neg (show ¬ nI (cWk ct) < nI c from nI_nlt hc (by omega)), if_neg (show ¬ mvK ct nw row < b.2.1 by omega)]
            split
            · split <;> rfl
            · rfl
          · obtain ⟨s1, es1⟩ : ∃ s1, s1 = hSetLi (hSetCh s who (nI h)) h (hLi s h + hAdd s who (nI h)) := ⟨_, rfl⟩
            have hs1 : hOK s1 := by rw [es1]; exact (hs.c).l
            have hC1 : Cst ct nw t (who + 1) (B * cHs ct + h) s1 := by rw [es1]; exact Cst_step hs hC w8 hh h5
            have hR1 : Rh ct s1 b := by rw [es1]; exact hR
            obtain ⟨r1, r2, r3, r4⟩ := ih (who + 1) (hMv nw who h moved) s1 (B * cHs ct + h) b (by omega) emv (by omega) hs1 hC1 hR1
            have hokr := hSettle_ok (c := ct) (m := nw) n (who + 1) (hMv nw who h moved) s1 hs1
            obtain ⟨r, er⟩ : ∃ r, r = hSettle ct nw n (who + 1) (hMv nw who h moved) s1 := ⟨_, rfl⟩
            rw [← er] at r1 r2 r3 r4 hokr
            have eSt : hStep (fun mv s => hSettle ct nw n (who + 1) mv s) ct nw who moved h s = hSetLi r h (hLi r h - hAdd s who (nI h)) := by
              unfold hStep
              rw [if_neg q1, if_neg q2, ← es1]
              dsimp only
              rw [← er]
            have ll : s.2.2.1.length = 5 := hs.2.2.1
            have e1 : s1.2.2.1 = s.2.2.1.set h (hLi s h + hAdd s who (nI h)) := by rw [es1]; rfl
            have hlr : hLi r h = hLi s h + hAdd s who (nI h) := by
              unfold hLi
              rw [r3, e1, getD_set (by omega), if_pos rfl]
              rfl
            have li : (hSetLi r h (hLi r h - hAdd s who (nI h))).2.2.1 = s.2.2.1 := by
              show r.2.2.1.set h (hLi r h - hAdd s who (nI h)) = s.2.2.1
              rw [r3, e1, hlr]
              refine set_back ll (by omega) ?_
              rw [Int32.add_sub_cancel]
              rfl
            have l2 : (hSetLi r h (hLi r h - hAdd s who (nI h))).1 = s.1 := by
              show r.1 = s.1
              rw [r2, es1]
              rfl
            have ch : ∀ i, i < who → hCh (hSetLi r h (hLi r h - hAdd s who (nI h))) i = hCh s i := fun i hi => by
              show hCh r i = hCh s i
              rw [r4 i (by omega), es1]
              show (s.2.1.set who (nI h)).getD i 0 = s.2.1.getD i 0
              rw [getD_set (by rw [hs.2.1]; exact w8), if_neg (by omega)]
            have hsx : hOK (hSetLi r h (hLi r h - hAdd s who (nI h))) := hokr.l
            have hCx : Cst ct nw t who B (hSetLi r h (hLi r h - hAdd s who (nI h))) := by
              refine ⟨fun i j a1 a2 => ?_, fun i hi => ?_, fun g hg => ?_⟩
              · unfold hL2; rw [l2]; exact hC.1 i j a1 a2
              · rw [ch i hi]; exact hC.2.1 i hi
              · show (hSetLi r h (hLi r h - hAdd s who (nI h))).2.2.1.getD g 0 = _
                rw [li]; exact hC.2.2 g hg
            rw [eSt]
            obtain ⟨t1, t2, t3, t4⟩ := ik (h + 1) (hSetLi r h (hLi r h - hAdd s who (nI h))) _ (by omega) hsx hCx (show Rh ct (hSetLi r h (hLi r h - hAdd s who (nI h))) _ from r1)
            exact ⟨t1, t2.trans l2, t3.trans li, fun i hi => (t4 i hi).trans (ch i hi)⟩
    exact key (cHs ct) 0 s b (Nat.zero_add _) hs hC hR
theorem hTwos_at (hs : hOK s) : (∀ i j, i < j → j < 8 → hL2 (hTwos m t s) (i * 8 + j) = mL2 m i j t) := by
  have inn : ∀ (i : Nat), i < 8 → ∀ (s : am_Hs), hOK s → hOK (hTw1 m t i s) ∧ ∀ q, hL2 (hTw1 m t i s) q = if i * 8 + i < q ∧ q < i * 8 + 8 then mL2 m i (q - i * 8) t else hL2 s q := fun i hi s hs => by
    refine ⟨hTw1_ok hs, ?_⟩
    have := am_for_inv (f := hTw2 m t i) (fun j (r : am_Hs) => hOK r ∧ ∀ q, hL2 r q = if i * 8 + i < q ∧ q < i * 8 + j then mL2 m i (q - i * 8) t else hL2 s q) (7 - i) (i + 1) s ⟨hs, fun q => by rw [if_neg (by omega)]⟩ (fun j r h1 h2 ⟨hr, hq⟩ => by
      refine ⟨hr.p, fun q => ?_⟩
      have e : hL2 (hTw2 m t i j r) q = if i * 8 + j = q then mL2 m i j t else hL2 r q := getD_set (by rw [hr.1]; omega)
      rw [e, hq q]
      by_cases w : i * 8 + j = q
      · rw [if_pos w, if_pos (by omega), show q - i * 8 = j from by omega]
      · rw [if_neg w]
        by_cases w2 : i * 8 + i < q ∧ q < i * 8 + j
        · rw [if_pos w2, if_pos (by omega)]
        · rw [if_neg w2, if_neg (by omega)])
    intro q
    rw [show hTw1 m t i s = am_for (hTw2 m t i) (i + 1) (7 - i) s from rfl, this.2 q, show i + 1 + (7 - i) = 8 from by omega]
  have out := am_for_inv (f := hTw1 m t) (fun k (r : am_Hs) => hOK r ∧ ∀ i j, i < k → i < j → j < 8 → hL2 r (i * 8 + j) = mL2 m i j t) 8 0 s ⟨hs, fun i j h => absurd h (Nat.not_lt_zero i)⟩ (fun k r h1 h2 ⟨hr, hq⟩ => by
    obtain ⟨a1, a2⟩ := inn k (by omega) r hr
    refine ⟨a1, fun i j hi hij hj => ?_⟩
    rw [a2]
    by_cases e : i = k
    · subst e
      rw [if_pos (by omega), show i * 8 + j - i * 8 = j from by omega]
    · rw [if_neg (by omega)]
      exact hq i j (by omega) hij hj)
  intro i j hij hj
  exact out.2 i j (by omega) hij hj
theorem hSearch_flat (hW : Wok ct) (hN : Nm ct nw) (hH : 0 < cHs ct) (hs : hOK s) {hr : Nat} : Rh ct (hSearch ct nw hr s) (am_for (FH (litK ct nw (cTalk ct nw hr)) (mvK ct nw)) 0 (cHs ct ^ cPp ct) (-1, 0, 0)) := by
  have h2 := hTwos_ok (m := nw) (t := cTalk ct nw hr) hs
  have hT := hTwos_at (m := nw) (t := cTalk ct nw hr) hs
  unfold hSearch
  obtain ⟨T, eT⟩ : ∃ T, T = cTalk ct nw hr := ⟨_, rfl⟩
  rw [← eT] at h2 hT ⊢
  obtain ⟨X, eX⟩ : ∃ X, X = hTwos nw T s := ⟨_, rfl⟩
  rw [← eX] at h2 hT ⊢
  have hC : Cst ct nw T 0 0 (hBegin X) := by
    refine ⟨fun i j a b => hT i j a b, fun i hi => absurd hi (Nat.not_lt_zero i), fun h h5 => ?_⟩
    show (List.replicate 5 (0 : Int32)).getD h 0 = 0
    have tab : ∀ h, h < 5 → (List.replicate 5 (0 : Int32)).getD h 0 = 0 := by decide
    exact tab h h5
  have := (hs_flat (t := T) hW hN hH (cPp ct) 0 0 (hBegin X) 0 (-1, 0, 0) (Nat.zero_add _) rfl (by decide) (hBegin_ok h2) hC ⟨rfl, Or.inl rfl⟩).1
  rw [Nat.zero_mul] at this
  exact this
end HMB
