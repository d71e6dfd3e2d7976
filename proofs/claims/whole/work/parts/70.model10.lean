/-! THE REFERENCE: hours that go by -/
theorem and_small {a : Nat} (x : Int32) (ha : a < 32) : ∃ c, c < 32 ∧ nI a &&& x = nI c := by
  have e : x = nI x.toBitVec.toNat := by
    apply Int32.toBitVec_inj.mp
    show x.toBitVec = BitVec.ofNat 32 x.toBitVec.toNat
    rw [BitVec.ofNat_toNat, BitVec.setWidth_eq]
  refine ⟨a &&& x.toBitVec.toNat, Nat.lt_of_le_of_lt Nat.and_le_left ha, ?_⟩
  rw [← nIa, ← e]
/-- what is so of every city that was read -/
def Nc (ct : am_Ci) : Prop := (∀ k, k < cTd ct → ∃ s, s < 32 ∧ cSj ct k = nI s) ∧ cTd ct ≤ 8 ∧ 0 < cPp ct
theorem cTalk_nI {ct : am_Ci} {m : am_Mo} {hr : Nat} (h : Nc ct) : ∃ c, c < 32 ∧ cTalk ct m hr = nI c := by
  unfold cTalk
  by_cases q : cTd ct = 0
  · rw [if_pos q]
    exact and_small (a := 31) _ (by decide)
  · rw [if_neg q]
    obtain ⟨s, hs, es⟩ := h.1 (hr % cTd ct) (Nat.mod_lt _ (by omega))
    rw [es]
    exact and_small _ hs
theorem for_shift {σ : Type} {f g : Nat → σ → σ} (h : ∀ i s, f (i + 1) s = g i s) : ∀ (n j : Nat) (s : σ), am_for f (j + 1) n s = am_for g j n s := by
  intro n
  induction n with
  | zero => intro j s; rfl
  | succ n ih => intro j s; rw [am_for, am_for, ih, h]
theorem goF_s {ct : am_Ci} {hr i : Nat} {s : am_Mo} : goF ct hr (i + 1) s = goF ct (hr + 1) i s := by
  unfold goF
  rw [show hr + (i + 1) = hr + 1 + i from by omega]
theorem mOn_step {ct : am_Ci} {hr n : Nat} {m : am_Mo} : mOn ct hr (n + 1) m = mOn ct (hr + 1) n (mGo m (cTalk ct m hr)) := by
  have e : goF ct hr 0 m = mGo m (cTalk ct m hr) := by unfold goF; rw [Nat.add_zero]
  rw [← e]
  unfold mOn
  rw [am_for]
  exact for_shift (fun i s => goF_s) n 0 _
section MDA
variable {d : Nat} {hp : am_H} {I : Nat → Int32} {ct : am_Ci} {N : Nat}
theorem s7_goesOn (hl : 154 < hp.length) (hc : Nc ct) (hN9 : N ≤ 1000) : ∀ n j hr A (nw : am_Mo), j + n = N → hr + n ≤ 5000 → aOK A → Rl ct nw hr (A 0) (A 1) → Nm ct nw → mOK nw → ∃ A2, aOK A2 ∧ Rl ct (mOn ct hr n nw) (hr + n) (A2 0) (A2 1) ∧ Nm ct (mOn ct hr n nw) ∧ (∀ k, k ≠ 1 → k ≠ 6 → A2 k = A k) ∧ am_E (d + 5) 119 2 [some (.ref 141), some (.int (nI N)), some (.int (nI j))] [] (wD hp I A) = some (none, wD hp I A2) := by
  intro n
  induction n with
  | zero =>
    intro j hr A nw hj hb hA hR hN hm
    refine ⟨A, hA, hR, hN, fun _ _ _ => rfl, ?_⟩
    rw [e_119_2]
    simp (disch := first | exact nl_int | exact nl_ref | exact nl_none | exact Nat.le_of_ble_eq_true rfl | assumption | exact cat_int | exact cat_ref | exact z2 | exact z4 | exact z3 | exact z5 | exact z6 | exact z8 | exact z64) only [e_119_0, e_119_1, e_119_3, e_119_4, e_119_7, e_119_8, e_119_9, e_119_12, e_119_15, e_119_18, e_119_21, nl_int, nl_ref, nl_none, cat_int, cat_ref, cat_0, cat_i, cat_r, cat_l, Option.elim_some, Option.elim_none, Option.bind_some, Option.bind_none, Option.toList_some, Option.toList_none, List.cons_append, List.nil_append, Nat.reduceAdd, Nat.reduceLeDiff, ltF (x := nI N) (c := N) rfl (show N ≤ j by omega) (by omega), if_false]
  | succ n ih =>
    intro j hr A nw hj hb hA hR hN hm
    have hcl := wD_cl (I := I) (A := A) hl
    obtain ⟨tt, h32, et⟩ := cTalk_nI (m := nw) (hr := hr) hc
    have tk := s7_talkedOf (d := d + 4) (I := I) hl hA hR hc.2.1 (by omega)
    obtain ⟨A1, a1, r1, n1, k1, e1⟩ := s7_goesBy (d := d) (I := I) hl hA hR hN hm h32
    rw [← et] at r1 n1 e1
    have em := mOn_step (ct := ct) (hr := hr) (n := n) (m := nw)
    obtain ⟨A2, a2, r2, n2, k2, e2⟩ := ih (j + 1) (hr + 1) A1 (mGo nw (cTalk ct nw hr)) (by omega) (by omega) a1 r1 n1 (mGo_ok hm)
    refine ⟨A2, a2, by rw [em, show hr + (n + 1) = hr + 1 + n from by omega]; exact r2, by rw [em]; exact n2, fun k q1 q6 => (k2 k q1 q6).trans (k1 k q1 q6), ?_⟩
    rw [e_119_2]
    simp (disch := first | exact nl_int | exact nl_ref | exact nl_none | exact Nat.le_of_ble_eq_true rfl | assumption | exact cat_int | exact cat_ref | exact z2 | exact z4 | exact z3 | exact z5 | exact z6 | exact z8 | exact z64) only [e_119_0, e_119_1, e_119_3, e_119_4, e_119_7, e_119_8, e_119_9, e_119_12, e_119_15, e_119_18, e_119_21, nl_int, nl_ref, nl_none, cat_int, cat_ref, cat_0, cat_i, cat_r, cat_l, Option.elim_some, Option.elim_none, Option.bind_some, Option.bind_none, Option.toList_some, Option.toList_none, List.cons_append, List.nil_append, Nat.reduceAdd, Nat.reduceLeDiff, ltT (x := nI N) (c := N) rfl (show j < N by omega) (by omega), if_true, tk, e1, nI_1, e2]
end MDA
