/-! TALK: the search over rows of subjects -/
abbrev am_Tk : Type := List Int32 × List Int32 × Int32
def kOK (r : am_Tk) : Prop := r.1.length = 4 ∧ r.2.1.length = 4
def kObj (k : Nat) (r : am_Tk) : Nat × List Value := (4, [.ref (k + 1), .ref (k + 2), .ref (k + 3), .int r.2.2])
def kSteps (k : Nat) : List (Option Nat) := [some (k + 4), some (k + 10), some (k + 16), some (k + 22), some (k + 28)]
def wK0 (hp : am_H) (k : Nat) (r : am_Tk) : am_H := ((hp.set k (.inr (.inr (kObj k r)))).set (k + 2) (.inl r.1)).set (k + 3) (.inl r.2.1)
def wK (hp : am_H) (k : Nat) (ms : Nat → am_Mo) (r : am_Tk) : am_H := wMs (wK0 hp k r) (k + 4) 5 ms
/-- where a search for talks lies: its steps are never changed -/
def okK (hp : am_H) (k : Nat) : Prop := am_rar hp (k + 1) = some (kSteps k) ∧ k + 33 < hp.length
def kSetRow (r : am_Tk) (i : Nat) (x : Int32) : am_Tk := (r.1.set i x, r.2)
section TLK
variable {hp : am_H} {k i : Nat} {ms : Nat → am_Mo} {r : am_Tk} {x : Int32}
theorem wK_len : (wK hp k ms r).length = hp.length := by rw [wK, wMs_len]; simp [wK0]
theorem wK_get {q : Nat} (h : q < k ∨ k + 33 < q ∨ q = k + 1) : (wK hp k ms r)[q]? = hp[q]? := by
  rw [wK, wMs_get (by omega)]
  unfold wK0
  rw [List.getElem?_set_ne (by omega), List.getElem?_set_ne (by omega), List.getElem?_set_ne (by omega)]
theorem wK_obj (h : okK hp k) : am_obj (wK hp k ms r) k = some (kObj k r) := by
  have l0 : k < hp.length := by have := h.2; omega
  rw [wK, wMs_obj (by omega)]
  simp [am_obj, wK0, List.getElem?_set, l0]
theorem wK_row (h : okK hp k) : am_arr (wK hp k ms r) (k + 2) = some r.1 := by
  have l0 : k + 2 < hp.length := by have := h.2; omega
  rw [wK, wMs_arr (by omega)]
  simp [am_arr, wK0, List.getElem?_set, l0]
theorem wK_best (h : okK hp k) : am_arr (wK hp k ms r) (k + 3) = some r.2.1 := by
  have l0 : k + 3 < hp.length := by have := h.2; omega
  rw [wK, wMs_arr (by omega)]
  simp [am_arr, wK0, List.getElem?_set, l0]
theorem wK_steps (h : okK hp k) : am_rar (wK hp k ms r) (k + 1) = some (kSteps k) := by
  unfold am_rar
  rw [wK_get (by omega)]
  exact h.1
theorem wK_ldr (h : okK hp k) (hi : i < 5) : am_lr (wK hp k ms r) (k + 1) (nI i) = some (k + 4 + 6 * i) := by
  unfold am_lr
  rw [wK_steps h]
  dsimp only
  rw [show (kSteps k).length = 5 from rfl, am_ix_nI hi (by decide)]
  dsimp only
  match i, hi with
  | 0, _ => rfl
  | 1, _ => rfl
  | 2, _ => rfl
  | 3, _ => rfl
  | 4, _ => rfl
theorem wK_M (hi : i < 5) (h : okK hp k) (hm : mOK (ms i)) : isM (wK hp k ms r) (k + 4 + 6 * i) (ms i) := wMs_at hi (by have := h.2; simp [wK0]; omega) hm
theorem wK_wM {m : am_Mo} (hi : i < 5) : wM (wK hp k ms r) (k + 4 + 6 * i) m = wK hp k (updM ms i m) r := wMs_set hi
theorem wK_sR (h : okK hp k) (hr : kOK r) (hi : i < 4) : am_sx (wK hp k ms r) (k + 2) (nI i) x = some (wK hp k ms (kSetRow r i x)) := by
  rw [am_sx_nI ⟨wK_row h, hr.1⟩ hi (by decide), wK, wMs_setN (by omega)]
  unfold wK0
  rw [List.set_comm _ _ (show k + 3 ≠ k + 2 by omega), List.set_set]
  rfl
theorem wK_pM (h : okK hp k) : am_pf (wK hp k ms r) k 4 3 (.int x) = some (wK hp k ms (r.1, r.2.1, x)) := by
  rw [am_pf_of (wK_obj h) (show _ < 4 by decide), wK, wMs_setN (by omega)]
  unfold wK0
  rw [List.set_comm _ _ (show k + 3 ≠ k by omega), List.set_comm _ _ (show k + 2 ≠ k by omega), List.set_set]
  rfl
theorem wK_cp (h : okK hp k) (hr : kOK r) : am_cp (wK hp k ms r) (k + 2) 0 (k + 3) 0 4 = some (wK hp k ms (r.1, r.1, r.2.2)) := by
  rw [am_cp8 (x := 4) (n := 4) rfl ⟨wK_row h, hr.1⟩ ⟨wK_best h, hr.2⟩ (by decide), wK, wMs_setN (by omega)]
  unfold wK0
  rw [List.set_set]
  rfl
end TLK
def kWeigh (had : Int32) (r : am_Tk) : am_Tk := if r.2.2 < had then (r.1, r.1, had) else r
theorem kWeigh_ok {had : Int32} {r : am_Tk} (h : kOK r) : kOK (kWeigh had r) := by
  unfold kWeigh
  split
  · exact ⟨h.1, h.1⟩
  · exact h
theorem s_kweigh {d k : Nat} {hp : am_H} {ms : Nat → am_Mo} {r : am_Tk} {had : Int32} (h : okK hp k) (hr : kOK r) : am_E d 37 0 [some (.ref k), some (.int had)] [] (wK hp k ms r) = some (none, wK hp k ms (kWeigh had r)) := by
  have f3 : am_fld (wK hp k ms r) k 4 3 = some (.int r.2.2) := am_fld_of (wK_obj h)
  have o2 : kOK (r.1, r.2.1, had) := hr
  have f1 : am_fld (wK hp k ms (r.1, r.2.1, had)) k 4 1 = some (.ref (k + 2)) := am_fld_of (wK_obj h)
  have f2 : am_fld (wK hp k ms (r.1, r.2.1, had)) k 4 2 = some (.ref (k + 3)) := am_fld_of (wK_obj h)
  simp (disch := first | exact nl_int | exact nl_ref | exact nl_none | exact Nat.le_of_ble_eq_true rfl | assumption | exact cat_int | exact cat_ref | exact z2 | exact z4 | exact z3 | exact z5 | exact z6 | exact z8 | exact z64) only [e_37_0, e_37_1, e_37_2, e_37_5, e_37_8, e_37_9, e_37_10, e_37_13, e_37_14, e_37_17, e_37_18, e_37_19, e_37_22, e_37_23, e_37_24, e_37_27, nl_int, nl_ref, nl_none, cat_int, cat_ref, cat_0, cat_i, cat_r, cat_l, Option.elim_some, Option.elim_none, Option.bind_some, Option.bind_none, Option.toList_some, Option.toList_none, List.cons_append, List.nil_append, Nat.reduceAdd, Nat.reduceLeDiff, f3, wK_pM h, f1, f2, wK_cp h o2]
  unfold kWeigh
  split <;> rfl
