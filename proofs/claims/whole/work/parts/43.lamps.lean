/-! THE CITY'S OWN STATE: object 0 and what hangs on it -/
theorem isX_get {hp hp2 : am_H} {x : Nat} {t : am_Tx} (h : isX hp x t) (hg : ∀ b, x ≤ b → b ≤ x + 2 → hp2[b]? = hp[b]?) : isX hp2 x t := by
  have ha : ∀ b, x ≤ b → b ≤ x + 2 → am_arr hp2 b = am_arr hp b := fun b h1 h2 => by unfold am_arr; rw [hg b h1 h2]
  have ho : am_obj hp2 x = am_obj hp x := by unfold am_obj; rw [hg x (by omega) (by omega)]
  exact ⟨ho.trans h.1, (ha _ (by omega) (by omega)).trans h.2.1, (ha _ (by omega) (by omega)).trans h.2.2.1, h.2.2.2⟩
theorem isH_get {hp hp2 : am_H} {k : Nat} {s : am_Hs} (h : isH hp k s) (hg : ∀ b, k ≤ b → b ≤ k + 4 → hp2[b]? = hp[b]?) : isH hp2 k s := by
  have ha : ∀ b, k ≤ b → b ≤ k + 4 → am_arr hp2 b = am_arr hp b := fun b h1 h2 => by unfold am_arr; rw [hg b h1 h2]
  have ho : am_obj hp2 k = am_obj hp k := by unfold am_obj; rw [hg k (by omega) (by omega)]
  exact ⟨ho.trans h.1, (ha _ (by omega) (by omega)).trans h.2.1, (ha _ (by omega) (by omega)).trans h.2.2.1, (ha _ (by omega) (by omega)).trans h.2.2.2.1, (ha _ (by omega) (by omega)).trans h.2.2.2.2.1, h.2.2.2.2.2⟩
def isK (hp : am_H) (k : Nat) (ms : Nat → am_Mo) (r : am_Tk) : Prop := okK hp k ∧ am_obj hp k = some (kObj k r) ∧ am_arr hp (k + 2) = some r.1 ∧ am_arr hp (k + 3) = some r.2.1 ∧ kOK r ∧ ∀ i, i < 5 → isM hp (k + 4 + 6 * i) (ms i)
theorem isK_get {hp hp2 : am_H} {k : Nat} {ms : Nat → am_Mo} {r : am_Tk} (h : isK hp k ms r) (hl : hp2.length = hp.length) (hg : ∀ b, k ≤ b → b ≤ k + 33 → hp2[b]? = hp[b]?) : isK hp2 k ms r := by
  have ha : ∀ b, k ≤ b → b ≤ k + 33 → am_arr hp2 b = am_arr hp b := fun b h1 h2 => by unfold am_arr; rw [hg b h1 h2]
  have ho : am_obj hp2 k = am_obj hp k := by unfold am_obj; rw [hg k (by omega) (by omega)]
  refine ⟨⟨?_, by rw [hl]; exact h.1.2⟩, ho.trans h.2.1, (ha _ (by omega) (by omega)).trans h.2.2.1, (ha _ (by omega) (by omega)).trans h.2.2.2.1, h.2.2.2.2.1, fun i hi => isM_get (h.2.2.2.2.2 i hi) (fun b h1 h2 => hg b (by omega) (by omega))⟩
  unfold am_rar
  rw [hg (k + 1) (by omega) (by omega)]
  exact h.1.1
theorem wMs_self {hp : am_H} {b : Nat} {ms : Nat → am_Mo} : ∀ {n : Nat}, (∀ i, i < n → isM hp (b + 6 * i) (ms i)) → wMs hp b n ms = hp := by
  intro n
  induction n with
  | zero => intro _; rfl
  | succ n ih => intro h; rw [wMs, ih (fun i hi => h i (by omega)), wM_self (h n (by omega))]
theorem wK_self {hp : am_H} {k : Nat} {ms : Nat → am_Mo} {r : am_Tk} (h : isK hp k ms r) : wK hp k ms r = hp := by
  have e : wK0 hp k r = hp := by
    unfold wK0
    rw [set_self (am_obj_get h.2.1), set_self (am_arr_get h.2.2.1), set_self (am_arr_get h.2.2.2.1)]
  rw [wK, e, wMs_self h.2.2.2.2.2]
theorem isK_wK {hp : am_H} {k : Nat} {ms : Nat → am_Mo} {r : am_Tk} (h : okK hp k) (hr : kOK r) (hm : ∀ i, i < 5 → mOK (ms i)) : isK (wK hp k ms r) k ms r := ⟨⟨wK_steps h, by rw [wK_len]; exact h.2⟩, wK_obj h, wK_row h, wK_best h, hr, fun i hi => wK_M hi h (hm i hi)⟩
def lObj (cB kc sc : Nat) : Nat × List Value := (6, [.ref 1, .ref cB, .ref (18 - cB), .ref 24, .ref 30, .ref 36, .ref 86, .int (nI kc), .ref 87, .ref 88, .int (nI sc), .ref 89, .ref 94, .ref 128])
def St1 (hp : am_H) (cB : Nat) (dr : am_Ci) (lt : am_Mo) (hs : am_Hs) (tm : Nat → am_Mo) (tk : am_Tk) (sp : List Int32) (tx : am_Tx) (ct : am_Ci) (nw : am_Mo) (pm : Nat → am_Mo) (pn ph : Nat) (km : Nat → am_Mo) (kc : Nat) (sH sL : List Int32) (sc : Nat) : Prop :=
  (cB = 4 ∨ cB = 14) ∧ am_obj hp 0 = some (lObj cB kc sc) ∧ isX hp 1 tx ∧ isCt hp cB ct ∧ isCt hp (18 - cB) dr ∧ isM hp 24 nw ∧ isM hp 30 lt ∧ isP hp 36 pm pn ph ∧ (am_rar hp 86 = some [some 129, some 135] ∧ isM hp 129 (km 0) ∧ isM hp 135 (km 1)) ∧ ((am_arr hp 87 = some sH ∧ sH.length = 8) ∧ (am_arr hp 88 = some sL ∧ sL.length = 8)) ∧ isH hp 89 hs ∧ isK hp 94 tm tk ∧ (am_arr hp 128 = some sp ∧ sp.length = 8) ∧ kc ≤ 2 ∧ sc ≤ 8 ∧ 141 ≤ hp.length
/-- what a caller sees: the searches' scratch is left open -/
def St (hp : am_H) (tx : am_Tx) (ct : am_Ci) (nw : am_Mo) (pm : Nat → am_Mo) (pn ph : Nat) (km : Nat → am_Mo) (kc : Nat) (sH sL : List Int32) (sc : Nat) : Prop := ∃ cB dr lt hs tm tk sp, St1 hp cB dr lt hs tm tk sp tx ct nw pm pn ph km kc sH sL sc
/-- the other cells stay -/
def Fr (hp hp2 : am_H) : Prop := hp2.length = hp.length ∧ ∀ b, 141 ≤ b → hp2[b]? = hp[b]?
theorem Fr.rfl' {hp : am_H} : Fr hp hp := ⟨rfl, fun _ _ => rfl⟩
theorem Fr.trans {hp hp2 hp3 : am_H} (h : Fr hp hp2) (g : Fr hp2 hp3) : Fr hp hp3 := ⟨g.1.trans h.1, fun b hb => (g.2 b hb).trans (h.2 b hb)⟩
section LMP
variable {hp hp2 : am_H} {cB : Nat} {dr : am_Ci} {lt : am_Mo} {hs : am_Hs} {tm : Nat → am_Mo} {tk : am_Tk} {sp : List Int32} {tx : am_Tx} {ct : am_Ci} {nw : am_Mo} {pm : Nat → am_Mo} {pn ph : Nat} {km : Nat → am_Mo} {kc : Nat} {sH sL : List Int32} {sc : Nat}
theorem St1.qB (h : St1 hp cB dr lt hs tm tk sp tx ct nw pm pn ph km kc sH sL sc) : cB = 4 ∨ cB = 14 := h.1
theorem St1.qo (h : St1 hp cB dr lt hs tm tk sp tx ct nw pm pn ph km kc sH sL sc) : am_obj hp 0 = some (lObj cB kc sc) := h.2.1
theorem St1.qx (h : St1 hp cB dr lt hs tm tk sp tx ct nw pm pn ph km kc sH sL sc) : isX hp 1 tx := h.2.2.1
theorem St1.qc (h : St1 hp cB dr lt hs tm tk sp tx ct nw pm pn ph km kc sH sL sc) : isCt hp cB ct := h.2.2.2.1
theorem St1.qdr (h : St1 hp cB dr lt hs tm tk sp tx ct nw pm pn ph km kc sH sL sc) : isCt hp (18 - cB) dr := h.2.2.2.2.1
theorem St1.qn (h : St1 hp cB dr lt hs tm tk sp tx ct nw pm pn ph km kc sH sL sc) : isM hp 24 nw := h.2.2.2.2.2.1
theorem St1.ql (h : St1 hp cB dr lt hs tm tk sp tx ct nw pm pn ph km kc sH sL sc) : isM hp 30 lt := h.2.2.2.2.2.2.1
theorem St1.qp (h : St1 hp cB dr lt hs tm tk sp tx ct nw pm pn ph km kc sH sL sc) : isP hp 36 pm pn ph := h.2.2.2.2.2.2.2.1
theorem St1.qk (h : St1 hp cB dr lt hs tm tk sp tx ct nw pm pn ph km kc sH sL sc) : am_rar hp 86 = some [some 129, some 135] ∧ isM hp 129 (km 0) ∧ isM hp 135 (km 1) := h.2.2.2.2.2.2.2.2.1
theorem St1.qs (h : St1 hp cB dr lt hs tm tk sp tx ct nw pm pn ph km kc sH sL sc) : (am_arr hp 87 = some sH ∧ sH.length = 8) ∧ (am_arr hp 88 = some sL ∧ sL.length = 8) := h.2.2.2.2.2.2.2.2.2.1
theorem St1.qh (h : St1 hp cB dr lt hs tm tk sp tx ct nw pm pn ph km kc sH sL sc) : isH hp 89 hs := h.2.2.2.2.2.2.2.2.2.2.1
theorem St1.qt (h : St1 hp cB dr lt hs tm tk sp tx ct nw pm pn ph km kc sH sL sc) : isK hp 94 tm tk := h.2.2.2.2.2.2.2.2.2.2.2.1
theorem St1.qsp (h : St1 hp cB dr lt hs tm tk sp tx ct nw pm pn ph km kc sH sL sc) : am_arr hp 128 = some sp ∧ sp.length = 8 := h.2.2.2.2.2.2.2.2.2.2.2.2.1
theorem St1.qkc (h : St1 hp cB dr lt hs tm tk sp tx ct nw pm pn ph km kc sH sL sc) : kc ≤ 2 := h.2.2.2.2.2.2.2.2.2.2.2.2.2.1
theorem St1.qsc (h : St1 hp cB dr lt hs tm tk sp tx ct nw pm pn ph km kc sH sL sc) : sc ≤ 8 := h.2.2.2.2.2.2.2.2.2.2.2.2.2.2.1
theorem St1.qlen (h : St1 hp cB dr lt hs tm tk sp tx ct nw pm pn ph km kc sH sL sc) : 141 ≤ hp.length := h.2.2.2.2.2.2.2.2.2.2.2.2.2.2.2
theorem St1.f0 (h : St1 hp cB dr lt hs tm tk sp tx ct nw pm pn ph km kc sH sL sc) : am_fld hp 0 6 0 = some (.ref 1) := am_fld_of h.qo
theorem St1.f1 (h : St1 hp cB dr lt hs tm tk sp tx ct nw pm pn ph km kc sH sL sc) : am_fld hp 0 6 1 = some (.ref cB) := am_fld_of h.qo
theorem St1.f2 (h : St1 hp cB dr lt hs tm tk sp tx ct nw pm pn ph km kc sH sL sc) : am_fld hp 0 6 2 = some (.ref (18 - cB)) := am_fld_of h.qo
theorem St1.f3 (h : St1 hp cB dr lt hs tm tk sp tx ct nw pm pn ph km kc sH sL sc) : am_fld hp 0 6 3 = some (.ref 24) := am_fld_of h.qo
theorem St1.f4 (h : St1 hp cB dr lt hs tm tk sp tx ct nw pm pn ph km kc sH sL sc) : am_fld hp 0 6 4 = some (.ref 30) := am_fld_of h.qo
theorem St1.f5 (h : St1 hp cB dr lt hs tm tk sp tx ct nw pm pn ph km kc sH sL sc) : am_fld hp 0 6 5 = some (.ref 36) := am_fld_of h.qo
theorem St1.f6 (h : St1 hp cB dr lt hs tm tk sp tx ct nw pm pn ph km kc sH sL sc) : am_fld hp 0 6 6 = some (.ref 86) := am_fld_of h.qo
theorem St1.f7 (h : St1 hp cB dr lt hs tm tk sp tx ct nw pm pn ph km kc sH sL sc) : am_fld hp 0 6 7 = some (.int (nI kc)) := am_fld_of h.qo
theorem St1.f8 (h : St1 hp cB dr lt hs tm tk sp tx ct nw pm pn ph km kc sH sL sc) : am_fld hp 0 6 8 = some (.ref 87) := am_fld_of h.qo
theorem St1.f9 (h : St1 hp cB dr lt hs tm tk sp tx ct nw pm pn ph km kc sH sL sc) : am_fld hp 0 6 9 = some (.ref 88) := am_fld_of h.qo
theorem St1.f10 (h : St1 hp cB dr lt hs tm tk sp tx ct nw pm pn ph km kc sH sL sc) : am_fld hp 0 6 10 = some (.int (nI sc)) := am_fld_of h.qo
theorem St1.f11 (h : St1 hp cB dr lt hs tm tk sp tx ct nw pm pn ph km kc sH sL sc) : am_fld hp 0 6 11 = some (.ref 89) := am_fld_of h.qo
theorem St1.f12 (h : St1 hp cB dr lt hs tm tk sp tx ct nw pm pn ph km kc sH sL sc) : am_fld hp 0 6 12 = some (.ref 94) := am_fld_of h.qo
theorem St1.f13 (h : St1 hp cB dr lt hs tm tk sp tx ct nw pm pn ph km kc sH sL sc) : am_fld hp 0 6 13 = some (.ref 128) := am_fld_of h.qo
theorem St1.cl (h : St1 hp cB dr lt hs tm tk sp tx ct nw pm pn ph km kc sH sL sc) : am_isC hp 0 6 = true := am_isC_of h.qo
theorem St1_n {m : am_Mo} (h : St1 hp cB dr lt hs tm tk sp tx ct nw pm pn ph km kc sH sL sc) (hl : hp2.length = hp.length) (hg : ∀ b, b < 24 ∨ 29 < b → hp2[b]? = hp[b]?) (hm : isM hp2 24 m) : St1 hp2 cB dr lt hs tm tk sp tx ct m pm pn ph km kc sH sL sc := by
  have hB := h.qB
  exact ⟨h.qB, (show am_obj hp2 0 = am_obj hp 0 by unfold am_obj; rw [hg 0 (by omega)]).trans h.qo, isX_get h.qx (fun b _ _ => hg b (by omega)), isCt_get h.qc (fun b _ _ => hg b (by omega)), isCt_get h.qdr (fun b _ _ => hg b (by omega)), hm, isM_get h.ql (fun b _ _ => hg b (by omega)), isP_get h.qp (fun b _ _ => hg b (by omega)), ⟨(show am_rar hp2 86 = am_rar hp 86 by unfold am_rar; rw [hg 86 (by omega)]).trans h.qk.1, isM_get h.qk.2.1 (fun b _ _ => hg b (by omega)), isM_get h.qk.2.2 (fun b _ _ => hg b (by omega))⟩, ⟨⟨(show am_arr hp2 87 = am_arr hp 87 by unfold am_arr; rw [hg 87 (by omega)]).trans h.qs.1.1, h.qs.1.2⟩, ⟨(show am_arr hp2 88 = am_arr hp 88 by unfold am_arr; rw [hg 88 (by omega)]).trans h.qs.2.1, h.qs.2.2⟩⟩, isH_get h.qh (fun b _ _ => hg b (by omega)), isK_get h.qt hl (fun b _ _ => hg b (by omega)), ⟨(show am_arr hp2 128 = am_arr hp 128 by unfold am_arr; rw [hg 128 (by omega)]).trans h.qsp.1, h.qsp.2⟩, h.qkc, h.qsc, by rw [hl]; exact h.qlen⟩
theorem St1_l {m : am_Mo} (h : St1 hp cB dr lt hs tm tk sp tx ct nw pm pn ph km kc sH sL sc) (hl : hp2.length = hp.length) (hg : ∀ b, b < 30 ∨ 35 < b → hp2[b]? = hp[b]?) (hm : isM hp2 30 m) : St1 hp2 cB dr m hs tm tk sp tx ct nw pm pn ph km kc sH sL sc := by
  have hB := h.qB
  exact ⟨h.qB, (show am_obj hp2 0 = am_obj hp 0 by unfold am_obj; rw [hg 0 (by omega)]).trans h.qo, isX_get h.qx (fun b _ _ => hg b (by omega)), isCt_get h.qc (fun b _ _ => hg b (by omega)), isCt_get h.qdr (fun b _ _ => hg b (by omega)), isM_get h.qn (fun b _ _ => hg b (by omega)), hm, isP_get h.qp (fun b _ _ => hg b (by omega)), ⟨(show am_rar hp2 86 = am_rar hp 86 by unfold am_rar; rw [hg 86 (by omega)]).trans h.qk.1, isM_get h.qk.2.1 (fun b _ _ => hg b (by omega)), isM_get h.qk.2.2 (fun b _ _ => hg b (by omega))⟩, ⟨⟨(show am_arr hp2 87 = am_arr hp 87 by unfold am_arr; rw [hg 87 (by omega)]).trans h.qs.1.1, h.qs.1.2⟩, ⟨(show am_arr hp2 88 = am_arr hp 88 by unfold am_arr; rw [hg 88 (by omega)]).trans h.qs.2.1, h.qs.2.2⟩⟩, isH_get h.qh (fun b _ _ => hg b (by omega)), isK_get h.qt hl (fun b _ _ => hg b (by omega)), ⟨(show am_arr hp2 128 = am_arr hp 128 by unfold am_arr; rw [hg 128 (by omega)]).trans h.qsp.1, h.qsp.2⟩, h.qkc, h.qsc, by rw [hl]; exact h.qlen⟩
theorem St1_x {t : am_Tx} (h : St1 hp cB dr lt hs tm tk sp tx ct nw pm pn ph km kc sH sL sc) (hl : hp2.length = hp.length) (hg : ∀ b, b < 1 ∨ 3 < b → hp2[b]? = hp[b]?) (hm : isX hp2 1 t) : St1 hp2 cB dr lt hs tm tk sp t ct nw pm pn ph km kc sH sL sc := by
  have hB := h.qB
  exact ⟨h.qB, (show am_obj hp2 0 = am_obj hp 0 by unfold am_obj; rw [hg 0 (by omega)]).trans h.qo, hm, isCt_get h.qc (fun b _ _ => hg b (by omega)), isCt_get h.qdr (fun b _ _ => hg b (by omega)), isM_get h.qn (fun b _ _ => hg b (by omega)), isM_get h.ql (fun b _ _ => hg b (by omega)), isP_get h.qp (fun b _ _ => hg b (by omega)), ⟨(show am_rar hp2 86 = am_rar hp 86 by unfold am_rar; rw [hg 86 (by omega)]).trans h.qk.1, isM_get h.qk.2.1 (fun b _ _ => hg b (by omega)), isM_get h.qk.2.2 (fun b _ _ => hg b (by omega))⟩, ⟨⟨(show am_arr hp2 87 = am_arr hp 87 by unfold am_arr; rw [hg 87 (by omega)]).trans h.qs.1.1, h.qs.1.2⟩, ⟨(show am_arr hp2 88 = am_arr hp 88 by unfold am_arr; rw [hg 88 (by omega)]).trans h.qs.2.1, h.qs.2.2⟩⟩, isH_get h.qh (fun b _ _ => hg b (by omega)), isK_get h.qt hl (fun b _ _ => hg b (by omega)), ⟨(show am_arr hp2 128 = am_arr hp 128 by unfold am_arr; rw [hg 128 (by omega)]).trans h.qsp.1, h.qsp.2⟩, h.qkc, h.qsc, by rw [hl]; exact h.qlen⟩
theorem St1_d {c : am_Ci} (h : St1 hp cB dr lt hs tm tk sp tx ct nw pm pn ph km kc sH sL sc) (hl : hp2.length = hp.length) (hg : ∀ b, b < (18 - cB) ∨ (18 - cB + 9) < b → hp2[b]? = hp[b]?) (hm : isCt hp2 (18 - cB) c) : St1 hp2 cB c lt hs tm tk sp tx ct nw pm pn ph km kc sH sL sc := by
  have hB := h.qB
  exact ⟨h.qB, (show am_obj hp2 0 = am_obj hp 0 by unfold am_obj; rw [hg 0 (by omega)]).trans h.qo, isX_get h.qx (fun b _ _ => hg b (by omega)), isCt_get h.qc (fun b _ _ => hg b (by omega)), hm, isM_get h.qn (fun b _ _ => hg b (by omega)), isM_get h.ql (fun b _ _ => hg b (by omega)), isP_get h.qp (fun b _ _ => hg b (by omega)), ⟨(show am_rar hp2 86 = am_rar hp 86 by unfold am_rar; rw [hg 86 (by omega)]).trans h.qk.1, isM_get h.qk.2.1 (fun b _ _ => hg b (by omega)), isM_get h.qk.2.2 (fun b _ _ => hg b (by omega))⟩, ⟨⟨(show am_arr hp2 87 = am_arr hp 87 by unfold am_arr; rw [hg 87 (by omega)]).trans h.qs.1.1, h.qs.1.2⟩, ⟨(show am_arr hp2 88 = am_arr hp 88 by unfold am_arr; rw [hg 88 (by omega)]).trans h.qs.2.1, h.qs.2.2⟩⟩, isH_get h.qh (fun b _ _ => hg b (by omega)), isK_get h.qt hl (fun b _ _ => hg b (by omega)), ⟨(show am_arr hp2 128 = am_arr hp 128 by unfold am_arr; rw [hg 128 (by omega)]).trans h.qsp.1, h.qsp.2⟩, h.qkc, h.qsc, by rw [hl]; exact h.qlen⟩
theorem St1_p {ms : Nat → am_Mo} {a b2 : Nat} (h : St1 hp cB dr lt hs tm tk sp tx ct nw pm pn ph km kc sH sL sc) (hl : hp2.length = hp.length) (hg : ∀ b, b < 36 ∨ 85 < b → hp2[b]? = hp[b]?) (hm : isP hp2 36 ms a b2) : St1 hp2 cB dr lt hs tm tk sp tx ct nw ms a b2 km kc sH sL sc := by
  have hB := h.qB
  exact ⟨h.qB, (show am_obj hp2 0 = am_obj hp 0 by unfold am_obj; rw [hg 0 (by omega)]).trans h.qo, isX_get h.qx (fun b _ _ => hg b (by omega)), isCt_get h.qc (fun b _ _ => hg b (by omega)), isCt_get h.qdr (fun b _ _ => hg b (by omega)), isM_get h.qn (fun b _ _ => hg b (by omega)), isM_get h.ql (fun b _ _ => hg b (by omega)), hm, ⟨(show am_rar hp2 86 = am_rar hp 86 by unfold am_rar; rw [hg 86 (by omega)]).trans h.qk.1, isM_get h.qk.2.1 (fun b _ _ => hg b (by omega)), isM_get h.qk.2.2 (fun b _ _ => hg b (by omega))⟩, ⟨⟨(show am_arr hp2 87 = am_arr hp 87 by unfold am_arr; rw [hg 87 (by omega)]).trans h.qs.1.1, h.qs.1.2⟩, ⟨(show am_arr hp2 88 = am_arr hp 88 by unfold am_arr; rw [hg 88 (by omega)]).trans h.qs.2.1, h.qs.2.2⟩⟩, isH_get h.qh (fun b _ _ => hg b (by omega)), isK_get h.qt hl (fun b _ _ => hg b (by omega)), ⟨(show am_arr hp2 128 = am_arr hp 128 by unfold am_arr; rw [hg 128 (by omega)]).trans h.qsp.1, h.qsp.2⟩, h.qkc, h.qsc, by rw [hl]; exact h.qlen⟩
theorem St1_h {s : am_Hs} (h : St1 hp cB dr lt hs tm tk sp tx ct nw pm pn ph km kc sH sL sc) (hl : hp2.length = hp.length) (hg : ∀ b, b < 89 ∨ 93 < b → hp2[b]? = hp[b]?) (hm : isH hp2 89 s) : St1 hp2 cB dr lt s tm tk sp tx ct nw pm pn ph km kc sH sL sc := by
  have hB := h.qB
  exact ⟨h.qB, (show am_obj hp2 0 = am_obj hp 0 by unfold am_obj; rw [hg 0 (by omega)]).trans h.qo, isX_get h.qx (fun b _ _ => hg b (by omega)), isCt_get h.qc (fun b _ _ => hg b (by omega)), isCt_get h.qdr (fun b _ _ => hg b (by omega)), isM_get h.qn (fun b _ _ => hg b (by omega)), isM_get h.ql (fun b _ _ => hg b (by omega)), isP_get h.qp (fun b _ _ => hg b (by omega)), ⟨(show am_rar hp2 86 = am_rar hp 86 by unfold am_rar; rw [hg 86 (by omega)]).trans h.qk.1, isM_get h.qk.2.1 (fun b _ _ => hg b (by omega)), isM_get h.qk.2.2 (fun b _ _ => hg b (by omega))⟩, ⟨⟨(show am_arr hp2 87 = am_arr hp 87 by unfold am_arr; rw [hg 87 (by omega)]).trans h.qs.1.1, h.qs.1.2⟩, ⟨(show am_arr hp2 88 = am_arr hp 88 by unfold am_arr; rw [hg 88 (by omega)]).trans h.qs.2.1, h.qs.2.2⟩⟩, hm, isK_get h.qt hl (fun b _ _ => hg b (by omega)), ⟨(show am_arr hp2 128 = am_arr hp 128 by unfold am_arr; rw [hg 128 (by omega)]).trans h.qsp.1, h.qsp.2⟩, h.qkc, h.qsc, by rw [hl]; exact h.qlen⟩
theorem St1_t {ms : Nat → am_Mo} {r : am_Tk} (h : St1 hp cB dr lt hs tm tk sp tx ct nw pm pn ph km kc sH sL sc) (hl : hp2.length = hp.length) (hg : ∀ b, b < 94 ∨ 127 < b → hp2[b]? = hp[b]?) (hm : isK hp2 94 ms r) : St1 hp2 cB dr lt hs ms r sp tx ct nw pm pn ph km kc sH sL sc := by
  have hB := h.qB
  exact ⟨h.qB, (show am_obj hp2 0 = am_obj hp 0 by unfold am_obj; rw [hg 0 (by omega)]).trans h.qo, isX_get h.qx (fun b _ _ => hg b (by omega)), isCt_get h.qc (fun b _ _ => hg b (by omega)), isCt_get h.qdr (fun b _ _ => hg b (by omega)), isM_get h.qn (fun b _ _ => hg b (by omega)), isM_get h.ql (fun b _ _ => hg b (by omega)), isP_get h.qp (fun b _ _ => hg b (by omega)), ⟨(show am_rar hp2 86 = am_rar hp 86 by unfold am_rar; rw [hg 86 (by omega)]).trans h.qk.1, isM_get h.qk.2.1 (fun b _ _ => hg b (by omega)), isM_get h.qk.2.2 (fun b _ _ => hg b (by omega))⟩, ⟨⟨(show am_arr hp2 87 = am_arr hp 87 by unfold am_arr; rw [hg 87 (by omega)]).trans h.qs.1.1, h.qs.1.2⟩, ⟨(show am_arr hp2 88 = am_arr hp 88 by unfold am_arr; rw [hg 88 (by omega)]).trans h.qs.2.1, h.qs.2.2⟩⟩, isH_get h.qh (fun b _ _ => hg b (by omega)), hm, ⟨(show am_arr hp2 128 = am_arr hp 128 by unfold am_arr; rw [hg 128 (by omega)]).trans h.qsp.1, h.qsp.2⟩, h.qkc, h.qsc, by rw [hl]; exact h.qlen⟩
theorem St1_sp {xs : List Int32} (h : St1 hp cB dr lt hs tm tk sp tx ct nw pm pn ph km kc sH sL sc) (hl : hp2.length = hp.length) (hg : ∀ b, b < 128 ∨ 128 < b → hp2[b]? = hp[b]?) (hm : am_arr hp2 128 = some xs ∧ xs.length = 8) : St1 hp2 cB dr lt hs tm tk xs tx ct nw pm pn ph km kc sH sL sc := by
  have hB := h.qB
  exact ⟨h.qB, (show am_obj hp2 0 = am_obj hp 0 by unfold am_obj; rw [hg 0 (by omega)]).trans h.qo, isX_get h.qx (fun b _ _ => hg b (by omega)), isCt_get h.qc (fun b _ _ => hg b (by omega)), isCt_get h.qdr (fun b _ _ => hg b (by omega)), isM_get h.qn (fun b _ _ => hg b (by omega)), isM_get h.ql (fun b _ _ => hg b (by omega)), isP_get h.qp (fun b _ _ => hg b (by omega)), ⟨(show am_rar hp2 86 = am_rar hp 86 by unfold am_rar; rw [hg 86 (by omega)]).trans h.qk.1, isM_get h.qk.2.1 (fun b _ _ => hg b (by omega)), isM_get h.qk.2.2 (fun b _ _ => hg b (by omega))⟩, ⟨⟨(show am_arr hp2 87 = am_arr hp 87 by unfold am_arr; rw [hg 87 (by omega)]).trans h.qs.1.1, h.qs.1.2⟩, ⟨(show am_arr hp2 88 = am_arr hp 88 by unfold am_arr; rw [hg 88 (by omega)]).trans h.qs.2.1, h.qs.2.2⟩⟩, isH_get h.qh (fun b _ _ => hg b (by omega)), isK_get h.qt hl (fun b _ _ => hg b (by omega)), hm, h.qkc, h.qsc, by rw [hl]; exact h.qlen⟩
theorem St1_s {xs ys : List Int32} (h : St1 hp cB dr lt hs tm tk sp tx ct nw pm pn ph km kc sH sL sc) (hl : hp2.length = hp.length) (hg : ∀ b, b < 87 ∨ 88 < b → hp2[b]? = hp[b]?) (h1 : am_arr hp2 87 = some xs ∧ xs.length = 8) (h2 : am_arr hp2 88 = some ys ∧ ys.length = 8) : St1 hp2 cB dr lt hs tm tk sp tx ct nw pm pn ph km kc xs ys sc := by
  have hB := h.qB
  exact ⟨h.qB, (show am_obj hp2 0 = am_obj hp 0 by unfold am_obj; rw [hg 0 (by omega)]).trans h.qo, isX_get h.qx (fun b _ _ => hg b (by omega)), isCt_get h.qc (fun b _ _ => hg b (by omega)), isCt_get h.qdr (fun b _ _ => hg b (by omega)), isM_get h.qn (fun b _ _ => hg b (by omega)), isM_get h.ql (fun b _ _ => hg b (by omega)), isP_get h.qp (fun b _ _ => hg b (by omega)), ⟨(show am_rar hp2 86 = am_rar hp 86 by unfold am_rar; rw [hg 86 (by omega)]).trans h.qk.1, isM_get h.qk.2.1 (fun b _ _ => hg b (by omega)), isM_get h.qk.2.2 (fun b _ _ => hg b (by omega))⟩, ⟨h1, h2⟩, isH_get h.qh (fun b _ _ => hg b (by omega)), isK_get h.qt hl (fun b _ _ => hg b (by omega)), ⟨(show am_arr hp2 128 = am_arr hp 128 by unfold am_arr; rw [hg 128 (by omega)]).trans h.qsp.1, h.qsp.2⟩, h.qkc, h.qsc, by rw [hl]; exact h.qlen⟩
theorem St1_k {ms : Nat → am_Mo} (h : St1 hp cB dr lt hs tm tk sp tx ct nw pm pn ph km kc sH sL sc) (hl : hp2.length = hp.length) (hg : ∀ b, b < 129 ∨ 140 < b → hp2[b]? = hp[b]?) (h1 : isM hp2 129 (ms 0)) (h2 : isM hp2 135 (ms 1)) : St1 hp2 cB dr lt hs tm tk sp tx ct nw pm pn ph ms kc sH sL sc := by
  have hB := h.qB
  exact ⟨h.qB, (show am_obj hp2 0 = am_obj hp 0 by unfold am_obj; rw [hg 0 (by omega)]).trans h.qo, isX_get h.qx (fun b _ _ => hg b (by omega)), isCt_get h.qc (fun b _ _ => hg b (by omega)), isCt_get h.qdr (fun b _ _ => hg b (by omega)), isM_get h.qn (fun b _ _ => hg b (by omega)), isM_get h.ql (fun b _ _ => hg b (by omega)), isP_get h.qp (fun b _ _ => hg b (by omega)), ⟨(show am_rar hp2 86 = am_rar hp 86 by unfold am_rar; rw [hg 86 (by omega)]).trans h.qk.1, h1, h2⟩, ⟨⟨(show am_arr hp2 87 = am_arr hp 87 by unfold am_arr; rw [hg 87 (by omega)]).trans h.qs.1.1, h.qs.1.2⟩, ⟨(show am_arr hp2 88 = am_arr hp 88 by unfold am_arr; rw [hg 88 (by omega)]).trans h.qs.2.1, h.qs.2.2⟩⟩, isH_get h.qh (fun b _ _ => hg b (by omega)), isK_get h.qt hl (fun b _ _ => hg b (by omega)), ⟨(show am_arr hp2 128 = am_arr hp 128 by unfold am_arr; rw [hg 128 (by omega)]).trans h.qsp.1, h.qsp.2⟩, h.qkc, h.qsc, by rw [hl]; exact h.qlen⟩
theorem St1_o {a b2 : Nat} (h : St1 hp cB dr lt hs tm tk sp tx ct nw pm pn ph km kc sH sL sc) (hl : hp2.length = hp.length) (hg : ∀ b, b < 0 ∨ 0 < b → hp2[b]? = hp[b]?) (hm : am_obj hp2 0 = some (lObj cB a b2)) (ha : a ≤ 2) (hb : b2 ≤ 8) : St1 hp2 cB dr lt hs tm tk sp tx ct nw pm pn ph km a sH sL b2 := by
  have hB := h.qB
  exact ⟨h.qB, hm, isX_get h.qx (fun b _ _ => hg b (by omega)), isCt_get h.qc (fun b _ _ => hg b (by omega)), isCt_get h.qdr (fun b _ _ => hg b (by omega)), isM_get h.qn (fun b _ _ => hg b (by omega)), isM_get h.ql (fun b _ _ => hg b (by omega)), isP_get h.qp (fun b _ _ => hg b (by omega)), ⟨(show am_rar hp2 86 = am_rar hp 86 by unfold am_rar; rw [hg 86 (by omega)]).trans h.qk.1, isM_get h.qk.2.1 (fun b _ _ => hg b (by omega)), isM_get h.qk.2.2 (fun b _ _ => hg b (by omega))⟩, ⟨⟨(show am_arr hp2 87 = am_arr hp 87 by unfold am_arr; rw [hg 87 (by omega)]).trans h.qs.1.1, h.qs.1.2⟩, ⟨(show am_arr hp2 88 = am_arr hp 88 by unfold am_arr; rw [hg 88 (by omega)]).trans h.qs.2.1, h.qs.2.2⟩⟩, isH_get h.qh (fun b _ _ => hg b (by omega)), isK_get h.qt hl (fun b _ _ => hg b (by omega)), ⟨(show am_arr hp2 128 = am_arr hp 128 by unfold am_arr; rw [hg 128 (by omega)]).trans h.qsp.1, h.qsp.2⟩, ha, hb, by rw [hl]; exact h.qlen⟩
end LMP
def inR (x : Int32) (n : Nat) : Bool := if x < 0 then false else decide (x < nI n)
theorem inR_t {x : Int32} {n : Nat} (h : inR x n = true) (hn : n < 2 ^ 31) : ∃ i, i < n ∧ x = nI i := by
  unfold inR at h
  by_cases q : x < 0
  · rw [if_pos q] at h; cases h
  · rw [if_neg q] at h
    obtain ⟨j, hj⟩ := nI_of q
    rw [hj.2] at h
    exact ⟨j, (nI_ltI hj.1 hn).mp (of_decide_eq_true h), hj.2⟩
theorem inR_n {i n : Nat} (hi : i < n) (hn : n < 2 ^ 31) : inR (nI i) n = true := by
  unfold inR
  rw [if_neg (nI_pos (by omega))]
  exact decide_eq_true (nI_lt hi hn)
