/-! THE PAST: a ring of eight Moments -/
def pRing (p : Nat) : List (Option Nat) := [some (p + 2), some (p + 8), some (p + 14), some (p + 20), some (p + 26), some (p + 32), some (p + 38), some (p + 44)]
def isP (hp : am_H) (p : Nat) (ms : Nat → am_Mo) (nx hd : Nat) : Prop := am_obj hp p = some (3, [.ref (p + 1), .int (nI nx), .int (nI hd)]) ∧ am_rar hp (p + 1) = some (pRing p) ∧ (∀ i, i < 8 → isM hp (p + 2 + 6 * i) (ms i)) ∧ nx < 8 ∧ hd ≤ 8
section PST
variable {hp hp2 : am_H} {p i nx hd n : Nat} {ms : Nat → am_Mo}
theorem isP.cl (h : isP hp p ms nx hd) : am_isC hp p 3 = true := am_isC_of h.1
theorem isP.f0 (h : isP hp p ms nx hd) : am_fld hp p 3 0 = some (.ref (p + 1)) := am_fld_of h.1
theorem isP.f1 (h : isP hp p ms nx hd) : am_fld hp p 3 1 = some (.int (nI nx)) := am_fld_of h.1
theorem isP.f2 (h : isP hp p ms nx hd) : am_fld hp p 3 2 = some (.int (nI hd)) := am_fld_of h.1
theorem isP.lr (h : isP hp p ms nx hd) (hi : i < 8) : am_lr hp (p + 1) (nI i) = some (p + 2 + 6 * i) := by
  unfold am_lr
  rw [h.2.1]
  dsimp only
  rw [show (pRing p).length = 8 from rfl, am_ix_nI hi (by decide)]
  dsimp only
  match i, hi with
  | 0, _ => rfl
  | 1, _ => rfl
  | 2, _ => rfl
  | 3, _ => rfl
  | 4, _ => rfl
  | 5, _ => rfl
  | 6, _ => rfl
  | 7, _ => rfl
theorem isP_get (h : isP hp p ms nx hd) (hg : ∀ b, p ≤ b → b ≤ p + 49 → hp2[b]? = hp[b]?) : isP hp2 p ms nx hd := by
  refine ⟨?_, ?_, fun i hi => isM_get (h.2.2.1 i hi) (fun b h1 h2 => hg b (by omega) (by omega)), h.2.2.2⟩
  · unfold am_obj; rw [hg p (by omega) (by omega)]; exact h.1
  · unfold am_rar; rw [hg (p + 1) (by omega) (by omega)]; exact h.2.1
theorem isP_n (h : isP hp p ms nx hd) (hn : n < 8) : am_pf hp p 3 1 (.int (nI n)) = some (hp.set p (.inr (.inr (3, [.ref (p + 1), .int (nI n), .int (nI hd)])))) := by
  rw [am_pf_of h.1 (show _ < 3 by decide)]
  rfl
theorem isP_h (h : isP hp p ms nx hd) : am_pf hp p 3 2 (.int (nI n)) = some (hp.set p (.inr (.inr (3, [.ref (p + 1), .int (nI nx), .int (nI n)])))) := by
  rw [am_pf_of h.1 (show _ < 3 by decide)]
  rfl
theorem isP_o {x y : Nat} (h : isP hp p ms nx hd) (hx : x < 8) (hy : y ≤ 8) : isP (hp.set p (.inr (.inr (3, [.ref (p + 1), .int (nI x), .int (nI y)])))) p ms x y := by
  refine ⟨am_obj_setS h.1, ?_, fun i hi => isM_get (h.2.2.1 i hi) (fun b h1 h2 => List.getElem?_set_ne (by omega)), hx, hy⟩
  rw [am_rar_seto h.1]
  exact h.2.1
theorem isP_m {m : am_Mo} {j : Nat} (h : isP hp p ms nx hd) (hj : j < 8) (hm : mOK m) : isP (wM hp (p + 2 + 6 * j) m) p (updM ms j m) nx hd := by
  refine ⟨?_, ?_, fun i hi => ?_, h.2.2.2⟩
  · rw [wM_obj (by omega)]; exact h.1
  · rw [wM_rar (by omega)]; exact h.2.1
  · unfold updM
    by_cases e : i = j
    · subst e
      rw [if_pos rfl]
      exact isM_wM (h.2.2.1 i hi).len hm
    · rw [if_neg e]
      exact isM_wM_ne (h.2.2.1 i hi) (by omega)
end PST
theorem rem8 {a : Nat} (ha : a < 2 ^ 31) : nI a - nI a / 8 * 8 = nI (a % 8) := pk_rem (d := 8) ha (by decide) (by decide)
theorem imin_nI {a b : Nat} {x : Int32} (hx : x = nI b) (ha : a < 2 ^ 31) (hb : b < 2 ^ 31) : imin (nI a) x = nI (min a b) := by
  unfold imin
  rw [hx]
  by_cases h : b < a
  · rw [if_pos (nI_lt h ha), Nat.min_eq_right (by omega)]
  · rw [if_neg (nI_nlt (by omega) hb), Nat.min_eq_left (by omega)]
theorem s_remember {d p k nx hd : Nat} {hp : am_H} {ms : Nat → am_Mo} {m : am_Mo} (h : isP hp p ms nx hd) (hm : isM hp k m) (hk : k + 5 < p ∨ p + 49 < k) : ∃ hp2, am_E (d + 1) 32 0 [some (.ref p), some (.ref k)] [] hp = some (none, hp2) ∧ isP hp2 p (updM ms nx (mCopy (ms nx) m)) ((nx + 1) % 8) (min (hd + 1) 8) ∧ hp2.length = hp.length ∧ ∀ b, b < p ∨ p + 49 < b → hp2[b]? = hp[b]? := by
  have hnx := h.2.2.2.1
  have hhd := h.2.2.2.2
  have mA := h.2.2.1 nx hnx
  have hcl := mA.c
  have cp : am_E d 18 0 [some (.ref (p + 2 + 6 * nx)), some (.ref k)] [] hp = some (none, wM hp (p + 2 + 6 * nx) (mCopy (ms nx) m)) := by
    have := s_copy (d := d) (k := p + 2 + 6 * nx) (k2 := k) (m := ms nx) (f := m) mA.len mA.ok hm (by omega)
    rw [wM_self mA] at this
    exact this
  have h1 := isP_m h hnx (mCopy_ok mA.ok hm.ok)
  have p1 := isP_n (n := (nx + 1) % 8) h1 (Nat.mod_lt _ (by decide))
  have h2 := isP_o h1 (x := (nx + 1) % 8) (Nat.mod_lt _ (by decide)) hhd
  have p2 := isP_h (n := min (hd + 1) 8) h2
  have h3 := isP_o h2 (x := (nx + 1) % 8) (y := min (hd + 1) 8) (Nat.mod_lt _ (by decide)) (Nat.min_le_right _ _)
  refine ⟨_, ?_, h3, ?_, fun b hb => ?_⟩
  · simp (disch := first | exact nl_int | exact nl_ref | exact nl_none | exact Nat.le_of_ble_eq_true rfl | assumption | exact cat_int | exact cat_ref | exact z2 | exact z4 | exact z3 | exact z5 | exact z6 | exact z8 | exact z64) only [e_32_0, e_32_1, e_32_4, e_32_5, e_32_8, e_32_9, e_32_10, e_32_13, e_32_14, e_32_15, e_32_18, e_32_19, e_32_20, e_32_22, e_32_23, e_32_26, e_32_27, e_32_28, e_32_31, e_32_32, e_32_33, e_32_35, e_32_38, e_32_41, nl_int, nl_ref, nl_none, cat_int, cat_ref, cat_0, cat_i, cat_r, cat_l, Option.elim_some, Option.elim_none, Option.bind_some, Option.bind_none, Option.toList_some, Option.toList_none, List.cons_append, List.nil_append, Nat.reduceAdd, Nat.reduceLeDiff, h.f0, h.f1, h.lr hnx, cp, h1.f1, nI_1, rem8 (show nx + 1 < 2 ^ 31 by omega), p1, h2.f2, s_min, imin_nI (x := 8) (b := 8) rfl (show hd + 1 < 2 ^ 31 by omega) (by decide), p2]
  · simp [wM_len]
  · rw [List.getElem?_set_ne (by omega), List.getElem?_set_ne (by omega), wM_get (by omega)]
theorem s_restore {d p k nx hd : Nat} {hp : am_H} {ms : Nat → am_Mo} {m : am_Mo} (h : isP hp p ms nx hd) (hm : isM hp k m) (hk : k + 5 < p ∨ p + 49 < k) : (hd = 0 → am_E (d + 1) 33 0 [some (.ref p), some (.ref k)] [] hp = some (some (.int 0), hp)) ∧ (0 < hd → ∃ hp2, am_E (d + 1) 33 0 [some (.ref p), some (.ref k)] [] hp = some (some (.int 1), hp2) ∧ isP hp2 p ms ((nx + 7) % 8) (hd - 1) ∧ isM hp2 k (mCopy m (ms ((nx + 7) % 8))) ∧ hp2.length = hp.length ∧ ∀ b, (b < p ∨ p + 49 < b) → (b < k ∨ k + 5 < b) → hp2[b]? = hp[b]?) := by
  have hnx := h.2.2.2.1
  have hhd := h.2.2.2.2
  constructor
  · intro h0
    have f2 := h.f2
    rw [h0] at f2
    simp (disch := first | exact nl_int | exact nl_ref | exact nl_none | exact Nat.le_of_ble_eq_true rfl | assumption | exact cat_int | exact cat_ref | exact z2 | exact z4 | exact z3 | exact z5 | exact z6 | exact z8 | exact z64) only [e_33_0, e_33_1, e_33_4, e_33_5, e_33_8, e_33_9, e_33_9_1, e_33_10, e_33_11, e_33_12, e_33_15, e_33_17, e_33_18, e_33_19, e_33_20, e_33_22, e_33_23, e_33_26, e_33_27, e_33_28, e_33_31, e_33_32, e_33_33, e_33_36, e_33_37, e_33_38, e_33_41, e_33_42, e_33_45, e_33_46, e_33_49, e_33_50, e_33_50_1, nl_int, nl_ref, nl_none, cat_int, cat_ref, cat_0, cat_i, cat_r, cat_l, Option.elim_some, Option.elim_none, Option.bind_some, Option.bind_none, Option.toList_some, Option.toList_none, List.cons_append, List.nil_append, Nat.reduceAdd, Nat.reduceLeDiff, f2, ltT (x := 1) (c := 1) rfl (show 0 < 1 by decide) (by decide), if_true]
  · intro h0
    have hn8 : (nx + 7) % 8 < 8 := Nat.mod_lt _ (by decide)
    have e1 : nI nx + 8 - 1 = nI (nx + 7) := by rw [show (8 : Int32) = nI 8 from rfl, nI_add]; exact pk_sub (a := nx + 8) (b := 1) (by omega)
    have e2 : nI hd - 1 = nI (hd - 1) := pk_sub (b := 1) h0
    have p1 := isP_n (n := (nx + 7) % 8) h hn8
    have h1 := isP_o h (x := (nx + 7) % 8) hn8 hhd
    have p2 := isP_h (n := hd - 1) h1
    have h2 := isP_o h1 (x := (nx + 7) % 8) (y := hd - 1) hn8 (by omega)
    have m1 : isM (hp.set p (.inr (.inr (3, [.ref (p + 1), .int (nI ((nx + 7) % 8)), .int (nI hd)])))) k m := isM_get hm (fun b h1 h2 => List.getElem?_set_ne (by omega))
    have m2 : isM ((hp.set p (.inr (.inr (3, [.ref (p + 1), .int (nI ((nx + 7) % 8)), .int (nI hd)])))).set p (.inr (.inr (3, [.ref (p + 1), .int (nI ((nx + 7) % 8)), .int (nI (hd - 1))])))) k m := isM_get m1 (fun b h1 h2 => List.getElem?_set_ne (by omega))
    have hcl := m2.c
    have mA := h2.2.2.1 _ hn8
    obtain ⟨hq, ehq⟩ : ∃ hq, hq = (hp.set p (.inr (.inr (3, [.ref (p + 1), .int (nI ((nx + 7) % 8)), .int (nI hd)])))).set p (.inr (.inr (3, [.ref (p + 1), .int (nI ((nx + 7) % 8)), .int (nI (hd - 1))]))) := ⟨_, rfl⟩
    have cp : am_E d 18 0 [some (.ref k), some (.ref (p + 2 + 6 * ((nx + 7) % 8)))] [] hq = some (none, wM hq k (mCopy m (ms ((nx + 7) % 8)))) := by
      rw [ehq]
      have := s_copy (d := d) (k := k) (k2 := p + 2 + 6 * ((nx + 7) % 8)) (m := m) (f := ms ((nx + 7) % 8)) m2.len m2.ok mA (by omega)
      rw [wM_self m2] at this
      exact this
    rw [← ehq] at h2 p2 m2 mA hcl
    refine ⟨wM hq k (mCopy m (ms ((nx + 7) % 8))), ?_, isP_get h2 (fun b h1 h2 => wM_get (by omega)), isM_wM m2.len (mCopy_ok m2.ok mA.ok), ?_, fun b hb hb2 => ?_⟩
    · simp (disch := first | exact nl_int | exact nl_ref | exact nl_none | exact Nat.le_of_ble_eq_true rfl | assumption | exact cat_int | exact cat_ref | exact z2 | exact z4 | exact z3 | exact z5 | exact z6 | exact z8 | exact z64) only [e_33_0, e_33_1, e_33_4, e_33_5, e_33_8, e_33_9, e_33_9_1, e_33_10, e_33_11, e_33_12, e_33_15, e_33_17, e_33_18, e_33_19, e_33_20, e_33_22, e_33_23, e_33_26, e_33_27, e_33_28, e_33_31, e_33_32, e_33_33, e_33_36, e_33_37, e_33_38, e_33_41, e_33_42, e_33_45, e_33_46, e_33_49, e_33_50, e_33_50_1, nl_int, nl_ref, nl_none, cat_int, cat_ref, cat_0, cat_i, cat_r, cat_l, Option.elim_some, Option.elim_none, Option.bind_some, Option.bind_none, Option.toList_some, Option.toList_none, List.cons_append, List.nil_append, Nat.reduceAdd, Nat.reduceLeDiff, h.f2, h.f1, e1, rem8 (show nx + 7 < 2 ^ 31 by omega), p1, h1.f2, e2, p2, h2.f0, h2.f1, h2.lr hn8, cp, ltF (x := 1) (c := 1) rfl (show 1 ≤ hd by omega) (by omega), if_false]
    · rw [wM_len, ehq]; simp
    · rw [wM_get hb2, ehq, List.getElem?_set_ne (by omega), List.getElem?_set_ne (by omega)]
