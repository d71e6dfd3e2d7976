/-! ROWS OF MOMENTS; the foes are noted anew every hour -/
theorem wM_comm {hp : am_H} {k k2 : Nat} {m m2 : am_Mo} (h : k + 5 < k2 ∨ k2 + 5 < k) : wM (wM hp k m) k2 m2 = wM (wM hp k2 m2) k m := by
  conv => lhs; unfold wM
  rw [show (((((hp.set k (.inr (.inr (mObj k m.2.2.2.2.2.1 m.2.2.2.2.2.2)))).set (k + 1) (.inl m.1)).set (k + 2) (.inl m.2.1)).set (k + 3) (.inl m.2.2.1)).set (k + 4) (.inl m.2.2.2.1)).set (k + 5) (.inl m.2.2.2.2.1) = wM hp k m from rfl]
  rw [wM_setN (by omega), wM_setN (by omega), wM_setN (by omega), wM_setN (by omega), wM_setN (by omega), wM_setN (by omega)]
  rfl
/-- n Moments from b on, six cells each -/
def wMs (hp : am_H) (b : Nat) : Nat → (Nat → am_Mo) → am_H
  | 0, _ => hp
  | n + 1, ms => wM (wMs hp b n ms) (b + 6 * n) (ms n)
def updM (ms : Nat → am_Mo) (j : Nat) (m : am_Mo) : Nat → am_Mo := fun i => if i = j then m else ms i
theorem wMs_len {hp : am_H} {b : Nat} {ms : Nat → am_Mo} : ∀ {n : Nat}, (wMs hp b n ms).length = hp.length := by
  intro n
  induction n with
  | zero => rfl
  | succ n ih => rw [wMs, wM_len, ih]
theorem wMs_congr {hp : am_H} {b : Nat} {ms ms2 : Nat → am_Mo} : ∀ {n : Nat}, (∀ i, i < n → ms i = ms2 i) → wMs hp b n ms = wMs hp b n ms2 := by
  intro n
  induction n with
  | zero => intro _; rfl
  | succ n ih => intro h; rw [wMs, wMs, ih (fun i hi => h i (by omega)), h n (by omega)]
theorem wMs_set {hp : am_H} {b j : Nat} {ms : Nat → am_Mo} {m : am_Mo} : ∀ {n : Nat}, j < n → wM (wMs hp b n ms) (b + 6 * j) m = wMs hp b n (updM ms j m) := by
  intro n
  induction n with
  | zero => intro h; omega
  | succ n ih =>
    intro h
    rw [wMs, wMs]
    by_cases e : j = n
    · subst e
      rw [wM_wM, show updM ms j m j = m from if_pos rfl]
      congr 1
      exact wMs_congr (fun i hi => (if_neg (by omega)).symm)
    · rw [wM_comm (by omega), ih (by omega), show updM ms j m n = ms n from if_neg (fun z => e z.symm)]
theorem wMs_get {hp : am_H} {b q : Nat} {ms : Nat → am_Mo} : ∀ {n : Nat}, q < b ∨ b + 6 * n ≤ q → (wMs hp b n ms)[q]? = hp[q]? := by
  intro n
  induction n with
  | zero => intro _; rfl
  | succ n ih => intro h; rw [wMs, wM_get (by omega), ih (by omega)]
theorem wMs_at {hp : am_H} {b j : Nat} {ms : Nat → am_Mo} : ∀ {n : Nat}, j < n → b + 6 * n ≤ hp.length → mOK (ms j) → isM (wMs hp b n ms) (b + 6 * j) (ms j) := by
  intro n
  induction n with
  | zero => intro h; omega
  | succ n ih =>
    intro h hl hm
    rw [wMs]
    by_cases e : j = n
    · subst e
      exact isM_wM (by rw [wMs_len]; omega) hm
    · exact isM_wM_ne (ih (by omega) (by omega) hm) (by omega)
theorem wMs_arr {hp : am_H} {b q n : Nat} {ms : Nat → am_Mo} (h : q < b ∨ b + 6 * n ≤ q) : am_arr (wMs hp b n ms) q = am_arr hp q := by unfold am_arr; rw [wMs_get h]
theorem wMs_obj {hp : am_H} {b q n : Nat} {ms : Nat → am_Mo} (h : q < b ∨ b + 6 * n ≤ q) : am_obj (wMs hp b n ms) q = am_obj hp q := by unfold am_obj; rw [wMs_get h]
theorem wMs_rar {hp : am_H} {b q n : Nat} {ms : Nat → am_Mo} (h : q < b ∨ b + 6 * n ≤ q) : am_rar (wMs hp b n ms) q = am_rar hp q := by unfold am_rar; rw [wMs_get h]
theorem wMs_setN {hp : am_H} {b a : Nat} {ms : Nat → am_Mo} {x : am_C} : ∀ {n : Nat}, a < b ∨ b + 6 * n ≤ a → (wMs hp b n ms).set a x = wMs (hp.set a x) b n ms := by
  intro n
  induction n with
  | zero => intro _; rfl
  | succ n ih => intro h; rw [wMs, wMs, wM_setN (by omega), ih (by omega)]
theorem isM_get {hp hp2 : am_H} {k : Nat} {m : am_Mo} (h : isM hp k m) (hg : ∀ b, k ≤ b → b ≤ k + 5 → hp2[b]? = hp[b]?) : isM hp2 k m := by
  have ha : ∀ b, k ≤ b → b ≤ k + 5 → am_arr hp2 b = am_arr hp b := fun b h1 h2 => by unfold am_arr; rw [hg b h1 h2]
  have ho : am_obj hp2 k = am_obj hp k := by unfold am_obj; rw [hg k (by omega) (by omega)]
  obtain ⟨h0, h1, h2, h3, h4, h5⟩ := h
  exact ⟨ho.trans h0, ⟨(ha _ (by omega) (by omega)).trans h1.1, h1.2⟩, ⟨(ha _ (by omega) (by omega)).trans h2.1, h2.2⟩, ⟨(ha _ (by omega) (by omega)).trans h3.1, h3.2⟩, ⟨(ha _ (by omega) (by omega)).trans h4.1, h4.2⟩, ⟨(ha _ (by omega) (by omega)).trans h5.1, h5.2⟩⟩
theorem isCt_get {hp hp2 : am_H} {k : Nat} {c : am_Ci} (h : isCt hp k c) (hg : ∀ b, k ≤ b → b ≤ k + 9 → hp2[b]? = hp[b]?) : isCt hp2 k c := by
  have ha : ∀ b, k ≤ b → b ≤ k + 9 → am_arr hp2 b = am_arr hp b := fun b h1 h2 => by unfold am_arr; rw [hg b h1 h2]
  have ho : am_obj hp2 k = am_obj hp k := by unfold am_obj; rw [hg k (by omega) (by omega)]
  obtain ⟨h0, h1, h2, h3, h4, h5⟩ := h
  exact ⟨ho.trans h0, isM_get h1 (fun b h1 h2 => hg b (by omega) (by omega)), (ha _ (by omega) (by omega)).trans h2, (ha _ (by omega) (by omega)).trans h3, (ha _ (by omega) (by omega)).trans h4, h5⟩
/-- the same but for the foes -/
def mNf (m : am_Mo) (xs : List Int32) : am_Mo := (m.1, m.2.1, m.2.2.1, m.2.2.2.1, xs, m.2.2.2.2.2)
def mFx (m : am_Mo) (t : Int32) (i : Nat) (xs : List Int32) : List Int32 := xs.set i (mFoes m i t)
theorem mGF_nf {t : Int32} : ∀ (n j : Nat) (m : am_Mo) (xs : List Int32), am_for (mGF t) j n (mNf m xs) = mNf m (am_for (mFx m t) j n xs) := by
  intro n
  induction n with
  | zero => intro j m xs; rfl
  | succ n ih =>
    intro j m xs
    rw [am_for, am_for]
    exact ih (j + 1) m (xs.set j (mFoes m j t))
theorem mFx_all {m : am_Mo} {t : Int32} {xs : List Int32} (h : xs.length = 8) : am_for (mFx m t) 0 8 xs = (List.range 8).map (fun i => mFoes m i t) := by
  have h2 := am_for_inv (f := mFx m t) (fun i s => s.length = 8 ∧ ∀ j, j < i → s.getD j 0 = mFoes m j t) 8 0 xs ⟨h, fun j hj => absurd hj (Nat.not_lt_zero j)⟩ (fun i s _ hi hs => ⟨(List.length_set).trans hs.1, fun j hj => by
    show (s.set i (mFoes m i t)).getD j 0 = _
    rw [getD_set (by omega)]
    split
    · rename_i e; rw [e]
    · exact hs.2 j (by omega)⟩)
  refine list8 8 h2.1 (by simp) (fun i hi => ?_)
  rw [h2.2 i (by omega)]
  simp [List.getD_eq_getElem?_getD, List.getElem?_map, List.getElem?_range hi]
/-- an hour goes by: what it was noted of foes before is nothing to it -/
theorem mGo_nf {m : am_Mo} {t : Int32} {xs : List Int32} (hm : mOK m) (hx : xs.length = 8) : mGo (mNf m xs) t = mGo m t := by
  have e : am_for (mGF t) 0 8 (mNf m xs) = am_for (mGF t) 0 8 m := by
    have h1 := mGF_nf (t := t) 8 0 m xs
    have h2 := mGF_nf (t := t) 8 0 m m.2.2.2.2.1
    rw [h1, mFx_all hx, ← mFx_all (m := m) (t := t) hm.2.2.2.2, ← h2]
    rfl
  unfold mGo
  rw [e]
theorem mCopy_nf {m f : am_Mo} : mCopy m f = mNf f m.2.2.2.2.1 := rfl
