/-! rows that every method uses: numbers, loops, cells -/
theorem ltT {j c : Nat} {x : Int32} (hx : x = nI c) (h : j < c) (hc : c < 2 ^ 31) : (nI j < x) = True := eq_true (by rw [hx]; exact nI_lt h hc)
theorem ltF {j c : Nat} {x : Int32} (hx : x = nI c) (h : c ≤ j) (hj : j < 2 ^ 31) : (nI j < x) = False := eq_false (by rw [hx]; exact nI_nlt h hj)
theorem gtT {j c : Nat} {x : Int32} (hx : x = nI c) (h : c < j) (hj : j < 2 ^ 31) : (x < nI j) = True := eq_true (by rw [hx]; exact nI_lt h hj)
theorem gtF {j c : Nat} {x : Int32} (hx : x = nI c) (h : j ≤ c) (hc : c < 2 ^ 31) : (x < nI j) = False := eq_false (by rw [hx]; exact nI_nlt h hc)
theorem ngF {j : Nat} (hj : j < 2 ^ 31) : (nI j < 0) = False := eq_false (nI_pos hj)
theorem eqI {i j : Nat} (hi : i < 2 ^ 31) (hj : j < 2 ^ 31) : (nI i = nI j) = (i = j) := propext (nI_eq hi hj)
theorem ltN {a c : Nat} {x : Int32} (hx : x = nI c) (ha : a < 2 ^ 31) (hc : c < 2 ^ 31) : (nI a < x) = (a < c) := by rw [hx]; exact propext (nI_ltI ha hc)
theorem gtN {a c : Nat} {x : Int32} (hx : x = nI c) (ha : a < 2 ^ 31) (hc : c < 2 ^ 31) : (x < nI a) = (c < a) := by rw [hx]; exact propext (nI_ltI hc ha)
theorem eqN {a c : Nat} {x : Int32} (hx : x = nI c) (ha : a < 2 ^ 31) (hc : c < 2 ^ 31) : (nI a = x) = (a = c) := by rw [hx]; exact propext (nI_eq ha hc)
def b2 (b : Bool) : Int32 := if b = true then 1 else 0
theorem b2_t : b2 true = 1 := rfl
theorem b2_f : b2 false = 0 := rfl
theorem b2_0 {b : Bool} : (b2 b = 0) = (b = false) := by cases b <;> simp [b2]
theorem b2_1 {b : Bool} : (b2 b = 1) = (b = true) := by cases b <;> simp [b2]
theorem b2_or (b : Bool) : b2 b = 0 ∨ b2 b = 1 := by cases b <;> simp [b2]
theorem z1 : ((1 : Int32) = 0) = False := by simp
theorem z0 : ((0 : Int32) = 0) = True := by simp
theorem z2 : ((2 : Int32) = 0) = False := by decide
theorem z4 : ((4 : Int32) = 0) = False := by decide
theorem z3 : ((3 : Int32) = 0) = False := by decide
theorem z5 : ((5 : Int32) = 0) = False := by decide
theorem z6 : ((6 : Int32) = 0) = False := by decide
theorem z8 : ((8 : Int32) = 0) = False := by decide
theorem z64 : ((64 : Int32) = 0) = False := by decide
/-- a loop: f j for j, j + 1, .., n times -/
def am_for {σ : Type} (f : Nat → σ → σ) : Nat → Nat → σ → σ
  | _, 0, s => s
  | j, n + 1, s => am_for f (j + 1) n (f j s)
theorem am_for_snoc {σ : Type} (f : Nat → σ → σ) : ∀ (n j : Nat) (s : σ), am_for f j (n + 1) s = f (j + n) (am_for f j n s) := by
  intro n
  induction n with
  | zero => intro j s; rfl
  | succ n ih =>
    intro j s
    rw [am_for, ih, am_for]
    congr 1
    omega
theorem am_for_inv {σ : Type} {f : Nat → σ → σ} (P : Nat → σ → Prop) : ∀ (n j : Nat) (s : σ), P j s → (∀ i s, j ≤ i → i < j + n → P i s → P (i + 1) (f i s)) → P (j + n) (am_for f j n s) := by
  intro n
  induction n with
  | zero => intro j s h _; exact h
  | succ n ih =>
    intro j s h hs
    rw [am_for]
    have := ih (j + 1) (f j s) (hs j s (Nat.le_refl _) (by omega) h) (fun i s h1 h2 h3 => hs i s (by omega) (by omega) h3)
    rw [show j + 1 + n = j + (n + 1) by omega] at this
    exact this
theorem for_res {σ τ ρ : Type} (E : Nat → σ → τ → ρ) (Inv : Nat → σ → Prop) (f : Nat → σ → σ) (b : Nat) (Res : σ → ρ) (hend : ∀ s x, Inv b s → E b s x = Res s) (hs : ∀ j s x, j < b → Inv j s → Inv (j + 1) (f j s) ∧ ∃ y, E j s x = E (j + 1) (f j s) y) : ∀ n j s x, j + n = b → Inv j s → E j s x = Res (am_for f j n s) := by
  intro n
  induction n with
  | zero =>
    intro j s x hj hi
    obtain rfl : j = b := by omega
    exact hend s x hi
  | succ n ih =>
    intro j s x hj hi
    obtain ⟨h1, y, h2⟩ := hs j s x (by omega) hi
    rw [h2, am_for]
    exact ih (j + 1) (f j s) y (by omega) h1
theorem for_ex {σ τ ρ : Type} (E : Nat → σ → τ → ρ) (Inv : Nat → σ → Prop) (f : Nat → σ → σ) (b : Nat) (hs : ∀ j s x, j < b → Inv j s → Inv (j + 1) (f j s) ∧ ∃ y, E j s x = E (j + 1) (f j s) y) : ∀ n j s x, j + n = b → Inv j s → Inv b (am_for f j n s) ∧ ∃ y, E j s x = E b (am_for f j n s) y := by
  intro n
  induction n with
  | zero =>
    intro j s x hj hi
    obtain rfl : j = b := by omega
    exact ⟨hi, x, rfl⟩
  | succ n ih =>
    intro j s x hj hi
    obtain ⟨h1, y, h2⟩ := hs j s x (by omega) hi
    rw [h2, am_for]
    exact ih (j + 1) (f j s) y (by omega) h1
section HEAP
variable {hp : am_H} {a b k c j i n : Nat} {xs ys : List Int32} {fs : List Value}
theorem am_arr_lt (h : am_arr hp a = some xs) : a < hp.length := (List.getElem?_eq_some_iff.mp (am_arr_get h)).1
theorem am_obj_lt {o : Nat × List Value} (h : am_obj hp a = some o) : a < hp.length := (List.getElem?_eq_some_iff.mp (am_obj_get h)).1
theorem am_arr_set (h : am_arr hp a = some xs) : am_arr (hp.set a (.inl ys)) b = if a = b then some ys else am_arr hp b := by
  have hl := am_arr_lt h
  unfold am_arr
  rw [List.getElem?_set]
  by_cases e : a = b
  · subst e
    simp [hl]
  · simp [e]
theorem am_arr_setS (h : am_arr hp a = some xs) : am_arr (hp.set a (.inl ys)) a = some ys := by rw [am_arr_set h, if_pos rfl]
theorem am_arr_setN (h : a ≠ b) {x : am_C} : am_arr (hp.set a x) b = am_arr hp b := by
  unfold am_arr
  rw [List.getElem?_set, if_neg h]
theorem am_obj_setN (h : a ≠ b) {x : am_C} : am_obj (hp.set a x) b = am_obj hp b := by
  unfold am_obj
  rw [List.getElem?_set, if_neg h]
theorem am_rar_setN (h : a ≠ b) {x : am_C} : am_rar (hp.set a x) b = am_rar hp b := by
  unfold am_rar
  rw [List.getElem?_set, if_neg h]
theorem am_obj_seta (h : am_arr hp a = some xs) : am_obj (hp.set a (.inl ys)) b = am_obj hp b := by
  by_cases e : a = b
  · subst e
    have h1 := am_arr_get h
    have hl := am_arr_lt h
    unfold am_obj
    rw [List.getElem?_set_self hl, h1]
  · exact am_obj_setN e
theorem am_rar_seta (h : am_arr hp a = some xs) : am_rar (hp.set a (.inl ys)) b = am_rar hp b := by
  by_cases e : a = b
  · subst e
    have h1 := am_arr_get h
    have hl := am_arr_lt h
    unfold am_rar
    rw [List.getElem?_set_self hl, h1]
  · exact am_rar_setN e
theorem am_arr_seto {o p : Nat × List Value} (h : am_obj hp a = some o) : am_arr (hp.set a (.inr (.inr p))) b = am_arr hp b := by
  by_cases e : a = b
  · subst e
    have h1 := am_obj_get h
    have hl := am_obj_lt h
    unfold am_arr
    rw [List.getElem?_set_self hl, h1]
  · exact am_arr_setN e
theorem am_rar_seto {o p : Nat × List Value} (h : am_obj hp a = some o) : am_rar (hp.set a (.inr (.inr p))) b = am_rar hp b := by
  by_cases e : a = b
  · subst e
    have h1 := am_obj_get h
    have hl := am_obj_lt h
    unfold am_rar
    rw [List.getElem?_set_self hl, h1]
  · exact am_rar_setN e
theorem am_obj_setS {o p : Nat × List Value} (h : am_obj hp a = some o) : am_obj (hp.set a (.inr (.inr p))) a = some p := by
  unfold am_obj
  rw [List.getElem?_set_self (am_obj_lt h)]
theorem am_ix_nI (h : i < n) (hn : n < 2 ^ 31) : am_ix (nI i) n = some i := by
  unfold am_ix
  rw [if_neg (nI_in h hn), nI_clamp (by omega)]
theorem am_ld_nI (h : am_arr hp a = some xs ∧ xs.length = n) (hi : i < n) (hn : n < 2 ^ 31) : am_ld hp a (nI i) = some (xs.getD i 0) := by
  unfold am_ld
  rw [h.1]
  dsimp only
  rw [h.2, am_ix_nI hi hn]
theorem am_sx_nI {x : Int32} (h : am_arr hp a = some xs ∧ xs.length = n) (hi : i < n) (hn : n < 2 ^ 31) : am_sx hp a (nI i) x = some (hp.set a (.inl (xs.set i x))) := by
  unfold am_sx
  rw [h.1]
  dsimp only
  rw [h.2, am_ix_nI hi hn]
theorem am_fld_of (h : am_obj hp k = some (c, fs)) : am_fld hp k c j = fs[j]? := by
  unfold am_fld
  rw [h]
  dsimp only
  rw [if_pos (by simp)]
theorem am_isC_of (h : am_obj hp k = some (c, fs)) : am_isC hp k c = true := by
  unfold am_isC
  rw [h]
  simp
theorem am_pf_of {v : Value} (h : am_obj hp k = some (c, fs)) (hj : j < fs.length) : am_pf hp k c j v = some (hp.set k (.inr (.inr (c, fs.set j v)))) := by
  unfold am_pf
  rw [h]
  dsimp only
  rw [if_pos ⟨by simp, hj⟩]
end HEAP
theorem getD_set {xs : List Int32} {i j : Nat} {x : Int32} (h : i < xs.length) : (xs.set i x).getD j 0 = if i = j then x else xs.getD j 0 := by
  simp only [List.getD_eq_getElem?_getD, List.getElem?_set]
  by_cases e : i = j
  · subst e; simp [h]
  · simp [e]
theorem list8 {xs ys : List Int32} (n : Nat) (hx : xs.length = n) (hy : ys.length = n) (h : ∀ i, i < n → xs.getD i 0 = ys.getD i 0) : xs = ys := by
  apply List.ext_getElem?
  intro i
  by_cases hi : i < n
  · have := h i hi
    simp only [List.getD_eq_getElem?_getD] at this
    rw [List.getElem?_eq_getElem (by omega), List.getElem?_eq_getElem (by omega)] at this ⊢
    simpa using this
  · rw [List.getElem?_eq_none (by omega), List.getElem?_eq_none (by omega)]
theorem cpy_all {f g : List Int32} {n : Nat} (hf : f.length = n) (hg : g.length = n) : am_cpy f g 0 0 n = f := by
  apply list8 n (by rw [am_cpy_len, hg]) hf
  intro i hi
  have := congrFun (am_cpy_fn f g 0 0 n (by omega)) i
  rw [this, va_cpy, if_pos ⟨Nat.zero_le _, by omega⟩]
  simp
theorem am_cp8 {hp : am_H} {a b : Nat} {f g : List Int32} {n : Nat} {x : Int32} (hx : x = nI n) (hf : am_arr hp b = some f ∧ f.length = n) (hg : am_arr hp a = some g ∧ g.length = n) (hn : n < 2 ^ 31) : am_cp hp b 0 a 0 x = some (hp.set a (.inl f)) := by
  unfold am_cp
  rw [hf.1, hg.1]
  dsimp only
  have e0 : (0 : Int32).toNatClampNeg = 0 := by decide
  rw [if_pos ⟨by decide, by decide, by rw [hx]; exact nI_pos hn, by rw [e0, hx, nI_clamp hn, hf.2]; omega, by rw [e0, hx, nI_clamp hn, hg.2]; omega⟩, e0, hx, nI_clamp hn, cpy_all hf.2 hg.2]
