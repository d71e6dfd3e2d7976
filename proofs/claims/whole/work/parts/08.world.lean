/-! WHAT A STATE OF THE ABSTRACT MACHINE STANDS FOR: cell k lies at the address base + k -/
/-- classes and slots; the class of int arrays and of arrays of Moments; base, the text's String, its bytes, the law's script, the JDK's formatter -/
abbrev am_G : Type := va_G × (ClassId × ClassId) × (Nat × Nat × Nat × Nat × Option Nat)
def am_cv (g : am_G) : Value → Value
  | .ref k => .ref (g.2.2.1 + k)
  | .float b => .ref (if b = 0 then g.2.2.2.1 else if b = 1 then g.2.2.2.2.1 else g.2.2.2.2.2.1)
  | .retAddr _ => va_rf g.2.2.2.2.2.2
  | v => v
def am_enc (g : am_G) : am_C → va_E
  | .inl xs => .inl (g.2.1.1, xs.length, .inl (fun j => xs.getD j 0))
  | .inr (.inl rs) => .inl (g.2.1.2, rs.length, .inr (.inr (.inr (.inr (fun j => (rs.getD j none).map (fun k => g.2.2.1 + k))))))
  | .inr (.inr o) => .inr (o.1, o.2.map (am_cv g))
def am_wd (g : am_G) (hp : am_H) : va_W := hp.mapIdx (fun k c => (g.2.2.1 + k, am_enc g c))
def am_A (g : am_G) : Nat → Prop := fun q => g.2.2.1 ≤ q
def am_P (g : am_G) (hp : am_H) (H : Heap) : Prop := va_P g.1 vwCl (am_wd g hp) H
def am_sz : am_C → Nat
  | .inl xs => xs.length
  | .inr (.inl xs) => xs.length
  | .inr (.inr o) => o.2.length
def am_tot (hp : am_H) : Nat := (hp.map am_sz).sum
theorem am_wd_get {g : am_G} {hp : am_H} {k : Nat} {c : am_C} (h : hp[k]? = some c) : (am_wd g hp)[k]? = some (g.2.2.1 + k, am_enc g c) := by
  simp [am_wd, List.getElem?_mapIdx, h]
theorem am_wd_inv {g : am_G} {hp : am_H} {k : Nat} {q : Nat × va_E} (h : (am_wd g hp)[k]? = some q) : ∃ c, hp[k]? = some c ∧ q = (g.2.2.1 + k, am_enc g c) := by
  rw [am_wd, List.getElem?_mapIdx] at h
  cases hc : hp[k]? with
  | none => rw [hc] at h; cases h
  | some c => rw [hc] at h; cases h; exact ⟨c, rfl, rfl⟩
theorem am_wd_set {g : am_G} {hp : am_H} {k : Nat} {c : am_C} : am_wd g (hp.set k c) = (am_wd g hp).set k (g.2.2.1 + k, am_enc g c) := by
  apply List.ext_getElem?
  intro i
  simp only [am_wd, List.getElem?_mapIdx, List.getElem?_set, List.length_mapIdx]
  by_cases hk : k = i
  · subst hk
    by_cases hl : k < hp.length
    · simp [hl]
    · simp [hl]
  · simp [hk]
theorem am_wd_push {g : am_G} {hp : am_H} {c : am_C} : am_wd g (hp ++ [c]) = am_wd g hp ++ [(g.2.2.1 + hp.length, am_enc g c)] := by
  apply List.ext_getElem?
  intro i
  simp only [am_wd, List.getElem?_mapIdx, List.getElem?_append, List.length_mapIdx]
  by_cases hl : i < hp.length
  · simp [hl]
  · by_cases h2 : i = hp.length
    · subst h2; simp
    · have h3 : ¬ i - hp.length = 0 := by omega
      obtain ⟨j, hj⟩ : ∃ j, i - hp.length = j + 1 := ⟨i - hp.length - 1, by omega⟩
      simp [hl, hj]
theorem am_D (g : am_G) (hp : am_H) : va_D (am_A g) (am_wd g hp) := by
  refine ⟨fun i j p q hi hj hpq => ?_, fun k q hk => ?_⟩
  · obtain ⟨c, -, rfl⟩ := am_wd_inv hi
    obtain ⟨c2, -, rfl⟩ := am_wd_inv hj
    dsimp only at hpq
    omega
  · obtain ⟨c, -, rfl⟩ := am_wd_inv hk
    exact Nat.le_add_right _ _
theorem am_tot_set {hp : am_H} {k : Nat} {c c2 : am_C} (h : hp[k]? = some c) (hs : am_sz c2 = am_sz c) : am_tot (hp.set k c2) = am_tot hp := by
  unfold am_tot
  have e : (hp.set k c2).map am_sz = hp.map am_sz := by
    apply List.ext_getElem?
    intro i
    simp only [List.getElem?_map, List.getElem?_set]
    by_cases hk : k = i
    · subst hk
      have hl : k < hp.length := (List.getElem?_eq_some_iff.mp h).1
      have e := (List.getElem?_eq_some_iff.mp h).2
      simp [hl, e, hs]
    · simp [hk]
  rw [e]
theorem am_tot_push {hp : am_H} {c : am_C} : am_tot (hp ++ [c]) = am_tot hp + am_sz c := by simp [am_tot]
theorem am_cv_cat (g : am_G) (v : Value) : (am_cv g v).category = v.category := by
  cases v <;> first | rfl | (show (va_rf g.2.2.2.2.2.2).category = 1; cases g.2.2.2.2.2.2 <;> rfl)
theorem am_cat_map (g : am_G) (st : List Value) : ((st.map (am_cv g)).map fun v => v.category).sum = am_cat st := by
  unfold am_cat
  rw [List.map_map]
  congr 1
  apply List.map_congr_left
  intro v _
  exact am_cv_cat g v
/-- the locals -/
def am_asc (g : am_G) (L : am_L) : List (Nat × Value) := (List.range L.length).filterMap (fun i => (am_get1 L i).map (fun v => (i, am_cv g v)))
def am_ls (g : am_G) (ls : Array Slot) (L : am_L) : Prop := lv_has ls L.length (am_asc g L)
theorem am_get1_lt {L : am_L} {i : Nat} {v : Value} (h : am_get1 L i = some v) : i < L.length ∧ L[i]? = some (some v) := by
  unfold am_get1 at h
  split at h
  · rename_i w hw
    cases h
    exact ⟨(List.getElem?_eq_some_iff.mp hw).1, hw⟩
  · cases h
theorem am_asc_mem {g : am_G} {L : am_L} {i : Nat} {v : Value} (h : am_get1 L i = some v) : (i, am_cv g v) ∈ am_asc g L := by
  refine List.mem_filterMap.mpr ⟨i, List.mem_range.mpr (am_get1_lt h).1, ?_⟩
  rw [h]; rfl
theorem am_asc_inv {g : am_G} {L : am_L} {q : Nat × Value} (h : q ∈ am_asc g L) : ∃ v, am_get1 L q.1 = some v ∧ q.2 = am_cv g v := by
  obtain ⟨i, -, hi⟩ := List.mem_filterMap.mp h
  cases hv : am_get1 L i with
  | none => rw [hv] at hi; cases hi
  | some v => rw [hv] at hi; cases hi; exact ⟨v, hv, rfl⟩
theorem am_ls_get {g : am_G} {ls : Array Slot} {L : am_L} {i : Nat} {v : Value} (h : am_ls g ls L) (hv : am_get1 L i = some v) : ls[i]? = some (.val (am_cv g v)) := h.2.2 _ (am_asc_mem hv)
theorem am_get1_set {L : am_L} {i j : Nat} {o : Option Value} : am_get1 (L.set i o) j = if i = j then (if i < L.length then o else none) else am_get1 L j := by
  unfold am_get1
  rw [List.getElem?_set]
  by_cases hij : i = j
  · subst hij
    by_cases hl : i < L.length
    · simp only [if_true, hl]
      cases o <;> rfl
    · simp [hl]
  · simp only [hij, if_false]
theorem am_nl_cat {L : am_L} {i j : Nat} {v : Value} (h : am_nl L i = true) (hj : j + 1 = i) (hv : am_get1 L j = some v) : v.category = 1 := by
  subst hj
  have h2 := (am_get1_lt hv).2
  simp only [am_nl, h2] at h
  cases v <;> first | rfl | (simp at h)
theorem am_ls_st1 {g : am_G} {ls : Array Slot} {L L2 : am_L} {i : Nat} {v : Value} (hs : am_st1 L i v = some L2) (h : lv_has ls L.length ((i, am_cv g v) :: (am_asc g L).filter (fun q => !(q.1 == i) && !(q.1 + 1 == i && q.2.category == 2)))) : am_ls g ls L2 := by
  unfold am_st1 at hs
  split at hs
  · rename_i hc
    cases hs
    refine ⟨by rw [List.length_set]; exact h.1, h.2.1, fun q hq => ?_⟩
    obtain ⟨w, h1, h2⟩ := am_asc_inv hq
    rw [am_get1_set] at h1
    by_cases e : i = q.1
    · rw [if_pos e, if_pos hc.1] at h1
      cases h1
      have := h.2.2 (i, am_cv g v) List.mem_cons_self
      rw [h2, ← e]
      exact this
    · rw [if_neg e] at h1
      refine h.2.2 q (List.mem_cons_of_mem _ (List.mem_filter.mpr ⟨?_, ?_⟩))
      · have := am_asc_mem (g := g) h1
        rw [← h2] at this
        exact this
      · have e1 : (q.1 == i) = false := by simpa using fun z => e z.symm
        rw [e1]
        by_cases e2 : q.1 + 1 = i
        · have := am_nl_cat hc.2 e2 h1
          rw [h2, am_cv_cat, this]
          simp
        · have e3 : (q.1 + 1 == i) = false := by simpa using e2
          rw [e3]
          rfl
  · cases hs
theorem am_ls_st2 {g : am_G} {ls : Array Slot} {L L2 : am_L} {i : Nat} {v : Value} (hs : am_st2 L i v = some L2) (h : lv_has ls L.length ((i, am_cv g v) :: (am_asc g L).filter (fun q => !(q.1 == i) && (!(q.1 == i + 1) && !(q.1 + 1 == i && q.2.category == 2))))) : am_ls g ls L2 := by
  unfold am_st2 at hs
  split at hs
  · rename_i hc
    cases hs
    refine ⟨by rw [List.length_set, List.length_set]; exact h.1, h.2.1, fun q hq => ?_⟩
    obtain ⟨w, h1, h2⟩ := am_asc_inv hq
    rw [am_get1_set, am_get1_set] at h1
    by_cases e0 : i + 1 = q.1
    · rw [if_pos e0] at h1
      split at h1 <;> cases h1
    · rw [if_neg e0] at h1
      by_cases e : i = q.1
      · rw [if_pos e, if_pos (by omega)] at h1
        cases h1
        have := h.2.2 (i, am_cv g v) List.mem_cons_self
        rw [h2, ← e]
        exact this
      · rw [if_neg e] at h1
        refine h.2.2 q (List.mem_cons_of_mem _ (List.mem_filter.mpr ⟨?_, ?_⟩))
        · have := am_asc_mem (g := g) h1
          rw [← h2] at this
          exact this
        · have e1 : (q.1 == i) = false := by simpa using fun z => e z.symm
          have e4 : (q.1 == i + 1) = false := by simpa using fun z => e0 z.symm
          rw [e1, e4]
          by_cases e2 : q.1 + 1 = i
          · have := am_nl_cat hc.2 e2 h1
            rw [h2, am_cv_cat, this]
            simp
          · have e3 : (q.1 + 1 == i) = false := by simpa using e2
            rw [e3]
            rfl
  · cases hs
theorem am_args_len (l : List Value) : (am_args l).length = (lg_sl l).length := by
  induction l with
  | nil => rfl
  | cons v l ih =>
    rw [am_args]
    by_cases hc : v.category = 2
    · rw [if_pos hc]
      simp only [List.length_cons, ih]
      all_goals (try (simp [lg_sl, hc]))
      all_goals (try omega)
    · rw [if_neg hc]
      simp only [List.length_cons, ih]
      all_goals (try (simp [lg_sl, hc]))
      all_goals (try omega)
theorem am_lg_len (g : am_G) (l : List Value) : (lg_sl (l.map (am_cv g))).length = (lg_sl l).length := by
  induction l with
  | nil => rfl
  | cons v l ih =>
    have e := am_cv_cat g v
    simp only [lg_sl, List.map_cons, List.flatMap_cons, List.length_append] at ih ⊢
    rw [ih, e]
    by_cases hc : v.category = 2 <;> simp [hc]
theorem am_args_get (g : am_G) : ∀ (l : List Value) (b i : Nat) (v : Value), am_get1 (am_args l) i = some v → (b + i, am_cv g v) ∈ lv_args b (l.map (am_cv g)) := by
  intro l
  induction l with
  | nil => intro b i v h; cases i <;> cases h
  | cons w l ih =>
    intro b i v h
    rw [am_args] at h
    rw [List.map_cons, lv_args]
    by_cases hc : w.category = 2
    · rw [if_pos hc] at h
      rw [if_pos (by rw [am_cv_cat]; exact hc)]
      match i, h with
      | 0, h => cases h; exact List.mem_cons_self
      | 1, h => cases h
      | i + 2, h =>
        have := ih (b + 2) i v h
        rw [show b + 2 + i = b + (i + 2) by omega] at this
        exact List.mem_cons_of_mem _ this
    · rw [if_neg hc] at h
      rw [if_neg (by rw [am_cv_cat]; exact hc)]
      match i, h with
      | 0, h => cases h; exact List.mem_cons_self
      | i + 1, h =>
        have := ih (b + 1) i v h
        rw [show b + 1 + i = b + (i + 1) by omega] at this
        exact List.mem_cons_of_mem _ this
