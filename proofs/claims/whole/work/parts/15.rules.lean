/-! EQUATIONS, instruction by instruction -/
def am_nl1 : Option Value → Bool
  | some (.long _) => false
  | some (.double _) => false
  | _ => true
theorem am_nl_of {L : am_L} {j : Nat} {o : Option Value} (h : L[j]? = some o) (h1 : am_nl1 o = true) : am_nl L (j + 1) = true := by
  simp only [am_nl, h]
  cases o with
  | none => rfl
  | some v => cases v <;> first | rfl | (simp [am_nl1] at h1)
theorem nl_int {x : Int32} : am_nl1 (some (.int x)) = true := rfl
theorem nl_ref {x : Nat} : am_nl1 (some (.ref x)) = true := rfl
theorem nl_none : am_nl1 none = true := rfl
theorem cat_int {x : Int32} : (Value.int x).category = 1 := rfl
theorem cat_ref {x : Nat} : (Value.ref x).category = 1 := rfl
theorem cat_0 : am_cat [] = 0 := rfl
theorem cat_i {x : Int32} {l : List Value} : am_cat (.int x :: l) = 1 + am_cat l := rfl
theorem cat_r {x : Nat} {l : List Value} : am_cat (.ref x :: l) = 1 + am_cat l := rfl
theorem cat_l {x : Int64} {l : List Value} : am_cat (.long x :: l) = 2 + am_cat l := rfl
/-- a field of an object of class c -/
def am_fld (hp : am_H) (k c j : Nat) : Option Value := match am_obj hp k with
  | some (c2, fs) => if Nat.beq c2 c = true then fs[j]? else none
  | none => none
/-- a field is set -/
def am_pf (hp : am_H) (k c j : Nat) (v : Value) : Option am_H := match am_obj hp k with
  | some (c2, fs) => if Nat.beq c2 c = true ∧ j < fs.length then some (hp.set k (.inr (.inr (c2, fs.set j v)))) else none
  | none => none
def am_ld (hp : am_H) (a : Nat) (i : Int32) : Option Int32 := match am_arr hp a with
  | some xs => (match am_ix i xs.length with
    | some j => some (xs.getD j 0)
    | none => none)
  | none => none
def am_sx (hp : am_H) (a : Nat) (i x : Int32) : Option am_H := match am_arr hp a with
  | some xs => (match am_ix i xs.length with
    | some j => some (hp.set a (.inl (xs.set j x)))
    | none => none)
  | none => none
def am_lr (hp : am_H) (a : Nat) (i : Int32) : Option Nat := match am_rar hp a with
  | some xs => (match am_ix i xs.length with
    | some j => xs.getD j none
    | none => none)
  | none => none
def am_cp (hp : am_H) (b : Nat) (sp : Int32) (a : Nat) (dp n : Int32) : Option am_H := match am_arr hp b, am_arr hp a with
  | some f, some g => if ¬ sp < 0 ∧ ¬ dp < 0 ∧ ¬ n < 0 ∧ sp.toNatClampNeg + n.toNatClampNeg ≤ f.length ∧ dp.toNatClampNeg + n.toNatClampNeg ≤ g.length then some (hp.set a (.inl (am_cpy f g sp.toNatClampNeg dp.toNatClampNeg n.toNatClampNeg))) else none
  | _, _ => none
def am_isC (hp : am_H) (k c : Nat) : Bool := match am_obj hp k with
  | some (c2, _) => Nat.beq c2 c
  | none => false
section AMQ
variable {d M pc pc2 i len : Nat} {L : am_L} {st : List Value} {hp : am_H}
theorem E_si {ins : Instr} {x : Int32} (hq : am_lk1 pc (am_tab M) = some (ins, len)) (hs : am_step M ins pc L (.int x :: st) hp = am_si L i pc2 (.int x :: st) hp) (hi : i < L.length) (hn : am_nl L i = true) : am_E d M pc L (.int x :: st) hp = am_E d M pc2 (L.set i (some (.int x))) st hp := by
  refine am_E_go hq (hs.trans ?_)
  simp only [am_si, am_st1, hi, hn, and_self, if_true]
  rfl
theorem E_sa {ins : Instr} {x : Nat} (hq : am_lk1 pc (am_tab M) = some (ins, len)) (hs : am_step M ins pc L (.ref x :: st) hp = am_sa L i pc2 (.ref x :: st) hp) (hi : i < L.length) (hn : am_nl L i = true) : am_E d M pc L (.ref x :: st) hp = am_E d M pc2 (L.set i (some (.ref x))) st hp := by
  refine am_E_go hq (hs.trans ?_)
  simp only [am_sa, am_st1, hi, hn, and_self, if_true]
  rfl
theorem E_sl {ins : Instr} {x : Int64} (hq : am_lk1 pc (am_tab M) = some (ins, len)) (hs : am_step M ins pc L (.long x :: st) hp = am_sl L i pc2 (.long x :: st) hp) (hi : i + 1 < L.length) (hn : am_nl L i = true) : am_E d M pc L (.long x :: st) hp = am_E d M pc2 ((L.set i (some (.long x))).set (i + 1) none) st hp := by
  refine am_E_go hq (hs.trans ?_)
  simp only [am_sl, am_st2, hi, hn, and_self, if_true]
  rfl
theorem E_iinc {x : Int32} {n : Int} (hq : am_lk1 pc (am_tab M) = some (.iinc i n, len)) (hx : am_get1 L i = some (.int x)) (hn : am_nl L i = true) : am_E d M pc L st hp = am_E d M (pc + 3) (L.set i (some (.int (x + Int32.ofInt n)))) st hp := by
  refine am_E_go hq ?_
  have hi := (am_get1_lt hx).1
  simp only [am_step, hx, am_st1, hi, hn, and_self, if_true]
  rfl
theorem E_icmp {cd : ClassFile.Cond} {off : Int} {x y : Int32} {t : Nat} (hq : am_lk1 pc (am_tab M) = some (.if_icmp cd off, len)) (ht : am_tgt pc off = some t) : am_E d M pc L (.int y :: .int x :: st) hp = if am_ci cd x y = true then am_E d M t L st hp else am_E d M (pc + 3) L st hp := by
  by_cases h : am_ci cd x y = true
  · rw [if_pos h]
    exact am_E_go hq (by simp only [am_step, am_br, ht, h, if_true]; rfl)
  · rw [if_neg h]
    exact am_E_go hq (by simp only [am_step, am_br, ht, h]; rfl)
theorem E_if {cd : ClassFile.Cond} {off : Int} {x : Int32} {t : Nat} (hq : am_lk1 pc (am_tab M) = some (.ifCond cd off, len)) (ht : am_tgt pc off = some t) : am_E d M pc L (.int x :: st) hp = if am_ci cd x 0 = true then am_E d M t L st hp else am_E d M (pc + 3) L st hp := by
  by_cases h : am_ci cd x 0 = true
  · rw [if_pos h]
    exact am_E_go hq (by simp only [am_step, am_br, ht, h, if_true]; rfl)
  · rw [if_neg h]
    exact am_E_go hq (by simp only [am_step, am_br, ht, h]; rfl)
theorem E_eq {α : Type} {x y : Int32} {a b c : α} (h : c = if am_ci .eq x y = true then a else b) : c = if x = y then a else b := by rw [h]; simp only [am_ci, decide_eq_true_eq]
theorem E_ne {α : Type} {x y : Int32} {a b c : α} (h : c = if am_ci .ne x y = true then a else b) : c = if x = y then b else a := by
  rw [h]
  simp only [am_ci, decide_eq_true_eq]
  by_cases q : x = y
  · rw [if_pos q, if_neg (fun z => z q)]
  · rw [if_neg q, if_pos q]
theorem E_lt {α : Type} {x y : Int32} {a b c : α} (h : c = if am_ci .lt x y = true then a else b) : c = if x < y then a else b := by rw [h]; simp only [am_ci, decide_eq_true_eq]
theorem E_ge {α : Type} {x y : Int32} {a b c : α} (h : c = if am_ci .ge x y = true then a else b) : c = if x < y then b else a := by
  rw [h]
  simp only [am_ci, decide_eq_true_eq]
  by_cases q : x < y
  · rw [if_pos q, if_neg (Int32.not_le.mpr q)]
  · rw [if_neg q, if_pos (Int32.not_lt.mp q)]
theorem E_gt {α : Type} {x y : Int32} {a b c : α} (h : c = if am_ci .gt x y = true then a else b) : c = if y < x then a else b := by rw [h]; simp only [am_ci, decide_eq_true_eq]
theorem E_le {α : Type} {x y : Int32} {a b c : α} (h : c = if am_ci .le x y = true then a else b) : c = if y < x then b else a := by
  rw [h]
  simp only [am_ci, decide_eq_true_eq]
  by_cases q : y < x
  · rw [if_pos q, if_neg (Int32.not_le.mpr q)]
  · rw [if_neg q, if_pos (Int32.not_lt.mp q)]
theorem E_div {x y : Int32} (hq : am_lk1 pc (am_tab M) = some (.idiv, len)) (h : (y = 0) = False) : am_E d M pc L (.int y :: .int x :: st) hp = am_E d M (pc + 1) L (.int (x / y) :: st) hp := am_E_go hq (by simp only [am_step, am_d2, h, if_false]; rfl)
theorem E_rem {x y : Int32} (hq : am_lk1 pc (am_tab M) = some (.irem, len)) (h : (y = 0) = False) : am_E d M pc L (.int y :: .int x :: st) hp = am_E d M (pc + 1) L (.int (x - x / y * y) :: st) hp := am_E_go hq (by simp only [am_step, am_d2, h, if_false]; rfl)
theorem E_ldiv {x y : Int64} (hq : am_lk1 pc (am_tab M) = some (.ldiv, len)) (h : (y = 0) = False) : am_E d M pc L (.long y :: .long x :: st) hp = am_E d M (pc + 1) L (.long (x / y) :: st) hp := am_E_go hq (by simp only [am_step, am_d2l, h, if_false]; rfl)
theorem E_lrem {x y : Int64} (hq : am_lk1 pc (am_tab M) = some (.lrem, len)) (h : (y = 0) = False) : am_E d M pc L (.long y :: .long x :: st) hp = am_E d M (pc + 1) L (.long (x - x / y * y) :: st) hp := am_E_go hq (by simp only [am_step, am_d2l, h, if_false]; rfl)
theorem E_dup {v : Value} (hq : am_lk1 pc (am_tab M) = some (.dup, len)) (h : v.category = 1) : am_E d M pc L (v :: st) hp = am_E d M (pc + 1) L (v :: v :: st) hp := am_E_go hq (by simp only [am_step, h, if_true]; rfl)
theorem E_pop {v : Value} (hq : am_lk1 pc (am_tab M) = some (.pop, len)) (h : v.category = 1) : am_E d M pc L (v :: st) hp = am_E d M (pc + 1) L st hp := am_E_go hq (by simp only [am_step, h, if_true]; rfl)
theorem E_getf {ix c j k : Nat} (hq : am_lk1 pc (am_tab M) = some (.getfield ix, len)) (hl : am_lk2 (am_o M) ix am_fT = some (c, j)) : am_E d M pc L (.ref k :: st) hp = (am_fld hp k c j).elim none (fun v => am_E d M (pc + 3) L (v :: st) hp) := by
  unfold am_fld
  cases ho : am_obj hp k with
  | none => exact am_E_no hq (by simp only [am_step, hl, am_getf, ho])
  | some o =>
    obtain ⟨c2, fs⟩ := o
    by_cases hc : Nat.beq c2 c = true
    · simp only [hc, if_true]
      cases hv : fs[j]? with
      | none => exact am_E_no hq (by simp only [am_step, hl, am_getf, ho, hc, if_true, hv])
      | some v => exact am_E_go hq (by simp only [am_step, hl, am_getf, ho, hc, if_true, hv]; rfl)
    · simp only [hc]
      exact am_E_no hq (by simp only [am_step, hl, am_getf, ho, hc]; rfl)
theorem E_putf {ix c j k : Nat} {v : Value} (hq : am_lk1 pc (am_tab M) = some (.putfield ix, len)) (hl : am_lk2 (am_o M) ix am_fT = some (c, j)) (hf : am_fitb (am_ty c j) v = true) (hw : (am_cls c j).2.2.2 = false ∨ (am_kind M = 2 ∧ am_o M = c)) : am_E d M pc L (v :: .ref k :: st) hp = (am_pf hp k c j v).elim none (fun hp2 => am_E d M (pc + 3) L st hp2) := by
  unfold am_pf
  cases ho : am_obj hp k with
  | none => exact am_E_no hq (by simp only [am_step, hl, am_putf, ho])
  | some o =>
    obtain ⟨c2, fs⟩ := o
    dsimp only
    by_cases hc : Nat.beq c2 c = true ∧ j < fs.length
    · rw [if_pos hc]
      exact am_E_go hq (by simp only [am_step, hl, am_putf, ho]; rw [if_pos ⟨hc.1, hc.2, hf, hw⟩]; rfl)
    · rw [if_neg hc]
      exact am_E_no hq (by simp only [am_step, hl, am_putf, ho]; rw [if_neg (fun z => hc ⟨z.1, z.2.1⟩)])
theorem E_iald {a : Nat} {i : Int32} (hq : am_lk1 pc (am_tab M) = some (.iaload, len)) : am_E d M pc L (.int i :: .ref a :: st) hp = (am_ld hp a i).elim none (fun v => am_E d M (pc + 1) L (.int v :: st) hp) := by
  unfold am_ld
  cases ho : am_arr hp a with
  | none => exact am_E_no hq (by simp only [am_step, ho])
  | some xs =>
    dsimp only
    cases hv : am_ix i xs.length with
    | none => exact am_E_no hq (by simp only [am_step, ho, hv])
    | some v => exact am_E_go hq (by simp only [am_step, ho, hv]; rfl)
theorem E_iast {a : Nat} {i x : Int32} (hq : am_lk1 pc (am_tab M) = some (.iastore, len)) : am_E d M pc L (.int x :: .int i :: .ref a :: st) hp = (am_sx hp a i x).elim none (fun hp2 => am_E d M (pc + 1) L st hp2) := by
  unfold am_sx
  cases ho : am_arr hp a with
  | none => exact am_E_no hq (by simp only [am_step, ho])
  | some xs =>
    dsimp only
    cases hv : am_ix i xs.length with
    | none => exact am_E_no hq (by simp only [am_step, ho, hv])
    | some v => exact am_E_go hq (by simp only [am_step, ho, hv]; rfl)
theorem E_aald {a : Nat} {i : Int32} (hq : am_lk1 pc (am_tab M) = some (.aaload, len)) : am_E d M pc L (.int i :: .ref a :: st) hp = (am_lr hp a i).elim none (fun v => am_E d M (pc + 1) L (.ref v :: st) hp) := by
  unfold am_lr
  cases ho : am_rar hp a with
  | none => exact am_E_no hq (by simp only [am_step, ho])
  | some xs =>
    dsimp only
    cases hv : am_ix i xs.length with
    | none => exact am_E_no hq (by simp only [am_step, ho, hv])
    | some j =>
      dsimp only
      cases hw : xs.getD j none with
      | none => exact am_E_no hq (by simp only [am_step, ho, hv, hw])
      | some v => exact am_E_go hq (by simp only [am_step, ho, hv, hw]; rfl)
theorem E_alen {a : Nat} (hq : am_lk1 pc (am_tab M) = some (.arraylength, len)) : am_E d M pc L (.ref a :: st) hp = (am_arr hp a).elim none (fun xs => am_E d M (pc + 1) L (.int (Int32.ofNat xs.length) :: st) hp) := by
  cases ho : am_arr hp a with
  | none => exact am_E_no hq (by simp only [am_step, ho])
  | some xs => exact am_E_go hq (by simp only [am_step, ho]; rfl)
theorem E_copy {ix a b : Nat} {sp dp n : Int32} (hq : am_lk1 pc (am_tab M) = some (.invokestatic ix, len)) (hl : am_lk2 (am_o M) ix am_mT = some 900) (hc : am_cat st ≤ 8) : am_E d M pc L (.int n :: .int dp :: .ref a :: .int sp :: .ref b :: st) hp = (am_cp hp b sp a dp n).elim none (fun hp2 => am_E d M (pc + 3) L st hp2) := by
  unfold am_cp
  have h9 : Nat.beq 900 900 = true := rfl
  cases hb : am_arr hp b with
  | none => exact am_E_no hq (by simp only [am_step, hl, h9, if_true, am_copy, hb])
  | some f =>
    cases ha : am_arr hp a with
    | none => exact am_E_no hq (by simp only [am_step, hl, h9, if_true, am_copy, hb, ha])
    | some g =>
      dsimp only
      split
      · rename_i q
        exact am_E_go hq (by simp only [am_step, hl, h9, if_true, am_copy, hb, ha]; rw [if_pos ⟨q.1, q.2.1, q.2.2.1, q.2.2.2.1, q.2.2.2.2, hc⟩]; rfl)
      · rename_i q
        exact am_E_no hq (by simp only [am_step, hl, h9, if_true, am_copy, hb, ha]; rw [if_neg (fun z => q ⟨z.1, z.2.1, z.2.2.1, z.2.2.2.1, z.2.2.2.2.1⟩)])
theorem E_call {ins : Instr} {M2 n : Nat} {L2 : am_L} {as rest : List Value} (hq : am_lk1 pc (am_tab M) = some (ins, len)) (hs : am_step M ins pc L st hp = am_call M2 n st) (hn : n ≤ st.length) (hc : am_cat (st.drop n) ≤ 8) (hen : am_entry M2 (st.take n).reverse = some L2) : am_E (d + 1) M pc L st hp = (am_E d M2 0 L2 [] hp).bind (fun v => am_E (d + 1) M (pc + 3) L (v.1.toList ++ st.drop n) v.2) := am_E_call hq (hs.trans (by rw [am_call, if_pos ⟨hn, hc⟩])) hen
end AMQ
section AMU
variable {d M pc ix len : Nat} {L : am_L} {st : List Value} {hp : am_H}
theorem E_ldc {v : Int32} (hq : am_lk1 pc (am_tab M) = some (.ldc ix, len)) (hl : am_lk2 (am_o M) ix am_kT = some (.int v)) (ho : ¬ am_o M = 12) : am_E d M pc L st hp = am_E d M (pc + 2) L (.int v :: st) hp := am_E_go hq (by simp only [am_step, hl, if_neg ho]; rfl)
theorem E_ldcw {v : Int32} (hq : am_lk1 pc (am_tab M) = some (.ldc_w ix, len)) (hl : am_lk2 (am_o M) ix am_kT = some (.int v)) (ho : ¬ am_o M = 12) : am_E d M pc L st hp = am_E d M (pc + 3) L (.int v :: st) hp := am_E_go hq (by simp only [am_step, hl, if_neg ho]; rfl)
theorem E_ldc2 {v : Int64} (hq : am_lk1 pc (am_tab M) = some (.ldc2_w ix, len)) (hl : am_lk2 (am_o M) ix am_kT = some (.long v)) : am_E d M pc L st hp = am_E d M (pc + 3) L (.long v :: st) hp := am_E_go hq (by simp only [am_step, hl]; rfl)
theorem E_entry {M2 : Nat} {y : MethodName} {bs : ByteArray} {mx : Nat} {rt : Option FieldType} {o np k : Nat} {tb : List (Nat × Instr × Nat)} {as : List Value} {L2 : am_L} (hr : am_rec M2 = some (y, bs, mx, rt, o, np, k, tb)) (hle : (am_args as).length ≤ mx) (hL : am_args as ++ List.replicate (mx - (am_args as).length) none = L2) : am_entry M2 as = some L2 := by
  unfold am_entry
  rw [hr]
  dsimp only
  rw [if_pos hle, hL]
theorem E_callV {M2 : Nat} {y : MethodName} {bs : ByteArray} {mx : Nat} {rt : Option FieldType} {o np : Nat} {tb : List (Nat × Instr × Nat)} {L2 : am_L} (hq : am_lk1 pc (am_tab M) = some (.invokevirtual ix, len)) (hl : am_lk2 (am_o M) ix am_mT = some M2) (hr : am_rec M2 = some (y, bs, mx, rt, o, np, 1, tb)) (hv : am_recv o st[np]? hp = true) (hn : np + 1 ≤ st.length) (hc : am_cat (st.drop (np + 1)) ≤ 8) (hle : (am_args (st.take (np + 1)).reverse).length ≤ mx) (hL : am_args (st.take (np + 1)).reverse ++ List.replicate (mx - (am_args (st.take (np + 1)).reverse).length) none = L2) : am_E (d + 1) M pc L st hp = (am_E d M2 0 L2 [] hp).bind (fun v => am_E (d + 1) M (pc + 3) L (v.1.toList ++ st.drop (np + 1)) v.2) := by
  refine E_call (as := []) (rest := []) hq ?_ hn hc (E_entry hr hle hL)
  simp only [am_step, hl, hr]
  rw [if_pos ⟨rfl, hv⟩]
theorem E_callS {M2 : Nat} {y : MethodName} {bs : ByteArray} {mx : Nat} {rt : Option FieldType} {o np : Nat} {tb : List (Nat × Instr × Nat)} {L2 : am_L} (hq : am_lk1 pc (am_tab M) = some (.invokestatic ix, len)) (hl : am_lk2 (am_o M) ix am_mT = some M2) (h9 : Nat.beq M2 900 = false) (hr : am_rec M2 = some (y, bs, mx, rt, o, np, 0, tb)) (hn : np ≤ st.length) (hc : am_cat (st.drop np) ≤ 8) (hle : (am_args (st.take np).reverse).length ≤ mx) (hL : am_args (st.take np).reverse ++ List.replicate (mx - (am_args (st.take np).reverse).length) none = L2) : am_E (d + 1) M pc L st hp = (am_E d M2 0 L2 [] hp).bind (fun v => am_E (d + 1) M (pc + 3) L (v.1.toList ++ st.drop np) v.2) := by
  refine E_call (as := []) (rest := []) hq ?_ hn hc (E_entry hr hle hL)
  simp only [am_step, hl, hr, h9]
  rw [if_neg (by decide)]
  rfl
theorem E_ret {v : Int32} {y : MethodName} {bs : ByteArray} {mx : Nat} {ty : FieldType} {o np k : Nat} {tb : List (Nat × Instr × Nat)} (hq : am_lk1 pc (am_tab M) = some (.ireturn, len)) (hr : am_rec M = some (y, bs, mx, some ty, o, np, k, tb)) (hn : narrow ty (.int v) = .int v) : am_E d M pc L [.int v] hp = some (some (.int v), hp) := am_E_ret hq (by simp only [am_step, hr]; rw [if_pos hn])
theorem E_retv {y : MethodName} {bs : ByteArray} {mx : Nat} {o np k : Nat} {tb : List (Nat × Instr × Nat)} (hq : am_lk1 pc (am_tab M) = some (.return_, len)) (hr : am_rec M = some (y, bs, mx, none, o, np, k, tb)) : am_E d M pc L [] hp = some (none, hp) := am_E_ret hq (by simp only [am_step, hr])
theorem E_tab {x : Int32} {dflt lo hi off : Int} {offs : Array Int} {t : Nat} (hq : am_lk1 pc (am_tab M) = some (.tableswitch dflt lo hi offs, len)) (hi2 : (x.toInt < lo ∨ hi < x.toInt) = False) (ho : offs[(x.toInt - lo).toNat]? = some off) (ht : am_tgt pc off = some t) : am_E d M pc L (.int x :: st) hp = am_E d M t L st hp := am_E_go hq (by simp only [am_step, hi2, if_false, ho, am_go, ht]; rfl)
theorem E_tabO {x : Int32} {dflt lo hi : Int} {offs : Array Int} {t : Nat} (hq : am_lk1 pc (am_tab M) = some (.tableswitch dflt lo hi offs, len)) (ht : am_tgt pc dflt = some t) (hi2 : (x.toInt < lo ∨ hi < x.toInt) = True) : am_E d M pc L (.int x :: st) hp = am_E d M t L st hp := am_E_go hq (by simp only [am_step, hi2, if_true, am_go, ht]; rfl)
theorem E_lk {x : Int32} {dflt off : Int} {ps : Array (Int × Int)} {t : Nat} (hq : am_lk1 pc (am_tab M) = some (.lookupswitch dflt ps, len)) (hp1 : (ps.toList.zip (ps.toList.drop 1)).all (fun (a, next) => a.1 < next.1) = true) (ht : am_tgt pc off = some t) (ho : Op.lookupswitch.offset ps.toList dflt x.toInt = off) : am_E d M pc L (.int x :: st) hp = am_E d M t L st hp := am_E_go hq (by simp only [am_step, hp1, if_true, ho, am_go, ht]; rfl)
end AMU
