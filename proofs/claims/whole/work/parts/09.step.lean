/-! EVERY INSTRUCTION OF THE ABSTRACT MACHINE IS ONE OF THE REAL MACHINE -/
def am_K (g : am_G) (U : State) : Prop := va_K g.1 vwCl [(g.2.1.1, .int), (g.2.1.2, .object RX2)] U ∧ (∀ w ∈ am_nest, va_Nw w U) ∧ va_AO RX2 U
def am_S (g : am_G) (U : State) (H : Heap) : Prop := vk_R RX6 71 am_str g.2.2.2.1 U ∧ va_O "java/lang/String" g.2.2.2.1 (am_A g) U H ∧ va_OF "java/lang/String" "coder" "B" (.int 0) g.2.2.2.1 (am_A g) U H ∧ va_OF "java/lang/String" "value" "[B" (.ref g.2.2.2.2.1) g.2.2.2.1 (am_A g) U H ∧ va_T .byte g.2.2.2.2.1 am_bys.length (fun j => .int (am_bys.getD j 0)) (am_A g) U H ∧ va_Z "java/lang/String" "COMPACT_STRINGS" "Z" (.int 1) (am_A g) U H ∧ va_Z "jdk/internal/util/Preconditions" "SIOOBE_FORMATTER" "Ljava/util/function/BiFunction;" (va_rf g.2.2.2.2.2.2) (am_A g) U H
def am_X (p : Program) (s : State) (m : MethodId) (args : Array Value) (meth : Method) (c : Code) (g : am_G) (M : Nat) : Prop :=
  ∃ (y : MethodName) (bs : ByteArray) (mx : Nat) (rt : Option FieldType) (o np k : Nat) (tb : List (Nat × Instr × Nat)), am_rec M = some (y, bs, mx, rt, o, np, k, tb) ∧ p.tables.exec = Jvm.exec ∧ c.code = bs ∧ c.maxLocals = mx ∧ meth.sig.returnType = rt ∧ s.vm.findClass (am_on o) = some m.cls ∧ (∀ w ∈ am_bw, w.before args s = true) ∧ meth.locks = false ∧ meth.name = y.name ∧ am_K g s ∧ am_S g s s.heap ∧ g.2.2.1 ≤ s.heap.size
def am_W (p : Program) (l : Launch) (e : Env) (R : Room) (s : State) (m : MethodId) (args : Array Value) (below : List Frame) (meth : Method) (c : Code) (Q : State → Prop) (g : am_G) (n0 t0 : Nat) (pc : Nat) (L : am_L) (st : List Value) (hp : am_H) : Prop :=
  ∀ (ls : Array Slot) (H : Heap) (locs : List Loc) (cells slots : Nat), am_ls g ls L → am_P g hp H → va_S (am_A g) s.heap H locs → n0 + cells = hp.length → t0 + slots = am_tot hp → W p l e R s m args below meth c H locs cells slots Q (F0 m pc ls (st.map (am_cv g)))
section AMS
variable {p : Program} {l : Launch} {e : Env} {R : Room} {s : State} {m : MethodId} {args : Array Value} {below : List Frame} {meth : Method} {c : Code} {Q : State → Prop} {g : am_G} {n0 t0 : Nat}
variable {cc : ByteArray} {pc pc2 i : Nat} {L L2 : am_L} {st st2 : List Value} {hp hp2 : am_H}
theorem as_push {v : Value} {pc3 : Nat} (h : am_next pc3 L (v :: st) hp = some (.inl (pc2, L2, st2, hp2))) (k : am_W p l e R s m args below meth c Q g n0 t0 pc2 L2 st2 hp2)
    (row : ∀ (ls : Array Slot) (rest : List Value) (H : Heap) (locs : List Loc) (cells slots : Nat), W p l e R s m args below meth c H locs cells slots Q (F0 m pc3 ls (am_cv g v :: rest)) → W p l e R s m args below meth c H locs cells slots Q (F0 m pc ls rest)) : am_W p l e R s m args below meth c Q g n0 t0 pc L st hp := by
  cases h
  intro ls H locs cells slots hl hP hS hc ht
  exact row _ _ _ _ _ _ (k ls H locs cells slots hl hP hS hc ht)
theorem as_li {pc3 : Nat} (h : am_li L i pc3 st hp = some (.inl (pc2, L2, st2, hp2))) (k : am_W p l e R s m args below meth c Q g n0 t0 pc2 L2 st2 hp2)
    (row : ∀ (x : Int32) (ls : Array Slot) (rest : List Value) (H : Heap) (locs : List Loc) (cells slots : Nat), ls[i]? = some (.val (.int x)) → W p l e R s m args below meth c H locs cells slots Q (F0 m pc3 ls (.int x :: rest)) → W p l e R s m args below meth c H locs cells slots Q (F0 m pc ls rest)) : am_W p l e R s m args below meth c Q g n0 t0 pc L st hp := by
  unfold am_li at h
  split at h
  · rename_i x hx
    cases h
    intro ls H locs cells slots hl hP hS hc ht
    exact row x _ _ _ _ _ _ (am_ls_get hl hx) (k ls H locs cells slots hl hP hS hc ht)
  · cases h
theorem as_ll {pc3 : Nat} (h : am_ll L i pc3 st hp = some (.inl (pc2, L2, st2, hp2))) (k : am_W p l e R s m args below meth c Q g n0 t0 pc2 L2 st2 hp2)
    (row : ∀ (x : Int64) (ls : Array Slot) (rest : List Value) (H : Heap) (locs : List Loc) (cells slots : Nat), ls[i]? = some (.val (.long x)) → W p l e R s m args below meth c H locs cells slots Q (F0 m pc3 ls (.long x :: rest)) → W p l e R s m args below meth c H locs cells slots Q (F0 m pc ls rest)) : am_W p l e R s m args below meth c Q g n0 t0 pc L st hp := by
  unfold am_ll at h
  split at h
  · rename_i x hx
    cases h
    intro ls H locs cells slots hl hP hS hc ht
    exact row x _ _ _ _ _ _ (am_ls_get hl hx) (k ls H locs cells slots hl hP hS hc ht)
  · cases h
theorem as_la {pc3 : Nat} (h : am_la L i pc3 st hp = some (.inl (pc2, L2, st2, hp2))) (k : am_W p l e R s m args below meth c Q g n0 t0 pc2 L2 st2 hp2)
    (row : ∀ (x : Nat) (ls : Array Slot) (rest : List Value) (H : Heap) (locs : List Loc) (cells slots : Nat), ls[i]? = some (.val (.ref x)) → W p l e R s m args below meth c H locs cells slots Q (F0 m pc3 ls (.ref x :: rest)) → W p l e R s m args below meth c H locs cells slots Q (F0 m pc ls rest)) : am_W p l e R s m args below meth c Q g n0 t0 pc L st hp := by
  unfold am_la at h
  split at h
  · rename_i x hx
    cases h
    intro ls H locs cells slots hl hP hS hc ht
    exact row _ _ _ _ _ _ _ (am_ls_get hl hx) (k ls H locs cells slots hl hP hS hc ht)
  · rename_i x hx
    cases h
    intro ls H locs cells slots hl hP hS hc ht
    exact row _ _ _ _ _ _ _ (am_ls_get hl hx) (k ls H locs cells slots hl hP hS hc ht)
  · cases h
theorem as_si {pc3 : Nat} (h : am_si L i pc3 st hp = some (.inl (pc2, L2, st2, hp2))) (k : am_W p l e R s m args below meth c Q g n0 t0 pc2 L2 st2 hp2)
    (row : ∀ (x : Int32) (lv lv' : List (Nat × Value)) (nL : Nat) (ls : Array Slot) (rest : List Value) (H : Heap) (locs : List Loc) (cells slots : Nat), lv_has ls nL lv → i < nL → (i, Value.int x) :: lv.filter (fun q => !(q.1 == i) && !(q.1 + 1 == i && q.2.category == 2)) = lv' → (∀ ls' : Array Slot, lv_has ls' nL lv' → W p l e R s m args below meth c H locs cells slots Q (F0 m pc3 ls' rest)) → W p l e R s m args below meth c H locs cells slots Q (F0 m pc ls (.int x :: rest))) : am_W p l e R s m args below meth c Q g n0 t0 pc L st hp := by
  unfold am_si at h
  split at h
  · rename_i x st'
    split at h
    · rename_i L3 hL
      cases h
      intro ls H locs cells slots hl hP hS hc ht
      have hi : i < L.length := by
        unfold am_st1 at hL
        split at hL
        · rename_i q; exact q.1
        · cases hL
      exact row x _ _ _ _ _ _ _ _ _ hl hi rfl (fun ls' hl' => k ls' H locs cells slots (am_ls_st1 hL hl') hP hS hc ht)
    · cases h
  · cases h
theorem as_sa {pc3 : Nat} (h : am_sa L i pc3 st hp = some (.inl (pc2, L2, st2, hp2))) (k : am_W p l e R s m args below meth c Q g n0 t0 pc2 L2 st2 hp2)
    (row : ∀ (x : Nat) (lv lv' : List (Nat × Value)) (nL : Nat) (ls : Array Slot) (rest : List Value) (H : Heap) (locs : List Loc) (cells slots : Nat), lv_has ls nL lv → i < nL → (i, Value.ref x) :: lv.filter (fun q => !(q.1 == i) && !(q.1 + 1 == i && q.2.category == 2)) = lv' → (∀ ls' : Array Slot, lv_has ls' nL lv' → W p l e R s m args below meth c H locs cells slots Q (F0 m pc3 ls' rest)) → W p l e R s m args below meth c H locs cells slots Q (F0 m pc ls (.ref x :: rest))) : am_W p l e R s m args below meth c Q g n0 t0 pc L st hp := by
  unfold am_sa at h
  split at h
  · rename_i x st'
    split at h
    · rename_i L3 hL
      cases h
      intro ls H locs cells slots hl hP hS hc ht
      have hi : i < L.length := by
        unfold am_st1 at hL
        split at hL
        · rename_i q; exact q.1
        · cases hL
      exact row _ _ _ _ _ _ _ _ _ _ hl hi rfl (fun ls' hl' => k ls' H locs cells slots (am_ls_st1 hL hl') hP hS hc ht)
    · cases h
  · cases h
theorem as_sl {pc3 : Nat} (h : am_sl L i pc3 st hp = some (.inl (pc2, L2, st2, hp2))) (k : am_W p l e R s m args below meth c Q g n0 t0 pc2 L2 st2 hp2)
    (row : ∀ (x : Int64) (lv lv' : List (Nat × Value)) (nL : Nat) (ls : Array Slot) (rest : List Value) (H : Heap) (locs : List Loc) (cells slots : Nat), lv_has ls nL lv → i + 1 < nL → (i, Value.long x) :: lv.filter (fun q => !(q.1 == i) && (!(q.1 == i + 1) && !(q.1 + 1 == i && q.2.category == 2))) = lv' → (∀ ls' : Array Slot, lv_has ls' nL lv' → W p l e R s m args below meth c H locs cells slots Q (F0 m pc3 ls' rest)) → W p l e R s m args below meth c H locs cells slots Q (F0 m pc ls (.long x :: rest))) : am_W p l e R s m args below meth c Q g n0 t0 pc L st hp := by
  unfold am_sl at h
  split at h
  · rename_i x st'
    split at h
    · rename_i L3 hL
      cases h
      intro ls H locs cells slots hl hP hS hc ht
      have hi : i + 1 < L.length := by
        unfold am_st2 at hL
        split at hL
        · rename_i q; exact q.1
        · cases hL
      exact row x _ _ _ _ _ _ _ _ _ hl hi rfl (fun ls' hl' => k ls' H locs cells slots (am_ls_st2 hL hl') hP hS hc ht)
    · cases h
  · cases h
theorem as_b2 {f : Int32 → Int32 → Int32} {pc3 : Nat} (h : am_b2 f pc3 L st hp = some (.inl (pc2, L2, st2, hp2))) (k : am_W p l e R s m args below meth c Q g n0 t0 pc2 L2 st2 hp2)
    (row : ∀ (x y : Int32) (ls : Array Slot) (rest : List Value) (H : Heap) (locs : List Loc) (cells slots : Nat), W p l e R s m args below meth c H locs cells slots Q (F0 m pc3 ls (.int (f x y) :: rest)) → W p l e R s m args below meth c H locs cells slots Q (F0 m pc ls (.int y :: .int x :: rest))) : am_W p l e R s m args below meth c Q g n0 t0 pc L st hp := by
  unfold am_b2 at h
  split at h
  · cases h
    intro ls H locs cells slots hl hP hS hc ht
    exact row _ _ _ _ _ _ _ _ (k ls H locs cells slots hl hP hS hc ht)
  · cases h
theorem as_d2 {f : Int32 → Int32 → Int32} {pc3 : Nat} (h : am_d2 f pc3 L st hp = some (.inl (pc2, L2, st2, hp2))) (k : am_W p l e R s m args below meth c Q g n0 t0 pc2 L2 st2 hp2)
    (row : ∀ (x y : Int32) (ls : Array Slot) (rest : List Value) (H : Heap) (locs : List Loc) (cells slots : Nat), ¬ y = 0 → W p l e R s m args below meth c H locs cells slots Q (F0 m pc3 ls (.int (f x y) :: rest)) → W p l e R s m args below meth c H locs cells slots Q (F0 m pc ls (.int y :: .int x :: rest))) : am_W p l e R s m args below meth c Q g n0 t0 pc L st hp := by
  unfold am_d2 at h
  split at h
  · split at h
    · cases h
    · rename_i hy
      cases h
      intro ls H locs cells slots hl hP hS hc ht
      exact row _ _ _ _ _ _ _ _ hy (k ls H locs cells slots hl hP hS hc ht)
  · cases h
theorem as_b2l {f : Int64 → Int64 → Int64} {pc3 : Nat} (h : am_b2l f pc3 L st hp = some (.inl (pc2, L2, st2, hp2))) (k : am_W p l e R s m args below meth c Q g n0 t0 pc2 L2 st2 hp2)
    (row : ∀ (x y : Int64) (ls : Array Slot) (rest : List Value) (H : Heap) (locs : List Loc) (cells slots : Nat), W p l e R s m args below meth c H locs cells slots Q (F0 m pc3 ls (.long (f x y) :: rest)) → W p l e R s m args below meth c H locs cells slots Q (F0 m pc ls (.long y :: .long x :: rest))) : am_W p l e R s m args below meth c Q g n0 t0 pc L st hp := by
  unfold am_b2l at h
  split at h
  · cases h
    intro ls H locs cells slots hl hP hS hc ht
    exact row _ _ _ _ _ _ _ _ (k ls H locs cells slots hl hP hS hc ht)
  · cases h
theorem as_d2l {f : Int64 → Int64 → Int64} {pc3 : Nat} (h : am_d2l f pc3 L st hp = some (.inl (pc2, L2, st2, hp2))) (k : am_W p l e R s m args below meth c Q g n0 t0 pc2 L2 st2 hp2)
    (row : ∀ (x y : Int64) (ls : Array Slot) (rest : List Value) (H : Heap) (locs : List Loc) (cells slots : Nat), ¬ y = 0 → W p l e R s m args below meth c H locs cells slots Q (F0 m pc3 ls (.long (f x y) :: rest)) → W p l e R s m args below meth c H locs cells slots Q (F0 m pc ls (.long y :: .long x :: rest))) : am_W p l e R s m args below meth c Q g n0 t0 pc L st hp := by
  unfold am_d2l at h
  split at h
  · split at h
    · cases h
    · rename_i hy
      cases h
      intro ls H locs cells slots hl hP hS hc ht
      exact row _ _ _ _ _ _ _ _ hy (k ls H locs cells slots hl hP hS hc ht)
  · cases h
theorem am_tgt_eq {pc t : Nat} {off : Int} (h : am_tgt pc off = some t) : (pc : Int) + off = (t : Int) := by
  unfold am_tgt at h
  split at h
  · rename_i q
    cases h
    exact (Int.toNat_of_nonneg q).symm
  · cases h
theorem as_go {off : Int} (h : am_go pc off L st hp = some (.inl (pc2, L2, st2, hp2))) (k : am_W p l e R s m args below meth c Q g n0 t0 pc2 L2 st2 hp2)
    {st1 : List Value}
    (row : ∀ (tgt : Nat) (ls : Array Slot) (H : Heap) (locs : List Loc) (cells slots : Nat), (pc : Int) + off = (tgt : Int) → W p l e R s m args below meth c H locs cells slots Q (F0 m tgt ls (st.map (am_cv g))) → W p l e R s m args below meth c H locs cells slots Q (F0 m pc ls (st1.map (am_cv g)))) : am_W p l e R s m args below meth c Q g n0 t0 pc L st1 hp := by
  unfold am_go at h
  split at h
  · rename_i t ht
    cases h
    intro ls H locs cells slots hl hP hS hc ht2
    exact row _ _ _ _ _ _ (am_tgt_eq ht) (k ls H locs cells slots hl hP hS hc ht2)
  · cases h
theorem as_br {b : Bool} {off : Int} (h : am_br b pc off L st hp = some (.inl (pc2, L2, st2, hp2))) (k : am_W p l e R s m args below meth c Q g n0 t0 pc2 L2 st2 hp2)
    {st1 : List Value}
    (row : ∀ (tgt : Nat) (ls : Array Slot) (H : Heap) (locs : List Loc) (cells slots : Nat), (pc : Int) + off = (tgt : Int) → (b = true → W p l e R s m args below meth c H locs cells slots Q (F0 m tgt ls (st.map (am_cv g)))) → (b = false → W p l e R s m args below meth c H locs cells slots Q (F0 m (pc + 3) ls (st.map (am_cv g)))) → W p l e R s m args below meth c H locs cells slots Q (F0 m pc ls (st1.map (am_cv g)))) : am_W p l e R s m args below meth c Q g n0 t0 pc L st1 hp := by
  unfold am_br at h
  split at h
  · rename_i t ht
    intro ls H locs cells slots hl hP hS hc ht2
    split at h
    · rename_i hb
      cases h
      exact row _ _ _ _ _ _ (am_tgt_eq ht) (fun _ => k ls H locs cells slots hl hP hS hc ht2) (fun hf => by rw [hb] at hf; cases hf)
    · rename_i hb
      cases h
      exact row _ _ _ _ _ _ (am_tgt_eq ht) (fun hf => absurd hf hb) (fun _ => k ls H locs cells slots hl hP hS hc ht2)
  · cases h
theorem as_icmp (hx : p.tables.exec = Jvm.exec) (hb : c.code = cc) {cd : ClassFile.Cond} {x y : Int32} {off : Int} (hdg : decode cc pc = .ok (.if_icmp cd off, 3)) (h : am_br (am_ci cd x y) pc off L st hp = some (.inl (pc2, L2, st2, hp2))) (k : am_W p l e R s m args below meth c Q g n0 t0 pc2 L2 st2 hp2) : am_W p l e R s m args below meth c Q g n0 t0 pc L (.int y :: .int x :: st) hp := by
  refine as_br h k (fun tgt ls H locs cells slots ht kt kf => ?_)
  cases cd with
  | eq => exact lv_icmp_eq hx hb hdg ht (fun q => kt (decide_eq_true q)) (fun q => kf (decide_eq_false q))
  | ne => exact lv_icmp_ne hx hb hdg ht (fun q => kt (decide_eq_true q)) (fun q => kf (decide_eq_false (fun z => z q)))
  | lt => exact lv_icmp_lt hx hb hdg ht (fun q => kt (decide_eq_true q)) (fun q => kf (decide_eq_false q))
  | ge => exact lv_icmp_ge hx hb hdg ht (fun q => kt (decide_eq_true q)) (fun q => kf (decide_eq_false q))
  | gt => exact lv_icmp_gt hx hb hdg ht (fun q => kt (decide_eq_true q)) (fun q => kf (decide_eq_false q))
  | le => exact lv_icmp_le hx hb hdg ht (fun q => kt (decide_eq_true q)) (fun q => kf (decide_eq_false q))
theorem as_if (hx : p.tables.exec = Jvm.exec) (hb : c.code = cc) {cd : ClassFile.Cond} {x : Int32} {off : Int} (hdg : decode cc pc = .ok (.ifCond cd off, 3)) (h : am_br (am_ci cd x 0) pc off L st hp = some (.inl (pc2, L2, st2, hp2))) (k : am_W p l e R s m args below meth c Q g n0 t0 pc2 L2 st2 hp2) : am_W p l e R s m args below meth c Q g n0 t0 pc L (.int x :: st) hp := by
  refine as_br h k (fun tgt ls H locs cells slots ht kt kf => ?_)
  cases cd with
  | eq => exact lv_if_eq hx hb hdg ht (fun q => kt (decide_eq_true q)) (fun q => kf (decide_eq_false q))
  | ne => exact lv_if_ne hx hb hdg ht (fun q => kt (decide_eq_true q)) (fun q => kf (decide_eq_false (fun z => z q)))
  | lt => exact lv_if_lt hx hb hdg ht (fun q => kt (decide_eq_true q)) (fun q => kf (decide_eq_false q))
  | ge => exact lv_if_ge hx hb hdg ht (fun q => kt (decide_eq_true q)) (fun q => kf (decide_eq_false q))
  | gt => exact lv_if_gt hx hb hdg ht (fun q => kt (decide_eq_true q)) (fun q => kf (decide_eq_false q))
  | le => exact lv_if_le hx hb hdg ht (fun q => kt (decide_eq_true q)) (fun q => kf (decide_eq_false q))
end AMS
