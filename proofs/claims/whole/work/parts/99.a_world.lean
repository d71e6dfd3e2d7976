/-! THE CLAIM OUT OF ONE WALK OF THE LAW'S BODY. Your part is whole_start (and what it stands on); all else here is the same for every law, but numbers. -/
def R_law : String := "LampsOfDissentLaw"
def lw_P (b : Addr) (xs : List Int32) (args : Array Value) (s : State) : Prop := args = #[.ref b] ∧ s.IntsAt b xs ∧ xs.length ≤ 256 ∧ (Jvm.Cond.and given_1 narrow_1).before args s = true
def lw_Q (_ : Array Value) (s : State) (o : Outcome) (t : State) : Prop := o = .returned (some (.int 1)) ∧ Framed s o t [] 600000 7302250
def lw_Z (below : List Frame) (a : Array Value) (s : State) : State → Prop := fun t => ∃ o, t.status = .running ∧ Ended t below o ∧ lw_Q a s o t
/-- the law's own end, with 1 on the stack, nothing written that was there before, its room as the claim has it -/
theorem lw_ret {p : Program} {l : Launch} {e : Env} {s : State} {m : MethodId} {below : List Frame} {meth : Method} {c : Code} {b : Nat} (hx : p.tables.exec = Jvm.exec) (hb : c.code = code) (hr : meth.sig.returnType = ret) (hlocks : meth.locks = false) {pc : Nat} {H : Heap} {ls : Array Slot} (hdg : decode code pc = .ok (.ireturn, 1)) : W p l e room_1 s m #[Value.ref b] below meth c H [] 600000 7302250 (lw_Z below #[Value.ref b] s) (F0 m pc ls [.int 1]) := by
  intro T hT X
  obtain ⟨fs, hret, hrun, hended, hW, hframe⟩ := X.leave (v := some (.int 1)) (hlocks := hlocks) (fun h => by rw [hr] at h; cases h)
  have hmeth' : T.vm.method? m = some meth := X.method'
  refine ⟨T.setFrames fs, ?_, .returned (some (.int 1)), hrun, hended, rfl, ⟨_, rfl⟩, hW, hframe⟩
  jvm_step X.here [X.here.top, hx, hb, hdg, hmeth', hr, ret, narrow_b1]
  (try refine ⟨rfl, ?_⟩); (try refine ⟨rfl, ?_⟩)
  first | (intro acts; rw [hret _ acts rfl rfl rfl]) | rw [hret _ _ rfl rfl rfl]
  exact Steps.refl _
/-- what holds at the law's entry: the machine, the code, the tables' words (any of lw_tbl by 'hts w (by decide +kernel)'), the script of L ints xs at the cell b, what the Statement gives of the start (any of its parts by flat_of_before) -/
def lw_At (p : Program) (s : State) (m : MethodId) (meth : Method) (c : Code) (b L : Nat) (xs : Nat → Int32) : Prop :=
  p.tables.exec = Jvm.exec ∧ c.code = code ∧ meth.sig.returnType = ret ∧ c.maxLocals = 4 ∧ s.vm.findClass R_law = some m.cls ∧ (∀ w ∈ lw_tbl, w.before #[Value.ref b] s = true) ∧ va_X b L xs s s.heap ∧ b < s.heap.size ∧ meth.locks = false ∧ (Jvm.Cond.and given_1 narrow_1).before #[Value.ref b] s = true
/-! THE START: the world of the abstract machine, out of what the law is given -/
section STW
variable {s : State} {b : Nat}
theorem am_hts {A : Array Value} (hts : ∀ w ∈ lw_tbl, w.before A s = true) : ∀ w ∈ am_bw, w.before A s = true := fun w h => hts w (am_gd w h).1
theorem st_tb {A : Array Value} (hts : ∀ w ∈ lw_tbl, w.before A s = true) {w : Cond} (h : w ∈ tables_1) : w.before A s = true := hts w (List.mem_append_right _ h)
theorem st_D {A : Array Value} (hts : ∀ w ∈ lw_tbl, w.before A s = true) : ∃ D : va_G, ∀ (c : Nat) (q : vw_C), vwCl[c]? = some q → u_Kn s q.1 q.2.1 q.2.2 (D.1 c) (D.2 c) := by
  have hb := am_hts hts
  have h0 : ∀ c : Nat, ∃ q : ClassId × (Nat → Nat), ∀ r : vw_C, vwCl[c]? = some r → u_Kn s r.1 r.2.1 r.2.2 q.1 q.2 := by
    intro c
    cases hc : vwCl[c]? with
    | none => exact ⟨(default, fun _ => 0), fun r h => by cases h⟩
    | some r =>
      obtain ⟨C, T, N⟩ := r
      obtain ⟨h1, -, -, h4, -⟩ := am_class _ _ _ _ hc
      obtain ⟨cC, iS, hk⟩ := u_known hb h1 (hb _ h4)
      exact ⟨(cC, iS), fun r h => by cases h; exact hk⟩
  obtain ⟨f, hf⟩ := Classical.axiomOfChoice h0
  exact ⟨(fun c => (f c).1, fun c => (f c).2), fun c q hq => hf c q hq⟩
theorem st_int {A : Array Value} (hts : ∀ w ∈ lw_tbl, w.before A s = true) : ∃ c1 : ClassId, ArrOfT s c1 .int ∧ va_RA s c1 .int := by
  obtain ⟨c, k, comp, h1, h2, h3⟩ := Cond.arrayClass_spec (am_hts hts _ aw_1_45)
  exact ⟨c, fun n z => ⟨fun k h => (by cases h), k, h2, comp, h3⟩, h1⟩
theorem st_ao {A : Array Value} (hts : ∀ w ∈ lw_tbl, w.before A s = true) : (Cond.arrayOver (.object RX2)).before A s = true := st_tb hts (am_r1 _ (List.mem_of_getElem? (i := 139) rfl))
theorem st_ref {A : Array Value} (hts : ∀ w ∈ lw_tbl, w.before A s = true) : ∃ c2 : ClassId, ArrOfT s c2 (.object RX2) ∧ va_RA s c2 (.object RX2) := by
  obtain ⟨comp, c, k, h1, -, h2, h3, h4⟩ := Cond.arrayOver_spec (st_ao hts)
  exact ⟨c, fun n z => ⟨fun k h => (by cases h), k, h2, comp, h3⟩, k, comp, h2, h3, h1, h4⟩
theorem st_K {A : Array Value} (hts : ∀ w ∈ lw_tbl, w.before A s = true) : ∃ (D : va_G) (c1 c2 : ClassId), ∀ z, am_K (D, (c1, c2), z) s := by
  obtain ⟨D, hD⟩ := st_D hts
  obtain ⟨c1, h1, h2⟩ := st_int hts
  obtain ⟨c2, h3, h4⟩ := st_ref hts
  refine ⟨D, c1, c2, fun z => ⟨⟨hD, fun k q hk => ?_⟩, fun w hw => ?_, va_AO.of (st_ao hts)⟩⟩
  · match k, hk with
    | 0, hk => cases hk; exact ⟨h1, h2⟩
    | 1, hk => cases hk; exact ⟨h3, h4⟩
  · have hq := List.all_eq_true.mp am_nest_k w hw
    refine va_Nw.of ?_ (st_tb hts (am_nest_in w hw))
    cases w <;> first | rfl | (simp at hq)
theorem st_S {A : Array Value} (hts : ∀ w ∈ lw_tbl, w.before A s = true) (hgv : (Jvm.Cond.and given_1 narrow_1).before A s = true) : ∃ (aK aV : Nat) (fm : Option Nat), ∀ D c, am_S (D, c, (s.heap.size, aK, aV, b, fm)) s s.heap := by
  have hs := flat_of_before _ hgv
  have hA : ∀ a : Nat, a < s.heap.size → ¬ (s.heap.size ≤ a) := fun a h => Nat.not_le.mpr h
  obtain ⟨adK, adV, hS, hev⟩ := vk_Sof (args := A) (s := s) (N := 1) (tm := fun _ => Term.string "LampsOfDissent" 71) (len := [82]) (byt := [am_bys]) (A := fun a => s.heap.size ≤ a)
    (fun i hi => by cases (show i = 0 by omega); decide) (fun i hi => hs _ (by decide +kernel)) (fun i hi => hs _ (by decide +kernel)) (fun i hi => hs _ (by decide +kernel)) (fun i hi => by cases (show i = 0 by omega); exact hs _ (by decide +kernel))
    (fun i hi j hj => by
      cases (show i = 0 by omega)
      refine hs _ ?_
      have h0 : j < 82 := hj
      revert j
      decide +kernel)
    (fun i j hi hj hn => absurd (show i = j by omega) hn) hA
  have e1 : va_Z "java/lang/String" "COMPACT_STRINGS" "Z" (.int 1) (fun a => s.heap.size ≤ a) s s.heap := va_Zof (st_tb hts (am_r1 _ (List.mem_of_getElem? (i := 213) rfl))) (st_tb hts (am_r1 _ (List.mem_of_getElem? (i := 8) rfl))) (va_eqi (hs _ (by decide +kernel))) hA
  have e2 : ∃ fm : Option Nat, va_Z "jdk/internal/util/Preconditions" "SIOOBE_FORMATTER" "Ljava/util/function/BiFunction;" (va_rf fm) (fun a => s.heap.size ≤ a) s s.heap := by
    rcases va_Zqof (A := fun a => s.heap.size ≤ a) (st_tb hts (am_r1 _ (List.mem_of_getElem? (i := 229) rfl))) (st_tb hts (am_r1 _ (List.mem_of_getElem? (i := 10) rfl))) (hs _ (by decide +kernel)) hA with h | ⟨t, h⟩
    · exact ⟨none, h⟩
    · exact ⟨some t, h⟩
  obtain ⟨fm, e2⟩ := e2
  obtain ⟨q1, q2, q3, q4⟩ := hS.1 0 (by decide)
  exact ⟨adK 0, adV 0, fm, fun D c => ⟨vk_R.of (st_tb hts (am_r1 _ (List.mem_of_getElem? (i := 203) rfl))) (hev 0 (by decide)), q1, q2, q3, q4, e1, e2⟩⟩
end STW
