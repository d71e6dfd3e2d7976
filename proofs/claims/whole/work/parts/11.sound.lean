/-! THE ABSTRACT MACHINE IS SOUND -/
theorem am_K.warm {g : am_G} {s U : State} (hW : s.WarmedH U.vm) (h : am_K g s) : am_K g U := by
  refine ⟨va_K.moved hW.alike h.1, fun w hw => ?_, va_AO.moved hW.alike h.2.2⟩
  have h1 := h.2.1 w hw
  have h2 := List.all_eq_true.mp am_nest_k w hw
  cases w <;> first | exact va_Nw.warmF hW h1 | exact va_Nw.warmM hW h1 | (simp at h2)
theorem am_K.same {g : am_G} {s U : State} (hv : s.vm = U.vm) (h : am_K g s) : am_K g U := by
  refine ⟨va_K.moved (by rw [hv]; exact Vm.Alike.refl _) h.1, fun w hw => ?_, va_AO.moved (by rw [hv]; exact Vm.Alike.refl _) h.2.2⟩
  have h1 := h.2.1 w hw
  have h2 := List.all_eq_true.mp am_nest_k w hw
  cases w <;> first | exact va_Nw.same rfl hv h1 | (simp at h2)
theorem am_S.warm {g : am_G} {s U : State} {H : Heap} {locs : List Loc} (hW : s.WarmedH U.vm) (hU : U.heap = H) (hS : va_S (am_A g) s.heap H locs) (h : am_S g s s.heap) : am_S g U U.heap := by
  rw [hU]
  exact ⟨vk_R.warm hW h.1, va_O.moved hW.alike (h.2.1.kept hS.2.1), va_OF.moved hW.alike (h.2.2.1.kept hS.2.1), va_OF.moved hW.alike (h.2.2.2.1.kept hS.2.1), va_T.moved hW.alike (h.2.2.2.2.1.kept hS.2.1), va_Z.moved hW.alike (h.2.2.2.2.2.1.kept hS.2.1), va_Z.moved hW.alike (h.2.2.2.2.2.2.kept hS.2.1)⟩
theorem am_S.same {g : am_G} {s U : State} (hv : s.vm = U.vm) (hh : s.heap = U.heap) (h : am_S g s s.heap) : am_S g U U.heap := by
  have ha : s.vm.Alike U.vm := by rw [hv]; exact Vm.Alike.refl _
  rw [← hh]
  exact ⟨vk_R.same hv.symm h.1, va_O.moved ha h.2.1, va_OF.moved ha h.2.2.1, va_OF.moved ha h.2.2.2.1, va_T.moved ha h.2.2.2.2.1, va_Z.moved ha h.2.2.2.2.2.1, va_Z.moved ha h.2.2.2.2.2.2⟩
def am_rm (d mc ms : Nat) : Room := { frames := d + 1, cells := mc, slots := ms, locals := 40 * (d + 1) }
def am_Pc (g : am_G) (as : List Value) (hp : am_H) : Array Value → State → Prop := fun v U => v = (as.map (am_cv g)).toArray ∧ am_P g hp U.heap ∧ U.heap.size = g.2.2.1 + hp.length ∧ am_K g U ∧ am_S g U U.heap
def am_Q (g : am_G) (r : Option Value) (hp : am_H) : Array Value → State → Outcome → State → Prop := match r with
  | some (.int v) => va_Qi (fun x (_ : Unit) => x = v) (fun _ t => am_P g hp t.heap) (am_A g)
  | none => va_Qv (fun (_ : Unit) => True) (fun _ t => am_P g hp t.heap) (am_A g)
  | _ => fun _ _ _ _ => False
theorem am_blind (g : am_G) (as : List Value) (hp : am_H) : FrameBlind (am_Pc g as hp) := by
  intro a U f mk h
  obtain ⟨h1, h2, h3, h4, h5⟩ := h
  exact ⟨h1, h2, h3, am_K.same (s := U) rfl h4, am_S.same (s := U) rfl rfl h5⟩
theorem am_ofW {l : Launch} {y : MethodName} {ws ws' : List Cond} {rm : Room} {Pc : Array Value → State → Prop} {Qc : Array Value → State → Outcome → State → Prop} {mc ms : Nat} {free : Addr → Prop} {cc : ByteArray} {maxL : Nat} {ret : Option FieldType}
    (hy : plainFor y = true) (hw : ws = Cond.code y cc maxL ret :: ws')
    (body : ∀ p e s m args below meth c s₁, BodyLoose p l y (headSpec ws rm) cc maxL ret e s m args below meth c s₁ → c.maxLocals = maxL → Pc args s →
      W p l e (headSpec ws rm).room s m args below meth c s.heap [] 0 0 (MQ below Qc args s mc ms free) (entryFrame m args maxL)) : Met l y ws rm Pc Qc mc ms free := by
  refine MetFree.of_bodySF (code := cc) (maxLocals := maxL) (ret := ret) hy ?_ ?_
  · intro args s m h hn
    obtain ⟨meth, c, h1, h2, h3, h4, h5, h6, -, -⟩ := Cond.code_spec hn (atoms_spec (ws := ws) h _ (by rw [hw]; exact List.mem_cons_self))
    exact ⟨meth, c, h1, h2, h3, h4, h5, h6⟩
  · intro p e s m args below meth c s₁ B hml hP _
    have hh0 : s₁.heap = s.heap := by rw [B.state]; rfl
    obtain ⟨t, a1, o, b1, b2, b3⟩ := body p e s m args below meth c s₁ B hml hP s₁ hh0 (Stand.of_body B)
    exact ⟨t, o, a1, b1, b2, ⟨b3.1, b3.2⟩⟩
theorem am_entry_ls {g : am_G} {M : Nat} {y : MethodName} {bs : ByteArray} {mx : Nat} {rt : Option FieldType} {o np k : Nat} {tb : List (Nat × Instr × Nat)} (hrec : am_rec M = some (y, bs, mx, rt, o, np, k, tb)) {as : List Value} {L : am_L} (h : am_entry M as = some L) :
    L.length = mx ∧ am_ls g ((lg_sl (as.map (am_cv g)) ++ List.replicate (mx - (lg_sl (as.map (am_cv g))).length) Slot.unset).toArray) L := by
  unfold am_entry at h
  rw [hrec] at h
  dsimp only at h
  split at h
  · rename_i hle
    cases h
    have hlen : (am_args as ++ List.replicate (mx - (am_args as).length) none : am_L).length = mx := by
      rw [List.length_append, List.length_replicate]; omega
    have hle2 : (lg_sl (as.map (am_cv g))).length ≤ mx := by rw [am_lg_len, ← am_args_len]; exact hle
    have he := lv_entry (as.map (am_cv g)) (n := mx) hle2
    refine ⟨hlen, ?_⟩
    unfold am_ls
    rw [hlen]
    refine ⟨he.1, he.2.1, fun q hq => ?_⟩
    obtain ⟨v, h1, h2⟩ := am_asc_inv hq
    have h3 : am_get1 (am_args as) q.1 = some v := by
      obtain ⟨h4, h5⟩ := am_get1_lt h1
      by_cases hl : q.1 < (am_args as).length
      · rw [List.getElem?_append_left hl] at h5
        unfold am_get1
        rw [h5]
      · rw [List.getElem?_append_right (by omega)] at h5
        have := List.eq_of_mem_replicate (List.mem_of_getElem? h5)
        cases this
    have h6 := am_args_get g as 0 q.1 v h3
    rw [Nat.zero_add, ← h2] at h6
    exact he.2.2 q h6
  · cases h
theorem am_met_core (l : Launch) (g : am_G) {M : Nat} {y : MethodName} {bs : ByteArray} {mx : Nat} {rt : Option FieldType} {o np k : Nat} {tb : List (Nat × Instr × Nat)} (hrec : am_rec M = some (y, bs, mx, rt, o, np, k, tb)) {as : List Value} {L : am_L} (hen : am_entry M as = some L) {hp hp1 : am_H} {v : Option Value} {d : Nat} (hg : hp.length ≤ hp1.length ∧ am_tot hp ≤ am_tot hp1)
    (ih : ∀ (p : Program) (e : Env) (R : Room) (s : State) (m : MethodId) (args : Array Value) (below : List Frame) (meth : Method) (c : Code), am_X p s m args meth c g M → c.maxLocals = L.length → s.heap.size = g.2.2.1 + hp.length → R.frames = d + 1 → R.locals = 40 * (d + 1) → hp.length + R.cells = hp1.length → am_tot hp + R.slots = am_tot hp1 → am_W p l e R s m args below meth c (MQ below (am_Q g v hp1) args s R.cells R.slots (am_A g)) g hp.length (am_tot hp) 0 L [] hp) :
    Met l y (Cond.code y bs mx rt :: am_bw) (am_rm d (hp1.length - hp.length) (am_tot hp1 - am_tot hp)) (am_Pc g as hp) (am_Q g v hp1) (hp1.length - hp.length) (am_tot hp1 - am_tot hp) (am_A g) := by
  have hmP := ap_all _ (List.mem_of_getElem? hrec)
  obtain ⟨hcode, hplain, hcls, -⟩ := hmP
  refine am_ofW (cc := bs) (maxL := mx) (ret := rt) hplain rfl ?_
  intro p e s m args below meth c s₁ B hml hv
  obtain ⟨rfl, hP, hsz, hK, hSt⟩ := hv
  have hts := atoms_spec (ws := Cond.code y bs mx rt :: am_bw) B.pre
  obtain ⟨hLl, hls⟩ := am_entry_ls (g := g) hrec hen
  have hown : s.vm.findClass (am_on o) = some m.cls := by rw [← hcls]; exact findClass_of_methodNamed B.named
  have hw := ih p e (am_rm d (hp1.length - hp.length) (am_tot hp1 - am_tot hp)) s m (as.map (am_cv g)).toArray below meth c ⟨y, bs, mx, rt, o, np, k, tb, hrec, B.exec, B.bytes, hml, B.returns, hown, fun w h => hts w (List.mem_cons_of_mem _ h), B.notSynchronized, (name_of_methodNamed B.named B.method).1, hK, hSt, by omega⟩ (hml.trans hLl.symm) hsz rfl rfl (by show hp.length + (hp1.length - hp.length) = _; omega) (by show am_tot hp + (am_tot hp1 - am_tot hp) = _; omega)
  rw [lg_entry_eq]
  exact hw _ s.heap [] 0 0 hls hP va_S.rf rfl rfl
