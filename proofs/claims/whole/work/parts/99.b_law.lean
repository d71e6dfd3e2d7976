/-! THE LAW's OWN INSTRUCTIONS -/
def Lc (p : Program) (s : State) (m : MethodId) (c : Code) (g : am_G) (b Ln : Nat) (xs : Nat → Int32) : Prop := p.tables.exec = Jvm.exec ∧ c.code = code ∧ c.maxLocals = 4 ∧ s.vm.findClass R_law = some m.cls ∧ (∀ w ∈ am_bw, w.before #[Value.ref b] s = true) ∧ am_K g s ∧ am_S g s s.heap ∧ s.heap.size = g.2.2.1 + 0 ∧ va_X b Ln xs s s.heap ∧ b < s.heap.size ∧ g.2.2.2.2.2.1 = b
def LW (p : Program) (l : Launch) (e : Env) (s : State) (m : MethodId) (below : List Frame) (meth : Method) (c : Code) (g : am_G) (b : Nat) (pc : Nat) (L : am_L) (st : List Value) (hp : am_H) : Prop := am_W p l e room_1 s m #[Value.ref b] below meth c (lw_Z below #[Value.ref b] s) g 0 0 pc L st hp
def sL (i : Int32) : am_L := [some (.float 2), some (.ref 0), some (.ref 141), some (.int i)]
def sS (xs : Nat → Int32) (k : Nat) : Nat → List Value
  | 0 => []
  | n + 1 => .int (xs (k + (n + 1))) :: sS xs k n
theorem sS_len {xs : Nat → Int32} {k : Nat} : ∀ n, (sS xs k n).length = n
  | 0 => rfl
  | n + 1 => by rw [sS, List.length_cons, sS_len n]
theorem st_cut {l r : List Value} {x : Value} {n : Nat} (h : l.length = n) : (l ++ x :: r).drop (n + 1) = r ∧ (l ++ x :: r).take (n + 1) = l ++ [x] ∧ (l ++ x :: r)[n]? = some x := by
  subst h
  refine ⟨?_, ?_, ?_⟩
  · rw [show l ++ x :: r = (l ++ [x]) ++ r by simp, show l.length + 1 = (l ++ [x]).length by simp, List.drop_left]
  · rw [show l ++ x :: r = (l ++ [x]) ++ r by simp, show l.length + 1 = (l ++ [x]).length by simp, List.take_left]
  · simp
section LWS
variable {p : Program} {l : Launch} {e : Env} {s : State} {m : MethodId} {below : List Frame} {meth : Method} {c : Code} {g : am_G} {b Ln : Nat} {xs : Nat → Int32}
variable {pc k : Nat} {L : am_L} {st : List Value} {hp hp2 : am_H}
theorem lw_sld (C : Lc p s m c g b Ln xs) (hk : k < Ln) (hL : Ln ≤ 256) (hdg : decode code pc = .ok (.iaload, 1)) (kk : LW p l e s m below meth c g b (pc + 1) L (.int (xs k) :: st) hp) : LW p l e s m below meth c g b pc L (.int (nI k) :: .float 2 :: st) hp := by
  intro ls H locs cells slots hl hP hS hc ht
  obtain ⟨hx, hb, -, -, -, -, -, h0, hX, hbl, hgb⟩ := C
  have hin : vp_in (nI k) Ln := (am_ix_in (am_ix_nI hk (by omega))).1
  have e1 : (nI k).toNatClampNeg = k := (am_ix_in (am_ix_nI hk (n := Ln) (by omega))).2.1
  have := kk ls H locs cells slots hl hP hS hc ht
  rw [List.map_cons, show am_cv g (.int (xs k)) = .int (xs (nI k).toNatClampNeg) from by rw [e1]; rfl] at this
  have hw := va_sld (A := am_A g) hx hb hX hbl (fun z => absurd hbl (Nat.not_lt.mpr (by rw [h0]; exact z))) hS hin hdg this
  rw [List.map_cons, List.map_cons, show am_cv g (.float 2) = .ref b from by rw [← hgb]; rfl]
  exact hw
theorem lw_slen (C : Lc p s m c g b Ln xs) (hdg : decode code pc = .ok (.arraylength, 1)) (kk : LW p l e s m below meth c g b (pc + 1) L (.int (Int32.ofNat Ln) :: st) hp) : LW p l e s m below meth c g b pc L (.float 2 :: st) hp := by
  intro ls H locs cells slots hl hP hS hc ht
  obtain ⟨hx, hb, -, -, -, -, -, h0, hX, hbl, hgb⟩ := C
  have := kk ls H locs cells slots hl hP hS hc ht
  have hw := va_slen (A := am_A g) hx hb hX hbl (fun z => absurd hbl (Nat.not_lt.mpr (by rw [h0]; exact z))) hS hdg this
  rw [List.map_cons, show am_cv g (.float 2) = .ref b from by rw [← hgb]; rfl]
  exact hw
theorem lw_arg (C : Lc p s m c g b Ln xs) {j : Nat} {ji : Int} (hj : Int32.ofInt ji = nI j) (hk : k + j < Ln) (hL : Ln ≤ 256) (d0 : decode code pc = .ok (.aload_n 0, 1)) (d1 : decode code (pc + 1) = .ok (.iload_n 3, 1)) (d2 : decode code (pc + 2) = .ok (.iconst ji, 1)) (d3 : decode code (pc + 3) = .ok (.iadd, 1)) (d4 : decode code (pc + 4) = .ok (.iaload, 1)) (kk : LW p l e s m below meth c g b (pc + 5) (sL (nI k)) (.int (xs (k + j)) :: st) hp) : LW p l e s m below meth c g b pc (sL (nI k)) st hp := by
  have hx := C.1
  have hb := C.2.1
  refine as_la (pc2 := pc + 1) (L2 := sL (nI k)) (st2 := .float 2 :: st) (hp2 := hp) (i := 0) (pc3 := pc + 1) rfl ?_ (fun x ls rest H locs cells slots q w => lv_aload_n hx hb d0 rfl q w)
  refine as_li (pc2 := pc + 2) (L2 := sL (nI k)) (st2 := .int (nI k) :: .float 2 :: st) (hp2 := hp) (i := 3) (pc3 := pc + 2) rfl ?_ (fun x ls rest H locs cells slots q w => lv_iload_n hx hb d1 rfl q w)
  refine as_push (pc2 := pc + 3) (L2 := sL (nI k)) (st2 := .int (Int32.ofInt ji) :: .int (nI k) :: .float 2 :: st) (hp2 := hp) (v := .int (Int32.ofInt ji)) (pc3 := pc + 3) rfl ?_ (fun ls rest H locs cells slots w => lv_iconst hx hb d2 rfl w)
  refine as_b2 (f := fun x y => x + y) (pc2 := pc + 4) (L2 := sL (nI k)) (st2 := .int (nI k + Int32.ofInt ji) :: .float 2 :: st) (hp2 := hp) (pc3 := pc + 4) rfl ?_ (fun x y ls rest H locs cells slots w => lv_iadd hx hb d3 w)
  rw [hj, nI_add]
  exact lw_sld C hk hL d4 kk
def rows5 (pc j : Nat) : Prop := decode code pc = .ok (.aload_n 0, 1) ∧ decode code (pc + 1) = .ok (.iload_n 3, 1) ∧ decode code (pc + 2) = .ok (.iconst (j : Int), 1) ∧ decode code (pc + 3) = .ok (.iadd, 1) ∧ decode code (pc + 4) = .ok (.iaload, 1)
def rowsA : Nat → Nat → Prop
  | 0, _ => True
  | n + 1, pc => rowsA n pc ∧ rows5 (pc + 5 * n) (n + 1)
theorem lw_args (C : Lc p s m c g b Ln xs) (hL : Ln ≤ 256) (hk : k + 4 ≤ Ln) : ∀ (n : Nat) (st : List Value), n ≤ 3 → rowsA n pc → LW p l e s m below meth c g b (pc + 5 * n) (sL (nI k)) (sS xs k n ++ st) hp → LW p l e s m below meth c g b pc (sL (nI k)) st hp
  | 0, st, _, _, kk => kk
  | n + 1, st, hn, hr, kk => by
    obtain ⟨hr, h1, h2, h3, h4, h5⟩ := hr
    refine lw_args C hL hk n st (by omega) hr ?_
    exact lw_arg C (j := n + 1) rfl (by omega) hL h1 h2 h3 h4 h5 kk
theorem lw_cV (C : Lc p s m c g b Ln xs) {idx M n d : Nat} {y : MethodName} {bs : ByteArray} {mx : Nat} {rt : Option FieldType} {o np : Nat} {tb : List (Nat × Instr × Nat)} {v : Option Value} {L2 : am_L} (hd : d ≤ 100) (hLn : L.length = 4) (hdec : decode code pc = .ok (.invokevirtual idx, 3)) (hrec : am_rec M = some (y, bs, mx, rt, o, np, 1, tb)) (hlk : Cond.methodLink R_law idx y ∈ am_bw) (hrv : am_recv o st[np]? hp = true) (hle : np + 1 ≤ st.length) (hcat : am_cat (st.drop (np + 1)) ≤ 8) (hen : am_entry M (st.take (np + 1)).reverse = some L2) (hn : am_run n d M 0 L2 [] hp = some (v, hp2)) (hroom : hp2.length ≤ 600000 ∧ am_tot hp2 ≤ 7302250)
    (kk : LW p l e s m below meth c g b (pc + 3) L (v.toList ++ st.drop (np + 1)) hp2) : LW p l e s m below meth c g b pc L st hp := by
  obtain ⟨hx, hb, hml, hown, hts, hK, hSt, hs0, -, -, -⟩ := C
  have hM := am_met l g hrec hen hn
  have hgr := am_grow _ _ _ _ _ _ _ _ _ hn
  obtain ⟨hcode2, hplain2, hcls2, hini2, hd2, hmx2, hkk2, -⟩ := ap_all _ (List.mem_of_getElem? hrec)
  have hRR : (am_rm d (hp2.length - hp.length) (am_tot hp2 - am_tot hp)).frames + 1 ≤ room_1.frames ∧ 8 + (mx + 11) + (am_rm d (hp2.length - hp.length) (am_tot hp2 - am_tot hp)).locals ≤ room_1.locals := by
    show d + 1 + 1 ≤ 2048 ∧ 8 + (mx + 11) + 40 * (d + 1) ≤ 84000
    omega
  rcases hkk2 with ⟨q, -⟩ | ⟨-, hinst, hsel, -⟩ | ⟨q, -⟩
  · omega
  · intro ls H locs cells slots hl hP hS hc ht
    refine am_sized (fun hz => ?_)
    obtain ⟨w, b2, hw, hwb, hcellB⟩ := am_recv_ok hK hSt hP hS hrv
    have hpre : ∀ U : State, U.heap = H → s.WarmedH U.vm → am_Pc g (st.take (np + 1)).reverse hp ((st.take (np + 1)).reverse.map (am_cv g)).toArray U := fun U hU hW => ⟨rfl, by rw [hU]; exact hP, by rw [hU]; exact am_size hP hS hs0 hc hz, hK.warm hW, hSt.warm hW hU hS⟩
    rw [am_take hw] at hM hpre
    rw [List.map_cons, hwb] at hpre
    have hst : st.map (am_cv g) = (((st.take np).reverse).map (am_cv g)).reverse ++ .ref b2 :: (st.drop (np + 1)).map (am_cv g) := by
      conv => lhs; rw [am_split hw]
      rw [List.map_append, List.map_cons, hwb, List.map_reverse, List.reverse_reverse]
    have hlen2 : (((st.take np).reverse).map (am_cv g)).length = np := by
      rw [List.length_map, List.length_reverse, List.length_take]; omega
    have hcl : ∃ cellB : Cell, H[b2]? = some cellB ∧ cellB.vm.isStatics = false ∧ s.vm.findClass y.cls = some cellB.cls := by rw [hcls2]; exact hcellB
    have hroom2 : 2 * (F0 m pc ls (st.map (am_cv g))).monitorRoom + (((st.drop (np + 1)).map (am_cv g)).map fun v => v.category).sum ≤ 8 := by
      show 2 * 0 + _ ≤ 8
      rw [am_cat_map]; omega
    have hr1 : hp2.length ≤ room_1.cells ∧ am_tot hp2 ≤ room_1.slots := hroom
    exact as_cont (va_runV (C := y.cls) (As := ((st.take np).reverse).map (am_cv g)) (rest := (st.drop (np + 1)).map (am_cv g)) ⟨hx, hb, hml.symm ▸ hLn.symm ▸ rfl, hown, hts⟩ hM ⟨callB_of np hts (am_goodIn hcode2) rfl rfl rfl (hts _ hini2) (hts _ hlk) hd2 hRR, hts _ hinst, hts _ hsel⟩ ⟨am_blind g _ hp, hcl, hpre⟩ rfl hlen2 hl.1 hst hroom2 hdec ⟨by omega, by omega⟩) hS (fun H1 locs1 hP1 hS1 => kk ls H1 locs1 _ _ hl hP1 hS1 (by omega) (by omega))
  · omega
end LWS
