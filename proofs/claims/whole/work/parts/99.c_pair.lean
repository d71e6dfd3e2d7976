/-! THE LAW: new objects, a pair of calls -/
section LWT
variable {p : Program} {l : Launch} {e : Env} {s : State} {m : MethodId} {below : List Frame} {meth : Method} {c : Code} {g : am_G} {b Ln : Nat} {xs : Nat → Int32}
variable {pc k : Nat} {L : am_L} {st : List Value} {hp hp2 : am_H}
theorem lw_cI (C : Lc p s m c g b Ln xs) {idx M n d : Nat} {y : MethodName} {bs : ByteArray} {mx : Nat} {rt : Option FieldType} {o np : Nat} {tb : List (Nat × Instr × Nat)} {v : Option Value} {L2 : am_L} (hd : d ≤ 100) (hLn : L.length = 4) (hdec : decode code pc = .ok (.invokespecial idx, 3)) (hrec : am_rec M = some (y, bs, mx, rt, o, np, 2, tb)) (hlk : Cond.methodLink R_law idx y ∈ am_bw) (hrv : am_recv o st[np]? hp = true) (hle : np + 1 ≤ st.length) (hcat : am_cat (st.drop (np + 1)) ≤ 8) (hen : am_entry M (st.take (np + 1)).reverse = some L2) (hn : am_run n d M 0 L2 [] hp = some (v, hp2)) (hroom : hp2.length ≤ 600000 ∧ am_tot hp2 ≤ 7302250)
    (kk : LW p l e s m below meth c g b (pc + 3) L (v.toList ++ st.drop (np + 1)) hp2) : LW p l e s m below meth c g b pc L st hp := by
  obtain ⟨hx, hb, hml, hown, hts, hK, hSt, hs0, -, -, -⟩ := C
  have hM := am_met l g hrec hen hn
  have hgr := am_grow _ _ _ _ _ _ _ _ _ hn
  obtain ⟨hcode2, hplain2, hcls2, hini2, hd2, hmx2, hkk2, -⟩ := ap_all _ (List.mem_of_getElem? hrec)
  have hRR : (am_rm d (hp2.length - hp.length) (am_tot hp2 - am_tot hp)).frames + 1 ≤ room_1.frames ∧ 8 + (mx + 11) + (am_rm d (hp2.length - hp.length) (am_tot hp2 - am_tot hp)).locals ≤ room_1.locals := by
    show d + 1 + 1 ≤ 2048 ∧ 8 + (mx + 11) + 40 * (d + 1) ≤ 84000
    omega
  rcases hkk2 with ⟨q, -⟩ | ⟨q, -⟩ | ⟨-, hinst, hnm, hrt⟩
  · omega
  · omega
  · subst hrt
    intro ls H locs cells slots hl hP hS hc ht
    refine am_sized (fun hz => ?_)
    obtain ⟨w, b2, hw, hwb, hcellB⟩ := am_recv_ok hK hSt hP hS hrv
    have hpre : ∀ U : State, U.heap = H → s.WarmedH U.vm → am_Pc g (st.take (np + 1)).reverse hp ((st.take (np + 1)).reverse.map (am_cv g)).toArray U := fun U hU hW => ⟨rfl, by rw [hU]; exact hP, by rw [hU]; exact am_size hP hS hs0 hc hz, hK.warm hW, hSt.warm hW hU hS⟩
    rw [am_take hw] at hM hpre
    rw [List.map_cons, hwb] at hpre
    have hst : st.map (am_cv g) = (((st.take np).reverse).map (am_cv g)).reverse ++ .ref b2 :: (st.drop (np + 1)).map (am_cv g) := by
      conv => lhs; rw [am_split hw]
      rw [List.map_append, List.map_cons, hwb, List.map_reverse, List.reverse_reverse]
    have hlen2 : (((st.take np).reverse).map (am_cv g)).length = np := by
      rw [List.length_map, List.length_reverse, List.length_take]; omega
    have hroom2 : 2 * (F0 m pc ls (st.map (am_cv g))).monitorRoom + (((st.drop (np + 1)).map (am_cv g)).map fun v => v.category).sum ≤ 8 := by
      show 2 * 0 + _ ≤ 8
      rw [am_cat_map]; omega
    have hr1 : hp2.length ≤ room_1.cells ∧ am_tot hp2 ≤ room_1.slots := hroom
    exact as_cont (va_runI (As := ((st.take np).reverse).map (am_cv g)) (rest := (st.drop (np + 1)).map (am_cv g)) ⟨hx, hb, hml.symm ▸ hLn.symm ▸ rfl, hown, hts⟩ hM ⟨callB_of np hts (am_goodIn hcode2) rfl rfl rfl (hts _ hini2) (hts _ hlk) hd2 hRR, hnm, hts _ hinst⟩ ⟨am_blind g _ hp, hpre⟩ rfl hlen2 hl.1 hst hroom2 hdec ⟨by omega, by omega⟩) hS (fun H1 locs1 hP1 hS1 => kk ls H1 locs1 _ _ hl hP1 hS1 (by omega) (by omega))
theorem lw_new (C : Lc p s m c g b Ln xs) {i ci N : Nat} {R : String} {T : u_T} (hcl : vwCl[ci]? = some (R, T, N)) (hlk : Cond.classLink R_law i R ∈ am_bw) (hdg : decode code pc = .ok (.new i, 3)) (hroom : hp.length + 1 ≤ 600000 ∧ am_tot hp + (am_df ci).length ≤ 7302250)
    (kk : LW p l e s m below meth c g b (pc + 3) L (.ref hp.length :: st) (hp ++ [.inr (.inr (ci, am_df ci))])) : LW p l e s m below meth c g b pc L st hp := by
  obtain ⟨hx, hb, hml, hown, hts, hK, hSt, hs0, -, -, -⟩ := C
  obtain ⟨hi1, hty, hnm, hins, hini, hCo, hTo, hdl, hdf⟩ := am_class _ _ _ _ hcl
  intro ls H locs cells slots hl hP hS hc ht
  refine am_sized (fun hz => ?_)
  have hsz := am_size hP hS hs0 hc hz
  have hKn := hK.1.1 ci _ hcl
  have hr1 : hp.length + 1 ≤ room_1.cells ∧ am_tot hp + (am_df ci).length ≤ room_1.slots := hroom
  refine W.newcK hx hb hown (hts _ hlk) (hts _ hins) (hts _ hini) rfl hdg (by omega) (by rw [hdl] at hr1; omega) hKn.2.1 hsz fun H1 kC hkC e1 z1 o1 => ?_
  have o2 : ∀ q, q < H.size → H1[q]? = H[q]? := fun q h => o1 q (by rw [← hsz]; exact h)
  refine kk ls H1 locs (cells + 1) (slots + N) hl (am_Ppush hP hsz ?_ o2) (am_Spush hS (by omega) o2) (by simp; omega) (by rw [am_tot_push]; simp only [am_sz]; rw [hdl]; omega)
  refine ⟨_, hcl, (u_born (am_ty ci) hts hi1 hKn hkC e1 hty).to (fun j hj => ?_)⟩
  rw [hdf j hj]
  show vp_V (am_df ci) j = vp_V ((am_df ci).map (am_cv g)) j
  rw [am_df_cv]
theorem am_recv_C {o q : Nat} {w : Option Value} (hw : w = some (.ref q)) (h : am_isC hp q o = true) : am_recv o w hp = true := by
  rw [hw]
  exact h
theorem JJ.isC (h : JJ hp) : am_isC hp 0 6 = true := by
  obtain ⟨-, _, _, _, _, _, _, _, _, _, _, _, _, _, _, hS, -⟩ := h
  exact hS.isC
def rowsP (pc n i6 i7 : Nat) : Prop := decode code pc = .ok (.aload_n 1, 1) ∧ rowsA n (pc + 1) ∧ decode code (pc + 1 + 5 * n) = .ok (.invokevirtual i6, 3) ∧ decode code (pc + 1 + 5 * n + 3) = .ok (.aload_n 2, 1) ∧ rowsA n (pc + 1 + 5 * n + 3 + 1) ∧ decode code (pc + 1 + 5 * n + 3 + 1 + 5 * n) = .ok (.invokevirtual i7, 3) ∧ ∃ off, decode code (pc + 1 + 5 * n + 3 + 1 + 5 * n + 3) = .ok (.if_icmp .eq off, 3) ∧ am_tgt (pc + 1 + 5 * n + 3 + 1 + 5 * n + 3) off = some 871
theorem lw_pair (C : Lc p s m c g b Ln xs) (hL : Ln ≤ 256) (hk : k + 4 ≤ Ln) (hJ : JJ hp) (ht : am_tot hp ≤ 7302250) {n i6 i7 M6 M7 : Nat} (hn : n ≤ 3) {y6 y7 : MethodName} {bs6 bs7 : ByteArray} {mx6 mx7 : Nat} {rt6 rt7 : Option FieldType} {tb6 tb7 : List (Nat × Instr × Nat)} {L6 L7 : am_L} (hr : rowsP pc n i6 i7)
    (hrec6 : am_rec M6 = some (y6, bs6, mx6, rt6, 6, n, 1, tb6)) (hlk6 : Cond.methodLink R_law i6 y6 ∈ am_bw) (hen6 : am_entry M6 (.ref 0 :: (sS xs k n).reverse) = some L6)
    (hrec7 : am_rec M7 = some (y7, bs7, mx7, rt7, 7, n, 1, tb7)) (hlk7 : Cond.methodLink R_law i7 y7 ∈ am_bw) (hen7 : am_entry M7 (.ref 141 :: (sS xs k n).reverse) = some L7)
    (hP : Pr 0 M6 L6 M7 L7 hp) (kk : ∀ hp2, JJ hp2 → am_tot hp2 ≤ 7302250 → LW p l e s m below meth c g b 871 (sL (nI k)) [] hp2) : LW p l e s m below meth c g b pc (sL (nI k)) [] hp := by
  have hx := C.1
  have hb := C.2.1
  obtain ⟨a, hp1, hp2, e1, e2, hJ2, c7, c6⟩ := hP
  obtain ⟨n1, r1⟩ := am_E_iff.mp e1
  obtain ⟨n2, r2⟩ := am_E_iff.mp e2
  have g1 := am_grow _ _ _ _ _ _ _ _ _ r1
  have g2 := am_grow _ _ _ _ _ _ _ _ _ r2
  have l0 := hJ.1
  have l2 := hJ2.1
  have l1 : hp1.length = hp.length := by omega
  have t1 := am_E_tot e1 l1
  have t2 := am_E_tot e2 (by omega)
  obtain ⟨d0, d1, d2, d3, d4, d5, off, d6, d7⟩ := hr
  refine as_la (pc2 := pc + 1) (L2 := sL (nI k)) (st2 := [.ref 0]) (hp2 := hp) (i := 1) (pc3 := pc + 1) rfl ?_ (fun x ls rest H locs cells slots q w => lv_aload_n hx hb d0 rfl q w)
  refine lw_args C hL hk n _ hn d1 ?_
  obtain ⟨q1, q2, q3⟩ := st_cut (l := sS xs k n) (x := .ref 0) (r := []) (sS_len n)
  refine lw_cV C (d := 0 + 12) (by decide) rfl d2 hrec6 hlk6 (am_recv_C q3 hJ.isC) (by rw [List.length_append, sS_len]; simp) (by rw [q1]; decide) (by rw [q2, List.reverse_append]; exact hen6) r1 ⟨by omega, by omega⟩ ?_
  rw [q1]
  refine as_la (pc2 := pc + 1 + 5 * n + 3 + 1) (L2 := sL (nI k)) (st2 := [.ref 141, .int a]) (hp2 := hp1) (i := 2) (pc3 := pc + 1 + 5 * n + 3 + 1) rfl ?_ (fun x ls rest H locs cells slots q w => lv_aload_n hx hb d3 rfl q w)
  refine lw_args C hL hk n _ hn d4 ?_
  obtain ⟨q1, q2, q3⟩ := st_cut (l := sS xs k n) (x := .ref 141) (r := [.int a]) (sS_len n)
  refine lw_cV C (d := 0 + 12) (by decide) rfl d5 hrec7 hlk7 (am_recv_C q3 c7) (by rw [List.length_append, sS_len]; simp) (by rw [q1]; exact Nat.le_of_ble_eq_true rfl) (by rw [q2, List.reverse_append]; exact hen7) r2 ⟨by omega, by omega⟩ ?_
  rw [q1]
  refine as_icmp hx hb (cd := .eq) (x := a) (y := a) d6 (pc2 := 871) (L2 := sL (nI k)) (st2 := []) (hp2 := hp2) ?_ (kk hp2 hJ2 (by omega))
  unfold am_br
  rw [d7]
  dsimp only
  rw [if_pos (show am_ci .eq a a = true from decide_eq_true rfl)]
  rfl
end LWT
