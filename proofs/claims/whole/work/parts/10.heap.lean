/-! fields, arrays, new cells -/
theorem am_obj_get {hp : am_H} {k : Nat} {o : Nat × List Value} (h : am_obj hp k = some o) : hp[k]? = some (.inr (.inr o)) := by
  unfold am_obj at h
  split at h
  · rename_i w hw
    cases h
    exact hw
  · cases h
theorem am_arr_get {hp : am_H} {k : Nat} {o : List Int32} (h : am_arr hp k = some o) : hp[k]? = some (.inl o) := by
  unfold am_arr at h
  split at h
  · rename_i w hw
    cases h
    exact hw
  · cases h
theorem am_rar_get {hp : am_H} {k : Nat} {o : List (Option Nat)} (h : am_rar hp k = some o) : hp[k]? = some (.inr (.inl o)) := by
  unfold am_rar at h
  split at h
  · rename_i w hw
    cases h
    exact hw
  · cases h
theorem am_ix_in {i : Int32} {n j : Nat} (h : am_ix i n = some j) : vp_in i n ∧ i.toNatClampNeg = j ∧ j < n := by
  unfold am_ix at h
  split at h
  · cases h
  · rename_i q
    cases h
    exact ⟨q, rfl, Nat.not_le.mp (fun z => q (Or.inr z))⟩
theorem am_fitb_ok {ty : FieldType} {v : Value} (g : am_G) (h : am_fitb ty v = true) : narrow ty (am_cv g v) = am_cv g v ∧ fits ty (am_cv g v) = true := by
  cases ty <;> cases v <;> first
    | (exact ⟨rfl, rfl⟩)
    | (simp [am_fitb] at h; done)
    | (rename_i x; have h2 : x = 0 ∨ x = 1 := by simpa [am_fitb] using h
       rcases h2 with rfl | rfl
       · exact ⟨show narrow .boolean (.int 0) = .int 0 from by decide, show fits .boolean (.int 0) = true from by decide⟩
       · exact ⟨show narrow .boolean (.int 1) = .int 1 from by decide, show fits .boolean (.int 1) = true from by decide⟩)
theorem am_lt {g : am_G} {hp : am_H} {H : Heap} (hP : am_P g hp H) {k : Nat} (h : k < hp.length) : g.2.2.1 + k < H.size := by
  have := (hP k _ (am_wd_get (g := g) (List.getElem?_eq_getElem h))).lt
  exact this
theorem am_size {g : am_G} {hp : am_H} {H H0 : Heap} {locs : List Loc} {n0 cells : Nat} (hP : am_P g hp H) (hS : va_S (am_A g) H0 H locs) (h0 : H0.size = g.2.2.1 + n0) (hc : n0 + cells = hp.length) (hz : H.size ≤ H0.size + cells) : H.size = g.2.2.1 + hp.length := by
  have h1 := hS.1
  by_cases hl : 0 < hp.length
  · have := am_lt hP (k := hp.length - 1) (by omega)
    omega
  · omega
theorem am_fd {fs : List Value} {g : am_G} {j : Nat} {v : Value} (h : fs[j]? = some v) : (fs.map (am_cv g))[j]? = some (am_cv g v) := by
  rw [List.getElem?_map, h]; rfl
theorem am_upd {xs : List Int32} {j : Nat} {x : Int32} (h : j < xs.length) : (fun q => (xs.set j x).getD q 0) = upd (fun q => xs.getD q 0) j x := by
  funext q
  simp only [upd, List.getD_eq_getElem?_getD, List.getElem?_set]
  by_cases hq : j = q
  · subst hq; simp [h]
  · have h2 : ¬ q = j := fun z => hq z.symm
    simp [hq, h2]
theorem am_upq {g : am_G} {xs : List (Option Nat)} {j k : Nat} (h : j < xs.length) : (fun q => ((xs.set j (some k)).getD q none).map (fun k => g.2.2.1 + k)) = va_up (fun q => (xs.getD q none).map (fun k => g.2.2.1 + k)) j (some (g.2.2.1 + k)) := by
  funext q
  simp only [va_up, List.getD_eq_getElem?_getD, List.getElem?_set]
  by_cases hq : j = q
  · subst hq; simp [h]
  · have h2 : ¬ q = j := fun z => hq z.symm
    simp [hq, h2]
theorem am_cpy_len (f g : List Int32) (sp dp n : Nat) : (am_cpy f g sp dp n).length = g.length := by simp [am_cpy]
theorem am_cpy_fn (f g : List Int32) (sp dp n : Nat) (h : dp + n ≤ g.length) : (fun q => (am_cpy f g sp dp n).getD q 0) = va_cpy (fun q => f.getD q 0) (fun q => g.getD q 0) sp dp n := by
  funext q
  simp only [va_cpy, am_cpy, List.getD_eq_getElem?_getD, List.getElem?_map]
  by_cases hq : q < g.length
  · simp [List.getElem?_range hq]
  · have h1 : ¬ (dp ≤ q ∧ q < dp + n) := by omega
    have h2 : g[q]? = none := List.getElem?_eq_none (by omega)
    have h3 : (List.range g.length)[q]? = none := List.getElem?_eq_none (by simpa using hq)
    simp [h1, h2, h3]
theorem am_df_cv (g : am_G) : ∀ ci, (am_df ci).map (am_cv g) = am_df ci
  | 0 => rfl
  | 1 => rfl
  | 2 => rfl
  | 3 => rfl
  | 4 => rfl
  | 5 => rfl
  | 6 => rfl
  | 7 => rfl
  | _ + 8 => rfl
section AMH
variable {p : Program} {l : Launch} {e : Env} {R : Room} {s : State} {m : MethodId} {args : Array Value} {below : List Frame} {meth : Method} {c : Code} {Q : State → Prop} {g : am_G} {n0 t0 : Nat}
variable {cc : ByteArray} {pc pc2 i o M : Nat} {L L2 : am_L} {st st2 : List Value} {hp hp2 : am_H}
theorem am_sized {H : Heap} {locs : List Loc} {cells slots : Nat} {f : JFrame} (k : H.size ≤ s.heap.size + cells → W p l e R s m args below meth c H locs cells slots Q f) : W p l e R s m args below meth c H locs cells slots Q f := fun T hT X => k (hT ▸ X.heapSize) T hT X
theorem as_getf (hx : p.tables.exec = Jvm.exec) (hb : c.code = cc) (hts : ∀ w ∈ am_bw, w.before args s = true) (hown : s.vm.findClass (am_on o) = some m.cls) (hK : am_K g s) (hSt : am_S g s s.heap) {r : Nat × Nat} (hr : am_lk2 o i am_fT = some r) (h : am_getf r pc L st hp = some (.inl (pc2, L2, st2, hp2))) (hdg : decode cc pc = .ok (.getfield i, 3))
    (k : am_W p l e R s m args below meth c Q g n0 t0 pc2 L2 st2 hp2) : am_W p l e R s m args below meth c Q g n0 t0 pc L st hp := by
  have hf := af_all _ (am_lk2_mem hr)
  unfold am_getf at h
  split at h
  · rename_i a st'
    split at h
    · rename_i c' fs hobj
      split at h
      · rename_i hce
        have hce := Nat.eq_of_beq_eq_true hce
        subst hce
        split at h
        · rename_i v hv
          cases h
          intro ls H locs cells slots hl hP hS hc ht
          have hcell := am_wd_get (g := g) (am_obj_get hobj)
          rcases hf with ⟨h100, -⟩ | ⟨C, T, N, hcl, hN, hlk⟩
          · obtain ⟨r', h1, -⟩ := hP a _ hcell
            have h2 : vwCl[r.1]? = some r' := h1
            have h3 : r.1 = 100 := h100
            rw [h3] at h2
            cases h2
          · have hcc := am_class _ _ _ _ hcl
            rcases hlk with hlk | ⟨-, host, hlk⟩
            · exact va_get (D := g.1) hx hb hts hcc.1 hown hK.1 hP a hcell hcl r.2 hN (hts _ hlk) (fun _ h9 => h9) (am_fd hv) hdg (k ls H locs cells slots hl hP hS hc ht)
            · exact va_getN (D := g.1) hx hb hts hcc.1 hown hK.1 hP a hcell hcl r.2 hN (va_Nw.use rfl (hK.2.1 _ hlk)) (fun _ h9 => h9) (am_fd hv) hdg (k ls H locs cells slots hl hP hS hc ht)
        · cases h
      · cases h
    · cases h
  · rename_i b st'
    split at h
    · rename_i hc2
      cases h
      intro ls H locs cells slots hl hP hS hc ht
      obtain ⟨hb0, hr2⟩ := hc2
      subst hb0
      subst hr2
      rcases hf with ⟨-, h2⟩ | ⟨C, T, N, hcl, -⟩
      · rcases h2 with ⟨-, h3⟩ | ⟨h3, -⟩
        · exact vk_getf hx hb hSt.2.2.2.1 hS hown (hts _ h3) (fun _ h9 => h9) hdg (k ls H locs cells slots hl hP hS hc ht)
        · cases h3
      · cases hcl
    · split at h
      · rename_i hc2
        cases h
        intro ls H locs cells slots hl hP hS hc ht
        obtain ⟨hb0, hr2⟩ := hc2
        subst hb0
        subst hr2
        rcases hf with ⟨-, h2⟩ | ⟨C, T, N, hcl, -⟩
        · rcases h2 with ⟨h3, -⟩ | ⟨-, h3⟩
          · cases h3
          · exact vk_getf hx hb hSt.2.2.1 hS hown (hts _ h3) (fun _ h9 => h9) hdg (k ls H locs cells slots hl hP hS hc ht)
        · cases hcl
      · cases h
  · cases h
theorem as_putf (hx : p.tables.exec = Jvm.exec) (hb : c.code = cc) (hts : ∀ w ∈ am_bw, w.before args s = true) (hown : s.vm.findClass (am_on o) = some m.cls) (hK : am_K g s) (ho : am_o M = o) (hin : am_kind M = 2 → meth.name = "<init>") {r : Nat × Nat} (hr : am_lk2 o i am_fT = some r) (h : am_putf M r pc L st hp = some (.inl (pc2, L2, st2, hp2))) (hdg : decode cc pc = .ok (.putfield i, 3))
    (k : am_W p l e R s m args below meth c Q g n0 t0 pc2 L2 st2 hp2) : am_W p l e R s m args below meth c Q g n0 t0 pc L st hp := by
  have hf := af_all _ (am_lk2_mem hr)
  unfold am_putf at h
  split at h
  · rename_i v a st'
    split at h
    · rename_i c' fs hobj
      split at h
      · rename_i hcnd
        obtain ⟨hce, hlen, hfit, hfin⟩ := hcnd
        have hce := Nat.eq_of_beq_eq_true hce
        subst hce
        cases h
        intro ls H locs cells slots hl hP hS hc ht
        have hob := am_obj_get hobj
        have hcell := am_wd_get (g := g) hob
        have hset : ∀ H1, va_P g.1 vwCl ((am_wd g hp).set a (g.2.2.1 + a, .inr (r.1, (fs.map (am_cv g)).set r.2 (am_cv g v)))) H1 → am_P g (hp.set a (.inr (.inr (r.1, fs.set r.2 v)))) H1 := by
          intro H1 h1
          unfold am_P
          rw [am_wd_set, am_enc, List.map_set]
          exact h1
        have hnl : n0 + cells = (hp.set a (.inr (.inr (r.1, fs.set r.2 v)))).length := by rw [List.length_set]; exact hc
        have hnt : t0 + slots = am_tot (hp.set a (.inr (.inr (r.1, fs.set r.2 v)))) := by
          rw [am_tot_set hob (by simp [am_sz])]
          exact ht
        rcases hf with ⟨h100, -⟩ | ⟨C, T, N, hcl, hN, hlk⟩
        · obtain ⟨r', h1, -⟩ := hP a _ hcell
          have h2 : vwCl[r.1]? = some r' := h1
          have h3 : r.1 = 100 := h100
          rw [h3] at h2
          cases h2
        · obtain ⟨hi1, hty, hnm, -, -, hCo, hTo, -, -⟩ := am_class _ _ _ _ hcl
          obtain ⟨hn1, hn2⟩ := am_fitb_ok g hfit
          have hd := hty r.2 hN
          have hll : r.2 < (fs.map (am_cv g)).length := by rw [List.length_map]; exact hlen
          by_cases hff : (T r.2).2.2.2 = false
          · rcases hlk with hlk | ⟨-, host, hlk⟩
            · exact va_put (D := g.1) hx hb hts hi1 _ hty hnm hown hK.1 hP (am_D g hp) hS a hcell hcl r.2 hN (hts _ hlk) (fun _ h9 => h9) hff hd hn1 hn2 hll hdg (fun H1 locs1 hP1 _ hS1 => k ls H1 locs1 cells slots hl (hset H1 hP1) hS1 hnl hnt)
            · exact va_putN (D := g.1) hx hb hts hi1 _ hty hnm hown hK.1 hP (am_D g hp) hS a hcell hcl r.2 hN (va_Nw.use rfl (hK.2.1 _ hlk)) (fun _ h9 => h9) hff hd hn1 hn2 hll hdg (fun H1 locs1 hP1 _ hS1 => k ls H1 locs1 cells slots hl (hset H1 hP1) hS1 hnl hnt)
          · have hff2 : (T r.2).2.2.2 = true := by
              cases hq : (T r.2).2.2.2 with
              | true => rfl
              | false => exact absurd hq hff
            rcases hfin with hfin | ⟨hki, hoM⟩
            · rw [← hTo] at hfin
              exact absurd hfin hff
            · rcases hlk with hlk | ⟨hne, -⟩
              · exact va_putF (D := g.1) hx hb hts hi1 _ hty hnm hown hK.1 hP (am_D g hp) hS a hcell hcl r.2 hN (hts _ hlk) (fun _ h9 => h9) hff2 (hin hki) (by
                  have e1 : o = r.1 := ho.symm.trans hoM
                  have e2 := am_decl _ _ _ _ hcl r.2 hN
                  rw [e2, e1, hCo]) hd hn1 hn2 hll hdg (fun H1 locs1 hP1 _ hS1 => k ls H1 locs1 cells slots hl (hset H1 hP1) hS1 hnl hnt)
              · exact absurd (ho.symm.trans hoM) hne
      · cases h
    · cases h
  · cases h
theorem as_iald (hx : p.tables.exec = Jvm.exec) (hb : c.code = cc) (hK : am_K g s) {j : Int32} {a : Nat} {xs : List Int32} {q : Nat} (ha : am_arr hp a = some xs) (hq : am_ix j xs.length = some q) (hdg : decode cc pc = .ok (.iaload, 1))
    (k : am_W p l e R s m args below meth c Q g n0 t0 (pc + 1) L (.int (xs.getD q 0) :: st) hp) : am_W p l e R s m args below meth c Q g n0 t0 pc L (.int j :: .ref a :: st) hp := by
  intro ls H locs cells slots hl hP hS hc ht
  obtain ⟨h1, h2, h3⟩ := am_ix_in hq
  have := k ls H locs cells slots hl hP hS hc ht
  rw [List.map_cons, show am_cv g (.int (xs.getD q 0)) = .int ((fun j => xs.getD j 0) j.toNatClampNeg) from by rw [h2]; rfl] at this
  exact va_iald (D := g.1) hx hb hK.1 hP a 0 (am_wd_get (am_arr_get ha)) rfl h1 hdg this
theorem as_iast (hx : p.tables.exec = Jvm.exec) (hb : c.code = cc) (hK : am_K g s) {j x : Int32} {a : Nat} {xs : List Int32} {q : Nat} (ha : am_arr hp a = some xs) (hq : am_ix j xs.length = some q) (hdg : decode cc pc = .ok (.iastore, 1))
    (k : am_W p l e R s m args below meth c Q g n0 t0 (pc + 1) L st (hp.set a (.inl (xs.set q x)))) : am_W p l e R s m args below meth c Q g n0 t0 pc L (.int x :: .int j :: .ref a :: st) hp := by
  intro ls H locs cells slots hl hP hS hc ht
  obtain ⟨h1, h2, h3⟩ := am_ix_in hq
  refine va_iast (D := g.1) hx hb hK.1 hP (am_D g hp) hS a 0 (am_wd_get (am_arr_get ha)) rfl h1 hdg (fun H1 locs1 hP1 _ hS1 => ?_)
  refine k ls H1 locs1 cells slots hl ?_ hS1 (by rw [List.length_set]; exact hc) (by rw [am_tot_set (am_arr_get ha) (by simp [am_sz])]; exact ht)
  unfold am_P
  rw [am_wd_set, am_enc, List.length_set, am_upd h3, ← h2]
  exact hP1
theorem as_aald (hx : p.tables.exec = Jvm.exec) (hb : c.code = cc) (hK : am_K g s) {j : Int32} {a b : Nat} {xs : List (Option Nat)} {q : Nat} (ha : am_rar hp a = some xs) (hq : am_ix j xs.length = some q) (hv : xs.getD q none = some b) (hdg : decode cc pc = .ok (.aaload, 1))
    (k : am_W p l e R s m args below meth c Q g n0 t0 (pc + 1) L (.ref b :: st) hp) : am_W p l e R s m args below meth c Q g n0 t0 pc L (.int j :: .ref a :: st) hp := by
  intro ls H locs cells slots hl hP hS hc ht
  obtain ⟨h1, h2, h3⟩ := am_ix_in hq
  have := k ls H locs cells slots hl hP hS hc ht
  rw [List.map_cons, show am_cv g (.ref b) = va_rf ((fun j => (xs.getD j none).map (fun k => g.2.2.1 + k)) j.toNatClampNeg) from by rw [h2]; dsimp only; rw [hv]; rfl] at this
  exact va_aldq (D := g.1) hx hb hK.1 hP a 1 (am_wd_get (am_rar_get ha)) rfl h1 hdg this
theorem as_aast (hx : p.tables.exec = Jvm.exec) (hb : c.code = cc) (hK : am_K g s) {j : Int32} {a b : Nat} {xs : List (Option Nat)} {q : Nat} (ha : am_rar hp a = some xs) (hq : am_ix j xs.length = some q) {fs : List Value} (hv : am_obj hp b = some (2, fs)) (hdg : decode cc pc = .ok (.aastore, 1))
    (k : am_W p l e R s m args below meth c Q g n0 t0 (pc + 1) L st (hp.set a (.inr (.inl (xs.set q (some b)))))) : am_W p l e R s m args below meth c Q g n0 t0 pc L (.ref b :: .int j :: .ref a :: st) hp := by
  intro ls H locs cells slots hl hP hS hc ht
  obtain ⟨h1, h2, h3⟩ := am_ix_in hq
  refine va_astq (D := g.1) hx hb hK.1 hP (am_D g hp) hS a 1 b 2 (am_wd_get (am_rar_get ha)) (r := (RX2, TX2, 7)) rfl (am_wd_get (am_obj_get hv)) rfl h1 hdg (fun H1 locs1 hP1 _ hS1 => ?_)
  refine k ls H1 locs1 cells slots hl ?_ hS1 (by rw [List.length_set]; exact hc) (by rw [am_tot_set (am_rar_get ha) (by simp [am_sz])]; exact ht)
  unfold am_P
  rw [am_wd_set, am_enc, List.length_set, am_upq h3, ← h2]
  exact hP1
theorem as_alen (hx : p.tables.exec = Jvm.exec) (hb : c.code = cc) (hK : am_K g s) {a : Nat} {xs : List Int32} (ha : am_arr hp a = some xs) (hdg : decode cc pc = .ok (.arraylength, 1))
    (k : am_W p l e R s m args below meth c Q g n0 t0 (pc + 1) L (.int (Int32.ofNat xs.length) :: st) hp) : am_W p l e R s m args below meth c Q g n0 t0 pc L (.ref a :: st) hp := by
  intro ls H locs cells slots hl hP hS hc ht
  exact va_alen (D := g.1) hx hb hK.1 hP a 0 (am_wd_get (am_arr_get ha)) rfl rfl hdg (k ls H locs cells slots hl hP hS hc ht)
theorem as_copy (hx : p.tables.exec = Jvm.exec) (hb : c.code = cc) (hml : c.maxLocals = L.length) (hts : ∀ w ∈ am_bw, w.before args s = true) (hown : s.vm.findClass (am_on o) = some m.cls) (hK : am_K g s) (hlk : Cond.methodLink (am_on o) i arraycopyName ∈ am_bw) (hR : 1 ≤ R.frames ∧ 40 ≤ R.locals) (h : am_copy pc L st hp = some (.inl (pc2, L2, st2, hp2))) (hdg : decode cc pc = .ok (.invokestatic i, 3))
    (k : am_W p l e R s m args below meth c Q g n0 t0 pc2 L2 st2 hp2) : am_W p l e R s m args below meth c Q g n0 t0 pc L st hp := by
  unfold am_copy at h
  split at h
  · rename_i n dp a sp b st'
    split at h
    · rename_i f gg hf hg
      split at h
      · rename_i hcnd
        obtain ⟨h1, h2, h3, h4, h5, h6⟩ := hcnd
        cases h
        intro ls H locs cells slots hl hP hS hc ht
        refine va_copyi (D := g.1) hx hb (hml.trans hl.1.symm) hown (hts _ hlk) (hts _ aw_2_77) (hts _ aw_2_76) (hts _ aw_1_13) hK.1 hP (am_D g hp) hS b a 0 0 (am_wd_get (am_arr_get hf)) (am_wd_get (am_arr_get hg)) rfl rfl rfl h1 h2 h3 h4 h5 (fun _ _ => rfl) hR.1 ?_ hdg (fun H1 locs1 hP1 _ hS1 => ?_)
        · rw [am_cat_map]
          have : nativeFrameWords "java/lang/System" "arraycopy" 5 + 11 ≤ 18 := by decide +kernel
          omega
        · refine k ls H1 locs1 cells slots hl ?_ hS1 (by rw [List.length_set]; exact hc) (by rw [am_tot_set (am_arr_get hg) (by simp [am_sz, am_cpy_len])]; exact ht)
          unfold am_P
          rw [am_wd_set, am_enc, am_cpy_len, am_cpy_fn _ _ _ _ _ h5]
          exact hP1
      · cases h
    · cases h
  · cases h
theorem am_Ppush {H H1 : Heap} {ce : am_C} (hP : am_P g hp H) (hz : H.size = g.2.2.1 + hp.length) (h1 : va_at g.1 vwCl (g.2.2.1 + hp.length, am_enc g ce) H1) (o1 : ∀ q, q < H.size → H1[q]? = H[q]?) : am_P g (hp ++ [ce]) H1 := by
  unfold am_P
  rw [am_wd_push]
  refine (va_P.kept hP (fun k x hx => o1 x.1 ((hP k x hx).lt))).app (fun k x hx => ?_)
  have hk : k < 1 := (List.getElem?_eq_some_iff.mp hx).1
  rw [show k = 0 by omega] at hx
  cases hx
  exact h1
theorem am_Spush {H H1 H0 : Heap} {locs : List Loc} (hS : va_S (am_A g) H0 H locs) (hz : H.size ≤ H1.size) (o1 : ∀ q, q < H.size → H1[q]? = H[q]?) : va_S (am_A g) H0 H1 locs := ⟨Nat.le_trans hS.1 hz, fun x h1 h2 => (o1 x (Nat.lt_of_lt_of_le h1 hS.1)).trans (hS.2.1 x h1 h2), hS.2.2⟩
theorem as_new (hx : p.tables.exec = Jvm.exec) (hb : c.code = cc) (hts : ∀ w ∈ am_bw, w.before args s = true) (hown : s.vm.findClass (am_on o) = some m.cls) (hK : am_K g s) (hs0 : s.heap.size = g.2.2.1 + n0) {ci : Nat} (hr : am_lk2 o i am_nT = some ci) (hdg : decode cc pc = .ok (.new i, 3))
    (hroom : hp.length + 1 ≤ n0 + R.cells ∧ am_tot hp + (am_df ci).length ≤ t0 + R.slots)
    (k : am_W p l e R s m args below meth c Q g n0 t0 (pc + 3) L (.ref hp.length :: st) (hp ++ [.inr (.inr (ci, am_df ci))])) : am_W p l e R s m args below meth c Q g n0 t0 pc L st hp := by
  obtain ⟨C, T, N, hcl, hlk⟩ := an_all _ (am_lk2_mem hr)
  obtain ⟨hi1, hty, hnm, hins, hini, hCo, hTo, hdl, hdf⟩ := am_class _ _ _ _ hcl
  intro ls H locs cells slots hl hP hS hc ht
  refine am_sized (fun hz => ?_)
  have hsz := am_size hP hS hs0 hc hz
  have hKn := hK.1.1 ci _ hcl
  refine W.newcK hx hb hown (hts _ hlk) (hts _ hins) (hts _ hini) rfl hdg (by omega) (by rw [hdl] at hroom; omega) hKn.2.1 hsz fun H1 kC hkC e1 z1 o1 => ?_
  have o2 : ∀ q, q < H.size → H1[q]? = H[q]? := fun q h => o1 q (by rw [← hsz]; exact h)
  refine k ls H1 locs (cells + 1) (slots + N) hl (am_Ppush hP hsz ?_ o2) (am_Spush hS (by omega) o2) (by simp; omega) (by rw [am_tot_push]; simp only [am_sz]; rw [hdl]; omega)
  refine ⟨_, hcl, (u_born (am_ty ci) hts hi1 hKn hkC e1 hty).to (fun j hj => ?_)⟩
  rw [hdf j hj]
  show vp_V (am_df ci) j = vp_V ((am_df ci).map (am_cv g)) j
  rw [am_df_cv]
theorem as_newa (hx : p.tables.exec = Jvm.exec) (hb : c.code = cc) (hts : ∀ w ∈ am_bw, w.before args s = true) (hK : am_K g s) (hs0 : s.heap.size = g.2.2.1 + n0) {n : Int32} (hn : ¬ n < 0 ∧ n.toNatClampNeg ≤ 1000) (hdg : decode cc pc = .ok (.newarray .int, 2))
    (hroom : hp.length + 1 ≤ n0 + R.cells ∧ am_tot hp + n.toNatClampNeg ≤ t0 + R.slots)
    (k : am_W p l e R s m args below meth c Q g n0 t0 (pc + 2) L (.ref hp.length :: st) (hp ++ [.inl (List.replicate n.toNatClampNeg 0)])) : am_W p l e R s m args below meth c Q g n0 t0 pc L (.int n :: st) hp := by
  intro ls H locs cells slots hl hP hS hc ht
  refine am_sized (fun hz => ?_)
  have hsz := am_size hP hS hs0 hc hz
  refine va_newaK hx hb (atype := .int) (hts _ aw_1_45) rfl hdg rfl hn.1 rfl (by show n.toNatClampNeg * 4 ≤ 536870912; omega) (by omega) (by omega) hsz fun H1 cA e1 z1 o1 hAr hNm => ?_
  have o2 : ∀ q, q < H.size → H1[q]? = H[q]? := fun q h => o1 q (by rw [← hsz]; exact h)
  have hcA : cA = g.2.1.1 := by
    have h2 : s.vm.findClass ("[" ++ (FieldType.int).toString) = some g.2.1.1 := (hK.1.2 0 _ rfl).2
    exact Option.some.inj (hNm.symm.trans h2)
  subst hcA
  refine k ls H1 locs (cells + 1) (slots + n.toNatClampNeg) hl (am_Ppush hP hsz ?_ o2) (am_Spush hS (by omega) o2) (by simp; omega) (by rw [am_tot_push]; simp only [am_sz, List.length_replicate]; omega)
  show H1[_]? = some (vp_cell _ _)
  rw [e1, vp_cell_i, List.length_replicate]
  congr 2
  funext j
  simp [List.getD_eq_getElem?_getD, List.getElem?_replicate]
  split <;> rfl
theorem as_anew (hx : p.tables.exec = Jvm.exec) (hb : c.code = cc) (hts : ∀ w ∈ am_bw, w.before args s = true) (hown : s.vm.findClass (am_on o) = some m.cls) (hK : am_K g s) (hs0 : s.heap.size = g.2.2.1 + n0) (hr : am_lk2 o i am_nT = some 2) {n : Int32} (hn : ¬ n < 0 ∧ n.toNatClampNeg ≤ 1000) (hdg : decode cc pc = .ok (.anewarray i, 3))
    (hroom : hp.length + 1 ≤ n0 + R.cells ∧ am_tot hp + n.toNatClampNeg ≤ t0 + R.slots)
    (k : am_W p l e R s m args below meth c Q g n0 t0 (pc + 3) L (.ref hp.length :: st) (hp ++ [.inr (.inl (List.replicate n.toNatClampNeg none))])) : am_W p l e R s m args below meth c Q g n0 t0 pc L (.int n :: st) hp := by
  obtain ⟨C, T, N, hcl, hlk⟩ := an_all _ (am_lk2_mem hr)
  cases hcl
  intro ls H locs cells slots hl hP hS hc ht
  refine am_sized (fun hz => ?_)
  have hsz := am_size hP hS hs0 hc hz
  refine W.anew hx hb hown (hts _ hlk) (va_AO.use hK.2.2) rfl hdg rfl hn.1 (by omega) (by omega) (by omega) fun cA kA comp f1 f2 f3 f4 => ?_
  generalize hH1 : H.push ({ cls := cA, slots := Array.replicate n.toNatClampNeg .null, vm := .none } : Cell) = H1
  have z1 : H1.size = H.size + 1 := by rw [← hH1, Array.size_push]
  have e1 : H1[H.size]? = some (arrV cA n.toNatClampNeg (fun _ => .null)) := by rw [← hH1, Array.getElem?_push_size, ← arrV_new]
  have o2 : ∀ q : Nat, q < H.size → H1[q]? = H[q]? := fun q hq => by rw [← hH1, Array.getElem?_push, if_neg (Nat.ne_of_lt hq)]
  have hcA : cA = g.2.1.2 := by
    obtain ⟨kA2, comp2, -, -, -, h4⟩ := (hK.1.2 1 _ rfl).2
    exact Option.some.inj (f1.symm.trans h4)
  subst hcA
  have kk := k ls H1 locs (cells + 1) (slots + n.toNatClampNeg) hl (am_Ppush hP hsz (by
    show H1[_]? = some (vp_cell _ _)
    rw [← hsz, e1, vp_cell_q, List.length_replicate]
    congr 2
    funext j
    simp only [List.getD_eq_getElem?_getD, List.getElem?_replicate]
    split <;> rfl) o2) (am_Spush hS (by omega) o2) (by simp; omega) (by rw [am_tot_push]; simp only [am_sz, List.length_replicate]; omega)
  rw [List.map_cons, show am_cv g (.ref hp.length) = .ref H.size from by rw [hsz]; rfl] at kk
  exact kk
end AMH
