/-! calls, ends, runs -/
set_option maxHeartbeats 4000000 in
theorem am_step_inv {M : Nat} {ins : Instr} {pc pc2 : Nat} {L L2 : am_L} {st st2 : List Value} {hp hp2 : am_H} (h : am_step M ins pc L st hp = some (.inl (pc2, L2, st2, hp2))) : hp.length ≤ hp2.length ∧ am_tot hp ≤ am_tot hp2 ∧ L2.length = L.length := by
  have h1 : ∀ {i : Nat} {v : Value} {L3 : am_L}, am_st1 L i v = some L3 → L3.length = L.length := by
    intro i v L3 q
    unfold am_st1 at q
    split at q
    · cases q; rw [List.length_set]
    · cases q
  have h2 : ∀ {i : Nat} {v : Value} {L3 : am_L}, am_st2 L i v = some L3 → L3.length = L.length := by
    intro i v L3 q
    unfold am_st2 at q
    split at q
    · cases q; rw [List.length_set, List.length_set]
    · cases q
  have hn : ∀ {a : Nat} {b : List Value}, am_next a L b hp = some (.inl (pc2, L2, st2, hp2)) → hp.length ≤ hp2.length ∧ am_tot hp ≤ am_tot hp2 ∧ L2.length = L.length := by
    intro a b q
    cases q
    exact ⟨Nat.le_refl _, Nat.le_refl _, rfl⟩
  have hl : ∀ {a : Nat} {b : List Value} {L3 : am_L}, L3.length = L.length → am_next a L3 b hp = some (.inl (pc2, L2, st2, hp2)) → hp.length ≤ hp2.length ∧ am_tot hp ≤ am_tot hp2 ∧ L2.length = L.length := by
    intro a b L3 z q
    cases q
    exact ⟨Nat.le_refl _, Nat.le_refl _, z⟩
  have hs : ∀ {a k : Nat} {b : List Value} {x x2 : am_C}, hp[k]? = some x → am_sz x2 = am_sz x → am_next a L b (hp.set k x2) = some (.inl (pc2, L2, st2, hp2)) → hp.length ≤ hp2.length ∧ am_tot hp ≤ am_tot hp2 ∧ L2.length = L.length := by
    intro a k b x x2 z1 z2 q
    cases q
    exact ⟨by rw [List.length_set]; exact Nat.le_refl _, by rw [am_tot_set z1 z2]; exact Nat.le_refl _, rfl⟩
  have ha : ∀ {a : Nat} {b : List Value} {x2 : am_C}, am_next a L b (hp ++ [x2]) = some (.inl (pc2, L2, st2, hp2)) → hp.length ≤ hp2.length ∧ am_tot hp ≤ am_tot hp2 ∧ L2.length = L.length := by
    intro a b x2 q
    cases q
    exact ⟨by simp, by rw [am_tot_push]; exact Nat.le_add_right _ _, rfl⟩
  cases ins
  case putfield i =>
    simp only [am_step] at h
    split at h
    · unfold am_putf at h
      split at h
      · split at h
        · rename_i hobj
          split at h
          · exact hs (am_obj_get hobj) (by simp [am_sz]) h
          · cases h
        · cases h
      · cases h
    · cases h
  case iastore =>
    simp only [am_step] at h
    split at h
    · split at h
      · rename_i hobj
        split at h
        · exact hs (am_arr_get hobj) (by simp [am_sz]) h
        · cases h
      · cases h
    · cases h
  case aastore =>
    simp only [am_step] at h
    split at h
    · split at h
      · rename_i hobj
        split at h
        · split at h
          · exact hs (am_rar_get hobj) (by simp [am_sz]) h
          · cases h
        · cases h
      · cases h
    · cases h
  case invokestatic i =>
    simp only [am_step] at h
    split at h
    · split at h
      · unfold am_copy at h
        split at h
        · split at h
          · rename_i hf hg
            split at h
            · exact hs (am_arr_get hg) (by simp [am_sz, am_cpy_len]) h
            · cases h
          · cases h
        · cases h
      · split at h
        · split at h
          · unfold am_call at h
            split at h <;> cases h
          · cases h
        · cases h
    · cases h
  case new i =>
    simp only [am_step] at h
    split at h
    · exact ha h
    · cases h
  case newarray a =>
    cases a <;> try (cases h; done)
    simp only [am_step] at h
    split at h
    · split at h
      · exact ha h
      · cases h
    · cases h
  case anewarray i =>
    simp only [am_step] at h
    split at h
    · split at h
      · split at h
        · exact ha h
        · cases h
      · cases h
    · cases h
  case invokevirtual i =>
    simp only [am_step] at h
    split at h
    · split at h
      · split at h
        · unfold am_call at h
          split at h <;> cases h
        · cases h
      · cases h
    · cases h
  case invokespecial i =>
    simp only [am_step] at h
    split at h
    · split at h
      · split at h
        · split at h
          · exact hn h
          · cases h
        · cases h
      · split at h
        · split at h
          · unfold am_call at h
            split at h <;> cases h
          · cases h
        · cases h
    · cases h
  case istore_n k =>
    simp only [am_step, am_si] at h
    split at h
    · split at h
      · rename_i q; exact hl (h1 q) h
      · cases h
    · cases h
  case istore k =>
    simp only [am_step, am_si] at h
    split at h
    · split at h
      · rename_i q; exact hl (h1 q) h
      · cases h
    · cases h
  case astore_n k =>
    simp only [am_step, am_sa] at h
    split at h
    · split at h
      · rename_i q; exact hl (h1 q) h
      · cases h
    · cases h
  case astore k =>
    simp only [am_step, am_sa] at h
    split at h
    · split at h
      · rename_i q; exact hl (h1 q) h
      · cases h
    · cases h
  case lstore_n k =>
    simp only [am_step, am_sl] at h
    split at h
    · split at h
      · rename_i q; exact hl (h2 q) h
      · cases h
    · cases h
  case lstore k =>
    simp only [am_step, am_sl] at h
    split at h
    · split at h
      · rename_i q; exact hl (h2 q) h
      · cases h
    · cases h
  case iinc i n =>
    simp only [am_step] at h
    split at h
    · split at h
      · rename_i q; exact hl (h1 q) h
      · cases h
    · cases h
  case getfield i =>
    simp only [am_step] at h
    split at h
    · unfold am_getf at h
      split at h
      · split at h
        · split at h
          · split at h
            · exact hn h
            · cases h
          · cases h
        · cases h
      · split at h
        · exact hn h
        · split at h
          · exact hn h
          · cases h
      · cases h
    · cases h
  case tableswitch dflt lo hi offs =>
    simp only [am_step, am_go] at h
    split at h
    · split at h
      · split at h
        · exact hn h
        · cases h
      · split at h
        · split at h
          · exact hn h
          · cases h
        · cases h
    · cases h
  case lookupswitch dflt ps =>
    simp only [am_step, am_go] at h
    split at h
    · split at h
      · split at h
        · exact hn h
        · cases h
      · cases h
    · cases h
  all_goals first
    | (cases h; done)
    | exact hn h
    | (simp only [am_step, am_li, am_ll, am_la, am_b2, am_d2, am_b2l, am_d2l, am_go, am_br] at h
       repeat' (split at h)
       all_goals first | exact hn h | (cases h; done))
theorem am_grow : ∀ (n d M pc : Nat) (L : am_L) (st : List Value) (hp : am_H) (r : Option Value) (hp2 : am_H), am_run n d M pc L st hp = some (r, hp2) → hp.length ≤ hp2.length ∧ am_tot hp ≤ am_tot hp2 := by
  intro n
  induction n with
  | zero => intro d M pc L st hp r hp2 h; cases h
  | succ n ih =>
    intro d M pc L st hp r hp2 h
    rw [am_run] at h
    split at h
    · cases h
    · split at h
      · cases h
      · rename_i hs
        have h1 := am_step_inv hs
        have h2 := ih _ _ _ _ _ _ _ _ h
        omega
      · cases h
        exact ⟨Nat.le_refl _, Nat.le_refl _⟩
      · split at h
        · cases h
        · split at h
          · cases h
          · split at h
            · cases h
            · rename_i hr
              have h1 := ih _ _ _ _ _ _ _ _ hr
              have h2 := ih _ _ _ _ _ _ _ _ h
              omega
theorem am_split {st : List Value} {n : Nat} {w : Value} (h : st[n]? = some w) : st = st.take n ++ w :: st.drop (n + 1) := by
  obtain ⟨hl, he⟩ := List.getElem?_eq_some_iff.mp h
  rw [← he, ← List.drop_eq_getElem_cons hl, List.take_append_drop]
theorem am_take {st : List Value} {n : Nat} {w : Value} (h : st[n]? = some w) : (st.take (n + 1)).reverse = w :: (st.take n).reverse := by
  rw [List.take_add_one, h]
  simp
theorem am_goodIn {w : Cond} (h : w ∈ am_bw) : GoodIn am_bw (w :: am_bw) := by
  intro x hx
  have hm : x ∈ am_bw := by
    rcases List.mem_cons.mp hx with rfl | hx
    · exact h
    · exact hx
  exact ⟨hm, good_of_word (List.mem_filter.mp hm).2⟩
section AMR
variable {p : Program} {l : Launch} {e : Env} {R : Room} {s : State} {m : MethodId} {args : Array Value} {below : List Frame} {meth : Method} {c : Code} {Q : State → Prop} {g : am_G} {n0 t0 : Nat}
variable {pc pc2 M : Nat} {L L2 : am_L} {st st2 : List Value} {hp hp2 : am_H}
theorem as_cont {H : Heap} {locs : List Loc} {cells slots mc ms : Nat} {ls : Array Slot} {st0 rest : List Value} {v : Option Value} {a : Array Value} (hr : va_Run p l e R s m args below meth c H locs cells slots mc ms (F0 m pc ls st0) (rest.map (am_cv g)) (am_Q g v hp2 a) (am_A g)) (hS : va_S (am_A g) s.heap H locs)
    (kk : ∀ (H1 : Heap) (locs1 : List Loc), am_P g hp2 H1 → va_S (am_A g) s.heap H1 locs1 → W p l e R s m args below meth c H1 locs1 (cells + mc) (slots + ms) Q (F0 m (pc + 3) ls ((v.toList ++ rest).map (am_cv g)))) : W p l e R s m args below meth c H locs cells slots Q (F0 m pc ls st0) := by
  have bad : (∀ a b c d, ¬ am_Q g v hp2 a b c d) → W p l e R s m args below meth c H locs cells slots Q (F0 m pc ls st0) := by
    intro hq T hT X
    obtain ⟨v', st₀, t, T', L, h0, X', hL, e1, e2, hq2, st⟩ := hr T hT X
    exact absurd hq2 (hq _ _ _ _)
  match v, hr, kk, bad with
  | some (.int x), hr, kk, _ =>
    have hr2 : va_Run p l e R s m args below meth c H locs cells slots mc ms (F0 m pc ls st0) (rest.map (am_cv g)) (va_Qi (fun y (_ : Unit) => y = x) (fun _ t => am_P g hp2 t.heap) (am_A g) a) (am_A g) := hr
    refine va_calli hr2 hS (fun _ _ h => h) (fun _ h => h) (fun r u t H1 locs1 ht _ hpq hB _ _ hS1 => ?_)
    subst hpq
    rw [ht] at hB
    exact kk H1 locs1 hB hS1
  | none, hr, kk, _ =>
    have hr2 : va_Run p l e R s m args below meth c H locs cells slots mc ms (F0 m pc ls st0) (rest.map (am_cv g)) (va_Qv (fun (_ : Unit) => True) (fun _ t => am_P g hp2 t.heap) (am_A g) a) (am_A g) := hr
    refine va_callv hr2 hS (fun _ _ h => h) (fun _ h => h) (fun u t H1 locs1 ht _ hpq hB _ _ hS1 => ?_)
    rw [ht] at hB
    exact kk H1 locs1 hB hS1
  | some (.long _), _, _, bad => exact bad (fun _ _ _ _ h => h)
  | some (.float _), _, _, bad => exact bad (fun _ _ _ _ h => h)
  | some (.double _), _, _, bad => exact bad (fun _ _ _ _ h => h)
  | some .null, _, _, bad => exact bad (fun _ _ _ _ h => h)
  | some (.ref _), _, _, bad => exact bad (fun _ _ _ _ h => h)
  | some (.retAddr _), _, _, bad => exact bad (fun _ _ _ _ h => h)
theorem am_ret_ok {ins : Instr} {len : Nat} {r : Option Value} (X : am_X p s m args meth c g M) (hdec : decode c.code pc = .ok (ins, len)) (hlen : am_lenok ins len = true) (h : am_step M ins pc L st hp = some (.inr (.inr r))) (hn : n0 + R.cells = hp.length) (ht : t0 + R.slots = am_tot hp) : am_W p l e R s m args below meth c (MQ below (am_Q g r hp) args s R.cells R.slots (am_A g)) g n0 t0 pc L st hp := by
  obtain ⟨y, bs, mx, rt, o, np, kd, tb, hrec, hx, hbs, hmx, hret, hown, hts, hlocks, hname, hK, hSt, hbase⟩ := X
  cases ins
  case ireturn =>
    cases (Nat.eq_of_beq_eq_true hlen : len = 1)
    simp only [am_step] at h
    rw [hrec] at h
    split at h
    · rename_i v
      split at h
      · rename_i ty _ hr
        cases hr
        split at h
        · rename_i hnar
          cases h
          intro ls H locs cells slots hl hP hS hc ht2
          have e1 : cells = R.cells := by omega
          have e2 : slots = R.slots := by omega
          subst e1; subst e2
          exact W.zret hx rfl hret hnar (fun t ht hW => ⟨⟨v, (), rfl, rfl, by show am_P g hp t.heap; rw [ht]; exact hP⟩, hS.F ht⟩) hS.2.2 hdec hlocks
        · cases h
      · cases h
    · cases h
  case return_ =>
    cases (Nat.eq_of_beq_eq_true hlen : len = 1)
    simp only [am_step] at h
    rw [hrec] at h
    split at h
    · split at h
      · rename_i hr
        cases hr
        cases h
        intro ls H locs cells slots hl hP hS hc ht2
        have e1 : cells = R.cells := by omega
        have e2 : slots = R.slots := by omega
        subst e1; subst e2
        exact W.vret hx rfl hret (fun t ht hW => ⟨⟨(), rfl, trivial, by show am_P g hp t.heap; rw [ht]; exact hP⟩, hS.F ht⟩) hS.2.2 hdec hlocks
      · cases h
    · cases h
  case newarray a =>
    cases a <;> first
      | (cases h; done)
      | (simp only [am_step, am_next] at h
         repeat' (split at h)
         all_goals (cases h; done))
  all_goals first
    | (cases h; done)
    | (simp only [am_step, am_li, am_ll, am_la, am_si, am_sa, am_sl, am_b2, am_d2, am_b2l, am_d2l, am_go, am_br, am_getf, am_putf, am_copy, am_call, am_next] at h
       repeat' (split at h)
       all_goals (cases h; done))
theorem am_recv_ok {H : Heap} {locs : List Loc} {o2 : Nat} {w : Option Value} (hK : am_K g s) (hSt : am_S g s s.heap) (hP : am_P g hp H) (hS : va_S (am_A g) s.heap H locs) (h : am_recv o2 w hp = true) : ∃ (v : Value) (b : Nat), w = some v ∧ am_cv g v = .ref b ∧ ∃ cellB : Cell, H[b]? = some cellB ∧ cellB.vm.isStatics = false ∧ s.vm.findClass (am_on o2) = some cellB.cls := by
  unfold am_recv at h
  split at h
  · rename_i kk
    split at h
    · rename_i c2 fs hobj
      have he := Nat.eq_of_beq_eq_true h
      subst he
      have hcell := am_wd_get (g := g) (am_obj_get hobj)
      obtain ⟨⟨C, T, N⟩, h1, -⟩ := hP kk _ hcell
      have h1 : vwCl[c2]? = some (C, T, N) := h1
      obtain ⟨-, -, -, -, -, hCo, -⟩ := am_class _ _ _ _ h1
      obtain ⟨cell, q1, q2, q3⟩ := va_recv hK.1 hP h1 hcell
      exact ⟨_, _, rfl, rfl, cell, q1, q2, by rw [← hCo]; exact q3⟩
    · cases h
  · rename_i b
    have h2 := Bool.and_eq_true_iff.mp h
    have hb0 : b = 0 := of_decide_eq_true h2.1
    have ho := Nat.eq_of_beq_eq_true h2.2
    subst hb0
    subst ho
    obtain ⟨cell, q1, q2, q3, -⟩ := hSt.2.1.kept hS.2.1
    exact ⟨_, _, rfl, rfl, cell, q1, q2, q3⟩
  · cases h
theorem am_call_inv {M2 n : Nat} {M3 : Nat} {as rest : List Value} (h : am_call M2 n st = some (.inr (.inl (M3, as, rest)))) : M3 = M2 ∧ as = (st.take n).reverse ∧ rest = st.drop n ∧ n ≤ st.length ∧ am_cat (st.drop n) ≤ 8 := by
  unfold am_call at h
  split at h
  · rename_i q
    cases h
    exact ⟨rfl, rfl, rfl, q.1, q.2⟩
  · cases h
set_option maxHeartbeats 4000000 in
theorem am_call_ok {ins : Instr} {len M2 d : Nat} {as rest : List Value} {v : Option Value} {y2 : MethodName} {bs2 : ByteArray} {mx2 : Nat} {rt2 : Option FieldType} {o2 np2 k2 : Nat} {tb2 : List (Nat × Instr × Nat)} (X : am_X p s m args meth c g M) (hL : c.maxLocals = L.length) (hs0 : s.heap.size = g.2.2.1 + n0) (hRf : R.frames = d + 2) (hRl : R.locals = 40 * (d + 2)) (hdec : decode c.code pc = .ok (ins, len)) (hlen : am_lenok ins len = true) (h : am_step M ins pc L st hp = some (.inr (.inl (M2, as, rest))))
    (hrec2 : am_rec M2 = some (y2, bs2, mx2, rt2, o2, np2, k2, tb2)) (hM : Met l y2 (Cond.code y2 bs2 mx2 rt2 :: am_bw) (am_rm d (hp2.length - hp.length) (am_tot hp2 - am_tot hp)) (am_Pc g as hp) (am_Q g v hp2) (hp2.length - hp.length) (am_tot hp2 - am_tot hp) (am_A g)) (hgr : hp.length ≤ hp2.length ∧ am_tot hp ≤ am_tot hp2) (hroom : hp2.length ≤ n0 + R.cells ∧ am_tot hp2 ≤ t0 + R.slots)
    (k : am_W p l e R s m args below meth c Q g n0 t0 (pc + 3) L (v.toList ++ rest) hp2) : am_W p l e R s m args below meth c Q g n0 t0 pc L st hp := by
  obtain ⟨y, bs, mx, rt, o, np, kd, tb, hrec, hx, hbs, hmx, hret, hown, hts, hlocks, hname, hK, hSt, hbase⟩ := X
  have ho : am_o M = o := by unfold am_o; rw [hrec]
  obtain ⟨hcode2, hplain2, hcls2, hini2, hd2, hmx2, hkk2, -⟩ := ap_all _ (List.mem_of_getElem? hrec2)
  have hRR : (am_rm d (hp2.length - hp.length) (am_tot hp2 - am_tot hp)).frames + 1 ≤ R.frames ∧ 8 + (mx2 + 11) + (am_rm d (hp2.length - hp.length) (am_tot hp2 - am_tot hp)).locals ≤ R.locals := by
    rw [hRf, hRl]
    show d + 1 + 1 ≤ d + 2 ∧ 8 + (mx2 + 11) + 40 * (d + 1) ≤ 40 * (d + 2)
    omega
  have hlink : ∀ {i : Nat}, am_lk2 o i am_mT = some M2 → Cond.methodLink (am_on o) i y2 ∈ am_bw ∨ ∃ host, Cond.methodLinkNest (am_on o) i y2 host ∈ am_nest := by
    intro i hi
    rcases al_all _ (am_lk2_mem hi) with ⟨q, -⟩ | ⟨q, -⟩ | ⟨-, q⟩
    · dsimp only at q
      rw [q] at hrec2
      cases hrec2
    · dsimp only at q
      rw [q] at hrec2
      cases hrec2
    · exact q _ hrec2
  have pre : ∀ {H : Heap} {locs : List Loc} {cells : Nat}, am_P g hp H → va_S (am_A g) s.heap H locs → n0 + cells = hp.length → H.size ≤ s.heap.size + cells → ∀ U : State, U.heap = H → s.WarmedH U.vm → am_Pc g as hp (as.map (am_cv g)).toArray U := by
    intro H locs cells hP hS hc hz U hU hW
    exact ⟨rfl, by rw [hU]; exact hP, by rw [hU]; exact am_size hP hS hs0 hc hz, hK.warm hW, hSt.warm hW hU hS⟩
  have fin : ∀ {ls : Array Slot} {H : Heap} {locs : List Loc} {cells slots : Nat}, am_ls g ls L → n0 + cells = hp.length → t0 + slots = am_tot hp → ∀ (H1 : Heap) (locs1 : List Loc), am_P g hp2 H1 → va_S (am_A g) s.heap H1 locs1 → W p l e R s m args below meth c H1 locs1 (cells + (hp2.length - hp.length)) (slots + (am_tot hp2 - am_tot hp)) Q (F0 m (pc + 3) ls ((v.toList ++ rest).map (am_cv g))) := by
    intro ls H locs cells slots hl hc ht H1 locs1 hP1 hS1
    exact k ls H1 locs1 _ _ hl hP1 hS1 (by omega) (by omega)
  cases ins
  case invokevirtual i =>
    cases (Nat.eq_of_beq_eq_true hlen : len = 3)
    simp only [am_step] at h
    rw [ho] at h
    split at h
    · rename_i M3 hM3
      split at h
      · rename_i o3 np3 k3 _ hrec3
        split at h
        · rename_i hcnd
          obtain ⟨rfl, rfl, rfl, hle, hcat⟩ := am_call_inv h
          cases hrec3.symm.trans hrec2
          have hk1 := Nat.eq_of_beq_eq_true hcnd.1
          rcases hkk2 with ⟨q, -⟩ | ⟨-, hinst, hsel, -⟩ | ⟨q, -⟩
          · omega
          · intro ls H locs cells slots hl hP hS hc ht
            refine am_sized (fun hz => ?_)
            obtain ⟨w, b, hw, hwb, hcellB⟩ := am_recv_ok hK hSt hP hS hcnd.2
            have hpre := pre hP hS hc hz
            rw [am_take hw] at hM hpre
            rw [List.map_cons, hwb] at hpre
            have hst : st.map (am_cv g) = (((st.take np2).reverse).map (am_cv g)).reverse ++ .ref b :: (st.drop (np2 + 1)).map (am_cv g) := by
              conv => lhs; rw [am_split hw]
              rw [List.map_append, List.map_cons, hwb, List.map_reverse, List.reverse_reverse]
            have hlen2 : (((st.take np2).reverse).map (am_cv g)).length = np2 := by
              rw [List.length_map, List.length_reverse, List.length_take]; omega
            have hcl : ∃ cellB : Cell, H[b]? = some cellB ∧ cellB.vm.isStatics = false ∧ s.vm.findClass y2.cls = some cellB.cls := by rw [hcls2]; exact hcellB
            have hroom2 : 2 * (F0 m pc ls (st.map (am_cv g))).monitorRoom + (((st.drop (np2 + 1)).map (am_cv g)).map fun v => v.category).sum ≤ 8 := by
              show 2 * 0 + _ ≤ 8
              rw [am_cat_map]; omega
            rcases hlink hM3 with hlk | ⟨host, hlk⟩
            · exact as_cont (va_runV (C := y2.cls) (As := ((st.take np2).reverse).map (am_cv g)) (rest := (st.drop (np2 + 1)).map (am_cv g)) ⟨hx, rfl, hL, hown, hts⟩ hM ⟨callB_of np2 hts (am_goodIn hcode2) rfl rfl rfl (hts _ hini2) (hts _ hlk) hd2 hRR, hts _ hinst, hts _ hsel⟩ ⟨am_blind g _ hp, hcl, hpre⟩ rfl hlen2 hl.1 hst hroom2 hdec ⟨by omega, by omega⟩) hS (fin (H := H) (locs := locs) hl hc ht)
            · exact as_cont (va_runVN (C := y2.cls) (As := ((st.take np2).reverse).map (am_cv g)) (rest := (st.drop (np2 + 1)).map (am_cv g)) ⟨hx, rfl, hL, hown, hts⟩ hM ⟨va_cnB np2 hts (am_goodIn hcode2) rfl rfl rfl (hK.2.1 _ hlk) (hts _ hini2) hd2 hRR, hts _ hinst, hts _ hsel⟩ ⟨am_blind g _ hp, hcl, hpre⟩ rfl hlen2 hl.1 hst hroom2 hdec ⟨by omega, by omega⟩) hS (fin (H := H) (locs := locs) hl hc ht)
          · omega
        · cases h
      · cases h
    · cases h
  case invokestatic i =>
    cases (Nat.eq_of_beq_eq_true hlen : len = 3)
    simp only [am_step] at h
    rw [ho] at h
    split at h
    · rename_i M3 hM3
      split at h
      · unfold am_copy at h
        simp only [am_next] at h
        repeat' (split at h)
        all_goals (cases h; done)
      · split at h
        · rename_i np3 k3 _ hrec3
          split at h
          · rename_i hcnd
            obtain ⟨rfl, rfl, rfl, hle, hcat⟩ := am_call_inv h
            cases hrec3.symm.trans hrec2
            have hk1 := Nat.eq_of_beq_eq_true hcnd
            rcases hkk2 with ⟨-, hsta, -⟩ | ⟨q, -⟩ | ⟨q, -⟩
            · intro ls H locs cells slots hl hP hS hc ht
              refine am_sized (fun hz => ?_)
              have hpre := pre hP hS hc hz
              have hst : st.map (am_cv g) = (((st.take np2).reverse).map (am_cv g)).reverse ++ (st.drop np2).map (am_cv g) := by
                conv => lhs; rw [← List.take_append_drop np2 st]
                rw [List.map_append, List.map_reverse, List.reverse_reverse]
              have hlen2 : (((st.take np2).reverse).map (am_cv g)).length = np2 := by
                rw [List.length_map, List.length_reverse, List.length_take]; omega
              have hroom2 : 2 * (F0 m pc ls (st.map (am_cv g))).monitorRoom + (((st.drop np2).map (am_cv g)).map fun v => v.category).sum ≤ 8 := by
                show 2 * 0 + _ ≤ 8
                rw [am_cat_map]; omega
              rcases hlink hM3 with hlk | ⟨host, hlk⟩
              · exact as_cont (va_runS (As := ((st.take np2).reverse).map (am_cv g)) (rest := (st.drop np2).map (am_cv g)) ⟨hx, rfl, hL, hown, hts⟩ hM ⟨callB_of np2 hts (am_goodIn hcode2) rfl rfl rfl (hts _ hini2) (hts _ hlk) hd2 hRR, hts _ hsta⟩ ⟨am_blind g _ hp, hpre⟩ rfl hlen2 hl.1 hst hroom2 hdec ⟨by omega, by omega⟩) hS (fin (H := H) (locs := locs) hl hc ht)
              · exact as_cont (va_runSN (As := ((st.take np2).reverse).map (am_cv g)) (rest := (st.drop np2).map (am_cv g)) ⟨hx, rfl, hL, hown, hts⟩ hM ⟨va_cnB np2 hts (am_goodIn hcode2) rfl rfl rfl (hK.2.1 _ hlk) (hts _ hini2) hd2 hRR, hts _ hsta, trivial⟩ ⟨am_blind g _ hp, hpre⟩ rfl hlen2 hl.1 hst hroom2 hdec ⟨by omega, by omega⟩) hS (fin (H := H) (locs := locs) hl hc ht)
            · omega
            · omega
          · cases h
        · cases h
    · cases h
  case invokespecial i =>
    cases (Nat.eq_of_beq_eq_true hlen : len = 3)
    simp only [am_step] at h
    rw [ho] at h
    split at h
    · rename_i M3 hM3
      split at h
      · simp only [am_next] at h
        repeat' (split at h)
        all_goals (cases h; done)
      · split at h
        · rename_i o3 np3 k3 _ hrec3
          split at h
          · rename_i hcnd
            obtain ⟨rfl, rfl, rfl, hle, hcat⟩ := am_call_inv h
            cases hrec3.symm.trans hrec2
            have hk1 := Nat.eq_of_beq_eq_true hcnd.1
            rcases hkk2 with ⟨q, -⟩ | ⟨q, -⟩ | ⟨-, hinst, hnm, hrt⟩
            · omega
            · omega
            · subst hrt
              intro ls H locs cells slots hl hP hS hc ht
              refine am_sized (fun hz => ?_)
              obtain ⟨w, b, hw, hwb, hcellB⟩ := am_recv_ok hK hSt hP hS hcnd.2.1
              have hpre := pre hP hS hc hz
              rw [am_take hw] at hM hpre
              rw [List.map_cons, hwb] at hpre
              have hst : st.map (am_cv g) = (((st.take np2).reverse).map (am_cv g)).reverse ++ .ref b :: (st.drop (np2 + 1)).map (am_cv g) := by
                conv => lhs; rw [am_split hw]
                rw [List.map_append, List.map_cons, hwb, List.map_reverse, List.reverse_reverse]
              have hlen2 : (((st.take np2).reverse).map (am_cv g)).length = np2 := by
                rw [List.length_map, List.length_reverse, List.length_take]; omega
              have hroom2 : 2 * (F0 m pc ls (st.map (am_cv g))).monitorRoom + (((st.drop (np2 + 1)).map (am_cv g)).map fun v => v.category).sum ≤ 8 := by
                show 2 * 0 + _ ≤ 8
                rw [am_cat_map]; omega
              rcases hlink hM3 with hlk | ⟨host, hlk⟩
              · exact as_cont (va_runI (As := ((st.take np2).reverse).map (am_cv g)) (rest := (st.drop (np2 + 1)).map (am_cv g)) ⟨hx, rfl, hL, hown, hts⟩ hM ⟨callB_of np2 hts (am_goodIn hcode2) rfl rfl rfl (hts _ hini2) (hts _ hlk) hd2 hRR, hnm, hts _ hinst⟩ ⟨am_blind g _ hp, hpre⟩ rfl hlen2 hl.1 hst hroom2 hdec ⟨by omega, by omega⟩) hS (fin (H := H) (locs := locs) hl hc ht)
              · exact as_cont (va_runIN (As := ((st.take np2).reverse).map (am_cv g)) (rest := (st.drop (np2 + 1)).map (am_cv g)) ⟨hx, rfl, hL, hown, hts⟩ hM ⟨va_cnB np2 hts (am_goodIn hcode2) rfl rfl rfl (hK.2.1 _ hlk) (hts _ hini2) hd2 hRR, hnm, hts _ hinst⟩ ⟨am_blind g _ hp, hpre⟩ rfl hlen2 hl.1 hst hroom2 hdec ⟨by omega, by omega⟩) hS (fin (H := H) (locs := locs) hl hc ht)
          · cases h
        · cases h
    · cases h
  case newarray a =>
    cases a <;> first
      | (cases h; done)
      | (simp only [am_step, am_next] at h
         repeat' (split at h)
         all_goals (cases h; done))
  all_goals first
    | (cases h; done)
    | (simp only [am_step, am_li, am_ll, am_la, am_si, am_sa, am_sl, am_b2, am_d2, am_b2l, am_d2l, am_go, am_br, am_getf, am_putf, am_copy, am_next] at h
       repeat' (split at h)
       all_goals (cases h; done))
end AMR
/-- THE ABSTRACT MACHINE's RUN IS THE REAL MACHINE's -/
theorem am_sound (l : Launch) (g : am_G) : ∀ (n d M pc : Nat) (L : am_L) (st : List Value) (hp : am_H) (r : Option Value) (hp2 : am_H), am_run n d M pc L st hp = some (r, hp2) → ∀ (p : Program) (e : Env) (R : Room) (s : State) (m : MethodId) (args : Array Value) (below : List Frame) (meth : Method) (c : Code) (n0 t0 : Nat), am_X p s m args meth c g M → c.maxLocals = L.length → s.heap.size = g.2.2.1 + n0 → R.frames = d + 1 → R.locals = 40 * (d + 1) → n0 + R.cells = hp2.length → t0 + R.slots = am_tot hp2 → am_W p l e R s m args below meth c (MQ below (am_Q g r hp2) args s R.cells R.slots (am_A g)) g n0 t0 pc L st hp := by
  intro n
  induction n with
  | zero => intro d M pc L st hp r hp2 h; cases h
  | succ n ih =>
    intro d M pc L st hp r hp2 h p e R s m args below meth c n0 t0 X hL hs0 hRf hRl hn ht
    rw [am_run] at h
    split at h
    · cases h
    · rename_i q hq
      obtain ⟨ins, len⟩ := q
      have hdl : decode c.code pc = .ok (ins, len) ∧ am_lenok ins len = true := by
        obtain ⟨y, bs, mx, rt, o, np, kd, tb, hrec, hx, hbs, hmx, hret, hown, hts, hlocks, hname, hK, hSt, hbase⟩ := X
        have htb : am_tab M = tb := by unfold am_tab; rw [hrec]
        obtain ⟨-, -, -, -, -, -, -, htab⟩ := ap_all _ (List.mem_of_getElem? hrec)
        rw [htb] at hq
        have := htab _ (am_lk1_mem hq)
        rw [hbs]
        exact this
      obtain ⟨hdec, hlen⟩ := hdl
      split at h
      · cases h
      · rename_i hs
        have h1 := am_step_inv hs
        have h2 := am_grow _ _ _ _ _ _ _ _ _ h
        exact am_step_ok X hL hs0 ⟨by omega, by omega⟩ hdec hlen hs ⟨by omega, by omega⟩ (ih _ _ _ _ _ _ _ _ h p e R s m args below meth c n0 t0 X (by rw [h1.2.2]; exact hL) hs0 hRf hRl hn ht)
      · rename_i hs
        cases h
        exact am_ret_ok X hdec hlen hs hn ht
      · rename_i M2 as rest hs
        split at h
        · cases h
        · rename_i d2
          split at h
          · cases h
          · rename_i L2 hen
            split at h
            · cases h
            · rename_i v hp1 hr
              have g1 := am_grow _ _ _ _ _ _ _ _ _ hr
              have g2 := am_grow _ _ _ _ _ _ _ _ _ h
              cases hrec2 : am_rec M2 with
              | none =>
                unfold am_entry at hen
                rw [hrec2] at hen
                cases hen
              | some q2 =>
                obtain ⟨y2, bs2, mx2, rt2, o2, np2, k2, tb2⟩ := q2
                have hM := am_met_core l g hrec2 hen (v := v) (d := d2) g1 (fun p e R s m args below meth c X2 h3 h4 h5 h6 h7 h8 => ih _ _ _ _ _ _ _ _ hr p e R s m args below meth c hp.length (am_tot hp) X2 h3 h4 h5 h6 h7 h8)
                exact am_call_ok X hL hs0 hRf hRl hdec hlen hs hrec2 hM g1 ⟨by omega, by omega⟩ (ih _ _ _ _ _ _ _ _ h p e R s m args below meth c n0 t0 X hL hs0 hRf hRl hn ht)
/-- A METHOD's CONTRACT out of a run of the abstract machine -/
theorem am_met (l : Launch) (g : am_G) {n d M : Nat} {as : List Value} {L : am_L} {hp hp2 : am_H} {r : Option Value} {y : MethodName} {bs : ByteArray} {mx : Nat} {rt : Option FieldType} {o np k : Nat} {tb : List (Nat × Instr × Nat)} (hrec : am_rec M = some (y, bs, mx, rt, o, np, k, tb)) (hen : am_entry M as = some L) (h : am_run n d M 0 L [] hp = some (r, hp2)) :
    Met l y (Cond.code y bs mx rt :: am_bw) (am_rm d (hp2.length - hp.length) (am_tot hp2 - am_tot hp)) (am_Pc g as hp) (am_Q g r hp2) (hp2.length - hp.length) (am_tot hp2 - am_tot hp) (am_A g) :=
  am_met_core l g hrec hen (am_grow _ _ _ _ _ _ _ _ _ h) (fun p e R s m args below meth c X h1 h2 h3 h4 h5 h6 => am_sound l g n d M 0 L [] hp r hp2 h p e R s m args below meth c hp.length (am_tot hp) X h1 h2 h3 h4 h5 h6)
