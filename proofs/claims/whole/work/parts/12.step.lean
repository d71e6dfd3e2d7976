/-! every instruction; every run -/
section AMT
variable {p : Program} {l : Launch} {e : Env} {R : Room} {s : State} {m : MethodId} {args : Array Value} {below : List Frame} {meth : Method} {c : Code} {Q : State → Prop} {g : am_G} {n0 t0 : Nat}
variable {pc pc2 M : Nat} {L L2 : am_L} {st st2 : List Value} {hp hp2 : am_H}
set_option maxHeartbeats 4000000 in
set_option maxRecDepth 100000 in
theorem am_step_ok {ins : Instr} {len : Nat} (X : am_X p s m args meth c g M) (hL : c.maxLocals = L.length) (hs0 : s.heap.size = g.2.2.1 + n0) (hR : 1 ≤ R.frames ∧ 40 ≤ R.locals) (hdec : decode c.code pc = .ok (ins, len)) (hlen : am_lenok ins len = true) (h : am_step M ins pc L st hp = some (.inl (pc2, L2, st2, hp2))) (hroom : hp2.length ≤ n0 + R.cells ∧ am_tot hp2 ≤ t0 + R.slots)
    (k : am_W p l e R s m args below meth c Q g n0 t0 pc2 L2 st2 hp2) : am_W p l e R s m args below meth c Q g n0 t0 pc L st hp := by
  obtain ⟨y, bs, mx, rt, o, np, kd, tb, hrec, hx, hbs, hmx, hret, hown, hts, hlocks, hname, hK, hSt, hbase⟩ := X
  have ho : am_o M = o := by unfold am_o; rw [hrec]
  have hkd : am_kind M = kd := by unfold am_kind; rw [hrec]
  have hmP := ap_all _ (List.mem_of_getElem? hrec)
  have hb : c.code = c.code := rfl
  cases ins
  case iconst n =>
    cases (Nat.eq_of_beq_eq_true hlen : len = 1)
    exact as_push h k (fun ls rest H locs cells slots w => lv_iconst hx hb hdec rfl w)
  case bipush n =>
    cases (Nat.eq_of_beq_eq_true hlen : len = 2)
    exact as_push h k (fun ls rest H locs cells slots w => lv_bipush hx hb hdec rfl w)
  case sipush n =>
    cases (Nat.eq_of_beq_eq_true hlen : len = 3)
    exact as_push h k (fun ls rest H locs cells slots w => lv_sipush hx hb hdec rfl w)
  case lconst n =>
    cases (Nat.eq_of_beq_eq_true hlen : len = 1)
    exact as_push h k (fun ls rest H locs cells slots w => lv_lconst hx hb hdec rfl w)
  case iload_n n =>
    cases (Nat.eq_of_beq_eq_true hlen : len = 1)
    exact as_li h k (fun x ls rest H locs cells slots q w => lv_iload_n hx hb hdec rfl q w)
  case iload n =>
    cases (Nat.eq_of_beq_eq_true hlen : len = 2)
    exact as_li h k (fun x ls rest H locs cells slots q w => lv_iload hx hb hdec q w)
  case lload_n n =>
    cases (Nat.eq_of_beq_eq_true hlen : len = 1)
    exact as_ll h k (fun x ls rest H locs cells slots q w => lv_lload_n hx hb hdec rfl q w)
  case lload n =>
    cases (Nat.eq_of_beq_eq_true hlen : len = 2)
    exact as_ll h k (fun x ls rest H locs cells slots q w => lv_lload hx hb hdec q w)
  case aload_n n =>
    cases (Nat.eq_of_beq_eq_true hlen : len = 1)
    exact as_la h k (fun x ls rest H locs cells slots q w => lv_aload_n hx hb hdec rfl q w)
  case aload n =>
    cases (Nat.eq_of_beq_eq_true hlen : len = 2)
    exact as_la h k (fun x ls rest H locs cells slots q w => lv_aload hx hb hdec q w)
  case istore_n n =>
    cases (Nat.eq_of_beq_eq_true hlen : len = 1)
    exact as_si h k (fun x lv lv' nL ls rest H locs cells slots q1 q2 q3 w => lv_istore_n hx hb hdec rfl q1 q2 q3 w)
  case istore n =>
    cases (Nat.eq_of_beq_eq_true hlen : len = 2)
    exact as_si h k (fun x lv lv' nL ls rest H locs cells slots q1 q2 q3 w => lv_istore hx hb hdec q1 q2 q3 w)
  case lstore_n n =>
    cases (Nat.eq_of_beq_eq_true hlen : len = 1)
    exact as_sl h k (fun x lv lv' nL ls rest H locs cells slots q1 q2 q3 w => lv_lstore_n hx hb hdec rfl q1 q2 q3 w)
  case lstore n =>
    cases (Nat.eq_of_beq_eq_true hlen : len = 2)
    exact as_sl h k (fun x lv lv' nL ls rest H locs cells slots q1 q2 q3 w => lv_lstore hx hb hdec q1 q2 q3 w)
  case astore_n n =>
    cases (Nat.eq_of_beq_eq_true hlen : len = 1)
    exact as_sa h k (fun x lv lv' nL ls rest H locs cells slots q1 q2 q3 w => lv_astore_n hx hb hdec rfl q1 q2 q3 w)
  case astore n =>
    cases (Nat.eq_of_beq_eq_true hlen : len = 2)
    exact as_sa h k (fun x lv lv' nL ls rest H locs cells slots q1 q2 q3 w => lv_astore hx hb hdec q1 q2 q3 w)
  case iinc i n =>
    cases (Nat.eq_of_beq_eq_true hlen : len = 3)
    simp only [am_step] at h
    split at h
    · rename_i x hx1
      split at h
      · rename_i L3 hL3
        cases h
        intro ls H locs cells slots hl hP hS hc ht
        have hi : i < L.length := (am_get1_lt hx1).1
        obtain ⟨j, hj⟩ := List.getElem?_of_mem (am_asc_mem (g := g) hx1)
        exact lv_iinc (v := x + Int32.ofInt n) (k := j) hx hb hdec hl hj rfl hi rfl (fun ls' hl' => k ls' H locs cells slots (am_ls_st1 hL3 hl') hP hS hc ht)
      · cases h
    · cases h
  case iadd =>
    cases (Nat.eq_of_beq_eq_true hlen : len = 1)
    exact as_b2 h k (fun x y ls rest H locs cells slots w => lv_iadd hx hb hdec w)
  case isub =>
    cases (Nat.eq_of_beq_eq_true hlen : len = 1)
    exact as_b2 h k (fun x y ls rest H locs cells slots w => lv_isub hx hb hdec w)
  case imul =>
    cases (Nat.eq_of_beq_eq_true hlen : len = 1)
    exact as_b2 h k (fun x y ls rest H locs cells slots w => lv_imul hx hb hdec w)
  case iand =>
    cases (Nat.eq_of_beq_eq_true hlen : len = 1)
    exact as_b2 h k (fun x y ls rest H locs cells slots w => lv_iand hx hb hdec w)
  case ior =>
    cases (Nat.eq_of_beq_eq_true hlen : len = 1)
    exact as_b2 h k (fun x y ls rest H locs cells slots w => lv_ior hx hb hdec w)
  case ixor =>
    cases (Nat.eq_of_beq_eq_true hlen : len = 1)
    exact as_b2 h k (fun x y ls rest H locs cells slots w => lv_ixor hx hb hdec w)
  case ishl =>
    cases (Nat.eq_of_beq_eq_true hlen : len = 1)
    exact as_b2 h k (fun x y ls rest H locs cells slots w => lv_ishl hx hb hdec w)
  case ishr =>
    cases (Nat.eq_of_beq_eq_true hlen : len = 1)
    exact as_b2 h k (fun x y ls rest H locs cells slots w => lv_ishr hx hb hdec w)
  case iushr =>
    cases (Nat.eq_of_beq_eq_true hlen : len = 1)
    exact as_b2 h k (fun x y ls rest H locs cells slots w => lv_iushr hx hb hdec rfl w)
  case idiv =>
    cases (Nat.eq_of_beq_eq_true hlen : len = 1)
    exact as_d2 h k (fun x y ls rest H locs cells slots q w => lv_idiv hx hb hdec q w)
  case irem =>
    cases (Nat.eq_of_beq_eq_true hlen : len = 1)
    exact as_d2 h k (fun x y ls rest H locs cells slots q w => lv_irem hx hb hdec q w)
  case ladd =>
    cases (Nat.eq_of_beq_eq_true hlen : len = 1)
    exact as_b2l h k (fun x y ls rest H locs cells slots w => lv_ladd hx hb hdec w)
  case lmul =>
    cases (Nat.eq_of_beq_eq_true hlen : len = 1)
    exact as_b2l h k (fun x y ls rest H locs cells slots w => lv_lmul hx hb hdec w)
  case ldiv =>
    cases (Nat.eq_of_beq_eq_true hlen : len = 1)
    exact as_d2l h k (fun x y ls rest H locs cells slots q w => lv_ldiv hx hb hdec q w)
  case lrem =>
    cases (Nat.eq_of_beq_eq_true hlen : len = 1)
    exact as_d2l h k (fun x y ls rest H locs cells slots q w => lv_lrem hx hb hdec q w)
  case ineg =>
    cases (Nat.eq_of_beq_eq_true hlen : len = 1)
    simp only [am_step] at h
    split at h
    · cases h
      intro ls H locs cells slots hl hP hS hc ht
      exact lv_ineg hx hb hdec (k ls H locs cells slots hl hP hS hc ht)
    · cases h
  case i2l =>
    cases (Nat.eq_of_beq_eq_true hlen : len = 1)
    simp only [am_step] at h
    split at h
    · cases h
      intro ls H locs cells slots hl hP hS hc ht
      exact lv_i2l hx hb hdec rfl (k ls H locs cells slots hl hP hS hc ht)
    · cases h
  case l2i =>
    cases (Nat.eq_of_beq_eq_true hlen : len = 1)
    simp only [am_step] at h
    split at h
    · cases h
      intro ls H locs cells slots hl hP hS hc ht
      exact lv_l2i hx hb hdec rfl (k ls H locs cells slots hl hP hS hc ht)
    · cases h
  case i2c =>
    cases (Nat.eq_of_beq_eq_true hlen : len = 1)
    simp only [am_step] at h
    split at h
    · cases h
      intro ls H locs cells slots hl hP hS hc ht
      exact lv_i2c hx hb hdec rfl (k ls H locs cells slots hl hP hS hc ht)
    · cases h
  case lcmp =>
    cases (Nat.eq_of_beq_eq_true hlen : len = 1)
    simp only [am_step] at h
    split at h
    · cases h
      intro ls H locs cells slots hl hP hS hc ht
      exact W.lcmp hx hb hdec (k ls H locs cells slots hl hP hS hc ht)
    · cases h
  case dup =>
    cases (Nat.eq_of_beq_eq_true hlen : len = 1)
    simp only [am_step] at h
    split at h
    · split at h
      · rename_i hcat
        cases h
        intro ls H locs cells slots hl hP hS hc ht
        exact lv_dup hx hb hdec (by rw [am_cv_cat]; exact hcat) (k ls H locs cells slots hl hP hS hc ht)
      · cases h
    · cases h
  case dup2 =>
    cases (Nat.eq_of_beq_eq_true hlen : len = 1)
    simp only [am_step] at h
    split at h
    · split at h
      · rename_i hcat
        cases h
        intro ls H locs cells slots hl hP hS hc ht
        exact lv_dup2_11 hx hb hdec (by rw [am_cv_cat]; exact hcat.1) (by rw [am_cv_cat]; exact hcat.2) (k ls H locs cells slots hl hP hS hc ht)
      · split at h
        · rename_i hcat
          cases h
          intro ls H locs cells slots hl hP hS hc ht
          exact lv_dup2_2 hx hb hdec (by rw [am_cv_cat]; exact hcat) (k ls H locs cells slots hl hP hS hc ht)
        · cases h
    · split at h
      · rename_i hcat
        cases h
        intro ls H locs cells slots hl hP hS hc ht
        exact lv_dup2_2 hx hb hdec (by rw [am_cv_cat]; exact hcat) (k ls H locs cells slots hl hP hS hc ht)
      · cases h
    · cases h
  case pop =>
    cases (Nat.eq_of_beq_eq_true hlen : len = 1)
    simp only [am_step] at h
    split at h
    · split at h
      · rename_i hcat
        cases h
        intro ls H locs cells slots hl hP hS hc ht
        exact lv_pop hx hb hdec (by rw [am_cv_cat]; exact hcat) (k ls H locs cells slots hl hP hS hc ht)
      · cases h
    · cases h
  case goto off =>
    cases (Nat.eq_of_beq_eq_true hlen : len = 3)
    exact as_go h k (fun tgt ls H locs cells slots ht w => lv_goto hx hb hdec ht w)
  case if_icmp cd off =>
    cases (Nat.eq_of_beq_eq_true hlen : len = 3)
    simp only [am_step] at h
    split at h
    · exact as_icmp hx hb hdec h k
    · cases h
  case ifCond cd off =>
    cases (Nat.eq_of_beq_eq_true hlen : len = 3)
    simp only [am_step] at h
    split at h
    · exact as_if hx hb hdec h k
    · cases h
  case tableswitch dflt lo hi offs =>
    simp only [am_step] at h
    split at h
    · split at h
      · rename_i hout
        exact as_go h k (fun tgt ls H locs cells slots ht w => lv_tableOut hx hb hdec hout ht w)
      · rename_i hin
        split at h
        · rename_i off hoff
          exact as_go h k (fun tgt ls H locs cells slots ht w => lv_tableIn hx hb hdec (fun z => hin (Or.inl z)) (fun z => hin (Or.inr z)) hoff ht w)
        · cases h
    · cases h
  case lookupswitch dflt ps =>
    simp only [am_step] at h
    split at h
    · split at h
      · rename_i hps
        exact as_go h k (fun tgt ls H locs cells slots ht w => lv_lookup hx hb hdec hps rfl ht w)
      · cases h
    · cases h
  case ldc i =>
    cases (Nat.eq_of_beq_eq_true hlen : len = 2)
    simp only [am_step] at h
    rw [ho] at h
    split at h
    · rename_i v hv
      split at h
      · cases h
      · rename_i h12
        have hk := ak_all _ (am_lk2_mem hv)
        refine as_push h k (fun ls rest H locs cells slots w => ?_)
        rcases hk with ⟨hk, -⟩ | ⟨-, hk⟩
        · exact absurd hk h12
        · exact lv_ldc hx hb hown (hts _ hk) hdec w
    · rename_i b hv
      have hk := ak_all _ (am_lk2_mem hv)
      refine as_push h k (fun ls rest H locs cells slots w => ?_)
      obtain ⟨hb0, hoi⟩ := hk
      cases hoi
      subst hb0
      exact va_ldcS hx hb hown hSt.1 hdec w
    · cases h
  case ldc_w i =>
    cases (Nat.eq_of_beq_eq_true hlen : len = 3)
    simp only [am_step] at h
    rw [ho] at h
    split at h
    · rename_i v hv
      split at h
      · cases h
      · rename_i h12
        have hk := ak_all _ (am_lk2_mem hv)
        refine as_push h k (fun ls rest H locs cells slots w => ?_)
        rcases hk with ⟨hk, -⟩ | ⟨-, hk⟩
        · exact absurd hk h12
        · exact lv_ldcw hx hb hown (hts _ hk) hdec w
    · cases h
  case ldc2_w i =>
    cases (Nat.eq_of_beq_eq_true hlen : len = 3)
    simp only [am_step] at h
    rw [ho] at h
    split at h
    · rename_i v hv
      have hk := ak_all _ (am_lk2_mem hv)
      exact as_push h k (fun ls rest H locs cells slots w => lv_ldc2 hx hb hown (hts _ hk) hdec w)
    · cases h
  case getstatic i =>
    cases (Nat.eq_of_beq_eq_true hlen : len = 3)
    simp only [am_step] at h
    rw [ho] at h
    split at h
    · rename_i v hv
      split at h
      · rename_i h12
        have hk := ak_all _ (am_lk2_mem hv)
        cases h
        rcases hk with ⟨-, hk1, hk2⟩ | ⟨hk1, -⟩
        rotate_left
        · exact absurd h12 hk1
        intro ls H locs cells slots hl hP hS hc ht
        have w := k ls H locs cells slots hl hP hS hc ht
        subst hk1
        exact va_gets hx hb hSt.2.2.2.2.2.1 hS hown (hts _ hk2) (fun _ h9 => h9) hdec w
      · cases h
    · rename_i v hv
      have hk := ak_all _ (am_lk2_mem hv)
      cases h
      intro ls H locs cells slots hl hP hS hc ht
      have w := k ls H locs cells slots hl hP hS hc ht
      exact va_gets hx hb hSt.2.2.2.2.2.2 hS hown (hts _ hk.2) (fun _ h9 => h9) hdec w
    · cases h
  case getfield i =>
    cases (Nat.eq_of_beq_eq_true hlen : len = 3)
    simp only [am_step] at h
    rw [ho] at h
    split at h
    · rename_i r hr
      exact as_getf hx hb hts hown hK hSt hr h hdec k
    · cases h
  case putfield i =>
    cases (Nat.eq_of_beq_eq_true hlen : len = 3)
    simp only [am_step] at h
    rw [ho] at h
    split at h
    · rename_i r hr
      refine as_putf hx hb hts hown hK ho (fun hq => ?_) hr h hdec k
      obtain ⟨-, -, -, -, -, -, hkk, -⟩ := hmP
      rw [hkd] at hq
      rcases hkk with ⟨q, -⟩ | ⟨q, -⟩ | ⟨-, -, q, -⟩
      · omega
      · omega
      · rw [hname]; exact q
    · cases h
  case iaload =>
    cases (Nat.eq_of_beq_eq_true hlen : len = 1)
    simp only [am_step] at h
    split at h
    · split at h
      · rename_i xs hxs
        split at h
        · rename_i j hj
          cases h
          exact as_iald hx hb hK hxs hj hdec k
        · cases h
      · cases h
    · cases h
  case iastore =>
    cases (Nat.eq_of_beq_eq_true hlen : len = 1)
    simp only [am_step] at h
    split at h
    · split at h
      · rename_i xs hxs
        split at h
        · rename_i j hj
          cases h
          exact as_iast hx hb hK hxs hj hdec k
        · cases h
      · cases h
    · cases h
  case aaload =>
    cases (Nat.eq_of_beq_eq_true hlen : len = 1)
    simp only [am_step] at h
    split at h
    · split at h
      · rename_i xs hxs
        split at h
        · rename_i j hj
          split at h
          · rename_i b hb2
            cases h
            exact as_aald hx hb hK hxs hj hb2 hdec k
          · cases h
        · cases h
      · cases h
    · cases h
  case aastore =>
    cases (Nat.eq_of_beq_eq_true hlen : len = 1)
    simp only [am_step] at h
    split at h
    · split at h
      · rename_i xs hxs
        split at h
        · rename_i j hj
          split at h
          · rename_i hrv
            cases h
            unfold am_recv at hrv
            dsimp only at hrv
            split at hrv
            · rename_i c2 fs2 hobj
              have := Nat.eq_of_beq_eq_true hrv
              subst this
              exact as_aast hx hb hK hxs hj hobj hdec k
            · cases hrv
          · cases h
        · cases h
      · cases h
    · cases h
  case baload =>
    cases (Nat.eq_of_beq_eq_true hlen : len = 1)
    simp only [am_step] at h
    split at h
    · split at h
      · rename_i hb1
        split at h
        · rename_i j hj
          cases h
          subst hb1
          intro ls H locs cells slots hl hP hS hc ht
          obtain ⟨h1, h2, h3⟩ := am_ix_in hj
          exact va_tb hx hb hSt.2.2.2.2.1 hS h1 (by rw [h2]; rfl) hdec (k ls H locs cells slots hl hP hS hc ht)
        · cases h
      · cases h
    · cases h
  case arraylength =>
    cases (Nat.eq_of_beq_eq_true hlen : len = 1)
    simp only [am_step] at h
    split at h
    · split at h
      · rename_i xs hxs
        cases h
        exact as_alen hx hb hK hxs hdec k
      · cases h
    · split at h
      · rename_i hb1
        cases h
        subst hb1
        intro ls H locs cells slots hl hP hS hc ht
        exact va_tlen hx hb hSt.2.2.2.2.1 hS rfl hdec (k ls H locs cells slots hl hP hS hc ht)
      · cases h
    · cases h
  case new i =>
    cases (Nat.eq_of_beq_eq_true hlen : len = 3)
    simp only [am_step] at h
    rw [ho] at h
    split at h
    · rename_i ci hci
      cases h
      rw [am_tot_push, List.length_append] at hroom
      exact as_new hx hb hts hown hK hs0 hci hdec hroom k
    · cases h
  case newarray a =>
    cases (Nat.eq_of_beq_eq_true hlen : len = 2)
    cases a <;> try (cases h; done)
    simp only [am_step] at h
    split at h
    · split at h
      · rename_i hn
        cases h
        rw [am_tot_push, List.length_append] at hroom
        simp only [am_sz, List.length_replicate, List.length_singleton] at hroom
        exact as_newa hx hb hts hK hs0 hn hdec hroom k
      · cases h
    · cases h
  case anewarray i =>
    cases (Nat.eq_of_beq_eq_true hlen : len = 3)
    simp only [am_step] at h
    rw [ho] at h
    split at h
    · rename_i ci hci
      split at h
      · split at h
        · rename_i hn
          cases h
          rw [am_tot_push, List.length_append] at hroom
          simp only [am_sz, List.length_replicate, List.length_singleton] at hroom
          have hc2 := Nat.eq_of_beq_eq_true hn.1
          subst hc2
          exact as_anew hx hb hts hown hK hs0 hci hn.2 hdec hroom k
        · cases h
      · cases h
    · cases h
  case invokestatic i =>
    cases (Nat.eq_of_beq_eq_true hlen : len = 3)
    simp only [am_step] at h
    rw [ho] at h
    split at h
    · rename_i M2 hM2
      split at h
      · rename_i h900
        have h9 := Nat.eq_of_beq_eq_true h900
        subst h9
        have hlk := al_all _ (am_lk2_mem hM2)
        rcases hlk with ⟨-, hlk⟩ | ⟨q, -⟩ | ⟨q, -⟩
        · exact as_copy hx hb hL hts hown hK hlk hR h hdec k
        · exact absurd (show (900 : Nat) = 901 from q) (by decide)
        · exact absurd (show (900 : Nat) < 900 from q) (by decide)
      · split at h
        · split at h
          · unfold am_call at h
            split at h <;> cases h
          · cases h
        · cases h
    · cases h
  case invokevirtual i =>
    simp only [am_step] at h
    split at h
    · split at h
      · split at h
        · unfold am_call at h
          split at h <;> cases h
        · cases h
      · cases h
    · cases h
  case invokespecial i =>
    cases (Nat.eq_of_beq_eq_true hlen : len = 3)
    simp only [am_step] at h
    rw [ho] at h
    split at h
    · rename_i M2 hM2
      split at h
      · rename_i h901
        have h9 := Nat.eq_of_beq_eq_true h901
        subst h9
        split at h
        · split at h
          · rename_i hcat
            cases h
            have hlk := al_all _ (am_lk2_mem hM2)
            rcases hlk with ⟨q, -⟩ | ⟨-, hlk⟩ | ⟨q, -⟩
            · exact absurd (show (901 : Nat) = 900 from q) (by decide)
            · intro ls H locs cells slots hl hP hS hc ht
              refine W.objInit hx hb hown (hts _ hlk) (hts _ aw_1_23) (hts _ aw_1_24) rfl (hl.1.trans hL.symm) rfl hdec hR.1 ?_ (k ls H locs cells slots hl hP hS hc ht)
              have : am_cat st2 ≤ 8 := hcat
              show 2 * 0 + _ + 12 ≤ _
              rw [am_cat_map]
              omega
            · exact absurd (show (901 : Nat) < 900 from q) (by decide)
          · cases h
        · cases h
      · split at h
        · split at h
          · unfold am_call at h
            split at h <;> cases h
          · cases h
        · cases h
    · cases h
  case ireturn =>
    simp only [am_step] at h
    split at h
    · split at h
      · split at h <;> cases h
      · cases h
    · cases h
  case return_ =>
    simp only [am_step] at h
    split at h
    · split at h <;> cases h
    · cases h
  all_goals (cases h)
end AMT
