/-! THE LAW's LOOP AND ITS START -/
theorem and31 (z : Int32) : ∃ n, n < 32 ∧ z &&& (Int8.ofInt 31).toInt32 = nI n := by
  refine ⟨z.toBitVec.toNat &&& 31, Nat.lt_of_le_of_lt Nat.and_le_right (by decide), ?_⟩
  rw [← nIa]
  have e1 : nI z.toBitVec.toNat = z := by
    apply Int32.toBitVec_inj.mp
    simp [nI]
  rw [e1]
  rfl
theorem lim_in {a k : Nat} (ha : a ≤ 256) (h : k + 4 ≤ a) : ¬ (Int32.ofNat a - Int32.ofInt 4 < nI k) := by
  have e1 : Int32.ofNat a - Int32.ofInt 4 = nI (a - 4) := by
    have := nI_add (a - 4) 4
    rw [show a - 4 + 4 = a by omega] at this
    show nI a - nI 4 = _
    rw [← this, Int32.add_sub_cancel]
  rw [e1]
  exact nI_nlt (by omega) (by omega)
theorem lim_out {a k : Nat} (ha : a ≤ 256) (h : a < k + 4) (hk : k ≤ a) : Int32.ofNat a - Int32.ofInt 4 < nI k := by
  by_cases q : 4 ≤ a
  · have e1 : Int32.ofNat a - Int32.ofInt 4 = nI (a - 4) := by
      have := nI_add (a - 4) 4
      rw [show a - 4 + 4 = a by omega] at this
      show nI a - nI 4 = _
      rw [← this, Int32.add_sub_cancel]
    rw [e1]
    exact nI_lt (by omega) (by omega)
  · exact (show ∀ a, a < 4 → ∀ k, k < 4 → Int32.ofNat a - Int32.ofInt 4 < nI k by decide +kernel) a (by omega) k (by omega)
section LWE
variable {p : Program} {l : Launch} {e : Env} {s : State} {m : MethodId} {below : List Frame} {meth : Method} {c : Code} {g : am_G} {b Ln : Nat} {xs : Nat → Int32}
theorem lw_body {k : Nat} {hp : am_H} (C : Lc p s m c g b Ln xs) (hL : Ln ≤ 256) (hk : k + 4 ≤ Ln) (hJ : JJ hp) (ht : am_tot hp ≤ 7302250) (kk : ∀ hp2, JJ hp2 → am_tot hp2 ≤ 7302250 → LW p l e s m below meth c g b 871 (sL (nI k)) [] hp2) : LW p l e s m below meth c g b 26 (sL (nI k)) [] hp := by
  have hx := C.1
  have hb := C.2.1
  refine as_la (pc2 := 27) (L2 := sL (nI k)) (st2 := [.float 2]) (hp2 := hp) (i := 0) (pc3 := 27) rfl ?_ (fun x ls rest H locs cells slots q w => lv_aload_n hx hb (show decode code 26 = .ok (.aload_n 0, 1) by decide +kernel) rfl q w)
  refine as_li (pc2 := 28) (L2 := sL (nI k)) (st2 := [.int (nI k), .float 2]) (hp2 := hp) (i := 3) (pc3 := 28) rfl ?_ (fun x ls rest H locs cells slots q w => lv_iload_n hx hb (show decode code 27 = .ok (.iload_n 3, 1) by decide +kernel) rfl q w)
  refine lw_sld C (by omega) hL (by decide +kernel) ?_
  refine as_push (pc2 := 31) (L2 := sL (nI k)) (st2 := [.int (Int8.ofInt 31).toInt32, .int (xs k)]) (hp2 := hp) (v := .int (Int8.ofInt 31).toInt32) (pc3 := 31) rfl ?_ (fun ls rest H locs cells slots w => lv_bipush hx hb (show decode code 29 = .ok (.bipush 31, 2) by decide +kernel) rfl w)
  refine as_b2 (f := fun x y => x &&& y) (pc2 := 32) (L2 := sL (nI k)) (st2 := [.int (xs k &&& (Int8.ofInt 31).toInt32)]) (hp2 := hp) (pc3 := 32) rfl ?_ (fun x y ls rest H locs cells slots w => lv_iand hx hb (show decode code 31 = .ok (.iand, 1) by decide +kernel) w)
  obtain ⟨n, hn, e1⟩ := and31 (xs k)
  rw [e1]
  exact lw_sw C hL hk hJ ht kk n hn
theorem lw_end {k : Nat} {hp : am_H} (C : Lc p s m c g b Ln xs) (hret : meth.sig.returnType = ret) (hlocks : meth.locks = false) (hJ : JJ hp) (ht : am_tot hp ≤ 7302250) : LW p l e s m below meth c g b 877 (sL (nI k)) [] hp := by
  have hx := C.1
  have hb := C.2.1
  refine as_push (pc2 := 878) (L2 := sL (nI k)) (st2 := [.int 1]) (hp2 := hp) (v := .int (Int32.ofInt 1)) (pc3 := 878) rfl ?_ (fun ls rest H locs cells slots w => lv_iconst hx hb (show decode code 877 = .ok (.iconst 1, 1) by decide +kernel) rfl w)
  intro ls H locs cells slots hl hP hS hc ht2
  have h0 := C.2.2.2.2.2.2.2.1
  have h1 := hJ.1
  exact va_forget (fun q hq => by rw [h0]; exact hS.2.2 q hq) (W.widen (by omega) (by omega) (lw_ret hx hb hret hlocks (by decide +kernel)))
theorem lw_inc {k : Nat} {hp : am_H} (C : Lc p s m c g b Ln xs) (kk : LW p l e s m below meth c g b 18 (sL (nI (k + 4))) [] hp) : LW p l e s m below meth c g b 871 (sL (nI k)) [] hp := by
  have hx := C.1
  have hb := C.2.1
  intro ls H locs cells slots hl hP hS hc ht
  have h1 : am_get1 (sL (nI k)) 3 = some (.int (nI k)) := rfl
  have hi : 3 < (sL (nI k)).length := (am_get1_lt h1).1
  have hL3 : am_st1 (sL (nI k)) 3 (.int (nI k + Int32.ofInt 4)) = some (sL (nI k + Int32.ofInt 4)) := rfl
  obtain ⟨j, hj⟩ := List.getElem?_of_mem (am_asc_mem (g := g) h1)
  refine lv_iinc (v := nI k + Int32.ofInt 4) (k := j) hx hb (show decode code 871 = .ok (.iinc 3 4, 3) by decide +kernel) hl hj rfl hi rfl (fun ls' hl' => ?_)
  have hg : LW p l e s m below meth c g b 874 (sL (nI k + Int32.ofInt 4)) [] hp := by
    rw [show nI k + Int32.ofInt 4 = nI (k + 4) from nI_add k 4]
    exact as_go (off := -856) (pc2 := 18) (L := sL (nI (k + 4))) (st := []) (hp := hp) rfl kk (fun tgt ls H locs cells slots h w => lv_goto hx hb (show decode code 874 = .ok (.goto (-856), 3) by decide +kernel) h w)
  exact hg ls' H locs cells slots (am_ls_st1 hL3 hl') hP hS hc ht
theorem lw_loop (C : Lc p s m c g b Ln xs) (hL : Ln ≤ 256) (hret : meth.sig.returnType = ret) (hlocks : meth.locks = false) : ∀ (r k : Nat) (hp : am_H), Ln ≤ k + r → k ≤ Ln → JJ hp → am_tot hp ≤ 7302250 → LW p l e s m below meth c g b 18 (sL (nI k)) [] hp := by
  intro r
  induction r with
  | zero =>
    intro k hp h1 h2 hJ ht
    exact go C hL hret hlocks h2 hJ ht (fun q => absurd q (by omega))
  | succ r ih =>
    intro k hp h1 h2 hJ ht
    exact go C hL hret hlocks h2 hJ ht (fun q hp2 hJ2 ht2 => ih (k + 4) hp2 (by omega) q hJ2 ht2)
where
  go {k : Nat} {hp : am_H} (C : Lc p s m c g b Ln xs) (hL : Ln ≤ 256) (hret : meth.sig.returnType = ret) (hlocks : meth.locks = false) (h2 : k ≤ Ln) (hJ : JJ hp) (ht : am_tot hp ≤ 7302250) (kk : k + 4 ≤ Ln → ∀ hp2, JJ hp2 → am_tot hp2 ≤ 7302250 → LW p l e s m below meth c g b 18 (sL (nI (k + 4))) [] hp2) : LW p l e s m below meth c g b 18 (sL (nI k)) [] hp := by
    have hx := C.1
    have hb := C.2.1
    refine as_li (pc2 := 19) (L2 := sL (nI k)) (st2 := [.int (nI k)]) (hp2 := hp) (i := 3) (pc3 := 19) rfl ?_ (fun x ls rest H locs cells slots q w => lv_iload_n hx hb (show decode code 18 = .ok (.iload_n 3, 1) by decide +kernel) rfl q w)
    refine as_la (pc2 := 20) (L2 := sL (nI k)) (st2 := [.float 2, .int (nI k)]) (hp2 := hp) (i := 0) (pc3 := 20) rfl ?_ (fun x ls rest H locs cells slots q w => lv_aload_n hx hb (show decode code 19 = .ok (.aload_n 0, 1) by decide +kernel) rfl q w)
    refine lw_slen C (by decide +kernel) ?_
    refine as_push (pc2 := 22) (L2 := sL (nI k)) (st2 := [.int (Int32.ofInt 4), .int (Int32.ofNat Ln), .int (nI k)]) (hp2 := hp) (v := .int (Int32.ofInt 4)) (pc3 := 22) rfl ?_ (fun ls rest H locs cells slots w => lv_iconst hx hb (show decode code 21 = .ok (.iconst 4, 1) by decide +kernel) rfl w)
    refine as_b2 (f := fun x y => x - y) (pc2 := 23) (L2 := sL (nI k)) (st2 := [.int (Int32.ofNat Ln - Int32.ofInt 4), .int (nI k)]) (hp2 := hp) (pc3 := 23) rfl ?_ (fun x y ls rest H locs cells slots w => lv_isub hx hb (show decode code 22 = .ok (.isub, 1) by decide +kernel) w)
    by_cases q : k + 4 ≤ Ln
    · refine as_icmp hx hb (cd := .gt) (off := 854) (by decide +kernel) (pc2 := 26) (L2 := sL (nI k)) (st2 := []) (hp2 := hp) ?_ (lw_body C hL q hJ ht (fun hp2 hJ2 ht2 => lw_inc C (kk q hp2 hJ2 ht2)))
      unfold am_br
      rw [show am_tgt 23 854 = some 877 from rfl]
      dsimp only
      rw [if_neg (show ¬ am_ci .gt (nI k) (Int32.ofNat Ln - Int32.ofInt 4) = true from fun z => lim_in hL q (of_decide_eq_true z))]
      rfl
    · refine as_icmp hx hb (cd := .gt) (off := 854) (by decide +kernel) (pc2 := 877) (L2 := sL (nI k)) (st2 := []) (hp2 := hp) ?_ (lw_end C hret hlocks hJ ht)
      unfold am_br
      rw [show am_tgt 23 854 = some 877 from rfl]
      dsimp only
      rw [if_pos (show am_ci .gt (nI k) (Int32.ofNat Ln - Int32.ofInt 4) = true from decide_eq_true (lim_out hL (by omega) h2))]
      rfl
end LWE
