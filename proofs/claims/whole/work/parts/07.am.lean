/-! THE ABSTRACT MACHINE: one instruction, one method -/
def am_arr (hp : am_H) (a : Nat) : Option (List Int32) := match hp[a]? with
  | some (.inl xs) => some xs
  | _ => none
def am_rar (hp : am_H) (a : Nat) : Option (List (Option Nat)) := match hp[a]? with
  | some (.inr (.inl xs)) => some xs
  | _ => none
def am_obj (hp : am_H) (a : Nat) : Option (Nat × List Value) := match hp[a]? with
  | some (.inr (.inr o)) => some o
  | _ => none
def am_ix (i : Int32) (n : Nat) : Option Nat := if i < 0 ∨ n ≤ i.toNatClampNeg then none else some i.toNatClampNeg
def am_tgt (pc : Nat) (off : Int) : Option Nat := if 0 ≤ (pc : Int) + off then some ((pc : Int) + off).toNat else none
def am_next (pc : Nat) (L : am_L) (st : List Value) (hp : am_H) : Option am_N := some (.inl (pc, L, st, hp))
def am_go (pc : Nat) (off : Int) (L : am_L) (st : List Value) (hp : am_H) : Option am_N := match am_tgt pc off with
  | some t => am_next t L st hp
  | none => none
def am_get1 (L : am_L) (i : Nat) : Option Value := match L[i]? with
  | some (some v) => some v
  | _ => none
def am_nl (L : am_L) : Nat → Bool
  | 0 => true
  | j + 1 => match L[j]? with
    | some (some (.long _)) => false
    | some (some (.double _)) => false
    | _ => true
def am_st1 (L : am_L) (i : Nat) (v : Value) : Option am_L := if i < L.length ∧ am_nl L i = true then some (L.set i (some v)) else none
def am_st2 (L : am_L) (i : Nat) (v : Value) : Option am_L := if i + 1 < L.length ∧ am_nl L i = true then some ((L.set i (some v)).set (i + 1) none) else none
def am_li (L : am_L) (i pc : Nat) (st : List Value) (hp : am_H) : Option am_N := match am_get1 L i with
  | some (.int x) => am_next pc L (.int x :: st) hp
  | _ => none
def am_ll (L : am_L) (i pc : Nat) (st : List Value) (hp : am_H) : Option am_N := match am_get1 L i with
  | some (.long x) => am_next pc L (.long x :: st) hp
  | _ => none
def am_la (L : am_L) (i pc : Nat) (st : List Value) (hp : am_H) : Option am_N := match am_get1 L i with
  | some (.ref x) => am_next pc L (.ref x :: st) hp
  | some (.float x) => am_next pc L (.float x :: st) hp
  | _ => none
def am_si (L : am_L) (i pc : Nat) (st : List Value) (hp : am_H) : Option am_N := match st with
  | .int x :: st => match am_st1 L i (.int x) with
    | some L2 => am_next pc L2 st hp
    | none => none
  | _ => none
def am_sa (L : am_L) (i pc : Nat) (st : List Value) (hp : am_H) : Option am_N := match st with
  | .ref x :: st => match am_st1 L i (.ref x) with
    | some L2 => am_next pc L2 st hp
    | none => none
  | _ => none
def am_sl (L : am_L) (i pc : Nat) (st : List Value) (hp : am_H) : Option am_N := match st with
  | .long x :: st => match am_st2 L i (.long x) with
    | some L2 => am_next pc L2 st hp
    | none => none
  | _ => none
def am_b2 (f : Int32 → Int32 → Int32) (pc : Nat) (L : am_L) (st : List Value) (hp : am_H) : Option am_N := match st with
  | .int y :: .int x :: st => am_next pc L (.int (f x y) :: st) hp
  | _ => none
def am_d2 (f : Int32 → Int32 → Int32) (pc : Nat) (L : am_L) (st : List Value) (hp : am_H) : Option am_N := match st with
  | .int y :: .int x :: st => if y = 0 then none else am_next pc L (.int (f x y) :: st) hp
  | _ => none
def am_b2l (f : Int64 → Int64 → Int64) (pc : Nat) (L : am_L) (st : List Value) (hp : am_H) : Option am_N := match st with
  | .long y :: .long x :: st => am_next pc L (.long (f x y) :: st) hp
  | _ => none
def am_d2l (f : Int64 → Int64 → Int64) (pc : Nat) (L : am_L) (st : List Value) (hp : am_H) : Option am_N := match st with
  | .long y :: .long x :: st => if y = 0 then none else am_next pc L (.long (f x y) :: st) hp
  | _ => none
def am_ci (cd : ClassFile.Cond) (x y : Int32) : Bool := match cd with
  | .eq => decide (x = y)
  | .ne => decide (¬ x = y)
  | .lt => decide (x < y)
  | .ge => decide (y ≤ x)
  | .gt => decide (y < x)
  | .le => decide (x ≤ y)
def am_br (b : Bool) (pc : Nat) (off : Int) (L : am_L) (st : List Value) (hp : am_H) : Option am_N := match am_tgt pc off with
  | some t => if b = true then am_next t L st hp else am_next (pc + 3) L st hp
  | none => none
def am_fitb (ty : FieldType) (v : Value) : Bool := match ty, v with
  | .int, .int _ => true
  | .boolean, .int x => decide (x = 0 ∨ x = 1)
  | .object _, .ref _ => true
  | .array _, .ref _ => true
  | _, _ => false
def am_cat (l : List Value) : Nat := (l.map fun v => v.category).sum
def am_rec (M : Nat) : Option am_R := am_mt[M]?
def am_o (M : Nat) : Nat := match am_rec M with
  | some (_, _, _, _, o, _) => o
  | none => 99
def am_tab (M : Nat) : List (Nat × Instr × Nat) := match am_rec M with
  | some (_, _, _, _, _, _, _, t) => t
  | none => []
def am_kind (M : Nat) : Nat := match am_rec M with
  | some (_, _, _, _, _, _, k, _) => k
  | none => 99
/-- a call of a method with n arguments, its receiver among them -/
def am_call (M n : Nat) (st : List Value) : Option am_N := if n ≤ st.length ∧ am_cat (st.drop n) ≤ 8 then some (.inr (.inl (M, (st.take n).reverse, st.drop n))) else none
def am_recv (o : Nat) (v : Option Value) (hp : am_H) : Bool := match v with
  | some (.ref k) => match am_obj hp k with
    | some (c, _) => Nat.beq c o
    | none => false
  | some (.float b) => decide (b = 0) && Nat.beq o 12
  | _ => false
def am_cpy (f g : List Int32) (sp dp n : Nat) : List Int32 := (List.range g.length).map (fun k => if dp ≤ k ∧ k < dp + n then f.getD (sp + (k - dp)) 0 else g.getD k 0)
def am_copy (pc : Nat) (L : am_L) (st : List Value) (hp : am_H) : Option am_N := match st with
  | .int n :: .int dp :: .ref a :: .int sp :: .ref b :: st => match am_arr hp b, am_arr hp a with
    | some f, some g => if ¬ sp < 0 ∧ ¬ dp < 0 ∧ ¬ n < 0 ∧ sp.toNatClampNeg + n.toNatClampNeg ≤ f.length ∧ dp.toNatClampNeg + n.toNatClampNeg ≤ g.length ∧ am_cat st ≤ 8 then am_next (pc + 3) L st (hp.set a (.inl (am_cpy f g sp.toNatClampNeg dp.toNatClampNeg n.toNatClampNeg))) else none
    | _, _ => none
  | _ => none
def am_getf (r : Nat × Nat) (pc : Nat) (L : am_L) (st : List Value) (hp : am_H) : Option am_N := match st with
  | .ref k :: st => match am_obj hp k with
    | some (c, fs) => if Nat.beq c r.1 = true then (match fs[r.2]? with
      | some v => am_next (pc + 3) L (v :: st) hp
      | none => none) else none
    | none => none
  | .float b :: st => if b = 0 ∧ r = (100, 0) then am_next (pc + 3) L (.float 1 :: st) hp else if b = 0 ∧ r = (100, 1) then am_next (pc + 3) L (.int 0 :: st) hp else none
  | _ => none
def am_putf (M : Nat) (r : Nat × Nat) (pc : Nat) (L : am_L) (st : List Value) (hp : am_H) : Option am_N := match st with
  | v :: .ref k :: st => match am_obj hp k with
    | some (c, fs) => if Nat.beq c r.1 = true ∧ r.2 < fs.length ∧ am_fitb (am_ty r.1 r.2) v = true ∧ ((am_cls r.1 r.2).2.2.2 = false ∨ (am_kind M = 2 ∧ am_o M = r.1)) then am_next (pc + 3) L st (hp.set k (.inr (.inr (c, fs.set r.2 v)))) else none
    | none => none
  | _ => none
def am_step (M : Nat) (ins : Instr) (pc : Nat) (L : am_L) (st : List Value) (hp : am_H) : Option am_N := match ins with
  | .iconst n => am_next (pc + 1) L (.int (Int32.ofInt n) :: st) hp
  | .bipush n => am_next (pc + 2) L (.int (Int8.ofInt n).toInt32 :: st) hp
  | .sipush n => am_next (pc + 3) L (.int (Int16.ofInt n).toInt32 :: st) hp
  | .lconst n => am_next (pc + 1) L (.long (Int64.ofNat (n : Nat)) :: st) hp
  | .iload_n k => am_li L k (pc + 1) st hp
  | .iload i => am_li L i (pc + 2) st hp
  | .lload_n k => am_ll L k (pc + 1) st hp
  | .lload i => am_ll L i (pc + 2) st hp
  | .aload_n k => am_la L k (pc + 1) st hp
  | .aload i => am_la L i (pc + 2) st hp
  | .istore_n k => am_si L k (pc + 1) st hp
  | .istore i => am_si L i (pc + 2) st hp
  | .lstore_n k => am_sl L k (pc + 1) st hp
  | .lstore i => am_sl L i (pc + 2) st hp
  | .astore_n k => am_sa L k (pc + 1) st hp
  | .astore i => am_sa L i (pc + 2) st hp
  | .iinc i n => (match am_get1 L i with
    | some (.int x) => (match am_st1 L i (.int (x + Int32.ofInt n)) with
      | some L2 => am_next (pc + 3) L2 st hp
      | none => none)
    | _ => none)
  | .iadd => am_b2 (fun x y => x + y) (pc + 1) L st hp
  | .isub => am_b2 (fun x y => x - y) (pc + 1) L st hp
  | .imul => am_b2 (fun x y => x * y) (pc + 1) L st hp
  | .iand => am_b2 (fun x y => x &&& y) (pc + 1) L st hp
  | .ior => am_b2 (fun x y => x ||| y) (pc + 1) L st hp
  | .ixor => am_b2 (fun x y => x ^^^ y) (pc + 1) L st hp
  | .ishl => am_b2 (fun x y => x <<< (y &&& 31)) (pc + 1) L st hp
  | .ishr => am_b2 (fun x y => x >>> (y &&& 31)) (pc + 1) L st hp
  | .iushr => am_b2 (fun x y => (x.toUInt32 >>> (y.toUInt32 &&& Int32.toUInt32 31)).toInt32) (pc + 1) L st hp
  | .idiv => am_d2 (fun x y => x / y) (pc + 1) L st hp
  | .irem => am_d2 (fun x y => x - x / y * y) (pc + 1) L st hp
  | .ladd => am_b2l (fun x y => x + y) (pc + 1) L st hp
  | .lmul => am_b2l (fun x y => x * y) (pc + 1) L st hp
  | .ldiv => am_d2l (fun x y => x / y) (pc + 1) L st hp
  | .lrem => am_d2l (fun x y => x - x / y * y) (pc + 1) L st hp
  | .ineg => (match st with
    | .int x :: st => am_next (pc + 1) L (.int (-x) :: st) hp
    | _ => none)
  | .i2l => (match st with
    | .int x :: st => am_next (pc + 1) L (.long x.toInt64 :: st) hp
    | _ => none)
  | .l2i => (match st with
    | .long x :: st => am_next (pc + 1) L (.int x.toInt32 :: st) hp
    | _ => none)
  | .i2c => (match st with
    | .int x :: st => am_next (pc + 1) L (.int (x.toUInt32 % 65536).toInt32 :: st) hp
    | _ => none)
  | .lcmp => (match st with
    | .long y :: .long x :: st => am_next (pc + 1) L (.int (lg_cmp x y) :: st) hp
    | _ => none)
  | .dup => (match st with
    | v :: st => if v.category = 1 then am_next (pc + 1) L (v :: v :: st) hp else none
    | _ => none)
  | .dup2 => (match st with
    | v :: w :: st => if v.category = 1 ∧ w.category = 1 then am_next (pc + 1) L (v :: w :: v :: w :: st) hp else if v.category = 2 then am_next (pc + 1) L (v :: v :: w :: st) hp else none
    | [v] => if v.category = 2 then am_next (pc + 1) L [v, v] hp else none
    | _ => none)
  | .pop => (match st with
    | v :: st => if v.category = 1 then am_next (pc + 1) L st hp else none
    | _ => none)
  | .goto off => am_go pc off L st hp
  | .if_icmp cd off => (match st with
    | .int y :: .int x :: st => am_br (am_ci cd x y) pc off L st hp
    | _ => none)
  | .ifCond cd off => (match st with
    | .int x :: st => am_br (am_ci cd x 0) pc off L st hp
    | _ => none)
  | .tableswitch dflt lo hi offs => (match st with
    | .int x :: st => if x.toInt < lo ∨ hi < x.toInt then am_go pc dflt L st hp else (match offs[(x.toInt - lo).toNat]? with
      | some off => am_go pc off L st hp
      | none => none)
    | _ => none)
  | .lookupswitch dflt ps => (match st with
    | .int x :: st => if (ps.toList.zip (ps.toList.drop 1)).all (fun (a, next) => a.1 < next.1) = true then am_go pc (Op.lookupswitch.offset ps.toList dflt x.toInt) L st hp else none
    | _ => none)
  | .ldc i => (match am_lk2 (am_o M) i am_kT with
    | some (.int v) => if am_o M = 12 then none else am_next (pc + 2) L (.int v :: st) hp
    | some (.float b) => am_next (pc + 2) L (.float b :: st) hp
    | _ => none)
  | .ldc_w i => (match am_lk2 (am_o M) i am_kT with
    | some (.int v) => if am_o M = 12 then none else am_next (pc + 3) L (.int v :: st) hp
    | _ => none)
  | .ldc2_w i => (match am_lk2 (am_o M) i am_kT with
    | some (.long v) => am_next (pc + 3) L (.long v :: st) hp
    | _ => none)
  | .getstatic i => (match am_lk2 (am_o M) i am_kT with
    | some (.int v) => if am_o M = 12 then am_next (pc + 3) L (.int v :: st) hp else none
    | some (.retAddr v) => am_next (pc + 3) L (.retAddr v :: st) hp
    | _ => none)
  | .getfield i => (match am_lk2 (am_o M) i am_fT with
    | some r => am_getf r pc L st hp
    | none => none)
  | .putfield i => (match am_lk2 (am_o M) i am_fT with
    | some r => am_putf M r pc L st hp
    | none => none)
  | .iaload => (match st with
    | .int i :: .ref a :: st => (match am_arr hp a with
      | some xs => (match am_ix i xs.length with
        | some j => am_next (pc + 1) L (.int (xs.getD j 0) :: st) hp
        | none => none)
      | none => none)
    | _ => none)
  | .iastore => (match st with
    | .int x :: .int i :: .ref a :: st => (match am_arr hp a with
      | some xs => (match am_ix i xs.length with
        | some j => am_next (pc + 1) L st (hp.set a (.inl (xs.set j x)))
        | none => none)
      | none => none)
    | _ => none)
  | .aaload => (match st with
    | .int i :: .ref a :: st => (match am_rar hp a with
      | some xs => (match am_ix i xs.length with
        | some j => (match xs.getD j none with
          | some k => am_next (pc + 1) L (.ref k :: st) hp
          | none => none)
        | none => none)
      | none => none)
    | _ => none)
  | .aastore => (match st with
    | .ref k :: .int i :: .ref a :: st => (match am_rar hp a with
      | some xs => (match am_ix i xs.length with
        | some j => if am_recv 2 (some (.ref k)) hp = true then am_next (pc + 1) L st (hp.set a (.inr (.inl (xs.set j (some k))))) else none
        | none => none)
      | none => none)
    | _ => none)
  | .baload => (match st with
    | .int i :: .float b :: st => if b = 1 then (match am_ix i am_bys.length with
        | some j => am_next (pc + 1) L (.int (am_bys.getD j 0) :: st) hp
        | none => none) else none
    | _ => none)
  | .arraylength => (match st with
    | .ref a :: st => (match am_arr hp a with
      | some xs => am_next (pc + 1) L (.int (Int32.ofNat xs.length) :: st) hp
      | none => none)
    | .float b :: st => if b = 1 then am_next (pc + 1) L (.int (Int32.ofNat am_bys.length) :: st) hp else none
    | _ => none)
  | .new i => (match am_lk2 (am_o M) i am_nT with
    | some c => am_next (pc + 3) L (.ref hp.length :: st) (hp ++ [.inr (.inr (c, am_df c))])
    | none => none)
  | .newarray .int => (match st with
    | .int n :: st => if ¬ n < 0 ∧ n.toNatClampNeg ≤ 1000 then am_next (pc + 2) L (.ref hp.length :: st) (hp ++ [.inl (List.replicate n.toNatClampNeg 0)]) else none
    | _ => none)
  | .anewarray i => (match am_lk2 (am_o M) i am_nT with
    | some c => (match st with
      | .int n :: st => if Nat.beq c 2 = true ∧ ¬ n < 0 ∧ n.toNatClampNeg ≤ 1000 then am_next (pc + 3) L (.ref hp.length :: st) (hp ++ [.inr (.inl (List.replicate n.toNatClampNeg none))]) else none
      | _ => none)
    | none => none)
  | .invokevirtual i => (match am_lk2 (am_o M) i am_mT with
    | some M2 => (match am_rec M2 with
      | some (_, _, _, _, o, np, k, _) => if Nat.beq k 1 = true ∧ am_recv o st[np]? hp = true then am_call M2 (np + 1) st else none
      | none => none)
    | none => none)
  | .invokestatic i => (match am_lk2 (am_o M) i am_mT with
    | some M2 => if Nat.beq M2 900 = true then am_copy pc L st hp else (match am_rec M2 with
      | some (_, _, _, _, _, np, k, _) => if Nat.beq k 0 = true then am_call M2 np st else none
      | none => none)
    | none => none)
  | .invokespecial i => (match am_lk2 (am_o M) i am_mT with
    | some M2 => if Nat.beq M2 901 = true then (match st with
        | .ref _ :: st => if am_cat st ≤ 8 then am_next (pc + 3) L st hp else none
        | _ => none) else (match am_rec M2 with
      | some (_, _, _, _, o, np, k, _) => if Nat.beq k 2 = true ∧ am_recv o st[np]? hp = true ∧ o < 8 then am_call M2 (np + 1) st else none
      | none => none)
    | none => none)
  | .ireturn => (match st with
    | [.int v] => (match am_rec M with
      | some (_, _, _, some ty, _) => if narrow ty (.int v) = .int v then some (.inr (.inr (some (.int v)))) else none
      | _ => none)
    | _ => none)
  | .return_ => (match st with
    | [] => (match am_rec M with
      | some (_, _, _, none, _) => some (.inr (.inr none))
      | _ => none)
    | _ => none)
  | _ => none
def am_args : List Value → am_L
  | [] => []
  | v :: l => if v.category = 2 then some v :: none :: am_args l else some v :: am_args l
def am_entry (M : Nat) (as : List Value) : Option am_L := match am_rec M with
  | some (_, _, mx, _) => if (am_args as).length ≤ mx then some (am_args as ++ List.replicate (mx - (am_args as).length) none) else none
  | none => none
def am_run : Nat → Nat → Nat → Nat → am_L → List Value → am_H → Option (Option Value × am_H)
  | 0, _, _, _, _, _, _ => none
  | n + 1, d, M, pc, L, st, hp => match am_lk1 pc (am_tab M) with
    | none => none
    | some q => match am_step M q.1 pc L st hp with
      | none => none
      | some (.inl (pc2, L2, st2, hp2)) => am_run n d M pc2 L2 st2 hp2
      | some (.inr (.inr r)) => some (r, hp)
      | some (.inr (.inl (M2, as, rest))) => match d with
        | 0 => none
        | d2 + 1 => match am_entry M2 as with
          | none => none
          | some L2 => match am_run n d2 M2 0 L2 [] hp with
            | none => none
            | some (v, hp2) => am_run n (d2 + 1) M (pc + 3) L (v.toList ++ rest) hp2
