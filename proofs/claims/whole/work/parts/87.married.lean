/-! bits of eight people; PAIRS: married -/
def sk8 (a b c d e f g h : Bool) : Int32 := am_for (fun k s => if ([a, b, c, d, e, f, g, h].getD k false) = true then s ||| ((1 : Int32) <<< (nI k &&& 31)) else s) 0 8 0
def sm8 (G : Nat → Bool) : Int32 := am_for (fun k s => if G k = true then s ||| ((1 : Int32) <<< (nI k &&& 31)) else s) 0 8 0
theorem sm8_sk (G : Nat → Bool) : sm8 G = sk8 (G 0) (G 1) (G 2) (G 3) (G 4) (G 5) (G 6) (G 7) := rfl
theorem sk8_or : ∀ a b c d e f g h : Bool, (sk8 a b c d e f g h ||| ((1 : Int32) <<< (nI 0 &&& 31)) = sk8 true b c d e f g h) ∧ (sk8 a b c d e f g h ||| ((1 : Int32) <<< (nI 1 &&& 31)) = sk8 a true c d e f g h) ∧ (sk8 a b c d e f g h ||| ((1 : Int32) <<< (nI 2 &&& 31)) = sk8 a b true d e f g h) ∧ (sk8 a b c d e f g h ||| ((1 : Int32) <<< (nI 3 &&& 31)) = sk8 a b c true e f g h) ∧ (sk8 a b c d e f g h ||| ((1 : Int32) <<< (nI 4 &&& 31)) = sk8 a b c d true f g h) ∧ (sk8 a b c d e f g h ||| ((1 : Int32) <<< (nI 5 &&& 31)) = sk8 a b c d e true g h) ∧ (sk8 a b c d e f g h ||| ((1 : Int32) <<< (nI 6 &&& 31)) = sk8 a b c d e f true h) ∧ (sk8 a b c d e f g h ||| ((1 : Int32) <<< (nI 7 &&& 31)) = sk8 a b c d e f g true) := by decide +kernel
theorem sm8_or {G : Nat → Bool} : ∀ {k : Nat}, k < 8 → sm8 G ||| ((1 : Int32) <<< (nI k &&& 31)) = sm8 (fun j => G j || decide (k = j))
  | 0, _ => by rw [sm8_sk, sm8_sk, (sk8_or _ _ _ _ _ _ _ _).1]; simp
  | 1, _ => by rw [sm8_sk, sm8_sk, (sk8_or _ _ _ _ _ _ _ _).2.1]; simp
  | 2, _ => by rw [sm8_sk, sm8_sk, (sk8_or _ _ _ _ _ _ _ _).2.2.1]; simp
  | 3, _ => by rw [sm8_sk, sm8_sk, (sk8_or _ _ _ _ _ _ _ _).2.2.2.1]; simp
  | 4, _ => by rw [sm8_sk, sm8_sk, (sk8_or _ _ _ _ _ _ _ _).2.2.2.2.1]; simp
  | 5, _ => by rw [sm8_sk, sm8_sk, (sk8_or _ _ _ _ _ _ _ _).2.2.2.2.2.1]; simp
  | 6, _ => by rw [sm8_sk, sm8_sk, (sk8_or _ _ _ _ _ _ _ _).2.2.2.2.2.2.1]; simp
  | 7, _ => by rw [sm8_sk, sm8_sk, (sk8_or _ _ _ _ _ _ _ _).2.2.2.2.2.2.2]; simp
  | n + 8, q => absurd q (by omega)
def bI (b : Bool) : Int32 := if b = true then 1 else 0
theorem sk8_bit : ∀ a b c d e f g h : Bool, ((sk8 a b c d e f g h >>> (nI 0 &&& 31)) &&& 1 = bI a) ∧ ((sk8 a b c d e f g h >>> (nI 1 &&& 31)) &&& 1 = bI b) ∧ ((sk8 a b c d e f g h >>> (nI 2 &&& 31)) &&& 1 = bI c) ∧ ((sk8 a b c d e f g h >>> (nI 3 &&& 31)) &&& 1 = bI d) ∧ ((sk8 a b c d e f g h >>> (nI 4 &&& 31)) &&& 1 = bI e) ∧ ((sk8 a b c d e f g h >>> (nI 5 &&& 31)) &&& 1 = bI f) ∧ ((sk8 a b c d e f g h >>> (nI 6 &&& 31)) &&& 1 = bI g) ∧ ((sk8 a b c d e f g h >>> (nI 7 &&& 31)) &&& 1 = bI h) := by decide +kernel
theorem sm8_bit {G : Nat → Bool} : ∀ {k : Nat}, k < 8 → (sm8 G >>> (nI k &&& 31)) &&& 1 = bI (G k)
  | 0, _ => by rw [sm8_sk]; exact (sk8_bit _ _ _ _ _ _ _ _).1
  | 1, _ => by rw [sm8_sk]; exact (sk8_bit _ _ _ _ _ _ _ _).2.1
  | 2, _ => by rw [sm8_sk]; exact (sk8_bit _ _ _ _ _ _ _ _).2.2.1
  | 3, _ => by rw [sm8_sk]; exact (sk8_bit _ _ _ _ _ _ _ _).2.2.2.1
  | 4, _ => by rw [sm8_sk]; exact (sk8_bit _ _ _ _ _ _ _ _).2.2.2.2.1
  | 5, _ => by rw [sm8_sk]; exact (sk8_bit _ _ _ _ _ _ _ _).2.2.2.2.2.1
  | 6, _ => by rw [sm8_sk]; exact (sk8_bit _ _ _ _ _ _ _ _).2.2.2.2.2.2.1
  | 7, _ => by rw [sm8_sk]; exact (sk8_bit _ _ _ _ _ _ _ _).2.2.2.2.2.2.2
  | n + 8, q => absurd q (by omega)
theorem sm8_0 : sm8 (fun _ => false) = 0 := by decide +kernel
theorem sm8_congr {G G2 : Nat → Bool} (h : ∀ k, k < 8 → G k = G2 k) : sm8 G = sm8 G2 := by
  rw [sm8_sk, sm8_sk, h 0 (by decide), h 1 (by decide), h 2 (by decide), h 3 (by decide), h 4 (by decide), h 5 (by decide), h 6 (by decide), h 7 (by decide)]
/-- how many are free -/
def frN (sp : List Int32) : Nat → Nat
  | 0 => 0
  | n + 1 => frN sp n + (if sp.getD n 0 = -4 then 1 else 0)
theorem frN_le {sp : List Int32} : ∀ n, frN sp n ≤ n := by
  intro n
  induction n with
  | zero => exact Nat.le_refl 0
  | succ n ih => rw [frN]; split <;> omega
theorem frN_0 {sp : List Int32} : ∀ n, frN sp n = 0 → ∀ k, k < n → ¬ sp.getD k 0 = -4 := by
  intro n
  induction n with
  | zero => intro _ k hk; omega
  | succ n ih =>
    intro h k hk
    rw [frN] at h
    by_cases q : sp.getD n 0 = -4
    · rw [if_pos q] at h; omega
    · rw [if_neg q] at h
      by_cases e : k = n
      · rw [e]; exact q
      · exact ih (by omega) k (by omega)
theorem frN_out {sp : List Int32} {x : Nat} {v : Int32} (hl : x < sp.length) : ∀ n, n ≤ x → frN (sp.set x v) n = frN sp n := by
  intro n
  induction n with
  | zero => intro _; rfl
  | succ n ih =>
    intro h
    have e : (sp.set x v).getD n 0 = sp.getD n 0 := by rw [getD_set hl, if_neg (by omega)]
    rw [frN, frN, ih (by omega), e]
theorem frN_set {sp : List Int32} {x : Nat} {v : Int32} (hl : x < sp.length) (h4 : sp.getD x 0 = -4) (hv : ¬ v = -4) : ∀ n, x < n → frN (sp.set x v) n + 1 = frN sp n := by
  intro n
  induction n with
  | zero => intro h; omega
  | succ n ih =>
    intro h
    rw [frN, frN, getD_set hl]
    by_cases e : x = n
    · subst e
      rw [frN_out hl x (Nat.le_refl _), if_pos rfl, if_pos h4, if_neg hv]
    · rw [if_neg e]
      have := ih (by omega)
      omega
section MDM
variable {d : Nat} {hp hp2 : am_H} {I I2 : Nat → Int32} {A A2 : Nat → List Int32} {i j k n b p hr tt h u N : Nat} {x y z t a v w : Int32} {B C U : List Int32} {ct : am_Ci} {tx : am_Tx} {nw m : am_Mo} {sp : List Int32} {G : Nat → Bool}
/-- what a found pair is -/
def Mp (sp : List Int32) (pp : Nat) (p : Int32 × Nat × Nat) : Prop := p = (0, 0, 0) ∨ (0 < p.1 ∧ p.2.1 < p.2.2 ∧ p.2.2 < pp ∧ sp.getD p.2.1 0 = -4 ∧ sp.getD p.2.2 0 = -4)
theorem Mp.nn {p : Int32 × Nat × Nat} (h : Mp sp N p) : ¬ p.1 < 0 := by
  rcases h with h | h
  · rw [h]; decide
  · exact fun w => Int32.lt_irrefl (Int32.lt_trans w h.1)
theorem Mp_2 (hab : i < j) (hj : j < N) {p : Int32 × Nat × Nat} (h : Mp sp N p) : Mp sp N (aMa2 nw sp i j p) := by
  unfold aMa2
  by_cases q1 : sp.getD i 0 = -4
  · rw [if_pos q1]
    by_cases q2 : sp.getD j 0 = -4
    · rw [if_pos q2]
      by_cases q3 : p.1 < bitc (mO nw i ^^^ mO nw j)
      · rw [if_pos q3]
        refine Or.inr ⟨?_, hab, hj, q1, q2⟩
        show 0 < bitc (mO nw i ^^^ mO nw j)
        exact Int32.lt_of_le_of_lt (Int32.not_lt.mp h.nn) q3
      · rw [if_neg q3]; exact h
    · rw [if_neg q2]; exact h
  · rw [if_neg q1]; exact h
theorem s7_mb (hl : 154 < hp.length) (ok : Ok7 A ct nw hr) (hG : ∀ k, k < cPp ct → (G k = true ↔ ¬ sp.getD k 0 = -4)) (hi : i < cPp ct) {l1 l3 l4 : Option Value} (n4 : am_nl1 l4 = true) : ∀ n j (p : Int32 × Nat × Nat) l10, j + n = cPp ct → i < j → Mp sp (cPp ct) p → ∃ m10, Mp sp (cPp ct) (am_for (aMa2 nw sp i) j n p) ∧ am_E (d + 12) 146 52 [some (.ref 141), l1, some (.int (sm8 G)), l3, l4, some (.int p.1), some (.int (nI p.2.1)), some (.int (nI p.2.2)), some (.int (nI i)), some (.int (nI j)), l10] [] (wD hp I A) = am_E (d + 12) 146 155 [some (.ref 141), l1, some (.int (sm8 G)), l3, l4, some (.int (am_for (aMa2 nw sp i) j n p).1), some (.int (nI (am_for (aMa2 nw sp i) j n p).2.1)), some (.int (nI (am_for (aMa2 nw sp i) j n p).2.2)), some (.int (nI i)), some (.int (nI (cPp ct))), m10] [] (wD hp I A) := by
  have p8 := ok.p8
  intro n
  induction n with
  | zero =>
    intro j p l10 hj hij hM
    obtain rfl : j = cPp ct := by omega
    refine ⟨l10, hM, ?_⟩
    rw [e_146_52, am_for]
    simp (maxSteps := 1000000) (disch := first | exact nl_int | exact nl_ref | exact nl_none | exact Nat.le_of_ble_eq_true rfl | assumption | exact wD_cl (by assumption) | exact cat_int | exact cat_ref | exact z2 | exact z4 | exact z3 | exact z5 | exact z6 | exact z8 | exact z64) only [e_146_0, e_146_1, e_146_2, e_146_5, e_146_8, e_146_9, e_146_10, e_146_11, e_146_12, e_146_14, e_146_15, e_146_16, e_146_20, e_146_23, e_146_24, e_146_26, e_146_27, e_146_29, e_146_30, e_146_32, e_146_33, e_146_37, e_146_38, e_146_41, e_146_42, e_146_43, e_146_46, e_146_48, e_146_49, e_146_50, e_146_54, e_146_55, e_146_58, e_146_59, e_146_60, e_146_63, e_146_64, e_146_66, e_146_67, e_146_68, e_146_69, e_146_70, e_146_72, e_146_73, e_146_74, e_146_75, e_146_76, e_146_79, e_146_80, e_146_83, e_146_84, e_146_86, e_146_89, e_146_90, e_146_92, e_146_95, e_146_96, e_146_99, e_146_101, e_146_103, e_146_105, e_146_108, e_146_110, e_146_113, e_146_115, e_146_117, e_146_119, e_146_121, e_146_124, e_146_126, e_146_129, e_146_131, e_146_133, e_146_135, e_146_137, e_146_140, e_146_142, e_146_145, e_146_147, e_146_149, e_146_152, e_146_158, e_146_161, e_146_163, e_146_166, e_146_167, e_146_170, e_146_171, e_146_173, e_146_174, e_146_176, e_146_179, e_146_180, e_146_182, e_146_183, e_146_184, e_146_186, e_146_187, e_146_188, e_146_191, e_146_192, e_146_193, e_146_194, e_146_196, e_146_199, e_146_201, e_146_202, e_146_205, e_146_207, e_146_210, e_146_212, e_146_215, e_146_217, e_146_218, e_146_221, e_146_223, e_146_226, e_146_227, e_146_228, e_146_231, e_146_232, nl_int, nl_ref, nl_none, cat_int, cat_ref, cat_0, cat_i, cat_r, cat_l, Option.elim_some, Option.elim_none, Option.bind_some, Option.bind_none, Option.toList_some, Option.toList_none, List.cons_append, List.nil_append, Nat.reduceAdd, Nat.reduceLeDiff, wD_f1 hl, ok.lp hl, ltF (x := nI (cPp ct)) (c := cPp ct) rfl (Nat.le_refl _) (by omega), if_false]
  | succ n ih =>
    intro j p l10 hj hij hM
    have j8 : j < cPp ct := by omega
    have lt' := ltT (x := nI (cPp ct)) (c := cPp ct) rfl j8 (by omega)
    have bi := sm8_bit (G := G) (k := i) (by omega)
    have bj := sm8_bit (G := G) (k := j) (by omega)
    have hM2 := Mp_2 (nw := nw) hij j8 hM
    rw [am_for]
    obtain ⟨o, t1, g, ho, ht1, hg, eo, et, eg⟩ := ok.2.2.1.1 i hi
    obtain ⟨o2, t2, g2, ho2, ht2, hg2, eo2, et2, eg2⟩ := ok.2.2.1.1 j j8
    have ex : mO nw i ^^^ mO nw j = nI (o ^^^ o2) := by rw [eo, eo2, nIx]
    have hx : o ^^^ o2 < 2 ^ 5 := Nat.xor_lt_two_pow (by omega) (by omega)
    have em := s7_many (d := d + 11) (o := o ^^^ o2) (hp := wD hp I A) (by omega)
    rw [← ex] at em
    have free : (∀ l, (if p.1 < l then am_E (d + 12) 146 52 [some (.ref 141), l1, some (.int (sm8 G)), l3, l4, some (.int l), some (.int (nI i)), some (.int (nI j)), some (.int (nI i)), some (.int (nI (j + 1))), some (.int l)] [] (wD hp I A) else am_E (d + 12) 146 52 [some (.ref 141), l1, some (.int (sm8 G)), l3, l4, some (.int p.1), some (.int (nI p.2.1)), some (.int (nI p.2.2)), some (.int (nI i)), some (.int (nI (j + 1))), some (.int l)] [] (wD hp I A)) = am_E (d + 12) 146 99 [some (.ref 141), l1, some (.int (sm8 G)), l3, l4, some (.int p.1), some (.int (nI p.2.1)), some (.int (nI p.2.2)), some (.int (nI i)), some (.int (nI j)), l10] [.int l] (wD hp I A)) := fun l => by
      by_cases q : p.1 < l
      · rw [if_pos q]
        simp (maxSteps := 1000000) (disch := first | exact nl_int | exact nl_ref | exact nl_none | exact Nat.le_of_ble_eq_true rfl | assumption | exact wD_cl (by assumption) | exact cat_int | exact cat_ref | exact z2 | exact z4 | exact z3 | exact z5 | exact z6 | exact z8 | exact z64) only [e_146_0, e_146_1, e_146_2, e_146_5, e_146_8, e_146_9, e_146_10, e_146_11, e_146_12, e_146_14, e_146_15, e_146_16, e_146_20, e_146_23, e_146_24, e_146_26, e_146_27, e_146_29, e_146_30, e_146_32, e_146_33, e_146_37, e_146_38, e_146_41, e_146_42, e_146_43, e_146_46, e_146_48, e_146_49, e_146_50, e_146_54, e_146_55, e_146_58, e_146_59, e_146_60, e_146_63, e_146_64, e_146_66, e_146_67, e_146_68, e_146_69, e_146_70, e_146_72, e_146_73, e_146_74, e_146_75, e_146_76, e_146_79, e_146_80, e_146_83, e_146_84, e_146_86, e_146_89, e_146_90, e_146_92, e_146_95, e_146_96, e_146_99, e_146_101, e_146_103, e_146_105, e_146_108, e_146_110, e_146_113, e_146_115, e_146_117, e_146_119, e_146_121, e_146_124, e_146_126, e_146_129, e_146_131, e_146_133, e_146_135, e_146_137, e_146_140, e_146_142, e_146_145, e_146_147, e_146_149, e_146_152, e_146_155, e_146_158, e_146_161, e_146_163, e_146_166, e_146_167, e_146_170, e_146_171, e_146_173, e_146_174, e_146_176, e_146_179, e_146_180, e_146_182, e_146_183, e_146_184, e_146_186, e_146_187, e_146_188, e_146_191, e_146_192, e_146_193, e_146_194, e_146_196, e_146_199, e_146_201, e_146_202, e_146_205, e_146_207, e_146_210, e_146_212, e_146_215, e_146_217, e_146_218, e_146_221, e_146_223, e_146_226, e_146_227, e_146_228, e_146_231, e_146_232, nl_int, nl_ref, nl_none, cat_int, cat_ref, cat_0, cat_i, cat_r, cat_l, Option.elim_some, Option.elim_none, Option.bind_some, Option.bind_none, Option.toList_some, Option.toList_none, List.cons_append, List.nil_append, Nat.reduceAdd, Nat.reduceLeDiff, if_pos q, nI_1]
      · rw [if_neg q]
        simp (maxSteps := 1000000) (disch := first | exact nl_int | exact nl_ref | exact nl_none | exact Nat.le_of_ble_eq_true rfl | assumption | exact wD_cl (by assumption) | exact cat_int | exact cat_ref | exact z2 | exact z4 | exact z3 | exact z5 | exact z6 | exact z8 | exact z64) only [e_146_0, e_146_1, e_146_2, e_146_5, e_146_8, e_146_9, e_146_10, e_146_11, e_146_12, e_146_14, e_146_15, e_146_16, e_146_20, e_146_23, e_146_24, e_146_26, e_146_27, e_146_29, e_146_30, e_146_32, e_146_33, e_146_37, e_146_38, e_146_41, e_146_42, e_146_43, e_146_46, e_146_48, e_146_49, e_146_50, e_146_54, e_146_55, e_146_58, e_146_59, e_146_60, e_146_63, e_146_64, e_146_66, e_146_67, e_146_68, e_146_69, e_146_70, e_146_72, e_146_73, e_146_74, e_146_75, e_146_76, e_146_79, e_146_80, e_146_83, e_146_84, e_146_86, e_146_89, e_146_90, e_146_92, e_146_95, e_146_96, e_146_99, e_146_101, e_146_103, e_146_105, e_146_108, e_146_110, e_146_113, e_146_115, e_146_117, e_146_119, e_146_121, e_146_124, e_146_126, e_146_129, e_146_131, e_146_133, e_146_135, e_146_137, e_146_140, e_146_142, e_146_145, e_146_147, e_146_149, e_146_152, e_146_155, e_146_158, e_146_161, e_146_163, e_146_166, e_146_167, e_146_170, e_146_171, e_146_173, e_146_174, e_146_176, e_146_179, e_146_180, e_146_182, e_146_183, e_146_184, e_146_186, e_146_187, e_146_188, e_146_191, e_146_192, e_146_193, e_146_194, e_146_196, e_146_199, e_146_201, e_146_202, e_146_205, e_146_207, e_146_210, e_146_212, e_146_215, e_146_217, e_146_218, e_146_221, e_146_223, e_146_226, e_146_227, e_146_228, e_146_231, e_146_232, nl_int, nl_ref, nl_none, cat_int, cat_ref, cat_0, cat_i, cat_r, cat_l, Option.elim_some, Option.elim_none, Option.bind_some, Option.bind_none, Option.toList_some, Option.toList_none, List.cons_append, List.nil_append, Nat.reduceAdd, Nat.reduceLeDiff, if_neg q, nI_1]
    by_cases q : sp.getD i 0 = -4 ∧ sp.getD j 0 = -4
    · have g1 : G i = false := by cases w : G i with | false => rfl | true => exact absurd q.1 ((hG i hi).mp w)
      have g2 : G j = false := by cases w : G j with | false => rfl | true => exact absurd q.2 ((hG j j8).mp w)
      rw [g1] at bi
      rw [g2] at bj
      have st : am_E (d + 12) 146 52 [some (.ref 141), l1, some (.int (sm8 G)), l3, l4, some (.int p.1), some (.int (nI p.2.1)), some (.int (nI p.2.2)), some (.int (nI i)), some (.int (nI j)), l10] [] (wD hp I A) = am_E (d + 12) 146 99 [some (.ref 141), l1, some (.int (sm8 G)), l3, l4, some (.int p.1), some (.int (nI p.2.1)), some (.int (nI p.2.2)), some (.int (nI i)), some (.int (nI j)), l10] [.int (bitc (mO nw i ^^^ mO nw j))] (wD hp I A) := by
        rw [e_146_52]
        simp (maxSteps := 1000000) (disch := first | exact nl_int | exact nl_ref | exact nl_none | exact Nat.le_of_ble_eq_true rfl | assumption | exact wD_cl (by assumption) | exact cat_int | exact cat_ref | exact z2 | exact z4 | exact z3 | exact z5 | exact z6 | exact z8 | exact z64) only [e_146_0, e_146_1, e_146_2, e_146_5, e_146_8, e_146_9, e_146_10, e_146_11, e_146_12, e_146_14, e_146_15, e_146_16, e_146_20, e_146_23, e_146_24, e_146_26, e_146_27, e_146_29, e_146_30, e_146_32, e_146_33, e_146_37, e_146_38, e_146_41, e_146_42, e_146_43, e_146_46, e_146_48, e_146_49, e_146_50, e_146_54, e_146_55, e_146_58, e_146_59, e_146_60, e_146_63, e_146_64, e_146_66, e_146_67, e_146_68, e_146_69, e_146_70, e_146_72, e_146_73, e_146_74, e_146_75, e_146_76, e_146_79, e_146_80, e_146_83, e_146_84, e_146_86, e_146_89, e_146_90, e_146_92, e_146_95, e_146_96, e_146_101, e_146_103, e_146_105, e_146_108, e_146_110, e_146_113, e_146_115, e_146_117, e_146_119, e_146_121, e_146_124, e_146_126, e_146_129, e_146_131, e_146_133, e_146_135, e_146_137, e_146_140, e_146_142, e_146_145, e_146_147, e_146_149, e_146_152, e_146_155, e_146_158, e_146_161, e_146_163, e_146_166, e_146_167, e_146_170, e_146_171, e_146_173, e_146_174, e_146_176, e_146_179, e_146_180, e_146_182, e_146_183, e_146_184, e_146_186, e_146_187, e_146_188, e_146_191, e_146_192, e_146_193, e_146_194, e_146_196, e_146_199, e_146_201, e_146_202, e_146_205, e_146_207, e_146_210, e_146_212, e_146_215, e_146_217, e_146_218, e_146_221, e_146_223, e_146_226, e_146_227, e_146_228, e_146_231, e_146_232, nl_int, nl_ref, nl_none, cat_int, cat_ref, cat_0, cat_i, cat_r, cat_l, Option.elim_some, Option.elim_none, Option.bind_some, Option.bind_none, Option.toList_some, Option.toList_none, List.cons_append, List.nil_append, Nat.reduceAdd, Nat.reduceLeDiff, wD_f1 hl, ok.lp hl, lt', if_true, bi, bj, show ((0 : Int32) < bI false + bI false) = False from by decide, if_false, s7_op (d := d + 11) hl ok.1 ok.2.1 hi p8, s7_op (d := d + 11) hl ok.1 ok.2.1 j8 p8, em]
      have ea : aMa2 nw sp i j p = if p.1 < bitc (mO nw i ^^^ mO nw j) then (bitc (mO nw i ^^^ mO nw j), i, j) else p := by unfold aMa2; rw [if_pos q.1, if_pos q.2]
      rw [st, ← free]
      by_cases w : p.1 < bitc (mO nw i ^^^ mO nw j)
      · rw [if_pos w] at ea ⊢
        rw [ea] at hM2 ⊢
        exact ih (j + 1) _ _ (by omega) (by omega) hM2
      · rw [if_neg w] at ea ⊢
        rw [ea]
        exact ih (j + 1) _ _ (by omega) (by omega) hM
    · have ea : aMa2 nw sp i j p = p := by
        unfold aMa2
        by_cases q1 : sp.getD i 0 = -4
        · rw [if_pos q1, if_neg (fun w => q ⟨q1, w⟩)]
        · rw [if_neg q1]
      have gg : ((0 : Int32) < bI (G i) + bI (G j)) = True := by
        by_cases q1 : sp.getD i 0 = -4
        · have : G j = true := (hG j j8).mpr (fun w => q ⟨q1, w⟩)
          rw [this]
          cases G i <;> decide
        · have : G i = true := (hG i hi).mpr q1
          rw [this]
          cases G j <;> decide
      have st : am_E (d + 12) 146 52 [some (.ref 141), l1, some (.int (sm8 G)), l3, l4, some (.int p.1), some (.int (nI p.2.1)), some (.int (nI p.2.2)), some (.int (nI i)), some (.int (nI j)), l10] [] (wD hp I A) = am_E (d + 12) 146 99 [some (.ref 141), l1, some (.int (sm8 G)), l3, l4, some (.int p.1), some (.int (nI p.2.1)), some (.int (nI p.2.2)), some (.int (nI i)), some (.int (nI j)), l10] [.int 0] (wD hp I A) := by
        rw [e_146_52]
        simp (maxSteps := 1000000) (disch := first | exact nl_int | exact nl_ref | exact nl_none | exact Nat.le_of_ble_eq_true rfl | assumption | exact wD_cl (by assumption) | exact cat_int | exact cat_ref | exact z2 | exact z4 | exact z3 | exact z5 | exact z6 | exact z8 | exact z64) only [e_146_0, e_146_1, e_146_2, e_146_5, e_146_8, e_146_9, e_146_10, e_146_11, e_146_12, e_146_14, e_146_15, e_146_16, e_146_20, e_146_23, e_146_24, e_146_26, e_146_27, e_146_29, e_146_30, e_146_32, e_146_33, e_146_37, e_146_38, e_146_41, e_146_42, e_146_43, e_146_46, e_146_48, e_146_49, e_146_50, e_146_54, e_146_55, e_146_58, e_146_59, e_146_60, e_146_63, e_146_64, e_146_66, e_146_67, e_146_68, e_146_69, e_146_70, e_146_72, e_146_73, e_146_74, e_146_75, e_146_76, e_146_79, e_146_80, e_146_83, e_146_84, e_146_86, e_146_89, e_146_90, e_146_92, e_146_95, e_146_96, e_146_101, e_146_103, e_146_105, e_146_108, e_146_110, e_146_113, e_146_115, e_146_117, e_146_119, e_146_121, e_146_124, e_146_126, e_146_129, e_146_131, e_146_133, e_146_135, e_146_137, e_146_140, e_146_142, e_146_145, e_146_147, e_146_149, e_146_152, e_146_155, e_146_158, e_146_161, e_146_163, e_146_166, e_146_167, e_146_170, e_146_171, e_146_173, e_146_174, e_146_176, e_146_179, e_146_180, e_146_182, e_146_183, e_146_184, e_146_186, e_146_187, e_146_188, e_146_191, e_146_192, e_146_193, e_146_194, e_146_196, e_146_199, e_146_201, e_146_202, e_146_205, e_146_207, e_146_210, e_146_212, e_146_215, e_146_217, e_146_218, e_146_221, e_146_223, e_146_226, e_146_227, e_146_228, e_146_231, e_146_232, nl_int, nl_ref, nl_none, cat_int, cat_ref, cat_0, cat_i, cat_r, cat_l, Option.elim_some, Option.elim_none, Option.bind_some, Option.bind_none, Option.toList_some, Option.toList_none, List.cons_append, List.nil_append, Nat.reduceAdd, Nat.reduceLeDiff, wD_f1 hl, ok.lp hl, lt', if_true, bi, bj, gg]
      rw [st, ← free, if_neg hM.nn, ea]
      exact ih (j + 1) _ _ (by omega) (by omega) hM
theorem s7_ma (hl : 154 < hp.length) (ok : Ok7 A ct nw hr) (hG : ∀ k, k < cPp ct → (G k = true ↔ ¬ sp.getD k 0 = -4)) {l1 l3 l4 : Option Value} (n4 : am_nl1 l4 = true) : ∀ n i (p : Int32 × Nat × Nat) l9 l10, i + n = cPp ct → Mp sp (cPp ct) p → ∃ m9 m10, Mp sp (cPp ct) (am_for (aMa1 nw sp (cPp ct)) i n p) ∧ am_E (d + 12) 146 35 [some (.ref 141), l1, some (.int (sm8 G)), l3, l4, some (.int p.1), some (.int (nI p.2.1)), some (.int (nI p.2.2)), some (.int (nI i)), l9, l10] [] (wD hp I A) = am_E (d + 12) 146 161 [some (.ref 141), l1, some (.int (sm8 G)), l3, l4, some (.int (am_for (aMa1 nw sp (cPp ct)) i n p).1), some (.int (nI (am_for (aMa1 nw sp (cPp ct)) i n p).2.1)), some (.int (nI (am_for (aMa1 nw sp (cPp ct)) i n p).2.2)), some (.int (nI (cPp ct))), m9, m10] [] (wD hp I A) := by
  have p8 := ok.p8
  intro n
  induction n with
  | zero =>
    intro i p l9 l10 hi hM
    obtain rfl : i = cPp ct := by omega
    refine ⟨l9, l10, hM, ?_⟩
    rw [e_146_35, am_for]
    simp (maxSteps := 1000000) (disch := first | exact nl_int | exact nl_ref | exact nl_none | exact Nat.le_of_ble_eq_true rfl | assumption | exact wD_cl (by assumption) | exact cat_int | exact cat_ref | exact z2 | exact z4 | exact z3 | exact z5 | exact z6 | exact z8 | exact z64) only [e_146_0, e_146_1, e_146_2, e_146_5, e_146_8, e_146_9, e_146_10, e_146_11, e_146_12, e_146_14, e_146_15, e_146_16, e_146_20, e_146_23, e_146_24, e_146_26, e_146_27, e_146_29, e_146_30, e_146_32, e_146_33, e_146_37, e_146_38, e_146_41, e_146_42, e_146_43, e_146_46, e_146_48, e_146_49, e_146_50, e_146_54, e_146_55, e_146_58, e_146_59, e_146_60, e_146_63, e_146_64, e_146_66, e_146_67, e_146_68, e_146_69, e_146_70, e_146_72, e_146_73, e_146_74, e_146_75, e_146_76, e_146_79, e_146_80, e_146_83, e_146_84, e_146_86, e_146_89, e_146_90, e_146_92, e_146_95, e_146_96, e_146_99, e_146_101, e_146_103, e_146_105, e_146_108, e_146_110, e_146_113, e_146_115, e_146_117, e_146_119, e_146_121, e_146_124, e_146_126, e_146_129, e_146_131, e_146_133, e_146_135, e_146_137, e_146_140, e_146_142, e_146_145, e_146_147, e_146_149, e_146_152, e_146_155, e_146_158, e_146_163, e_146_166, e_146_167, e_146_170, e_146_171, e_146_173, e_146_174, e_146_176, e_146_179, e_146_180, e_146_182, e_146_183, e_146_184, e_146_186, e_146_187, e_146_188, e_146_191, e_146_192, e_146_193, e_146_194, e_146_196, e_146_199, e_146_201, e_146_202, e_146_205, e_146_207, e_146_210, e_146_212, e_146_215, e_146_217, e_146_218, e_146_221, e_146_223, e_146_226, e_146_227, e_146_228, e_146_231, e_146_232, nl_int, nl_ref, nl_none, cat_int, cat_ref, cat_0, cat_i, cat_r, cat_l, Option.elim_some, Option.elim_none, Option.bind_some, Option.bind_none, Option.toList_some, Option.toList_none, List.cons_append, List.nil_append, Nat.reduceAdd, Nat.reduceLeDiff, wD_f1 hl, ok.lp hl, ltF (x := nI (cPp ct)) (c := cPp ct) rfl (Nat.le_refl _) (by omega), if_false]
  | succ n ih =>
    intro i p l9 l10 hi hM
    have i8 : i < cPp ct := by omega
    obtain ⟨m10, hM2, e⟩ := s7_mb (d := d) (I := I) (l1 := l1) (l3 := l3) hl ok hG i8 n4 (cPp ct - 1 - i) (i + 1) p l10 (by omega) (by omega) hM
    obtain ⟨m9, m10', hM3, e2⟩ := ih (i + 1) _ (some (.int (nI (cPp ct)))) m10 (by omega) hM2
    rw [am_for]
    refine ⟨m9, m10', hM3, ?_⟩
    show _ = am_E (d + 12) 146 161 [some (.ref 141), l1, some (.int (sm8 G)), l3, l4, some (.int (am_for (aMa1 nw sp (cPp ct)) (i + 1) n (am_for (aMa2 nw sp i) (i + 1) (cPp ct - 1 - i) p)).1), some (.int (nI (am_for (aMa1 nw sp (cPp ct)) (i + 1) n (am_for (aMa2 nw sp i) (i + 1) (cPp ct - 1 - i) p)).2.1)), some (.int (nI (am_for (aMa1 nw sp (cPp ct)) (i + 1) n (am_for (aMa2 nw sp i) (i + 1) (cPp ct - 1 - i) p)).2.2)), some (.int (nI (cPp ct))), m9, m10'] [] (wD hp I A)
    rw [← e2, e_146_35]
    simp (maxSteps := 1000000) (disch := first | exact nl_int | exact nl_ref | exact nl_none | exact Nat.le_of_ble_eq_true rfl | assumption | exact wD_cl (by assumption) | exact cat_int | exact cat_ref | exact z2 | exact z4 | exact z3 | exact z5 | exact z6 | exact z8 | exact z64) only [e_146_0, e_146_1, e_146_2, e_146_5, e_146_8, e_146_9, e_146_10, e_146_11, e_146_12, e_146_14, e_146_15, e_146_16, e_146_20, e_146_23, e_146_24, e_146_26, e_146_27, e_146_29, e_146_30, e_146_32, e_146_33, e_146_37, e_146_38, e_146_41, e_146_42, e_146_43, e_146_46, e_146_48, e_146_49, e_146_50, e_146_54, e_146_55, e_146_58, e_146_59, e_146_60, e_146_63, e_146_64, e_146_66, e_146_67, e_146_68, e_146_69, e_146_70, e_146_72, e_146_73, e_146_74, e_146_75, e_146_76, e_146_79, e_146_80, e_146_83, e_146_84, e_146_86, e_146_89, e_146_90, e_146_92, e_146_95, e_146_96, e_146_99, e_146_101, e_146_103, e_146_105, e_146_108, e_146_110, e_146_113, e_146_115, e_146_117, e_146_119, e_146_121, e_146_124, e_146_126, e_146_129, e_146_131, e_146_133, e_146_135, e_146_137, e_146_140, e_146_142, e_146_145, e_146_147, e_146_149, e_146_152, e_146_155, e_146_158, e_146_163, e_146_166, e_146_167, e_146_170, e_146_171, e_146_173, e_146_174, e_146_176, e_146_179, e_146_180, e_146_182, e_146_183, e_146_184, e_146_186, e_146_187, e_146_188, e_146_191, e_146_192, e_146_193, e_146_194, e_146_196, e_146_199, e_146_201, e_146_202, e_146_205, e_146_207, e_146_210, e_146_212, e_146_215, e_146_217, e_146_218, e_146_221, e_146_223, e_146_226, e_146_227, e_146_228, e_146_231, e_146_232, nl_int, nl_ref, nl_none, cat_int, cat_ref, cat_0, cat_i, cat_r, cat_l, Option.elim_some, Option.elim_none, Option.bind_some, Option.bind_none, Option.toList_some, Option.toList_none, List.cons_append, List.nil_append, Nat.reduceAdd, Nat.reduceLeDiff, wD_f1 hl, ok.lp hl, ltT (x := nI (cPp ct)) (c := cPp ct) rfl i8 (by omega), if_true, nI_1, e]
theorem for_same {σ : Type} {f : σ → σ} {s : σ} (h : f s = s) : ∀ n j, am_for (fun _ s => f s) j n s = s := by
  intro n
  induction n with
  | zero => intro j; rfl
  | succ n ih => intro j; rw [am_for, h]; exact ih (j + 1)
theorem s7_wed (hl : 154 < hp.length) (ok : Ok7 A ct nw hr) (hi : i < cPp ct) : ∀ m j (sp : List Int32) (G : Nat → Bool) l5 l6 l7 l8 l9 l10, sp.length = 8 → (∀ k, k < cPp ct → (G k = true ↔ ¬ sp.getD k 0 = -4)) → frN sp (cPp ct) ≤ 2 * m → am_E (d + 12) 146 18 [some (.ref 141), some (.int (nI i)), some (.int (sm8 G)), some (.int (sp.getD i 0)), some (.int 1), l5, l6, l7, l8, l9, l10] [] (wD hp I A) = some (some (.int ((am_for (fun _ s => aMarry nw (cPp ct) s) j m sp).getD i 0)), wD hp I A) := by
  have p8 := ok.p8
  have fin : ∀ (sp : List Int32) (G : Nat → Bool) l5 l6 l7 l8 l9 l10, am_for (aMa1 nw sp (cPp ct)) 0 (cPp ct) (0, 0, 0) = (0, 0, 0) → (∀ k, k < cPp ct → (G k = true ↔ ¬ sp.getD k 0 = -4)) → am_E (d + 12) 146 18 [some (.ref 141), some (.int (nI i)), some (.int (sm8 G)), some (.int (sp.getD i 0)), some (.int 1), l5, l6, l7, l8, l9, l10] [] (wD hp I A) = some (some (.int (sp.getD i 0)), wD hp I A) := fun sp G l5 l6 l7 l8 l9 l10 ez hG => by
    obtain ⟨m9, m10, hM, e⟩ := s7_ma (d := d) (I := I) (l1 := some (.int (nI i))) (l3 := some (.int (sp.getD i 0))) (l4 := some (.int 1)) hl ok hG nl_int (cPp ct) 0 (0, 0, 0) l9 l10 (Nat.zero_add _) (Or.inl rfl)
    rw [ez] at e
    rw [show nI 0 = 0 from rfl] at e
    rw [e_146_18]
    simp (maxSteps := 1000000) (disch := first | exact nl_int | exact nl_ref | exact nl_none | exact Nat.le_of_ble_eq_true rfl | assumption | exact wD_cl (by assumption) | exact cat_int | exact cat_ref | exact z2 | exact z4 | exact z3 | exact z5 | exact z6 | exact z8 | exact z64) only [e_146_0, e_146_1, e_146_2, e_146_5, e_146_8, e_146_9, e_146_10, e_146_11, e_146_12, e_146_14, e_146_15, e_146_16, e_146_20, e_146_23, e_146_24, e_146_26, e_146_27, e_146_29, e_146_30, e_146_32, e_146_33, e_146_37, e_146_38, e_146_41, e_146_42, e_146_43, e_146_46, e_146_48, e_146_49, e_146_50, e_146_54, e_146_55, e_146_58, e_146_59, e_146_60, e_146_63, e_146_64, e_146_66, e_146_67, e_146_68, e_146_69, e_146_70, e_146_72, e_146_73, e_146_74, e_146_75, e_146_76, e_146_79, e_146_80, e_146_83, e_146_84, e_146_86, e_146_89, e_146_90, e_146_92, e_146_95, e_146_96, e_146_99, e_146_101, e_146_103, e_146_105, e_146_108, e_146_110, e_146_113, e_146_115, e_146_117, e_146_119, e_146_121, e_146_124, e_146_126, e_146_129, e_146_131, e_146_133, e_146_135, e_146_137, e_146_140, e_146_142, e_146_145, e_146_147, e_146_149, e_146_152, e_146_155, e_146_158, e_146_161, e_146_163, e_146_166, e_146_167, e_146_170, e_146_171, e_146_173, e_146_174, e_146_176, e_146_179, e_146_180, e_146_182, e_146_183, e_146_184, e_146_186, e_146_187, e_146_188, e_146_191, e_146_192, e_146_193, e_146_194, e_146_196, e_146_199, e_146_201, e_146_202, e_146_205, e_146_207, e_146_210, e_146_212, e_146_215, e_146_217, e_146_218, e_146_221, e_146_223, e_146_226, e_146_227, e_146_228, e_146_231, e_146_232, nl_int, nl_ref, nl_none, cat_int, cat_ref, cat_0, cat_i, cat_r, cat_l, Option.elim_some, Option.elim_none, Option.bind_some, Option.bind_none, Option.toList_some, Option.toList_none, List.cons_append, List.nil_append, Nat.reduceAdd, Nat.reduceLeDiff, z1, if_false, e, show ((0 : Int32) < 0) = False from by decide, z0, if_true, Int32.or_zero, e_146_18]
  intro m
  induction m with
  | zero =>
    intro j sp G l5 l6 l7 l8 l9 l10 hs hG hf
    refine fin sp G l5 l6 l7 l8 l9 l10 ?_ hG
    have hz := frN_0 (cPp ct) (show frN sp (cPp ct) = 0 by omega)
    refine am_for_id _ _ _ (fun a p _ ha => ?_)
    unfold aMa1
    refine am_for_id _ _ _ (fun b p _ _ => ?_)
    unfold aMa2
    rw [if_neg (hz a (by omega))]
  | succ m ih =>
    intro j sp G l5 l6 l7 l8 l9 l10 hs hG hf
    obtain ⟨m9, m10, hM, e⟩ := s7_ma (d := d) (I := I) (l1 := some (.int (nI i))) (l3 := some (.int (sp.getD i 0))) (l4 := some (.int 1)) hl ok hG nl_int (cPp ct) 0 (0, 0, 0) l9 l10 (Nat.zero_add _) (Or.inl rfl)
    obtain ⟨p, ep⟩ : ∃ p, p = am_for (aMa1 nw sp (cPp ct)) 0 (cPp ct) (0, 0, 0) := ⟨_, rfl⟩
    have emar : aMarry nw (cPp ct) sp = aMaE sp p := by unfold aMarry; rw [← ep]
    rcases hM with hM | hM
    · have es : aMarry nw (cPp ct) sp = sp := by
        rw [emar, ep, hM]
        unfold aMaE
        rw [if_neg (by decide)]
      rw [for_same (f := fun s => aMarry nw (cPp ct) s) es]
      exact fin sp G l5 l6 l7 l8 l9 l10 hM hG
    · rw [← ep] at hM e
      obtain ⟨c1, c2, c3, c4, c5⟩ := hM
      have es : aMarry nw (cPp ct) sp = (sp.set p.2.1 (nI p.2.2)).set p.2.2 (nI p.2.1) := by
        rw [emar]
        unfold aMaE
        rw [if_pos c1]
      have nm : ∀ c : Nat, c < 8 → ¬ nI c = -4 := fun c hc w => nI_pos (show c < 2 ^ 31 by omega) (by rw [w]; decide)
      have l1 : (sp.set p.2.1 (nI p.2.2)).length = 8 := (List.length_set).trans hs
      have gd : ∀ k, ((sp.set p.2.1 (nI p.2.2)).set p.2.2 (nI p.2.1)).getD k 0 = if p.2.2 = k then nI p.2.1 else if p.2.1 = k then nI p.2.2 else sp.getD k 0 := fun k => by
        rw [getD_set (by omega), getD_set (by omega)]
      have f1 := frN_set (sp := sp) (x := p.2.1) (v := nI p.2.2) (by omega) c4 (nm _ (by omega)) (cPp ct) (by omega)
      have f2 := frN_set (sp := sp.set p.2.1 (nI p.2.2)) (x := p.2.2) (v := nI p.2.1) (by omega) (by rw [getD_set (by omega), if_neg (by omega)]; exact c5) (nm _ (by omega)) (cPp ct) c3
      have G2 : ∀ k, k < cPp ct → (((G k || decide (p.2.1 = k)) || decide (p.2.2 = k)) = true ↔ ¬ ((sp.set p.2.1 (nI p.2.2)).set p.2.2 (nI p.2.1)).getD k 0 = -4) := fun k hk => by
        rw [gd]
        by_cases w1 : p.2.2 = k
        · rw [if_pos w1, decide_eq_true w1, Bool.or_true]
          exact ⟨fun _ => nm _ (by omega), fun _ => rfl⟩
        · rw [if_neg w1, decide_eq_false w1, Bool.or_false]
          by_cases w2 : p.2.1 = k
          · rw [if_pos w2, decide_eq_true w2, Bool.or_true]
            exact ⟨fun _ => nm _ (by omega), fun _ => rfl⟩
          · rw [if_neg w2, decide_eq_false w2, Bool.or_false]
            exact hG k hk
      have em : sm8 G ||| (((1 : Int32) <<< (nI p.2.1 &&& 31)) ||| ((1 : Int32) <<< (nI p.2.2 &&& 31))) = sm8 (fun k => (G k || decide (p.2.1 = k)) || decide (p.2.2 = k)) := by
        rw [← Int32.or_assoc, sm8_or (by omega), sm8_or (by omega)]
      have nxt := ih (j + 1) _ _ (some (.int p.1)) (some (.int (nI p.2.1))) (some (.int (nI p.2.2))) (some (.int (nI (cPp ct)))) m9 m10 ((List.length_set).trans l1) G2 (by omega)
      rw [gd] at nxt
      rw [am_for, es, ← nxt, e_146_18]
      rw [show nI 0 = 0 from rfl] at e
      have qi : ∀ c : Nat, c < 8 → (nI c = nI i) = (c = i) := fun c hc => propext (nI_eq (by omega) (by omega))
      by_cases w2 : p.2.1 = i
      · have w1 : ¬ p.2.2 = i := by omega
        rw [if_neg w1, if_pos w2]
        simp (maxSteps := 1000000) (disch := first | exact nl_int | exact nl_ref | exact nl_none | exact Nat.le_of_ble_eq_true rfl | assumption | exact wD_cl (by assumption) | exact cat_int | exact cat_ref | exact z2 | exact z4 | exact z3 | exact z5 | exact z6 | exact z8 | exact z64) only [e_146_0, e_146_1, e_146_2, e_146_5, e_146_8, e_146_9, e_146_10, e_146_11, e_146_12, e_146_14, e_146_15, e_146_16, e_146_20, e_146_23, e_146_24, e_146_26, e_146_27, e_146_29, e_146_30, e_146_32, e_146_33, e_146_37, e_146_38, e_146_41, e_146_42, e_146_43, e_146_46, e_146_48, e_146_49, e_146_50, e_146_54, e_146_55, e_146_58, e_146_59, e_146_60, e_146_63, e_146_64, e_146_66, e_146_67, e_146_68, e_146_69, e_146_70, e_146_72, e_146_73, e_146_74, e_146_75, e_146_76, e_146_79, e_146_80, e_146_83, e_146_84, e_146_86, e_146_89, e_146_90, e_146_92, e_146_95, e_146_96, e_146_99, e_146_101, e_146_103, e_146_105, e_146_108, e_146_110, e_146_113, e_146_115, e_146_117, e_146_119, e_146_121, e_146_124, e_146_126, e_146_129, e_146_131, e_146_133, e_146_135, e_146_137, e_146_140, e_146_142, e_146_145, e_146_147, e_146_149, e_146_152, e_146_155, e_146_158, e_146_161, e_146_163, e_146_166, e_146_167, e_146_170, e_146_171, e_146_173, e_146_174, e_146_176, e_146_179, e_146_180, e_146_182, e_146_183, e_146_184, e_146_186, e_146_187, e_146_188, e_146_191, e_146_192, e_146_193, e_146_194, e_146_196, e_146_199, e_146_201, e_146_202, e_146_205, e_146_207, e_146_210, e_146_212, e_146_215, e_146_217, e_146_218, e_146_221, e_146_223, e_146_226, e_146_227, e_146_228, e_146_231, e_146_232, nl_int, nl_ref, nl_none, cat_int, cat_ref, cat_0, cat_i, cat_r, cat_l, Option.elim_some, Option.elim_none, Option.bind_some, Option.bind_none, Option.toList_some, Option.toList_none, List.cons_append, List.nil_append, Nat.reduceAdd, Nat.reduceLeDiff, z1, if_false, e, if_pos c1, em, qi _ (show p.2.1 < 8 by omega), if_pos w2]
      · by_cases w1 : p.2.2 = i
        · rw [if_pos w1]
          simp (maxSteps := 1000000) (disch := first | exact nl_int | exact nl_ref | exact nl_none | exact Nat.le_of_ble_eq_true rfl | assumption | exact wD_cl (by assumption) | exact cat_int | exact cat_ref | exact z2 | exact z4 | exact z3 | exact z5 | exact z6 | exact z8 | exact z64) only [e_146_0, e_146_1, e_146_2, e_146_5, e_146_8, e_146_9, e_146_10, e_146_11, e_146_12, e_146_14, e_146_15, e_146_16, e_146_20, e_146_23, e_146_24, e_146_26, e_146_27, e_146_29, e_146_30, e_146_32, e_146_33, e_146_37, e_146_38, e_146_41, e_146_42, e_146_43, e_146_46, e_146_48, e_146_49, e_146_50, e_146_54, e_146_55, e_146_58, e_146_59, e_146_60, e_146_63, e_146_64, e_146_66, e_146_67, e_146_68, e_146_69, e_146_70, e_146_72, e_146_73, e_146_74, e_146_75, e_146_76, e_146_79, e_146_80, e_146_83, e_146_84, e_146_86, e_146_89, e_146_90, e_146_92, e_146_95, e_146_96, e_146_99, e_146_101, e_146_103, e_146_105, e_146_108, e_146_110, e_146_113, e_146_115, e_146_117, e_146_119, e_146_121, e_146_124, e_146_126, e_146_129, e_146_131, e_146_133, e_146_135, e_146_137, e_146_140, e_146_142, e_146_145, e_146_147, e_146_149, e_146_152, e_146_155, e_146_158, e_146_161, e_146_163, e_146_166, e_146_167, e_146_170, e_146_171, e_146_173, e_146_174, e_146_176, e_146_179, e_146_180, e_146_182, e_146_183, e_146_184, e_146_186, e_146_187, e_146_188, e_146_191, e_146_192, e_146_193, e_146_194, e_146_196, e_146_199, e_146_201, e_146_202, e_146_205, e_146_207, e_146_210, e_146_212, e_146_215, e_146_217, e_146_218, e_146_221, e_146_223, e_146_226, e_146_227, e_146_228, e_146_231, e_146_232, nl_int, nl_ref, nl_none, cat_int, cat_ref, cat_0, cat_i, cat_r, cat_l, Option.elim_some, Option.elim_none, Option.bind_some, Option.bind_none, Option.toList_some, Option.toList_none, List.cons_append, List.nil_append, Nat.reduceAdd, Nat.reduceLeDiff, z1, if_false, e, if_pos c1, em, qi _ (show p.2.1 < 8 by omega), if_neg w2, qi _ (show p.2.2 < 8 by omega), if_pos w1]
        · rw [if_neg w1, if_neg w2]
          simp (maxSteps := 1000000) (disch := first | exact nl_int | exact nl_ref | exact nl_none | exact Nat.le_of_ble_eq_true rfl | assumption | exact wD_cl (by assumption) | exact cat_int | exact cat_ref | exact z2 | exact z4 | exact z3 | exact z5 | exact z6 | exact z8 | exact z64) only [e_146_0, e_146_1, e_146_2, e_146_5, e_146_8, e_146_9, e_146_10, e_146_11, e_146_12, e_146_14, e_146_15, e_146_16, e_146_20, e_146_23, e_146_24, e_146_26, e_146_27, e_146_29, e_146_30, e_146_32, e_146_33, e_146_37, e_146_38, e_146_41, e_146_42, e_146_43, e_146_46, e_146_48, e_146_49, e_146_50, e_146_54, e_146_55, e_146_58, e_146_59, e_146_60, e_146_63, e_146_64, e_146_66, e_146_67, e_146_68, e_146_69, e_146_70, e_146_72, e_146_73, e_146_74, e_146_75, e_146_76, e_146_79, e_146_80, e_146_83, e_146_84, e_146_86, e_146_89, e_146_90, e_146_92, e_146_95, e_146_96, e_146_99, e_146_101, e_146_103, e_146_105, e_146_108, e_146_110, e_146_113, e_146_115, e_146_117, e_146_119, e_146_121, e_146_124, e_146_126, e_146_129, e_146_131, e_146_133, e_146_135, e_146_137, e_146_140, e_146_142, e_146_145, e_146_147, e_146_149, e_146_152, e_146_155, e_146_158, e_146_161, e_146_163, e_146_166, e_146_167, e_146_170, e_146_171, e_146_173, e_146_174, e_146_176, e_146_179, e_146_180, e_146_182, e_146_183, e_146_184, e_146_186, e_146_187, e_146_188, e_146_191, e_146_192, e_146_193, e_146_194, e_146_196, e_146_199, e_146_201, e_146_202, e_146_205, e_146_207, e_146_210, e_146_212, e_146_215, e_146_217, e_146_218, e_146_221, e_146_223, e_146_226, e_146_227, e_146_228, e_146_231, e_146_232, nl_int, nl_ref, nl_none, cat_int, cat_ref, cat_0, cat_i, cat_r, cat_l, Option.elim_some, Option.elim_none, Option.bind_some, Option.bind_none, Option.toList_some, Option.toList_none, List.cons_append, List.nil_append, Nat.reduceAdd, Nat.reduceLeDiff, z1, if_false, e, if_pos c1, em, qi _ (show p.2.1 < 8 by omega), if_neg w2, qi _ (show p.2.2 < 8 by omega), if_neg w1]
theorem p_married (hJ : JJ hp) : Pr d 69 [some (.ref 0), some (.int x), none] 146 [some (.ref 141), some (.int x), none, none, none, none, none, none, none, none, none] hp := by
  obtain ⟨hl, tx, ct, nw, pm, pn, ph, km, kc, sH, sL, sc, hr, I, A, hS, hD, hj⟩ := hJ
  have ok := hj.1
  have p8 := ok.p8
  cases q : inR x (cPp ct) with
  | false =>
    refine Pr_ask hl hD hj (Run.same hS (s_married0 hS q)) (fun hp hl => Ask.same ok.1 ?_)
    simp (maxSteps := 1000000) (disch := first | exact nl_int | exact nl_ref | exact nl_none | exact Nat.le_of_ble_eq_true rfl | assumption | exact wD_cl (by assumption) | exact cat_int | exact cat_ref | exact z2 | exact z4 | exact z3 | exact z5 | exact z6 | exact z8 | exact z64) only [e_146_0, e_146_1, e_146_2, e_146_5, e_146_8, e_146_9, e_146_10, e_146_11, e_146_12, e_146_14, e_146_15, e_146_16, e_146_20, e_146_23, e_146_24, e_146_26, e_146_27, e_146_29, e_146_30, e_146_32, e_146_33, e_146_37, e_146_38, e_146_41, e_146_42, e_146_43, e_146_46, e_146_48, e_146_49, e_146_50, e_146_54, e_146_55, e_146_58, e_146_59, e_146_60, e_146_63, e_146_64, e_146_66, e_146_67, e_146_68, e_146_69, e_146_70, e_146_72, e_146_73, e_146_74, e_146_75, e_146_76, e_146_79, e_146_80, e_146_83, e_146_84, e_146_86, e_146_89, e_146_90, e_146_92, e_146_95, e_146_96, e_146_99, e_146_101, e_146_103, e_146_105, e_146_108, e_146_110, e_146_113, e_146_115, e_146_117, e_146_119, e_146_121, e_146_124, e_146_126, e_146_129, e_146_131, e_146_133, e_146_135, e_146_137, e_146_140, e_146_142, e_146_145, e_146_147, e_146_149, e_146_152, e_146_155, e_146_158, e_146_161, e_146_163, e_146_166, e_146_167, e_146_170, e_146_171, e_146_173, e_146_174, e_146_176, e_146_179, e_146_180, e_146_182, e_146_183, e_146_184, e_146_186, e_146_187, e_146_188, e_146_191, e_146_192, e_146_193, e_146_194, e_146_196, e_146_199, e_146_201, e_146_202, e_146_205, e_146_207, e_146_210, e_146_212, e_146_215, e_146_217, e_146_218, e_146_221, e_146_223, e_146_226, e_146_227, e_146_228, e_146_231, e_146_232, nl_int, nl_ref, nl_none, cat_int, cat_ref, cat_0, cat_i, cat_r, cat_l, Option.elim_some, Option.elim_none, Option.bind_some, Option.bind_none, Option.toList_some, Option.toList_none, List.cons_append, List.nil_append, Nat.reduceAdd, Nat.reduceLeDiff, s7_ip0 (d := d + 10) hl ok q, z0, if_true]
  | true =>
    obtain ⟨i, hi, rfl⟩ := inR_t q (by omega)
    refine Pr_ask hl hD hj (s_married1 hS hi) (fun hp hl => Ask.same ok.1 ?_)
    have g4 : ∀ k, k < 8 → (List.replicate 8 (-4 : Int32)).getD k 0 = -4 := by decide
    have e := s7_wed (d := d) (I := I) hl ok hi 4 0 (List.replicate 8 (-4)) (fun _ => false) none none none none none none rfl (fun k hk => ⟨fun w => (by cases w), fun w => absurd (g4 k (by omega)) w⟩) (by have := frN_le (sp := List.replicate 8 (-4)) (cPp ct); omega)
    rw [sm8_0, g4 i (by omega)] at e
    unfold aMarried
    rw [← e]
    simp (maxSteps := 1000000) (disch := first | exact nl_int | exact nl_ref | exact nl_none | exact Nat.le_of_ble_eq_true rfl | assumption | exact wD_cl (by assumption) | exact cat_int | exact cat_ref | exact z2 | exact z4 | exact z3 | exact z5 | exact z6 | exact z8 | exact z64) only [e_146_0, e_146_1, e_146_2, e_146_5, e_146_8, e_146_9, e_146_10, e_146_11, e_146_12, e_146_14, e_146_15, e_146_16, e_146_20, e_146_23, e_146_24, e_146_26, e_146_27, e_146_29, e_146_30, e_146_32, e_146_33, e_146_37, e_146_38, e_146_41, e_146_42, e_146_43, e_146_46, e_146_48, e_146_49, e_146_50, e_146_54, e_146_55, e_146_58, e_146_59, e_146_60, e_146_63, e_146_64, e_146_66, e_146_67, e_146_68, e_146_69, e_146_70, e_146_72, e_146_73, e_146_74, e_146_75, e_146_76, e_146_79, e_146_80, e_146_83, e_146_84, e_146_86, e_146_89, e_146_90, e_146_92, e_146_95, e_146_96, e_146_99, e_146_101, e_146_103, e_146_105, e_146_108, e_146_110, e_146_113, e_146_115, e_146_117, e_146_119, e_146_121, e_146_124, e_146_126, e_146_129, e_146_131, e_146_133, e_146_135, e_146_137, e_146_140, e_146_142, e_146_145, e_146_147, e_146_149, e_146_152, e_146_155, e_146_158, e_146_161, e_146_163, e_146_166, e_146_167, e_146_170, e_146_171, e_146_173, e_146_174, e_146_176, e_146_179, e_146_180, e_146_182, e_146_183, e_146_184, e_146_186, e_146_187, e_146_188, e_146_191, e_146_192, e_146_193, e_146_194, e_146_196, e_146_199, e_146_201, e_146_202, e_146_205, e_146_207, e_146_210, e_146_212, e_146_215, e_146_217, e_146_218, e_146_221, e_146_223, e_146_226, e_146_227, e_146_228, e_146_231, e_146_232, nl_int, nl_ref, nl_none, cat_int, cat_ref, cat_0, cat_i, cat_r, cat_l, Option.elim_some, Option.elim_none, Option.bind_some, Option.bind_none, Option.toList_some, Option.toList_none, List.cons_append, List.nil_append, Nat.reduceAdd, Nat.reduceLeDiff, s7_ip1 (d := d + 10) hl ok hi, z1, if_false]
end MDM
