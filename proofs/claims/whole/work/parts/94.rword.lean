/-! ### the class's reader: words, signs, steps -/
def ixB (i : Nat) (c : Int32) : Nat → Nat → Int32
  | 0, _ => -nI 1
  | l + 1, j => if wB i j = c then nI j else ixB i c l (j + 1)
theorem ixB_rng (i : Nat) (c : Int32) : ∀ l j, ixB i c l j = -nI 1 ∨ ∃ k, k < j + l ∧ ixB i c l j = nI k
  | 0, _ => Or.inl rfl
  | l + 1, j => by
    rw [ixB]
    split
    · exact Or.inr ⟨j, by omega, rfl⟩
    · rcases ixB_rng i c l (j + 1) with h | ⟨k, h1, h2⟩
      · exact Or.inl h
      · exact Or.inr ⟨k, by omega, h2⟩
def wdL (i : Nat) : Nat → Nat → List Int32
  | 0, _ => []
  | l + 1, j => wB i j :: wdL i l (j + 1)
theorem takL_f {t : TN} {z p : Nat} : ∀ l : List Int32, takL t z l (p, false) = (p, false)
  | [] => rfl
  | c :: r => by
    rw [takL, takS, atS_f rfl, if_neg (by decide)]
    exact takL_f r
theorem numS_f {t : TN} {z p : Nat} : numS t z (p, false) = ((p, false), nI 0) := by
  have h : digS t z (p, false) = false := by unfold digS; exact Bool.false_and _
  unfold numS
  rw [h, if_neg (by decide)]
theorem takS_no {t : TN} {z : Nat} {p : PS} {c : Int32} (h : atS t z p c = false) : takS t z p c = (p.1, false) := by
  unfold takS
  rw [h, if_neg (by decide)]
theorem takS_ya {t : TN} {z : Nat} {p : PS} {c : Int32} (h : atS t z p c = true) : takS t z p c = (p.1 + 1, p.2) := by
  unfold takS
  rw [if_pos h]
section
variable {G : GE} {d n : Nat} {sh : TS} {I : TI} {L : TL} {P : TP} {Q : TQ} {i m : Nat}
theorem indexOfChar_K (hS : SI sh I P i m) (hm : m < 100) {u : Nat} (hu : u ≤ 127) (hQ : Q (some (.int (ixB i (nI u) m 0))) n sh I L P) : Cl G d 210 [.ref (9 + i), .int (nI u), .int (nI 0), .int (nI m)] n sh I L P Q := by
  apply e210
  have cb := (c127 u hu).2
  have h2 := hS.2.1
  have loop : ∀ l j cc ss, j + l = m → Q (some (.int (ixB i (nI u) l j))) n sh I L P → WP G 210 d Q 7 [some (.ref (9 + i)), some (.int (nI u)), some (.int (nI 0)), some (.int (nI m)), some (.int (nI u)), some (.int (nI j))] [] cc ss n sh I L P := by
    intro l
    induction l with
    | zero =>
      intro j cc ss h hq
      have hj : m ≤ j := by omega
      rw [ixB] at hq
      (apply WP_run 7 80; simp (disch := first | decide | omega) only [t210_0, lift_c, o_iload1, o_i2b, o_istore, s1_0, s1_s, o_iload2, o_iload5, o_iload3, o_icge, o_aload0, o_baload, o_iload4, o_icne, o_ireturn, o_iinc5, o_goto, o_inl, z0, z1, z2, z20, z31, run_0, run_c, run_n, fxn, fxi, fxr, fxl, fxl0, ↓swi_n, ↓swi_c, nck0, nck1, nck2, nck3, List.length_cons, List.length_nil, Nat.reduceAdd, Nat.reduceSub, Nat.reduceLeDiff, Nat.reduceEqDiff, Nat.reduceLT, reduceIte, ite_true, ite_false, Nat.sub_zero, Nat.zero_le, true_and, and_true, and_self, true_or, or_true, if_true, if_false, true_implies, implies_true, not_true_eq_false, not_false_eq_true, false_implies, forall_const, ne_eq, or_self, and_false, false_and, Lt, Le, Eq', Cp, In, nI_add, nI_mul, nI_sub, nI_sub1, Neg0, bI_eq0, bI_eq1, bI_01, bft, up2_eq, up2_no, Bool.true_eq_false, Bool.false_eq_true, eq_self, m1_ne, m1_ne2, m1_lt, m1_le, lt_m1, m1_le2, bI_t, bI_f, hj])
      exact hq
    | succ l ih =>
      intro j cc ss h hq
      have hj : ¬ m ≤ j := by omega
      have hw := hS.2.2.2.2 j (by omega)
      rw [ixB] at hq
      by_cases e : wB i j = nI u
      · rw [if_pos e] at hq
        have hw := hw.trans e
        (apply WP_run 7 80; simp (disch := first | decide | omega) only [t210_0, lift_c, o_iload1, o_i2b, o_istore, s1_0, s1_s, o_iload2, o_iload5, o_iload3, o_icge, o_aload0, o_baload, o_iload4, o_icne, o_ireturn, o_iinc5, o_goto, o_inl, z0, z1, z2, z20, z31, run_0, run_c, run_n, fxn, fxi, fxr, fxl, fxl0, ↓swi_n, ↓swi_c, nck0, nck1, nck2, nck3, List.length_cons, List.length_nil, Nat.reduceAdd, Nat.reduceSub, Nat.reduceLeDiff, Nat.reduceEqDiff, Nat.reduceLT, reduceIte, ite_true, ite_false, Nat.sub_zero, Nat.zero_le, true_and, and_true, and_self, true_or, or_true, if_true, if_false, true_implies, implies_true, not_true_eq_false, not_false_eq_true, false_implies, forall_const, ne_eq, or_self, and_false, false_and, Lt, Le, Eq', Cp, In, nI_add, nI_mul, nI_sub, nI_sub1, Neg0, bI_eq0, bI_eq1, bI_01, bft, up2_eq, up2_no, Bool.true_eq_false, Bool.false_eq_true, eq_self, m1_ne, m1_ne2, m1_lt, m1_le, lt_m1, m1_le2, bI_t, bI_f, hj, h2, hw])
        exact hq
      · rw [if_neg e] at hq
        have ih := fun cc ss => ih (j + 1) cc ss (by omega) hq
        generalize wB i j = w at hw e
        (apply WP_run 7 80; simp (disch := first | decide | omega) only [t210_0, lift_c, o_iload1, o_i2b, o_istore, s1_0, s1_s, o_iload2, o_iload5, o_iload3, o_icge, o_aload0, o_baload, o_iload4, o_icne, o_ireturn, o_iinc5, o_goto, o_inl, z0, z1, z2, z20, z31, run_0, run_c, run_n, fxn, fxi, fxr, fxl, fxl0, ↓swi_n, ↓swi_c, nck0, nck1, nck2, nck3, List.length_cons, List.length_nil, Nat.reduceAdd, Nat.reduceSub, Nat.reduceLeDiff, Nat.reduceEqDiff, Nat.reduceLT, reduceIte, ite_true, ite_false, Nat.sub_zero, Nat.zero_le, true_and, and_true, and_self, true_or, or_true, if_true, if_false, true_implies, implies_true, not_true_eq_false, not_false_eq_true, false_implies, forall_const, ne_eq, or_self, and_false, false_and, Lt, Le, Eq', Cp, In, nI_add, nI_mul, nI_sub, nI_sub1, Neg0, bI_eq0, bI_eq1, bI_01, bft, up2_eq, up2_no, Bool.true_eq_false, Bool.false_eq_true, eq_self, m1_ne, m1_ne2, m1_lt, m1_le, lt_m1, m1_le2, bI_t, bI_f, hj, h2, hw, e])
        exact ih _ _
  have loop := fun cc ss => loop m 0 cc ss (by omega) hQ
  (apply WP_run 7 80; simp (disch := first | decide | omega) only [t210_0, lift_c, o_iload1, o_i2b, o_istore, s1_0, s1_s, o_iload2, o_iload5, o_iload3, o_icge, o_aload0, o_baload, o_iload4, o_icne, o_ireturn, o_iinc5, o_goto, o_inl, z0, z1, z2, z20, z31, run_0, run_c, run_n, fxn, fxi, fxr, fxl, fxl0, ↓swi_n, ↓swi_c, nck0, nck1, nck2, nck3, List.length_cons, List.length_nil, Nat.reduceAdd, Nat.reduceSub, Nat.reduceLeDiff, Nat.reduceEqDiff, Nat.reduceLT, reduceIte, ite_true, ite_false, Nat.sub_zero, Nat.zero_le, true_and, and_true, and_self, true_or, or_true, if_true, if_false, true_implies, implies_true, not_true_eq_false, not_false_eq_true, false_implies, forall_const, ne_eq, or_self, and_false, false_and, Lt, Le, Eq', Cp, In, nI_add, nI_mul, nI_sub, nI_sub1, Neg0, bI_eq0, bI_eq1, bI_01, bft, up2_eq, up2_no, Bool.true_eq_false, Bool.false_eq_true, eq_self, m1_ne, m1_ne2, m1_lt, m1_le, lt_m1, m1_le2, bI_t, bI_f, cb])
  exact loop _ _
theorem canEncode_K {u : Nat} (hu : u ≤ 127) (hQ : Q (some (.int (nI 1))) n sh I L P) : Cl G d 208 [.int (nI u)] n sh I L P Q := by
  apply e208
  have h : ¬ 255 < u := by omega
  (apply WP_run 999 80; simp (disch := first | decide | omega) only [t208_0, lift_c, o_iload0, o_iflt, o_inl, o_icgt, o_goto, o_ireturn, z0, z1, z2, z20, z31, z255, run_0, run_c, run_n, fxn, fxi, fxr, fxl, fxl0, ↓swi_n, ↓swi_c, nck0, nck1, nck2, nck3, List.length_cons, List.length_nil, Nat.reduceAdd, Nat.reduceSub, Nat.reduceLeDiff, Nat.reduceEqDiff, Nat.reduceLT, reduceIte, ite_true, ite_false, Nat.sub_zero, Nat.zero_le, true_and, and_true, and_self, true_or, or_true, if_true, if_false, true_implies, implies_true, not_true_eq_false, not_false_eq_true, false_implies, forall_const, ne_eq, or_self, and_false, false_and, Lt, Le, Eq', Cp, In, nI_add, nI_mul, nI_sub, nI_sub1, Neg0, bI_eq0, bI_eq1, bI_01, bft, up2_eq, up2_no, Bool.true_eq_false, Bool.false_eq_true, eq_self, m1_ne, m1_ne2, m1_lt, m1_le, lt_m1, m1_le2, bI_t, bI_f, h, Nat.not_lt_zero])
  exact hQ
theorem latIndexOf_K (hS : SI sh I P i m) (hm : m < 100) (hm0 : 0 < m) {u : Nat} (hu : u ≤ 127) (hd : 1 ≤ d) (hQ : Q (some (.int (ixB i (nI u) m 0))) n sh I L P) : Cl G d 209 [.ref (9 + i), .int (nI u), .int (nI 0), .int (nI m)] n sh I L P Q := by
  apply e209
  have hd0 : 0 < d := by omega
  have h2 := hS.2.1
  have hmm : ¬ m < m := by omega
  (apply WP_run 999 80; simp (disch := first | decide | omega) only [t209_0, lift_c, o_iload1, o_stat1, rpush_n, rpush_s, o_ifne, o_inl, o_ireturn, o_iload2, o_fadd, o_istore, s1_0, s1_s, o_iload3, o_aload0, o_arraylength, o_fsub, o_iclt, o_stat4, z0, z1, z2, z20, z31, run_0, run_c, run_n, fxn, fxi, fxr, fxl, fxl0, ↓swi_n, ↓swi_c, nck0, nck1, nck2, nck3, List.length_cons, List.length_nil, Nat.reduceAdd, Nat.reduceSub, Nat.reduceLeDiff, Nat.reduceEqDiff, Nat.reduceLT, reduceIte, ite_true, ite_false, Nat.sub_zero, Nat.zero_le, true_and, and_true, and_self, true_or, or_true, if_true, if_false, true_implies, implies_true, not_true_eq_false, not_false_eq_true, false_implies, forall_const, ne_eq, or_self, and_false, false_and, Lt, Le, Eq', Cp, In, nI_add, nI_mul, nI_sub, nI_sub1, Neg0, bI_eq0, bI_eq1, bI_01, bft, up2_eq, up2_no, Bool.true_eq_false, Bool.false_eq_true, eq_self, m1_ne, m1_ne2, m1_lt, m1_le, lt_m1, m1_le2, bI_t, bI_f, hd0])
  refine canEncode_K hu ?_
  (apply WP_run 999 80; simp (disch := first | decide | omega) only [t209_0, lift_c, o_iload1, o_stat1, rpush_n, rpush_s, o_ifne, o_inl, o_ireturn, o_iload2, o_fadd, o_istore, s1_0, s1_s, o_iload3, o_aload0, o_arraylength, o_fsub, o_iclt, o_stat4, z0, z1, z2, z20, z31, run_0, run_c, run_n, fxn, fxi, fxr, fxl, fxl0, ↓swi_n, ↓swi_c, nck0, nck1, nck2, nck3, List.length_cons, List.length_nil, Nat.reduceAdd, Nat.reduceSub, Nat.reduceLeDiff, Nat.reduceEqDiff, Nat.reduceLT, reduceIte, ite_true, ite_false, Nat.sub_zero, Nat.zero_le, true_and, and_true, and_self, true_or, or_true, if_true, if_false, true_implies, implies_true, not_true_eq_false, not_false_eq_true, false_implies, forall_const, ne_eq, or_self, and_false, false_and, Lt, Le, Eq', Cp, In, nI_add, nI_mul, nI_sub, nI_sub1, Neg0, bI_eq0, bI_eq1, bI_01, bft, up2_eq, up2_no, Bool.true_eq_false, Bool.false_eq_true, eq_self, m1_ne, m1_ne2, m1_lt, m1_le, lt_m1, m1_le2, bI_t, bI_f, h2, hd0, hmm, hm0])
  refine indexOfChar_K hS hm hu ?_
  generalize ixB i (nI u) m 0 = w at hQ ⊢
  (apply WP_run 999 80; simp (disch := first | decide | omega) only [t209_0, lift_c, o_iload1, o_stat1, rpush_n, rpush_s, o_ifne, o_inl, o_ireturn, o_iload2, o_fadd, o_istore, s1_0, s1_s, o_iload3, o_aload0, o_arraylength, o_fsub, o_iclt, o_stat4, z0, z1, z2, z20, z31, run_0, run_c, run_n, fxn, fxi, fxr, fxl, fxl0, ↓swi_n, ↓swi_c, nck0, nck1, nck2, nck3, List.length_cons, List.length_nil, Nat.reduceAdd, Nat.reduceSub, Nat.reduceLeDiff, Nat.reduceEqDiff, Nat.reduceLT, reduceIte, ite_true, ite_false, Nat.sub_zero, Nat.zero_le, true_and, and_true, and_self, true_or, or_true, if_true, if_false, true_implies, implies_true, not_true_eq_false, not_false_eq_true, false_implies, forall_const, ne_eq, or_self, and_false, false_and, Lt, Le, Eq', Cp, In, nI_add, nI_mul, nI_sub, nI_sub1, Neg0, bI_eq0, bI_eq1, bI_01, bft, up2_eq, up2_no, Bool.true_eq_false, Bool.false_eq_true, eq_self, m1_ne, m1_ne2, m1_lt, m1_le, lt_m1, m1_le2, bI_t, bI_f, hd0])
  exact hQ
theorem indexOf2_K (hS : SI sh I P i m) (hm : m < 100) (hm0 : 0 < m) {u : Nat} (hu : u ≤ 127) (hd : 3 ≤ d) (hQ : Q (some (.int (ixB i (nI u) m 0))) n sh I L P) : Cl G d 203 [.ref (4 + i), .int (nI u), .int (nI 0)] n sh I L P Q := by
  apply e203
  have hd0 : 0 < d := by omega
  have h1 := hS.1
  have h3 := hS.2.2.1
  have nz : nle 2 (4 + i) := by show 2 ≤ 4 + i; omega
  (apply WP_run 999 80; simp (disch := first | decide | omega) only [t203_0, lift_c, o_aload0, o_virt1, rpush_n, rpush_s, o_ifeq, o_getref, o_iload1, o_iload2, o_stat4, o_goto, o_ireturn, z0, z1, z2, z20, z31, run_0, run_c, run_n, fxn, fxi, fxr, fxl, fxl0, ↓swi_n, ↓swi_c, nck0, nck1, nck2, nck3, List.length_cons, List.length_nil, Nat.reduceAdd, Nat.reduceSub, Nat.reduceLeDiff, Nat.reduceEqDiff, Nat.reduceLT, reduceIte, ite_true, ite_false, Nat.sub_zero, Nat.zero_le, true_and, and_true, and_self, true_or, or_true, if_true, if_false, true_implies, implies_true, not_true_eq_false, not_false_eq_true, false_implies, forall_const, ne_eq, or_self, and_false, false_and, Lt, Le, Eq', Cp, In, nI_add, nI_mul, nI_sub, nI_sub1, Neg0, bI_eq0, bI_eq1, bI_01, bft, up2_eq, up2_no, Bool.true_eq_false, Bool.false_eq_true, eq_self, m1_ne, m1_ne2, m1_lt, m1_le, lt_m1, m1_le2, bI_t, bI_f, h1, nz, hd0])
  refine isLatin_K hS ?_
  (apply WP_run 23 80; simp (disch := first | decide | omega) only [t203_0, lift_c, o_aload0, o_virt1, rpush_n, rpush_s, o_ifeq, o_getref, o_iload1, o_iload2, o_stat4, o_goto, o_ireturn, z0, z1, z2, z20, z31, run_0, run_c, run_n, fxn, fxi, fxr, fxl, fxl0, ↓swi_n, ↓swi_c, nck0, nck1, nck2, nck3, List.length_cons, List.length_nil, Nat.reduceAdd, Nat.reduceSub, Nat.reduceLeDiff, Nat.reduceEqDiff, Nat.reduceLT, reduceIte, ite_true, ite_false, Nat.sub_zero, Nat.zero_le, true_and, and_true, and_self, true_or, or_true, if_true, if_false, true_implies, implies_true, not_true_eq_false, not_false_eq_true, false_implies, forall_const, ne_eq, or_self, and_false, false_and, Lt, Le, Eq', Cp, In, nI_add, nI_mul, nI_sub, nI_sub1, Neg0, bI_eq0, bI_eq1, bI_01, bft, up2_eq, up2_no, Bool.true_eq_false, Bool.false_eq_true, eq_self, m1_ne, m1_ne2, m1_lt, m1_le, lt_m1, m1_le2, bI_t, bI_f, h1, h3, nz, hd0])
  refine length_K hS (by omega) ?_
  (apply WP_run 23 80; simp (disch := first | decide | omega) only [t203_0, lift_c, o_aload0, o_virt1, rpush_n, rpush_s, o_ifeq, o_getref, o_iload1, o_iload2, o_stat4, o_goto, o_ireturn, z0, z1, z2, z20, z31, run_0, run_c, run_n, fxn, fxi, fxr, fxl, fxl0, ↓swi_n, ↓swi_c, nck0, nck1, nck2, nck3, List.length_cons, List.length_nil, Nat.reduceAdd, Nat.reduceSub, Nat.reduceLeDiff, Nat.reduceEqDiff, Nat.reduceLT, reduceIte, ite_true, ite_false, Nat.sub_zero, Nat.zero_le, true_and, and_true, and_self, true_or, or_true, if_true, if_false, true_implies, implies_true, not_true_eq_false, not_false_eq_true, false_implies, forall_const, ne_eq, or_self, and_false, false_and, Lt, Le, Eq', Cp, In, nI_add, nI_mul, nI_sub, nI_sub1, Neg0, bI_eq0, bI_eq1, bI_01, bft, up2_eq, up2_no, Bool.true_eq_false, Bool.false_eq_true, eq_self, m1_ne, m1_ne2, m1_lt, m1_le, lt_m1, m1_le2, bI_t, bI_f, h1, h3, nz, hd0])
  refine latIndexOf_K hS hm hm0 hu (by omega) ?_
  generalize ixB i (nI u) m 0 = w at hQ ⊢
  (apply WP_run 23 80; simp (disch := first | decide | omega) only [t203_0, lift_c, o_aload0, o_virt1, rpush_n, rpush_s, o_ifeq, o_getref, o_iload1, o_iload2, o_stat4, o_goto, o_ireturn, z0, z1, z2, z20, z31, run_0, run_c, run_n, fxn, fxi, fxr, fxl, fxl0, ↓swi_n, ↓swi_c, nck0, nck1, nck2, nck3, List.length_cons, List.length_nil, Nat.reduceAdd, Nat.reduceSub, Nat.reduceLeDiff, Nat.reduceEqDiff, Nat.reduceLT, reduceIte, ite_true, ite_false, Nat.sub_zero, Nat.zero_le, true_and, and_true, and_self, true_or, or_true, if_true, if_false, true_implies, implies_true, not_true_eq_false, not_false_eq_true, false_implies, forall_const, ne_eq, or_self, and_false, false_and, Lt, Le, Eq', Cp, In, nI_add, nI_mul, nI_sub, nI_sub1, Neg0, bI_eq0, bI_eq1, bI_01, bft, up2_eq, up2_no, Bool.true_eq_false, Bool.false_eq_true, eq_self, m1_ne, m1_ne2, m1_lt, m1_le, lt_m1, m1_le2, bI_t, bI_f, hd0])
  exact hQ
theorem indexOf1_K (hS : SI sh I P i m) (hm : m < 100) (hm0 : 0 < m) {u : Nat} (hu : u ≤ 127) (hd : 4 ≤ d) (hQ : Q (some (.int (ixB i (nI u) m 0))) n sh I L P) : Cl G d 202 [.ref (4 + i), .int (nI u)] n sh I L P Q := by
  apply e202
  have hd0 : 0 < d := by omega
  have h1 := hS.1
  have nz : nle 2 (4 + i) := by show 2 ≤ 4 + i; omega
  (apply WP_run 999 80; simp (disch := first | decide | omega) only [t202_0, lift_c, o_aload0, o_iload1, o_inl, o_virt3, rpush_n, rpush_s, o_ireturn, z0, z1, z2, z20, z31, run_0, run_c, run_n, fxn, fxi, fxr, fxl, fxl0, ↓swi_n, ↓swi_c, nck0, nck1, nck2, nck3, List.length_cons, List.length_nil, Nat.reduceAdd, Nat.reduceSub, Nat.reduceLeDiff, Nat.reduceEqDiff, Nat.reduceLT, reduceIte, ite_true, ite_false, Nat.sub_zero, Nat.zero_le, true_and, and_true, and_self, true_or, or_true, if_true, if_false, true_implies, implies_true, not_true_eq_false, not_false_eq_true, false_implies, forall_const, ne_eq, or_self, and_false, false_and, Lt, Le, Eq', Cp, In, nI_add, nI_mul, nI_sub, nI_sub1, Neg0, bI_eq0, bI_eq1, bI_01, bft, up2_eq, up2_no, Bool.true_eq_false, Bool.false_eq_true, eq_self, m1_ne, m1_ne2, m1_lt, m1_le, lt_m1, m1_le2, bI_t, bI_f, h1, nz, hd0])
  refine indexOf2_K hS hm hm0 hu (by omega) ?_
  generalize ixB i (nI u) m 0 = w at hQ ⊢
  (apply WP_run 999 80; simp (disch := first | decide | omega) only [t202_0, lift_c, o_aload0, o_iload1, o_inl, o_virt3, rpush_n, rpush_s, o_ireturn, z0, z1, z2, z20, z31, run_0, run_c, run_n, fxn, fxi, fxr, fxl, fxl0, ↓swi_n, ↓swi_c, nck0, nck1, nck2, nck3, List.length_cons, List.length_nil, Nat.reduceAdd, Nat.reduceSub, Nat.reduceLeDiff, Nat.reduceEqDiff, Nat.reduceLT, reduceIte, ite_true, ite_false, Nat.sub_zero, Nat.zero_le, true_and, and_true, and_self, true_or, or_true, if_true, if_false, true_implies, implies_true, not_true_eq_false, not_false_eq_true, false_implies, forall_const, ne_eq, or_self, and_false, false_and, Lt, Le, Eq', Cp, In, nI_add, nI_mul, nI_sub, nI_sub1, Neg0, bI_eq0, bI_eq1, bI_01, bft, up2_eq, up2_no, Bool.true_eq_false, Bool.false_eq_true, eq_self, m1_ne, m1_ne2, m1_lt, m1_le, lt_m1, m1_le2, bI_t, bI_f, hd0])
  exact hQ
end
section
variable {G : GE} {d n : Nat} {sh : TS} {I : TI} {L : TL} {P : TP} {Q : TQ} {t : TN} {z p i m : Nat}
theorem readOneOf_K (hG : FG sh P) (hA : RA I t z p) (hT : TX t z) (hi : i < 5) (hm : strN.getD i 0 = m) (hm1 : 0 < m ∧ m < 100) (hd : 5 ≤ d) (hQ1 : ∀ k, p < z → k < m → ixB i (t p) m 0 = nI k → RA (up2 I 102 2 (nI (p + 1))) t z (p + 1) → Q (some (.int (nI k))) n sh (up2 I 102 2 (nI (p + 1))) L P)
    (hQ0 : (¬ p < z ∨ ixB i (t p) m 0 = -nI 1) → Q (some (.int (-nI 1))) n sh I L P) : Cl G d 38 [.ref 102, .ref (4 + i)] n sh I L P Q := by
  apply e38
  apply WP_SF
  intro hSF
  have hS := SI_of hSF hi
  rw [hm] at hS
  have h1 := hA.z100
  have hle := hA.le
  have h2 := hA.sz
  have h4 := hA.a
  have hd0 : 0 < d := by omega
  have nz : nle 2 (4 + i) := by show 2 ≤ 4 + i; omega
  have n102 : nle 20 102 := by show 20 ≤ 102; decide
  have hs1 := hS.1
  by_cases hp : p < z
  · have h3 := hA.txt hp
    have hz : ¬ z ≤ p := by omega
    obtain ⟨u, hu, eu⟩ := hT p hp
    have cc := (c127 u hu).1
    rw [eu] at h3 hQ1 hQ0
    (apply WP_runI (lv := lvK) (F := LK) LK_ok 29 25; simp (disch := first | decide | omega) only [t38_0, lift_c, o_aload0, o_getfield, o_icge, o_aload1, o_getref, o_iaload, o_i2c, o_virt2, rpush_n, rpush_s, o_goto, o_inl, o_istore, s1_0, s1_s, o_iload2, o_iflt, o_dupi, o_dupr, o_iadd, o_putfield, o_ireturn, z0, z1, z2, z20, z31, runI_0, runI_c, runI_n, liftI_n, liftI_y, run_0, run_c, run_n, fxn, fxi, fxr, fxl, fxl0, ↓swi_n, ↓swi_c, nck0, nck1, nck2, nck3, List.length_cons, List.length_nil, Nat.reduceAdd, Nat.reduceSub, Nat.reduceLeDiff, Nat.reduceEqDiff, Nat.reduceLT, reduceIte, ite_true, ite_false, Nat.sub_zero, Nat.zero_le, true_and, and_true, and_self, true_or, or_true, if_true, if_false, true_implies, implies_true, not_true_eq_false, not_false_eq_true, false_implies, forall_const, ne_eq, or_self, and_false, false_and, Lt, Le, Eq', Cp, In, nI_add, nI_mul, nI_sub, nI_sub1, Neg0, bI_eq0, bI_eq1, bI_01, bft, up2_eq, up2_no, Bool.true_eq_false, Bool.false_eq_true, eq_self, m1_ne, m1_ne2, m1_lt, m1_le, lt_m1, m1_le2, bI_t, bI_f, LK_st, FGu hG, h2, h4, h3, hz, cc, hs1, nz, hd0])
    refine indexOf1_K hS hm1.2 hm1.1 hu (by omega) ?_
    rcases ixB_rng i (nI u) m 0 with e | ⟨k, hk, e⟩
    · have hQ0 := hQ0 (Or.inr e)
      rw [e]
      (apply WP_runI (lv := lvK) (F := LK) LK_ok 999 12; simp (disch := first | decide | omega) only [t38_0, lift_c, o_aload0, o_getfield, o_icge, o_aload1, o_getref, o_iaload, o_i2c, o_virt2, rpush_n, rpush_s, o_goto, o_inl, o_istore, s1_0, s1_s, o_iload2, o_iflt, o_dupi, o_dupr, o_iadd, o_putfield, o_ireturn, z0, z1, z2, z20, z31, runI_0, runI_c, runI_n, liftI_n, liftI_y, run_0, run_c, run_n, fxn, fxi, fxr, fxl, fxl0, ↓swi_n, ↓swi_c, nck0, nck1, nck2, nck3, List.length_cons, List.length_nil, Nat.reduceAdd, Nat.reduceSub, Nat.reduceLeDiff, Nat.reduceEqDiff, Nat.reduceLT, reduceIte, ite_true, ite_false, Nat.sub_zero, Nat.zero_le, true_and, and_true, and_self, true_or, or_true, if_true, if_false, true_implies, implies_true, not_true_eq_false, not_false_eq_true, false_implies, forall_const, ne_eq, or_self, and_false, false_and, Lt, Le, Eq', Cp, In, nI_add, nI_mul, nI_sub, nI_sub1, Neg0, bI_eq0, bI_eq1, bI_01, bft, up2_eq, up2_no, Bool.true_eq_false, Bool.false_eq_true, eq_self, m1_ne, m1_ne2, m1_lt, m1_le, lt_m1, m1_le2, bI_t, bI_f, LK_st, FGu hG, hd0])
      exact hQ0
    · have hQ1 := hQ1 k hp (by omega) e (hA.inc hp)
      rw [e]
      (apply WP_runI (lv := lvK) (F := LK) LK_ok 999 20; simp (disch := first | decide | omega) only [t38_0, lift_c, o_aload0, o_getfield, o_icge, o_aload1, o_getref, o_iaload, o_i2c, o_virt2, rpush_n, rpush_s, o_goto, o_inl, o_istore, s1_0, s1_s, o_iload2, o_iflt, o_dupi, o_dupr, o_iadd, o_putfield, o_ireturn, z0, z1, z2, z20, z31, runI_0, runI_c, runI_n, liftI_n, liftI_y, run_0, run_c, run_n, fxn, fxi, fxr, fxl, fxl0, ↓swi_n, ↓swi_c, nck0, nck1, nck2, nck3, List.length_cons, List.length_nil, Nat.reduceAdd, Nat.reduceSub, Nat.reduceLeDiff, Nat.reduceEqDiff, Nat.reduceLT, reduceIte, ite_true, ite_false, Nat.sub_zero, Nat.zero_le, true_and, and_true, and_self, true_or, or_true, if_true, if_false, true_implies, implies_true, not_true_eq_false, not_false_eq_true, false_implies, forall_const, ne_eq, or_self, and_false, false_and, Lt, Le, Eq', Cp, In, nI_add, nI_mul, nI_sub, nI_sub1, Neg0, bI_eq0, bI_eq1, bI_01, bft, up2_eq, up2_no, Bool.true_eq_false, Bool.false_eq_true, eq_self, m1_ne, m1_ne2, m1_lt, m1_le, lt_m1, m1_le2, bI_t, bI_f, LK_st, FGu hG, h4, n102, hd0, Nat.not_lt_zero])
      exact hQ1
  · have hz : z ≤ p := by omega
    have hQ0 := hQ0 (Or.inl hp)
    (apply WP_runI (lv := lvK) (F := LK) LK_ok 29 10; simp (disch := first | decide | omega) only [t38_0, lift_c, o_aload0, o_getfield, o_icge, o_aload1, o_getref, o_iaload, o_i2c, o_virt2, rpush_n, rpush_s, o_goto, o_inl, o_istore, s1_0, s1_s, o_iload2, o_iflt, o_dupi, o_dupr, o_iadd, o_putfield, o_ireturn, z0, z1, z2, z20, z31, runI_0, runI_c, runI_n, liftI_n, liftI_y, run_0, run_c, run_n, fxn, fxi, fxr, fxl, fxl0, ↓swi_n, ↓swi_c, nck0, nck1, nck2, nck3, List.length_cons, List.length_nil, Nat.reduceAdd, Nat.reduceSub, Nat.reduceLeDiff, Nat.reduceEqDiff, Nat.reduceLT, reduceIte, ite_true, ite_false, Nat.sub_zero, Nat.zero_le, true_and, and_true, and_self, true_or, or_true, if_true, if_false, true_implies, implies_true, not_true_eq_false, not_false_eq_true, false_implies, forall_const, ne_eq, or_self, and_false, false_and, Lt, Le, Eq', Cp, In, nI_add, nI_mul, nI_sub, nI_sub1, Neg0, bI_eq0, bI_eq1, bI_01, bft, up2_eq, up2_no, Bool.true_eq_false, Bool.false_eq_true, eq_self, m1_ne, m1_ne2, m1_lt, m1_le, lt_m1, m1_le2, bI_t, bI_f, LK_st, FGu hG, h2, h4, hz, hd0])
    (apply WP_runI (lv := lvK) (F := LK) LK_ok 999 10; simp (disch := first | decide | omega) only [t38_0, lift_c, o_aload0, o_getfield, o_icge, o_aload1, o_getref, o_iaload, o_i2c, o_virt2, rpush_n, rpush_s, o_goto, o_inl, o_istore, s1_0, s1_s, o_iload2, o_iflt, o_dupi, o_dupr, o_iadd, o_putfield, o_ireturn, z0, z1, z2, z20, z31, runI_0, runI_c, runI_n, liftI_n, liftI_y, run_0, run_c, run_n, fxn, fxi, fxr, fxl, fxl0, ↓swi_n, ↓swi_c, nck0, nck1, nck2, nck3, List.length_cons, List.length_nil, Nat.reduceAdd, Nat.reduceSub, Nat.reduceLeDiff, Nat.reduceEqDiff, Nat.reduceLT, reduceIte, ite_true, ite_false, Nat.sub_zero, Nat.zero_le, true_and, and_true, and_self, true_or, or_true, if_true, if_false, true_implies, implies_true, not_true_eq_false, not_false_eq_true, false_implies, forall_const, ne_eq, or_self, and_false, false_and, Lt, Le, Eq', Cp, In, nI_add, nI_mul, nI_sub, nI_sub1, Neg0, bI_eq0, bI_eq1, bI_01, bft, up2_eq, up2_no, Bool.true_eq_false, Bool.false_eq_true, eq_self, m1_ne, m1_ne2, m1_lt, m1_le, lt_m1, m1_le2, bI_t, bI_f, LK_st, FGu hG, hd0])
    exact hQ0
theorem readWord_K (hG : FG sh P) (hA : RA I t z p) (hi : i < 5) (hm : strN.getD i 0 = m) (hm1 : m < 100) (hd : 4 ≤ d) (hQ : ∀ I', Eo rdN I I' → RA I' t z (takL t z (wdL i m 0) (p, true)).1 → Q (some (.int (bI (takL t z (wdL i m 0) (p, true)).2))) n sh I' L P) : Cl G d 36 [.ref 102, .ref (4 + i)] n sh I L P Q := by
  apply e36
  have hd0 : 0 < d := by omega
  have nz : nle 2 (4 + i) := by show 2 ≤ 4 + i; omega
  have loop : ∀ l j p I cc ss, j + l = m → RA I t z p → (∀ I', Eo rdN I I' → RA I' t z (takL t z (wdL i l j) (p, true)).1 → Q (some (.int (bI (takL t z (wdL i l j) (p, true)).2))) n sh I' L P) → WP G 36 d Q 2 [some (.ref 102), some (.ref (4 + i)), some (.int (nI j))] [] cc ss n sh I L P := by
    intro l
    induction l with
    | zero =>
      intro j p I cc ss h hA hQ
      apply WP_SF
      intro hSF
      have hS := SI_of hSF hi
      rw [hm] at hS
      have hs1 := hS.1
      have hj : m ≤ j := by omega
      have hQ := hQ I Eo.rf hA
      (apply WP_runI (lv := lvK) (F := LK) LK_ok 999 12; simp (disch := first | decide | omega) only [t36_0, lift_c, o_inl, o_istore, s1_0, s1_s, o_iload2, o_aload1, o_virt1, rpush_n, rpush_s, o_icge, o_aload0, o_virt2, o_ifne, o_ireturn, o_iinc2, o_goto, z0, z1, z2, z20, z31, runI_0, runI_c, runI_n, liftI_n, liftI_y, run_0, run_c, run_n, fxn, fxi, fxr, fxl, fxl0, ↓swi_n, ↓swi_c, nck0, nck1, nck2, nck3, List.length_cons, List.length_nil, Nat.reduceAdd, Nat.reduceSub, Nat.reduceLeDiff, Nat.reduceEqDiff, Nat.reduceLT, reduceIte, ite_true, ite_false, Nat.sub_zero, Nat.zero_le, true_and, and_true, and_self, true_or, or_true, if_true, if_false, true_implies, implies_true, not_true_eq_false, not_false_eq_true, false_implies, forall_const, ne_eq, or_self, and_false, false_and, Lt, Le, Eq', Cp, In, nI_add, nI_mul, nI_sub, nI_sub1, Neg0, bI_eq0, bI_eq1, bI_01, bft, up2_eq, up2_no, Bool.true_eq_false, Bool.false_eq_true, eq_self, m1_ne, m1_ne2, m1_lt, m1_le, lt_m1, m1_le2, bI_t, bI_f, LK_st, hs1, nz, hd0])
      refine length_K hS (by omega) ?_
      (apply WP_runI (lv := lvK) (F := LK) LK_ok 999 6; simp (disch := first | decide | omega) only [t36_0, lift_c, o_inl, o_istore, s1_0, s1_s, o_iload2, o_aload1, o_virt1, rpush_n, rpush_s, o_icge, o_aload0, o_virt2, o_ifne, o_ireturn, o_iinc2, o_goto, z0, z1, z2, z20, z31, runI_0, runI_c, runI_n, liftI_n, liftI_y, run_0, run_c, run_n, fxn, fxi, fxr, fxl, fxl0, ↓swi_n, ↓swi_c, nck0, nck1, nck2, nck3, List.length_cons, List.length_nil, Nat.reduceAdd, Nat.reduceSub, Nat.reduceLeDiff, Nat.reduceEqDiff, Nat.reduceLT, reduceIte, ite_true, ite_false, Nat.sub_zero, Nat.zero_le, true_and, and_true, and_self, true_or, or_true, if_true, if_false, true_implies, implies_true, not_true_eq_false, not_false_eq_true, false_implies, forall_const, ne_eq, or_self, and_false, false_and, Lt, Le, Eq', Cp, In, nI_add, nI_mul, nI_sub, nI_sub1, Neg0, bI_eq0, bI_eq1, bI_01, bft, up2_eq, up2_no, Bool.true_eq_false, Bool.false_eq_true, eq_self, m1_ne, m1_ne2, m1_lt, m1_le, lt_m1, m1_le2, bI_t, bI_f, LK_st, hj, hd0])
      exact hQ
    | succ l ih =>
      intro j p I cc ss h hA hQ
      apply WP_SF
      intro hSF
      have hS := SI_of hSF hi
      rw [hm] at hS
      have hs1 := hS.1
      have hj : ¬ m ≤ j := by omega
      obtain ⟨c1, c2⟩ := wB_all i hi j (by omega)
      have hQ : ∀ I', Eo rdN I I' → RA I' t z (takL t z (wdL i l (j + 1)) (takS t z (p, true) (wB i j))).1 → Q (some (.int (bI (takL t z (wdL i l (j + 1)) (takS t z (p, true) (wB i j))).2))) n sh I' L P := hQ
      (apply WP_runI (lv := lvK) (F := LK) LK_ok 999 12; simp (disch := first | decide | omega) only [t36_0, lift_c, o_inl, o_istore, s1_0, s1_s, o_iload2, o_aload1, o_virt1, rpush_n, rpush_s, o_icge, o_aload0, o_virt2, o_ifne, o_ireturn, o_iinc2, o_goto, z0, z1, z2, z20, z31, runI_0, runI_c, runI_n, liftI_n, liftI_y, run_0, run_c, run_n, fxn, fxi, fxr, fxl, fxl0, ↓swi_n, ↓swi_c, nck0, nck1, nck2, nck3, List.length_cons, List.length_nil, Nat.reduceAdd, Nat.reduceSub, Nat.reduceLeDiff, Nat.reduceEqDiff, Nat.reduceLT, reduceIte, ite_true, ite_false, Nat.sub_zero, Nat.zero_le, true_and, and_true, and_self, true_or, or_true, if_true, if_false, true_implies, implies_true, not_true_eq_false, not_false_eq_true, false_implies, forall_const, ne_eq, or_self, and_false, false_and, Lt, Le, Eq', Cp, In, nI_add, nI_mul, nI_sub, nI_sub1, Neg0, bI_eq0, bI_eq1, bI_01, bft, up2_eq, up2_no, Bool.true_eq_false, Bool.false_eq_true, eq_self, m1_ne, m1_ne2, m1_lt, m1_le, lt_m1, m1_le2, bI_t, bI_f, LK_st, hs1, nz, hd0])
      refine length_K hS (by omega) ?_
      (apply WP_runI (lv := lvK) (F := LK) LK_ok 999 8; simp (disch := first | decide | omega) only [t36_0, lift_c, o_inl, o_istore, s1_0, s1_s, o_iload2, o_aload1, o_virt1, rpush_n, rpush_s, o_icge, o_aload0, o_virt2, o_ifne, o_ireturn, o_iinc2, o_goto, z0, z1, z2, z20, z31, runI_0, runI_c, runI_n, liftI_n, liftI_y, run_0, run_c, run_n, fxn, fxi, fxr, fxl, fxl0, ↓swi_n, ↓swi_c, nck0, nck1, nck2, nck3, List.length_cons, List.length_nil, Nat.reduceAdd, Nat.reduceSub, Nat.reduceLeDiff, Nat.reduceEqDiff, Nat.reduceLT, reduceIte, ite_true, ite_false, Nat.sub_zero, Nat.zero_le, true_and, and_true, and_self, true_or, or_true, if_true, if_false, true_implies, implies_true, not_true_eq_false, not_false_eq_true, false_implies, forall_const, ne_eq, or_self, and_false, false_and, Lt, Le, Eq', Cp, In, nI_add, nI_mul, nI_sub, nI_sub1, Neg0, bI_eq0, bI_eq1, bI_01, bft, up2_eq, up2_no, Bool.true_eq_false, Bool.false_eq_true, eq_self, m1_ne, m1_ne2, m1_lt, m1_le, lt_m1, m1_le2, bI_t, bI_f, LK_st, hs1, nz, hj, hd0])
      generalize hw : wB i j = w at c1 c2 hQ
      refine charAt_K hS (by omega) hm1 (by omega) hw c1 c2 ?_
      (apply WP_runI (lv := lvK) (F := LK) LK_ok 999 6; simp (disch := first | decide | omega) only [t36_0, lift_c, o_inl, o_istore, s1_0, s1_s, o_iload2, o_aload1, o_virt1, rpush_n, rpush_s, o_icge, o_aload0, o_virt2, o_ifne, o_ireturn, o_iinc2, o_goto, z0, z1, z2, z20, z31, runI_0, runI_c, runI_n, liftI_n, liftI_y, run_0, run_c, run_n, fxn, fxi, fxr, fxl, fxl0, ↓swi_n, ↓swi_c, nck0, nck1, nck2, nck3, List.length_cons, List.length_nil, Nat.reduceAdd, Nat.reduceSub, Nat.reduceLeDiff, Nat.reduceEqDiff, Nat.reduceLT, reduceIte, ite_true, ite_false, Nat.sub_zero, Nat.zero_le, true_and, and_true, and_self, true_or, or_true, if_true, if_false, true_implies, implies_true, not_true_eq_false, not_false_eq_true, false_implies, forall_const, ne_eq, or_self, and_false, false_and, Lt, Le, Eq', Cp, In, nI_add, nI_mul, nI_sub, nI_sub1, Neg0, bI_eq0, bI_eq1, bI_01, bft, up2_eq, up2_no, Bool.true_eq_false, Bool.false_eq_true, eq_self, m1_ne, m1_ne2, m1_lt, m1_le, lt_m1, m1_le2, bI_t, bI_f, LK_st, FGu hG, hd0])
      refine readSign_K hG hA (by omega) (fun hb hA2 => ?_) fun hb => ?_
      · rw [takS_ya hb] at hQ
        have ih := fun cc ss => ih (j + 1) (p + 1) _ cc ss (by omega) hA2 (fun I' he => hQ I' ((Eo.rf.up ⟨rfl, Or.inl rfl⟩ _).tr he))
        generalize up2 I 102 2 (nI (p + 1)) = I2 at ih ⊢
        (apply WP_runI (lv := lvK) (F := LK) LK_ok 2 8; simp (disch := first | decide | omega) only [t36_0, lift_c, o_inl, o_istore, s1_0, s1_s, o_iload2, o_aload1, o_virt1, rpush_n, rpush_s, o_icge, o_aload0, o_virt2, o_ifne, o_ireturn, o_iinc2, o_goto, z0, z1, z2, z20, z31, runI_0, runI_c, runI_n, liftI_n, liftI_y, run_0, run_c, run_n, fxn, fxi, fxr, fxl, fxl0, ↓swi_n, ↓swi_c, nck0, nck1, nck2, nck3, List.length_cons, List.length_nil, Nat.reduceAdd, Nat.reduceSub, Nat.reduceLeDiff, Nat.reduceEqDiff, Nat.reduceLT, reduceIte, ite_true, ite_false, Nat.sub_zero, Nat.zero_le, true_and, and_true, and_self, true_or, or_true, if_true, if_false, true_implies, implies_true, not_true_eq_false, not_false_eq_true, false_implies, forall_const, ne_eq, or_self, and_false, false_and, Lt, Le, Eq', Cp, In, nI_add, nI_mul, nI_sub, nI_sub1, Neg0, bI_eq0, bI_eq1, bI_01, bft, up2_eq, up2_no, Bool.true_eq_false, Bool.false_eq_true, eq_self, m1_ne, m1_ne2, m1_lt, m1_le, lt_m1, m1_le2, bI_t, bI_f, LK_st, hd0])
        exact ih _ _
      · rw [takS_no hb, takL_f] at hQ
        have hQ := hQ I Eo.rf hA
        (apply WP_runI (lv := lvK) (F := LK) LK_ok 999 8; simp (disch := first | decide | omega) only [t36_0, lift_c, o_inl, o_istore, s1_0, s1_s, o_iload2, o_aload1, o_virt1, rpush_n, rpush_s, o_icge, o_aload0, o_virt2, o_ifne, o_ireturn, o_iinc2, o_goto, z0, z1, z2, z20, z31, runI_0, runI_c, runI_n, liftI_n, liftI_y, run_0, run_c, run_n, fxn, fxi, fxr, fxl, fxl0, ↓swi_n, ↓swi_c, nck0, nck1, nck2, nck3, List.length_cons, List.length_nil, Nat.reduceAdd, Nat.reduceSub, Nat.reduceLeDiff, Nat.reduceEqDiff, Nat.reduceLT, reduceIte, ite_true, ite_false, Nat.sub_zero, Nat.zero_le, true_and, and_true, and_self, true_or, or_true, if_true, if_false, true_implies, implies_true, not_true_eq_false, not_false_eq_true, false_implies, forall_const, ne_eq, or_self, and_false, false_and, Lt, Le, Eq', Cp, In, nI_add, nI_mul, nI_sub, nI_sub1, Neg0, bI_eq0, bI_eq1, bI_01, bft, up2_eq, up2_no, Bool.true_eq_false, Bool.false_eq_true, eq_self, m1_ne, m1_ne2, m1_lt, m1_le, lt_m1, m1_le2, bI_t, bI_f, LK_st, hd0])
        exact hQ
  have loop := fun cc ss => loop m 0 p I cc ss (by omega) hA hQ
  (apply WP_runI (lv := lvK) (F := LK) LK_ok 2 5; simp (disch := first | decide | omega) only [t36_0, lift_c, o_inl, o_istore, s1_0, s1_s, o_iload2, o_aload1, o_virt1, rpush_n, rpush_s, o_icge, o_aload0, o_virt2, o_ifne, o_ireturn, o_iinc2, o_goto, z0, z1, z2, z20, z31, runI_0, runI_c, runI_n, liftI_n, liftI_y, run_0, run_c, run_n, fxn, fxi, fxr, fxl, fxl0, ↓swi_n, ↓swi_c, nck0, nck1, nck2, nck3, List.length_cons, List.length_nil, Nat.reduceAdd, Nat.reduceSub, Nat.reduceLeDiff, Nat.reduceEqDiff, Nat.reduceLT, reduceIte, ite_true, ite_false, Nat.sub_zero, Nat.zero_le, true_and, and_true, and_self, true_or, or_true, if_true, if_false, true_implies, implies_true, not_true_eq_false, not_false_eq_true, false_implies, forall_const, ne_eq, or_self, and_false, false_and, Lt, Le, Eq', Cp, In, nI_add, nI_mul, nI_sub, nI_sub1, Neg0, bI_eq0, bI_eq1, bI_01, bft, up2_eq, up2_no, Bool.true_eq_false, Bool.false_eq_true, eq_self, m1_ne, m1_ne2, m1_lt, m1_le, lt_m1, m1_le2, bI_t, bI_f, LK_st, hd0])
  exact loop _ _
/-- the fortress that is being read -/
def QF (sh : TS) (P : TP) (q : Nat) : Prop := P 102 4 = q ∧ (q = 104 ∨ 143 ≤ q) ∧ sh q = (2, 5) ∧ P q 1 = q + 1 ∧ P q 2 = q + 2 ∧ P q 3 = q + 3 ∧ sh (q + 1) = (100, 100) ∧ sh (q + 2) = (100, 100) ∧ sh (q + 3) = (100, 100)
def SA (I : TI) (q : Nat) (a : List SP) : Prop := a.length ≤ 100 ∧ I q 4 = nI a.length ∧ ∀ j x, a[j]? = some x → I (q + 1) j = nI x.1 ∧ I (q + 2) j = nI x.2.1 ∧ I (q + 3) j = x.2.2
def rdF (q a j : Nat) : Prop := (a = q ∧ j = 4) ∨ (q + 1 ≤ a ∧ a ≤ q + 3)
theorem addF_K {q o k : Nat} {a : List SP} {v : Int32} (hq : QF sh P q) (hs : SA I q a) (ha : a.length < 100) (hQ : ∀ I', Eo (rdF q) I I' → SA I' q (a ++ [(o, k, v)]) → Q none n sh I' L P) : Cl G d 24 [.ref q, .int (nI o), .int (nI k), .int v] n sh I L P Q := by
  apply e24
  obtain ⟨-, q0, q1, q2, q3, q4, q5, q6, q7⟩ := hq
  obtain ⟨s1, s2, s3⟩ := hs
  have n0 : nle 20 q := by show 20 ≤ q; omega
  have n1 : nle 20 (q + 1) := by show 20 ≤ q + 1; omega
  have n2 : nle 20 (q + 2) := by show 20 ≤ q + 2; omega
  have n3 : nle 20 (q + 3) := by show 20 ≤ q + 3; omega
  have hQ := hQ (up2 (up2 (up2 (up2 I (q + 1) a.length (nI o)) (q + 2) a.length (nI k)) (q + 3) a.length v) q 4 (nI (a.length + 1))) ((((Eo.rf.up (by unfold rdF; omega) _).up (by unfold rdF; omega) _).up (by unfold rdF; omega) _).up (by unfold rdF; omega) _) ⟨by rw [List.length_append]; exact ha, by rw [up2_eq, List.length_append]; rfl, fun j x hx => by
    by_cases e : j < a.length
    · rw [List.getElem?_append_left e] at hx
      rw [up2_no _ _ _ _ _ _ (by omega), up2_no _ _ _ _ _ _ (by omega), up2_no _ _ _ _ _ _ (by omega), up2_no _ _ _ _ _ _ (by omega), up2_no _ _ _ _ _ _ (by omega), up2_no _ _ _ _ _ _ (by omega), up2_no _ _ _ _ _ _ (by omega), up2_no _ _ _ _ _ _ (by omega), up2_no _ _ _ _ _ _ (by omega), up2_no _ _ _ _ _ _ (by omega), up2_no _ _ _ _ _ _ (by omega), up2_no _ _ _ _ _ _ (by omega)]
      exact s3 j x hx
    · have ej : j = a.length := by
        by_cases e2 : j = a.length
        · exact e2
        · rw [List.getElem?_eq_none (by rw [List.length_append]; show a.length + 1 ≤ j; omega)] at hx
          cases hx
      subst ej
      rw [List.getElem?_concat_length] at hx
      cases hx
      refine ⟨?_, ?_, ?_⟩
      · rw [up2_no _ _ _ _ _ _ (by omega), up2_no _ _ _ _ _ _ (by omega), up2_no _ _ _ _ _ _ (by omega), up2_eq]
      · rw [up2_no _ _ _ _ _ _ (by omega), up2_no _ _ _ _ _ _ (by omega), up2_eq]
      · rw [up2_no _ _ _ _ _ _ (by omega), up2_eq]⟩
  generalize a.length = w at *
  have hw : ¬ 100 ≤ w := by omega
  (apply WP_runI (lv := lvK) (F := LK) LK_ok 999 60; simp (disch := first | decide | omega) only [t24_0, lift_c, o_aload0, o_getfield, o_inl, o_icge, o_getref, o_iload1, o_iastore, o_iload2, o_iload3, o_dupi, o_dupr, o_iadd, o_putfield, o_return, z0, z1, z2, z20, z31, z100, runI_0, runI_c, runI_n, liftI_n, liftI_y, run_0, run_c, run_n, fxn, fxi, fxr, fxl, fxl0, ↓swi_n, ↓swi_c, nck0, nck1, nck2, nck3, List.length_cons, List.length_nil, Nat.reduceAdd, Nat.reduceSub, Nat.reduceLeDiff, Nat.reduceEqDiff, Nat.reduceLT, reduceIte, ite_true, ite_false, Nat.sub_zero, Nat.zero_le, true_and, and_true, and_self, true_or, or_true, if_true, if_false, true_implies, implies_true, not_true_eq_false, not_false_eq_true, false_implies, forall_const, ne_eq, or_self, and_false, false_and, Lt, Le, Eq', Cp, In, nI_add, nI_mul, nI_sub, nI_sub1, Neg0, bI_eq0, bI_eq1, bI_01, bft, up2_eq, up2_no, Bool.true_eq_false, Bool.false_eq_true, eq_self, m1_ne, m1_ne2, m1_lt, m1_le, lt_m1, m1_le2, bI_t, bI_f, LK_st, q1, q2, q3, q4, q5, q6, q7, s2, hw, n0, n1, n2, n3])
  exact hQ
end
