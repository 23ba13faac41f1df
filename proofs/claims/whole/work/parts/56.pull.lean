/-! ### a yard: pull, where a goose goes -/
section
variable {G : GE} {d n : Nat} {sh : TS} {I : TI} {L : TL} {P : TP} {Q : TQ} {b : Nat} {N : TN} {F : TF} {E : Nat → Int32} {k g r : Nat}
theorem pull_F (hD : YD sh I P b N F E k g) (hW : WF N k g r) {i c : Nat} (hi : i < k) (hc : c < 8) (hd : 2 ≤ d) {s fl st : Int32} (hfl : fl = s - (if anoth N i c (cn N) = true then gs N i 1 else nI 0)) (hst : st = if gs N i 2 = nI c then s else nI 0) (hs : sumS F N i c = s)
    (hQ : Q (some (.int (pullS F N i c))) n sh I L P) {cc ss : Nat} : WP G 61 d Q 54 [some (.ref b), some (.int (nI i)), some (.int (nI c)), some (.ref (b + 6 + 2 * i)), some (.int s), some (.int fl), some (.int st)] [] cc ss n sh I L P := by
  have hY := hD.y
  have hk := hW.k6
  have hd0 : 0 < d := by omega
  have e0 := hD.geese i 0 hi (by omega)
  have e3 := hD.geese i 3 hi (by omega)
  have e5 := hD.rows i (c % 4) hi (by omega)
  have n2 : ¬ nI 2 = nI 0 := by decide
  have n4 : ¬ nI 4 = nI 0 := by decide
  have c4 : c - c / 4 * 4 = c % 4 := by omega
  have d4 : nI c / nI 4 = nI (c / 4) := nI_div c 4 (by omega) (by omega) (by omega)
  obtain ⟨u, hu, eu⟩ := hW.kind hi
  unfold pullS at hQ
  simp only at hQ
  rw [hs, ← hfl, ← hst] at hQ
  have hc7 : u = 0 ∨ u = 1 ∨ u = 2 ∨ u = 3 ∨ u = 4 ∨ u = 5 ∨ u = 6 := by omega
  rcases hc7 with rfl | rfl | rfl | rfl | rfl | rfl | rfl
  · rw [eu, if_neg (by decide), if_neg (by decide), if_neg (by decide), if_neg (by decide), if_neg (by decide), if_neg (by decide)] at hQ
    (apply WP_runI (lv := lvK) (F := LK) LK_ok 999 80; simp (disch := first | decide | omega) only [t61_0, t61_1, lift_c, o_aload0, o_getref, o_iload1, o_aaload, o_astore, s1_0, s1_s, o_iload2, o_virt3, rpush_n, rpush_s, o_istore, o_ifeq, o_iload4, o_aload3, o_getfield, o_isub, o_goto, o_icne, o_inl, o_lookup, o_iload5, o_ireturn, o_idiv, o_iload6, o_iadd, o_ifne, o_irem, o_iaload, z0, z1, z2, z3, z4, z5, z6, z10, z20, z31, runI_0, runI_c, runI_n, liftI_n, liftI_y, run_0, run_c, run_n, fxn, fxi, fxr, fxl, fxl0, ↓swi_n, ↓swi_c, nck0, nck1, nck2, nck3, List.length_cons, List.length_nil, Nat.reduceAdd, Nat.reduceSub, Nat.reduceLeDiff, Nat.reduceEqDiff, Nat.reduceLT, reduceIte, ite_true, ite_false, Nat.sub_zero, Nat.zero_le, true_and, and_true, and_self, true_or, or_true, if_true, if_false, true_implies, implies_true, not_true_eq_false, not_false_eq_true, false_implies, forall_const, ne_eq, or_self, and_false, false_and, Lt, Le, Eq', Cp, In, nI_add, nI_mul, nI_sub, nI_sub1, Neg0, bI_eq0, bI_eq1, bI_01, bft, up2_eq, up2_no, Bool.true_eq_false, Bool.false_eq_true, eq_self, m1_ne, m1_ne2, m1_lt, m1_le, lt_m1, m1_le2, bI_t, bI_f, LK_st, FYu hY, e0, eu, n2, n4, d4, c4])
    exact hQ
  · rw [eu, if_pos rfl] at hQ
    (apply WP_runI (lv := lvK) (F := LK) LK_ok 999 80; simp (disch := first | decide | omega) only [t61_0, t61_1, lift_c, o_aload0, o_getref, o_iload1, o_aaload, o_astore, s1_0, s1_s, o_iload2, o_virt3, rpush_n, rpush_s, o_istore, o_ifeq, o_iload4, o_aload3, o_getfield, o_isub, o_goto, o_icne, o_inl, o_lookup, o_iload5, o_ireturn, o_idiv, o_iload6, o_iadd, o_ifne, o_irem, o_iaload, z0, z1, z2, z3, z4, z5, z6, z10, z20, z31, runI_0, runI_c, runI_n, liftI_n, liftI_y, run_0, run_c, run_n, fxn, fxi, fxr, fxl, fxl0, ↓swi_n, ↓swi_c, nck0, nck1, nck2, nck3, List.length_cons, List.length_nil, Nat.reduceAdd, Nat.reduceSub, Nat.reduceLeDiff, Nat.reduceEqDiff, Nat.reduceLT, reduceIte, ite_true, ite_false, Nat.sub_zero, Nat.zero_le, true_and, and_true, and_self, true_or, or_true, if_true, if_false, true_implies, implies_true, not_true_eq_false, not_false_eq_true, false_implies, forall_const, ne_eq, or_self, and_false, false_and, Lt, Le, Eq', Cp, In, nI_add, nI_mul, nI_sub, nI_sub1, Neg0, bI_eq0, bI_eq1, bI_01, bft, up2_eq, up2_no, Bool.true_eq_false, Bool.false_eq_true, eq_self, m1_ne, m1_ne2, m1_lt, m1_le, lt_m1, m1_le2, bI_t, bI_f, LK_st, FYu hY, e0, eu, n2, n4, d4, c4])
    exact hQ
  · rw [eu, if_neg (by decide), if_pos rfl] at hQ
    (apply WP_runI (lv := lvK) (F := LK) LK_ok 999 80; simp (disch := first | decide | omega) only [t61_0, t61_1, lift_c, o_aload0, o_getref, o_iload1, o_aaload, o_astore, s1_0, s1_s, o_iload2, o_virt3, rpush_n, rpush_s, o_istore, o_ifeq, o_iload4, o_aload3, o_getfield, o_isub, o_goto, o_icne, o_inl, o_lookup, o_iload5, o_ireturn, o_idiv, o_iload6, o_iadd, o_ifne, o_irem, o_iaload, z0, z1, z2, z3, z4, z5, z6, z10, z20, z31, runI_0, runI_c, runI_n, liftI_n, liftI_y, run_0, run_c, run_n, fxn, fxi, fxr, fxl, fxl0, ↓swi_n, ↓swi_c, nck0, nck1, nck2, nck3, List.length_cons, List.length_nil, Nat.reduceAdd, Nat.reduceSub, Nat.reduceLeDiff, Nat.reduceEqDiff, Nat.reduceLT, reduceIte, ite_true, ite_false, Nat.sub_zero, Nat.zero_le, true_and, and_true, and_self, true_or, or_true, if_true, if_false, true_implies, implies_true, not_true_eq_false, not_false_eq_true, false_implies, forall_const, ne_eq, or_self, and_false, false_and, Lt, Le, Eq', Cp, In, nI_add, nI_mul, nI_sub, nI_sub1, Neg0, bI_eq0, bI_eq1, bI_01, bft, up2_eq, up2_no, Bool.true_eq_false, Bool.false_eq_true, eq_self, m1_ne, m1_ne2, m1_lt, m1_le, lt_m1, m1_le2, bI_t, bI_f, LK_st, FYu hY, e0, eu, n2, n4, d4, c4])
    exact hQ
  · rw [eu, if_neg (by decide), if_neg (by decide), if_pos rfl] at hQ
    (apply WP_runI (lv := lvK) (F := LK) LK_ok 999 80; simp (disch := first | decide | omega) only [t61_0, t61_1, lift_c, o_aload0, o_getref, o_iload1, o_aaload, o_astore, s1_0, s1_s, o_iload2, o_virt3, rpush_n, rpush_s, o_istore, o_ifeq, o_iload4, o_aload3, o_getfield, o_isub, o_goto, o_icne, o_inl, o_lookup, o_iload5, o_ireturn, o_idiv, o_iload6, o_iadd, o_ifne, o_irem, o_iaload, z0, z1, z2, z3, z4, z5, z6, z10, z20, z31, runI_0, runI_c, runI_n, liftI_n, liftI_y, run_0, run_c, run_n, fxn, fxi, fxr, fxl, fxl0, ↓swi_n, ↓swi_c, nck0, nck1, nck2, nck3, List.length_cons, List.length_nil, Nat.reduceAdd, Nat.reduceSub, Nat.reduceLeDiff, Nat.reduceEqDiff, Nat.reduceLT, reduceIte, ite_true, ite_false, Nat.sub_zero, Nat.zero_le, true_and, and_true, and_self, true_or, or_true, if_true, if_false, true_implies, implies_true, not_true_eq_false, not_false_eq_true, false_implies, forall_const, ne_eq, or_self, and_false, false_and, Lt, Le, Eq', Cp, In, nI_add, nI_mul, nI_sub, nI_sub1, Neg0, bI_eq0, bI_eq1, bI_01, bft, up2_eq, up2_no, Bool.true_eq_false, Bool.false_eq_true, eq_self, m1_ne, m1_ne2, m1_lt, m1_le, lt_m1, m1_le2, bI_t, bI_f, LK_st, FYu hY, e0, eu, n2, n4, d4, c4])
    exact hQ
  · rw [eu, if_neg (by decide), if_neg (by decide), if_neg (by decide), if_pos rfl] at hQ
    (apply WP_runI (lv := lvK) (F := LK) LK_ok 999 80; simp (disch := first | decide | omega) only [t61_0, t61_1, lift_c, o_aload0, o_getref, o_iload1, o_aaload, o_astore, s1_0, s1_s, o_iload2, o_virt3, rpush_n, rpush_s, o_istore, o_ifeq, o_iload4, o_aload3, o_getfield, o_isub, o_goto, o_icne, o_inl, o_lookup, o_iload5, o_ireturn, o_idiv, o_iload6, o_iadd, o_ifne, o_irem, o_iaload, z0, z1, z2, z3, z4, z5, z6, z10, z20, z31, runI_0, runI_c, runI_n, liftI_n, liftI_y, run_0, run_c, run_n, fxn, fxi, fxr, fxl, fxl0, ↓swi_n, ↓swi_c, nck0, nck1, nck2, nck3, List.length_cons, List.length_nil, Nat.reduceAdd, Nat.reduceSub, Nat.reduceLeDiff, Nat.reduceEqDiff, Nat.reduceLT, reduceIte, ite_true, ite_false, Nat.sub_zero, Nat.zero_le, true_and, and_true, and_self, true_or, or_true, if_true, if_false, true_implies, implies_true, not_true_eq_false, not_false_eq_true, false_implies, forall_const, ne_eq, or_self, and_false, false_and, Lt, Le, Eq', Cp, In, nI_add, nI_mul, nI_sub, nI_sub1, Neg0, bI_eq0, bI_eq1, bI_01, bft, up2_eq, up2_no, Bool.true_eq_false, Bool.false_eq_true, eq_self, m1_ne, m1_ne2, m1_lt, m1_le, lt_m1, m1_le2, bI_t, bI_f, LK_st, FYu hY, e0, e3, eu, n2, n4, d4, c4, hd0])
    refine isEnd_Y hD hW ?_
    cases h7 : endB N (gs N i 3) c with
    | false =>
      rw [h7, if_neg (by decide)] at hQ
      (apply WP_runI (lv := lvK) (F := LK) LK_ok 999 80; simp (disch := first | decide | omega) only [t61_0, t61_1, lift_c, o_aload0, o_getref, o_iload1, o_aaload, o_astore, s1_0, s1_s, o_iload2, o_virt3, rpush_n, rpush_s, o_istore, o_ifeq, o_iload4, o_aload3, o_getfield, o_isub, o_goto, o_icne, o_inl, o_lookup, o_iload5, o_ireturn, o_idiv, o_iload6, o_iadd, o_ifne, o_irem, o_iaload, z0, z1, z2, z3, z4, z5, z6, z10, z20, z31, runI_0, runI_c, runI_n, liftI_n, liftI_y, run_0, run_c, run_n, fxn, fxi, fxr, fxl, fxl0, ↓swi_n, ↓swi_c, nck0, nck1, nck2, nck3, List.length_cons, List.length_nil, Nat.reduceAdd, Nat.reduceSub, Nat.reduceLeDiff, Nat.reduceEqDiff, Nat.reduceLT, reduceIte, ite_true, ite_false, Nat.sub_zero, Nat.zero_le, true_and, and_true, and_self, true_or, or_true, if_true, if_false, true_implies, implies_true, not_true_eq_false, not_false_eq_true, false_implies, forall_const, ne_eq, or_self, and_false, false_and, Lt, Le, Eq', Cp, In, nI_add, nI_mul, nI_sub, nI_sub1, Neg0, bI_eq0, bI_eq1, bI_01, bft, up2_eq, up2_no, Bool.true_eq_false, Bool.false_eq_true, eq_self, m1_ne, m1_ne2, m1_lt, m1_le, lt_m1, m1_le2, bI_t, bI_f, LK_st, FYu hY, hd0])
      exact hQ
    | true =>
      rw [h7, if_pos rfl] at hQ
      (apply WP_runI (lv := lvK) (F := LK) LK_ok 999 80; simp (disch := first | decide | omega) only [t61_0, t61_1, lift_c, o_aload0, o_getref, o_iload1, o_aaload, o_astore, s1_0, s1_s, o_iload2, o_virt3, rpush_n, rpush_s, o_istore, o_ifeq, o_iload4, o_aload3, o_getfield, o_isub, o_goto, o_icne, o_inl, o_lookup, o_iload5, o_ireturn, o_idiv, o_iload6, o_iadd, o_ifne, o_irem, o_iaload, z0, z1, z2, z3, z4, z5, z6, z10, z20, z31, runI_0, runI_c, runI_n, liftI_n, liftI_y, run_0, run_c, run_n, fxn, fxi, fxr, fxl, fxl0, ↓swi_n, ↓swi_c, nck0, nck1, nck2, nck3, List.length_cons, List.length_nil, Nat.reduceAdd, Nat.reduceSub, Nat.reduceLeDiff, Nat.reduceEqDiff, Nat.reduceLT, reduceIte, ite_true, ite_false, Nat.sub_zero, Nat.zero_le, true_and, and_true, and_self, true_or, or_true, if_true, if_false, true_implies, implies_true, not_true_eq_false, not_false_eq_true, false_implies, forall_const, ne_eq, or_self, and_false, false_and, Lt, Le, Eq', Cp, In, nI_add, nI_mul, nI_sub, nI_sub1, Neg0, bI_eq0, bI_eq1, bI_01, bft, up2_eq, up2_no, Bool.true_eq_false, Bool.false_eq_true, eq_self, m1_ne, m1_ne2, m1_lt, m1_le, lt_m1, m1_le2, bI_t, bI_f, LK_st, FYu hY, hd0])
      exact hQ
  · rw [eu, if_neg (by decide), if_neg (by decide), if_neg (by decide), if_neg (by decide), if_pos rfl] at hQ
    by_cases h7 : c = 0
    · rw [if_pos h7] at hQ
      (apply WP_runI (lv := lvK) (F := LK) LK_ok 999 80; simp (disch := first | decide | omega) only [t61_0, t61_1, lift_c, o_aload0, o_getref, o_iload1, o_aaload, o_astore, s1_0, s1_s, o_iload2, o_virt3, rpush_n, rpush_s, o_istore, o_ifeq, o_iload4, o_aload3, o_getfield, o_isub, o_goto, o_icne, o_inl, o_lookup, o_iload5, o_ireturn, o_idiv, o_iload6, o_iadd, o_ifne, o_irem, o_iaload, z0, z1, z2, z3, z4, z5, z6, z10, z20, z31, runI_0, runI_c, runI_n, liftI_n, liftI_y, run_0, run_c, run_n, fxn, fxi, fxr, fxl, fxl0, ↓swi_n, ↓swi_c, nck0, nck1, nck2, nck3, List.length_cons, List.length_nil, Nat.reduceAdd, Nat.reduceSub, Nat.reduceLeDiff, Nat.reduceEqDiff, Nat.reduceLT, reduceIte, ite_true, ite_false, Nat.sub_zero, Nat.zero_le, true_and, and_true, and_self, true_or, or_true, if_true, if_false, true_implies, implies_true, not_true_eq_false, not_false_eq_true, false_implies, forall_const, ne_eq, or_self, and_false, false_and, Lt, Le, Eq', Cp, In, nI_add, nI_mul, nI_sub, nI_sub1, Neg0, bI_eq0, bI_eq1, bI_01, bft, up2_eq, up2_no, Bool.true_eq_false, Bool.false_eq_true, eq_self, m1_ne, m1_ne2, m1_lt, m1_le, lt_m1, m1_le2, bI_t, bI_f, LK_st, FYu hY, e0, eu, n2, n4, d4, c4, h7])
      exact hQ
    · rw [if_neg h7] at hQ
      (apply WP_runI (lv := lvK) (F := LK) LK_ok 999 80; simp (disch := first | decide | omega) only [t61_0, t61_1, lift_c, o_aload0, o_getref, o_iload1, o_aaload, o_astore, s1_0, s1_s, o_iload2, o_virt3, rpush_n, rpush_s, o_istore, o_ifeq, o_iload4, o_aload3, o_getfield, o_isub, o_goto, o_icne, o_inl, o_lookup, o_iload5, o_ireturn, o_idiv, o_iload6, o_iadd, o_ifne, o_irem, o_iaload, z0, z1, z2, z3, z4, z5, z6, z10, z20, z31, runI_0, runI_c, runI_n, liftI_n, liftI_y, run_0, run_c, run_n, fxn, fxi, fxr, fxl, fxl0, ↓swi_n, ↓swi_c, nck0, nck1, nck2, nck3, List.length_cons, List.length_nil, Nat.reduceAdd, Nat.reduceSub, Nat.reduceLeDiff, Nat.reduceEqDiff, Nat.reduceLT, reduceIte, ite_true, ite_false, Nat.sub_zero, Nat.zero_le, true_and, and_true, and_self, true_or, or_true, if_true, if_false, true_implies, implies_true, not_true_eq_false, not_false_eq_true, false_implies, forall_const, ne_eq, or_self, and_false, false_and, Lt, Le, Eq', Cp, In, nI_add, nI_mul, nI_sub, nI_sub1, Neg0, bI_eq0, bI_eq1, bI_01, bft, up2_eq, up2_no, Bool.true_eq_false, Bool.false_eq_true, eq_self, m1_ne, m1_ne2, m1_lt, m1_le, lt_m1, m1_le2, bI_t, bI_f, LK_st, FYu hY, e0, eu, n2, n4, d4, c4, h7])
      exact hQ
  · rw [eu, if_neg (by decide), if_neg (by decide), if_neg (by decide), if_neg (by decide), if_neg (by decide), if_pos rfl] at hQ
    (apply WP_runI (lv := lvK) (F := LK) LK_ok 999 80; simp (disch := first | decide | omega) only [t61_0, t61_1, lift_c, o_aload0, o_getref, o_iload1, o_aaload, o_astore, s1_0, s1_s, o_iload2, o_virt3, rpush_n, rpush_s, o_istore, o_ifeq, o_iload4, o_aload3, o_getfield, o_isub, o_goto, o_icne, o_inl, o_lookup, o_iload5, o_ireturn, o_idiv, o_iload6, o_iadd, o_ifne, o_irem, o_iaload, z0, z1, z2, z3, z4, z5, z6, z10, z20, z31, runI_0, runI_c, runI_n, liftI_n, liftI_y, run_0, run_c, run_n, fxn, fxi, fxr, fxl, fxl0, ↓swi_n, ↓swi_c, nck0, nck1, nck2, nck3, List.length_cons, List.length_nil, Nat.reduceAdd, Nat.reduceSub, Nat.reduceLeDiff, Nat.reduceEqDiff, Nat.reduceLT, reduceIte, ite_true, ite_false, Nat.sub_zero, Nat.zero_le, true_and, and_true, and_self, true_or, or_true, if_true, if_false, true_implies, implies_true, not_true_eq_false, not_false_eq_true, false_implies, forall_const, ne_eq, or_self, and_false, false_and, Lt, Le, Eq', Cp, In, nI_add, nI_mul, nI_sub, nI_sub1, Neg0, bI_eq0, bI_eq1, bI_01, bft, up2_eq, up2_no, Bool.true_eq_false, Bool.false_eq_true, eq_self, m1_ne, m1_ne2, m1_lt, m1_le, lt_m1, m1_le2, bI_t, bI_f, LK_st, FYu hY, e0, e5, eu, n2, n4, d4, c4])
    exact hQ
theorem pull_Y (hD : YD sh I P b N F E k g) (hW : WF N k g r) (hb : 20 ≤ b ∧ b ≤ 84) {i c : Nat} (hi : i < k) (hc : c < 8) (hd : 3 ≤ d) (hQ : ∀ I', Eo (scV b) I I' → Q (some (.int (pullS F N i c))) n sh I' L P) : Cl G d 61 [.ref b, .int (nI i), .int (nI c)] n sh I L P Q := by
  apply e61
  have hY := hD.y
  have hk := hW.k6
  have hd0 : 0 < d := by omega
  (apply WP_runI (lv := lvK) (F := LK) LK_ok 999 80; simp (disch := first | decide | omega) only [t61_0, t61_1, lift_c, o_aload0, o_getref, o_iload1, o_aaload, o_astore, s1_0, s1_s, o_iload2, o_virt3, rpush_n, rpush_s, o_istore, o_ifeq, o_iload4, o_aload3, o_getfield, o_isub, o_goto, o_icne, o_inl, o_lookup, o_iload5, o_ireturn, o_idiv, o_iload6, o_iadd, o_ifne, o_irem, o_iaload, z0, z1, z2, z3, z4, z5, z6, z10, z20, z31, runI_0, runI_c, runI_n, liftI_n, liftI_y, run_0, run_c, run_n, fxn, fxi, fxr, fxl, fxl0, ↓swi_n, ↓swi_c, nck0, nck1, nck2, nck3, List.length_cons, List.length_nil, Nat.reduceAdd, Nat.reduceSub, Nat.reduceLeDiff, Nat.reduceEqDiff, Nat.reduceLT, reduceIte, ite_true, ite_false, Nat.sub_zero, Nat.zero_le, true_and, and_true, and_self, true_or, or_true, if_true, if_false, true_implies, implies_true, not_true_eq_false, not_false_eq_true, false_implies, forall_const, ne_eq, or_self, and_false, false_and, Lt, Le, Eq', Cp, In, nI_add, nI_mul, nI_sub, nI_sub1, Neg0, bI_eq0, bI_eq1, bI_01, bft, up2_eq, up2_no, Bool.true_eq_false, Bool.false_eq_true, eq_self, m1_ne, m1_ne2, m1_lt, m1_le, lt_m1, m1_le2, bI_t, bI_f, LK_st, FYu hY, hd0])
  refine sum_Y hD hW hb hi hc (by omega) fun I1 he1 => ?_
  have hD1 := hD.eo hk he1 fun c j q => scV_y hb.2 q
  have hQ := hQ I1 he1
  generalize hs : sumS F N i c = s
  have e1 := hD1.geese i 1 hi (by omega)
  have e2 := hD1.geese i 2 hi (by omega)
  (apply WP_runI (lv := lvK) (F := LK) LK_ok 999 80; simp (disch := first | decide | omega) only [t61_0, t61_1, lift_c, o_aload0, o_getref, o_iload1, o_aaload, o_astore, s1_0, s1_s, o_iload2, o_virt3, rpush_n, rpush_s, o_istore, o_ifeq, o_iload4, o_aload3, o_getfield, o_isub, o_goto, o_icne, o_inl, o_lookup, o_iload5, o_ireturn, o_idiv, o_iload6, o_iadd, o_ifne, o_irem, o_iaload, z0, z1, z2, z3, z4, z5, z6, z10, z20, z31, runI_0, runI_c, runI_n, liftI_n, liftI_y, run_0, run_c, run_n, fxn, fxi, fxr, fxl, fxl0, ↓swi_n, ↓swi_c, nck0, nck1, nck2, nck3, List.length_cons, List.length_nil, Nat.reduceAdd, Nat.reduceSub, Nat.reduceLeDiff, Nat.reduceEqDiff, Nat.reduceLT, reduceIte, ite_true, ite_false, Nat.sub_zero, Nat.zero_le, true_and, and_true, and_self, true_or, or_true, if_true, if_false, true_implies, implies_true, not_true_eq_false, not_false_eq_true, false_implies, forall_const, ne_eq, or_self, and_false, false_and, Lt, Le, Eq', Cp, In, nI_add, nI_mul, nI_sub, nI_sub1, Neg0, bI_eq0, bI_eq1, bI_01, bft, up2_eq, up2_no, Bool.true_eq_false, Bool.false_eq_true, eq_self, m1_ne, m1_ne2, m1_lt, m1_le, lt_m1, m1_le2, bI_t, bI_f, LK_st, FYu hY, hd0])
  refine isOther_Y hD1 hW hi hc ?_
  have fin := fun fl st hfl hst cc ss => pull_F (G := G) (d := d) (n := n) (L := L) (Q := Q) hD1 hW hi hc (by omega) (s := s) (fl := fl) (st := st) hfl hst hs hQ (cc := cc) (ss := ss)
  clear hQ hs
  rw [hW.cn] at fin
  cases ha : anoth N i c k with
  | false =>
    rw [ha] at fin
    by_cases h2 : gs N i 2 = nI c
    · have fin := fun cc ss => fin s s (by rw [if_neg (by decide)]; exact (Int32.sub_zero s).symm) (by rw [if_pos h2]) cc ss
      (apply WP_runI (lv := lvK) (F := LK) LK_ok 54 80; simp (disch := first | decide | omega) only [t61_0, t61_1, lift_c, o_aload0, o_getref, o_iload1, o_aaload, o_astore, s1_0, s1_s, o_iload2, o_virt3, rpush_n, rpush_s, o_istore, o_ifeq, o_iload4, o_aload3, o_getfield, o_isub, o_goto, o_icne, o_inl, o_lookup, o_iload5, o_ireturn, o_idiv, o_iload6, o_iadd, o_ifne, o_irem, o_iaload, z0, z1, z2, z3, z4, z5, z6, z10, z20, z31, runI_0, runI_c, runI_n, liftI_n, liftI_y, run_0, run_c, run_n, fxn, fxi, fxr, fxl, fxl0, ↓swi_n, ↓swi_c, nck0, nck1, nck2, nck3, List.length_cons, List.length_nil, Nat.reduceAdd, Nat.reduceSub, Nat.reduceLeDiff, Nat.reduceEqDiff, Nat.reduceLT, reduceIte, ite_true, ite_false, Nat.sub_zero, Nat.zero_le, true_and, and_true, and_self, true_or, or_true, if_true, if_false, true_implies, implies_true, not_true_eq_false, not_false_eq_true, false_implies, forall_const, ne_eq, or_self, and_false, false_and, Lt, Le, Eq', Cp, In, nI_add, nI_mul, nI_sub, nI_sub1, Neg0, bI_eq0, bI_eq1, bI_01, bft, up2_eq, up2_no, Bool.true_eq_false, Bool.false_eq_true, eq_self, m1_ne, m1_ne2, m1_lt, m1_le, lt_m1, m1_le2, bI_t, bI_f, LK_st, FYu hY, hd0, e1, e2, h2])
      exact fin _ _
    · have fin := fun cc ss => fin s (nI 0) (by rw [if_neg (by decide)]; exact (Int32.sub_zero s).symm) (by rw [if_neg h2]) cc ss
      (apply WP_runI (lv := lvK) (F := LK) LK_ok 54 80; simp (disch := first | decide | omega) only [t61_0, t61_1, lift_c, o_aload0, o_getref, o_iload1, o_aaload, o_astore, s1_0, s1_s, o_iload2, o_virt3, rpush_n, rpush_s, o_istore, o_ifeq, o_iload4, o_aload3, o_getfield, o_isub, o_goto, o_icne, o_inl, o_lookup, o_iload5, o_ireturn, o_idiv, o_iload6, o_iadd, o_ifne, o_irem, o_iaload, z0, z1, z2, z3, z4, z5, z6, z10, z20, z31, runI_0, runI_c, runI_n, liftI_n, liftI_y, run_0, run_c, run_n, fxn, fxi, fxr, fxl, fxl0, ↓swi_n, ↓swi_c, nck0, nck1, nck2, nck3, List.length_cons, List.length_nil, Nat.reduceAdd, Nat.reduceSub, Nat.reduceLeDiff, Nat.reduceEqDiff, Nat.reduceLT, reduceIte, ite_true, ite_false, Nat.sub_zero, Nat.zero_le, true_and, and_true, and_self, true_or, or_true, if_true, if_false, true_implies, implies_true, not_true_eq_false, not_false_eq_true, false_implies, forall_const, ne_eq, or_self, and_false, false_and, Lt, Le, Eq', Cp, In, nI_add, nI_mul, nI_sub, nI_sub1, Neg0, bI_eq0, bI_eq1, bI_01, bft, up2_eq, up2_no, Bool.true_eq_false, Bool.false_eq_true, eq_self, m1_ne, m1_ne2, m1_lt, m1_le, lt_m1, m1_le2, bI_t, bI_f, LK_st, FYu hY, hd0, e1, e2, h2])
      exact fin _ _
  | true =>
    rw [ha] at fin
    by_cases h2 : gs N i 2 = nI c
    · have fin := fun cc ss => fin (s - gs N i 1) s (by rw [if_pos rfl]) (by rw [if_pos h2]) cc ss
      (apply WP_runI (lv := lvK) (F := LK) LK_ok 54 80; simp (disch := first | decide | omega) only [t61_0, t61_1, lift_c, o_aload0, o_getref, o_iload1, o_aaload, o_astore, s1_0, s1_s, o_iload2, o_virt3, rpush_n, rpush_s, o_istore, o_ifeq, o_iload4, o_aload3, o_getfield, o_isub, o_goto, o_icne, o_inl, o_lookup, o_iload5, o_ireturn, o_idiv, o_iload6, o_iadd, o_ifne, o_irem, o_iaload, z0, z1, z2, z3, z4, z5, z6, z10, z20, z31, runI_0, runI_c, runI_n, liftI_n, liftI_y, run_0, run_c, run_n, fxn, fxi, fxr, fxl, fxl0, ↓swi_n, ↓swi_c, nck0, nck1, nck2, nck3, List.length_cons, List.length_nil, Nat.reduceAdd, Nat.reduceSub, Nat.reduceLeDiff, Nat.reduceEqDiff, Nat.reduceLT, reduceIte, ite_true, ite_false, Nat.sub_zero, Nat.zero_le, true_and, and_true, and_self, true_or, or_true, if_true, if_false, true_implies, implies_true, not_true_eq_false, not_false_eq_true, false_implies, forall_const, ne_eq, or_self, and_false, false_and, Lt, Le, Eq', Cp, In, nI_add, nI_mul, nI_sub, nI_sub1, Neg0, bI_eq0, bI_eq1, bI_01, bft, up2_eq, up2_no, Bool.true_eq_false, Bool.false_eq_true, eq_self, m1_ne, m1_ne2, m1_lt, m1_le, lt_m1, m1_le2, bI_t, bI_f, LK_st, FYu hY, hd0, e1, e2, h2])
      exact fin _ _
    · have fin := fun cc ss => fin (s - gs N i 1) (nI 0) (by rw [if_pos rfl]) (by rw [if_neg h2]) cc ss
      (apply WP_runI (lv := lvK) (F := LK) LK_ok 54 80; simp (disch := first | decide | omega) only [t61_0, t61_1, lift_c, o_aload0, o_getref, o_iload1, o_aaload, o_astore, s1_0, s1_s, o_iload2, o_virt3, rpush_n, rpush_s, o_istore, o_ifeq, o_iload4, o_aload3, o_getfield, o_isub, o_goto, o_icne, o_inl, o_lookup, o_iload5, o_ireturn, o_idiv, o_iload6, o_iadd, o_ifne, o_irem, o_iaload, z0, z1, z2, z3, z4, z5, z6, z10, z20, z31, runI_0, runI_c, runI_n, liftI_n, liftI_y, run_0, run_c, run_n, fxn, fxi, fxr, fxl, fxl0, ↓swi_n, ↓swi_c, nck0, nck1, nck2, nck3, List.length_cons, List.length_nil, Nat.reduceAdd, Nat.reduceSub, Nat.reduceLeDiff, Nat.reduceEqDiff, Nat.reduceLT, reduceIte, ite_true, ite_false, Nat.sub_zero, Nat.zero_le, true_and, and_true, and_self, true_or, or_true, if_true, if_false, true_implies, implies_true, not_true_eq_false, not_false_eq_true, false_implies, forall_const, ne_eq, or_self, and_false, false_and, Lt, Le, Eq', Cp, In, nI_add, nI_mul, nI_sub, nI_sub1, Neg0, bI_eq0, bI_eq1, bI_01, bft, up2_eq, up2_no, Bool.true_eq_false, Bool.false_eq_true, eq_self, m1_ne, m1_ne2, m1_lt, m1_le, lt_m1, m1_le2, bI_t, bI_f, LK_st, FYu hY, hd0, e1, e2, h2])
      exact fin _ _
end
/-! bits -/
theorem sm32 : ∀ c, c < 32 → ((nI c &&& nI 31).toBitVec.smod 32) = BitVec.ofNat 32 c := by decide +kernel
theorem bt_bit (x : Int32) {c : Nat} (hc : c < 32) : bt x (nI c) = x.toBitVec.getLsbD c := by
  have h1 : (x >>> (nI c &&& nI 31)).toBitVec = x.toBitVec.sshiftRight c := by
    rw [Int32.toBitVec_shiftRight]
    have e := sm32 c hc
    rw [e]
    show x.toBitVec.sshiftRight (BitVec.ofNat 32 c).toNat = _
    rw [BitVec.toNat_ofNat, Nat.mod_eq_of_lt (by omega)]
  have h2 : (x >>> (nI c &&& nI 31)).toBitVec.getLsbD 0 = x.toBitVec.getLsbD c := by
    rw [h1, BitVec.getLsbD_sshiftRight, if_pos (by omega)]
    simp
  have h3 : ((x >>> (nI c &&& nI 31)) &&& nI 1) = bI (x.toBitVec.getLsbD c) := by
    apply Int32.toBitVec_inj.mp
    have h4 : ((x >>> (nI c &&& nI 31)) &&& nI 1).toBitVec = BitVec.setWidth 32 (BitVec.ofBool ((x >>> (nI c &&& nI 31)).toBitVec.getLsbD 0)) := by
      show (x >>> (nI c &&& nI 31)).toBitVec &&& 1#32 = _
      exact BitVec.and_one_eq_setWidth_ofBool_getLsbD
    rw [h4, h2]
    cases x.toBitVec.getLsbD c <;> rfl
  unfold bt
  rw [h3]
  cases x.toBitVec.getLsbD c <;> decide
theorem p2_bit {e c : Nat} (he : e < 32) (hc : c < 32) : (p2 (nI e)).toBitVec.getLsbD c = decide (e = c) := by
  unfold p2
  rw [Int32.toBitVec_shiftLeft, sm32 e he]
  show ((1#32) <<< (BitVec.ofNat 32 e).toNat).getLsbD c = _
  rw [BitVec.toNat_ofNat, Nat.mod_eq_of_lt (by omega), BitVec.getLsbD_shiftLeft, BitVec.getLsbD_one]
  by_cases h : e = c
  · subst h
    rw [decide_eq_true hc, decide_eq_false (Nat.lt_irrefl e), Nat.sub_self, decide_eq_true (show e = e from rfl)]
    decide
  · by_cases h2 : c < e
    · rw [decide_eq_true h2, decide_eq_false h, Bool.not_true, Bool.and_false, Bool.false_and]
    · rw [decide_eq_false h, decide_eq_false (show ¬ c - e = 0 by omega), Bool.and_false, Bool.and_false]
theorem or_bit (x y : Int32) (c : Nat) : (x ||| y).toBitVec.getLsbD c = (x.toBitVec.getLsbD c || y.toBitVec.getLsbD c) := by
  rw [Int32.toBitVec_or, BitVec.getLsbD_or]
theorem n0_bit (c : Nat) : (nI 0).toBitVec.getLsbD c = false := by
  show (0#32).getLsbD c = _
  rw [BitVec.getLsbD_zero]
theorem m1_bit {c : Nat} (hc : c < 32) : (-nI 1 : Int32).toBitVec.getLsbD c = true := by
  have e : (-nI 1 : Int32).toBitVec = BitVec.allOnes 32 := by decide
  rw [e, BitVec.getLsbD_allOnes]
  simpa using hc
theorem near_bit {N : TN} {k g r h c : Nat} (hW : WF N k g r) (hh : h < 8) (hc : c < 8) : ∀ j, j ≤ g → (bydL N (-nI 1) (p2 (nI h)) j).toBitVec.getLsbD c = anyB (byd N h c) j
  | 0, _ => n0_bit c
  | j + 1, hj => by
    have ih := near_bit hW hh hc j (by omega)
    have hg := hW.g9
    obtain ⟨u, hu, eu⟩ := hW.ends (j := j) (w := 0) (by omega) (by omega)
    obtain ⟨v, hv, ev⟩ := hW.ends (j := j) (w := 1) (by omega) (by omega)
    have t0 : (twF N (-nI 1) (p2 (nI h)) j 0).toBitVec.getLsbD c = (decide (h = u) && decide (v = c)) := by
      unfold twF
      rw [eu, bt_bit _ (by omega), bt_bit _ (by omega), m1_bit (by omega), p2_bit (by omega) (by omega)]
      by_cases e : h = u
      · rw [if_pos ⟨rfl, by simpa using e⟩, show 1 - 0 = 1 from rfl, ev, p2_bit (by omega) (by omega)]
        simp [e]
      · rw [if_neg (by simpa using e), n0_bit]
        simp [e]
    have t1 : (twF N (-nI 1) (p2 (nI h)) j 1).toBitVec.getLsbD c = (decide (h = v) && decide (u = c)) := by
      unfold twF
      rw [ev, bt_bit _ (by omega), bt_bit _ (by omega), m1_bit (by omega), p2_bit (by omega) (by omega)]
      by_cases e : h = v
      · rw [if_pos ⟨rfl, by simpa using e⟩, show 1 - 1 = 0 from rfl, eu, p2_bit (by omega) (by omega)]
        simp [e]
      · rw [if_neg (by simpa using e), n0_bit]
        simp [e]
    rw [bydL, or_bit, or_bit, ih, t0, t1, anyB, Bool.or_assoc]
    congr 1
    unfold byd
    rw [eu, ev]
    simp only [Eq' u h (by omega) (by omega), Eq' v h (by omega) (by omega), Eq' v c (by omega) (by omega), Eq' u c (by omega) (by omega)]
    by_cases e1 : u = h
    · by_cases e2 : v = h
      · simp [e1, e2]
      · simp [e1, e2]
        intro e3
        exact absurd e3.symm e2
    · by_cases e2 : v = h
      · simp [e1, e2]
        intro e3
        exact absurd e3.symm e1
      · have e3 : ¬ h = u := fun e => e1 e.symm
        have e4 : ¬ h = v := fun e => e2 e.symm
        simp [e1, e2, e3, e4]
