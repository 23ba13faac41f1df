/-! ### pairs: count, trace, looked -/
def lookS (N : TN) : Nat → Nat → Int32
  | 0, _ => -nI 5
  | m + 1, j => if N (N (122 + 2 * j)).toNatClampNeg = N (123 + 2 * j) then lookS N m (j + 1) else nI j
section
variable {G : GE} {d : Nat}
theorem count_P (hd : 50 ≤ d) (x : Int32) : PAIR G d 97 193 [.ref 20, .int x] [.ref 123, .int x] := by
  intro n sh I L P Q hI hQ
  obtain ⟨F, E, k, g, r, hI⟩ := hI
  apply e97
  apply WP_SF
  intro hSF
  have hs2 := hSF.2.2.1
  have hB := hI.cb
  have hG := hB.fg
  have hY22 := hB.y22
  have hY84 := hB.y84
  have h22 : sh 22 = (8, 9) := (FY22u hY22).1
  have hd0 : 0 < d := by omega
  have hk := hI.2.2.1.1.k6
  have hg9 := hI.2.2.1.1.g9
  have hWe := hI.2.2.1.we
  have hF := hI.1
  have h5 := hB.count
  obtain ⟨z, t1, t2, t3, -⟩ := hI.2.2.2.2.2.2.2.2.1
  obtain ⟨a, x1, x2, x3, -⟩ := hI.2.2.2.2.2.2.2.2.2.1
  have hr40 := FR40 hB.r40
  have hr44 := FR44 hB.r44
  have hr48 := FR48 hB.r48
  by_cases e0 : x = nI 0
  · subst e0
    have f1 := hB.2.1.count
    have f2 := hB.2.2.1.n80
    have hQ := hQ (nI k) n sh I L P fun Q2 h2 => by
      refine ⟨(FMu hI.1).1, ?_⟩
      have h2 := h2 _ _ _ _ _ ⟨F, E, k, g, r, hI⟩
      apply e193
      (apply WP_runI (lv := lvM) LM_ok 999 20; simp (disch := first | decide | omega) only [t193_0, lift_c, o_iload1, o_lookup, o_aload0, o_getref, o_inl, o_iaload, o_ireturn, o_getfield, z0, z1, z2, z3, z4, z5, z6, z7, z20, z31, z80, z81, z84, z100, z121, runI_0, runI_c, runI_n, liftI_n, liftI_y, run_0, run_c, run_n, fxn, fxi, fxr, fxl, fxl0, ↓swi_n, ↓swi_c, nck0, nck1, nck2, nck3, List.length_cons, List.length_nil, Nat.reduceAdd, Nat.reduceSub, Nat.reduceLeDiff, Nat.reduceEqDiff, Nat.reduceLT, reduceIte, ite_true, ite_false, Nat.sub_zero, Nat.zero_le, true_and, and_true, and_self, true_or, or_true, if_true, if_false, true_implies, implies_true, not_true_eq_false, not_false_eq_true, false_implies, forall_const, ne_eq, or_self, and_false, false_and, Lt, Le, Eq', Cp, In, nI_add, nI_mul, nI_sub, nI_sub1, Neg0, bI_eq0, bI_eq1, bI_01, bft, up2_eq, up2_no, Bool.true_eq_false, Bool.false_eq_true, eq_self, m1_ne, m1_ne2, m1_lt, m1_le, lt_m1, m1_le2, bI_t, bI_f, LM_all hF, FMu hF, f2])
      exact h2
    (apply WP_runI (lv := lvK) (F := LK) LK_ok 999 20; simp (disch := first | decide | omega) only [t97_0, lift_c, o_iload1, o_lookup, o_aload0, o_getref, o_getfield, o_ireturn, o_inl, z0, z1, z2, z3, z4, z5, z6, z7, z20, z31, runI_0, runI_c, runI_n, liftI_n, liftI_y, run_0, run_c, run_n, fxn, fxi, fxr, fxl, fxl0, ↓swi_n, ↓swi_c, nck0, nck1, nck2, nck3, List.length_cons, List.length_nil, Nat.reduceAdd, Nat.reduceSub, Nat.reduceLeDiff, Nat.reduceEqDiff, Nat.reduceLT, reduceIte, ite_true, ite_false, Nat.sub_zero, Nat.zero_le, true_and, and_true, and_self, true_or, or_true, if_true, if_false, true_implies, implies_true, not_true_eq_false, not_false_eq_true, false_implies, forall_const, ne_eq, or_self, and_false, false_and, Lt, Le, Eq', Cp, In, nI_add, nI_mul, nI_sub, nI_sub1, Neg0, bI_eq0, bI_eq1, bI_01, bft, up2_eq, up2_no, Bool.true_eq_false, Bool.false_eq_true, eq_self, m1_ne, m1_ne2, m1_lt, m1_le, lt_m1, m1_le2, bI_t, bI_f, LK_st, FGu hG, LK_g hG h22 hs2, FY22u hY22, hr40, hr44, hr48, f1, hd0])
    exact hQ
  by_cases e1 : x = nI 1
  · subst e1
    have f1 := hB.2.1.gates
    have f2 := hB.2.2.1.n81
    have hQ := hQ (nI g) n sh I L P fun Q2 h2 => by
      refine ⟨(FMu hI.1).1, ?_⟩
      have h2 := h2 _ _ _ _ _ ⟨F, E, k, g, r, hI⟩
      apply e193
      (apply WP_runI (lv := lvM) LM_ok 999 20; simp (disch := first | decide | omega) only [t193_0, lift_c, o_iload1, o_lookup, o_aload0, o_getref, o_inl, o_iaload, o_ireturn, o_getfield, z0, z1, z2, z3, z4, z5, z6, z7, z20, z31, z80, z81, z84, z100, z121, runI_0, runI_c, runI_n, liftI_n, liftI_y, run_0, run_c, run_n, fxn, fxi, fxr, fxl, fxl0, ↓swi_n, ↓swi_c, nck0, nck1, nck2, nck3, List.length_cons, List.length_nil, Nat.reduceAdd, Nat.reduceSub, Nat.reduceLeDiff, Nat.reduceEqDiff, Nat.reduceLT, reduceIte, ite_true, ite_false, Nat.sub_zero, Nat.zero_le, true_and, and_true, and_self, true_or, or_true, if_true, if_false, true_implies, implies_true, not_true_eq_false, not_false_eq_true, false_implies, forall_const, ne_eq, or_self, and_false, false_and, Lt, Le, Eq', Cp, In, nI_add, nI_mul, nI_sub, nI_sub1, Neg0, bI_eq0, bI_eq1, bI_01, bft, up2_eq, up2_no, Bool.true_eq_false, Bool.false_eq_true, eq_self, m1_ne, m1_ne2, m1_lt, m1_le, lt_m1, m1_le2, bI_t, bI_f, LM_all hF, FMu hF, f2])
      exact h2
    (apply WP_runI (lv := lvK) (F := LK) LK_ok 999 20; simp (disch := first | decide | omega) only [t97_0, lift_c, o_iload1, o_lookup, o_aload0, o_getref, o_getfield, o_ireturn, o_inl, z0, z1, z2, z3, z4, z5, z6, z7, z20, z31, runI_0, runI_c, runI_n, liftI_n, liftI_y, run_0, run_c, run_n, fxn, fxi, fxr, fxl, fxl0, ↓swi_n, ↓swi_c, nck0, nck1, nck2, nck3, List.length_cons, List.length_nil, Nat.reduceAdd, Nat.reduceSub, Nat.reduceLeDiff, Nat.reduceEqDiff, Nat.reduceLT, reduceIte, ite_true, ite_false, Nat.sub_zero, Nat.zero_le, true_and, and_true, and_self, true_or, or_true, if_true, if_false, true_implies, implies_true, not_true_eq_false, not_false_eq_true, false_implies, forall_const, ne_eq, or_self, and_false, false_and, Lt, Le, Eq', Cp, In, nI_add, nI_mul, nI_sub, nI_sub1, Neg0, bI_eq0, bI_eq1, bI_01, bft, up2_eq, up2_no, Bool.true_eq_false, Bool.false_eq_true, eq_self, m1_ne, m1_ne2, m1_lt, m1_le, lt_m1, m1_le2, bI_t, bI_f, LK_st, FGu hG, LK_g hG h22 hs2, FY22u hY22, hr40, hr44, hr48, f1, hd0])
    exact hQ
  by_cases e2 : x = nI 2
  · subst e2
    have f1 := hI.2.2.2.2.2.2.2.1.1
    have f2 := hI.2.2.2.2.2.2.2.1.2
    have hQ := hQ (nI r) n sh I L P fun Q2 h2 => by
      refine ⟨(FMu hI.1).1, ?_⟩
      have h2 := h2 _ _ _ _ _ ⟨F, E, k, g, r, hI⟩
      apply e193
      (apply WP_runI (lv := lvM) LM_ok 999 20; simp (disch := first | decide | omega) only [t193_0, lift_c, o_iload1, o_lookup, o_aload0, o_getref, o_inl, o_iaload, o_ireturn, o_getfield, z0, z1, z2, z3, z4, z5, z6, z7, z20, z31, z80, z81, z84, z100, z121, runI_0, runI_c, runI_n, liftI_n, liftI_y, run_0, run_c, run_n, fxn, fxi, fxr, fxl, fxl0, ↓swi_n, ↓swi_c, nck0, nck1, nck2, nck3, List.length_cons, List.length_nil, Nat.reduceAdd, Nat.reduceSub, Nat.reduceLeDiff, Nat.reduceEqDiff, Nat.reduceLT, reduceIte, ite_true, ite_false, Nat.sub_zero, Nat.zero_le, true_and, and_true, and_self, true_or, or_true, if_true, if_false, true_implies, implies_true, not_true_eq_false, not_false_eq_true, false_implies, forall_const, ne_eq, or_self, and_false, false_and, Lt, Le, Eq', Cp, In, nI_add, nI_mul, nI_sub, nI_sub1, Neg0, bI_eq0, bI_eq1, bI_01, bft, up2_eq, up2_no, Bool.true_eq_false, Bool.false_eq_true, eq_self, m1_ne, m1_ne2, m1_lt, m1_le, lt_m1, m1_le2, bI_t, bI_f, LM_all hF, FMu hF, f2])
      exact h2
    (apply WP_runI (lv := lvK) (F := LK) LK_ok 999 20; simp (disch := first | decide | omega) only [t97_0, lift_c, o_iload1, o_lookup, o_aload0, o_getref, o_getfield, o_ireturn, o_inl, z0, z1, z2, z3, z4, z5, z6, z7, z20, z31, runI_0, runI_c, runI_n, liftI_n, liftI_y, run_0, run_c, run_n, fxn, fxi, fxr, fxl, fxl0, ↓swi_n, ↓swi_c, nck0, nck1, nck2, nck3, List.length_cons, List.length_nil, Nat.reduceAdd, Nat.reduceSub, Nat.reduceLeDiff, Nat.reduceEqDiff, Nat.reduceLT, reduceIte, ite_true, ite_false, Nat.sub_zero, Nat.zero_le, true_and, and_true, and_self, true_or, or_true, if_true, if_false, true_implies, implies_true, not_true_eq_false, not_false_eq_true, false_implies, forall_const, ne_eq, or_self, and_false, false_and, Lt, Le, Eq', Cp, In, nI_add, nI_mul, nI_sub, nI_sub1, Neg0, bI_eq0, bI_eq1, bI_01, bft, up2_eq, up2_no, Bool.true_eq_false, Bool.false_eq_true, eq_self, m1_ne, m1_ne2, m1_lt, m1_le, lt_m1, m1_le2, bI_t, bI_f, LK_st, FGu hG, LK_g hG h22 hs2, FY22u hY22, hr40, hr44, hr48, f1, hd0])
    exact hQ
  by_cases e3 : x = nI 3
  · subst e3
    have f1 := hI.2.2.2.2.1.1
    have hQ := hQ (I 124 84) n sh I L P fun Q2 h2 => by
      refine ⟨(FMu hI.1).1, ?_⟩
      have h2 := h2 _ _ _ _ _ ⟨F, E, k, g, r, hI⟩
      apply e193
      (apply WP_runI (lv := lvM) LM_ok 999 20; simp (disch := first | decide | omega) only [t193_0, lift_c, o_iload1, o_lookup, o_aload0, o_getref, o_inl, o_iaload, o_ireturn, o_getfield, z0, z1, z2, z3, z4, z5, z6, z7, z20, z31, z80, z81, z84, z100, z121, runI_0, runI_c, runI_n, liftI_n, liftI_y, run_0, run_c, run_n, fxn, fxi, fxr, fxl, fxl0, ↓swi_n, ↓swi_c, nck0, nck1, nck2, nck3, List.length_cons, List.length_nil, Nat.reduceAdd, Nat.reduceSub, Nat.reduceLeDiff, Nat.reduceEqDiff, Nat.reduceLT, reduceIte, ite_true, ite_false, Nat.sub_zero, Nat.zero_le, true_and, and_true, and_self, true_or, or_true, if_true, if_false, true_implies, implies_true, not_true_eq_false, not_false_eq_true, false_implies, forall_const, ne_eq, or_self, and_false, false_and, Lt, Le, Eq', Cp, In, nI_add, nI_mul, nI_sub, nI_sub1, Neg0, bI_eq0, bI_eq1, bI_01, bft, up2_eq, up2_no, Bool.true_eq_false, Bool.false_eq_true, eq_self, m1_ne, m1_ne2, m1_lt, m1_le, lt_m1, m1_le2, bI_t, bI_f, LM_all hF, FMu hF])
      exact h2
    (apply WP_runI (lv := lvK) (F := LK) LK_ok 999 20; simp (disch := first | decide | omega) only [t97_0, lift_c, o_iload1, o_lookup, o_aload0, o_getref, o_getfield, o_ireturn, o_inl, z0, z1, z2, z3, z4, z5, z6, z7, z20, z31, runI_0, runI_c, runI_n, liftI_n, liftI_y, run_0, run_c, run_n, fxn, fxi, fxr, fxl, fxl0, ↓swi_n, ↓swi_c, nck0, nck1, nck2, nck3, List.length_cons, List.length_nil, Nat.reduceAdd, Nat.reduceSub, Nat.reduceLeDiff, Nat.reduceEqDiff, Nat.reduceLT, reduceIte, ite_true, ite_false, Nat.sub_zero, Nat.zero_le, true_and, and_true, and_self, true_or, or_true, if_true, if_false, true_implies, implies_true, not_true_eq_false, not_false_eq_true, false_implies, forall_const, ne_eq, or_self, and_false, false_and, Lt, Le, Eq', Cp, In, nI_add, nI_mul, nI_sub, nI_sub1, Neg0, bI_eq0, bI_eq1, bI_01, bft, up2_eq, up2_no, Bool.true_eq_false, Bool.false_eq_true, eq_self, m1_ne, m1_ne2, m1_lt, m1_le, lt_m1, m1_le2, bI_t, bI_f, LK_st, FGu hG, LK_g hG h22 hs2, FY22u hY22, hr40, hr44, hr48, f1, hd0])
    exact hQ
  by_cases e4 : x = nI 4
  · subst e4
    have f1 := hI.2.2.2.2.1.2.1
    have hQ := hQ (I 124 100) n sh I L P fun Q2 h2 => by
      refine ⟨(FMu hI.1).1, ?_⟩
      have h2 := h2 _ _ _ _ _ ⟨F, E, k, g, r, hI⟩
      apply e193
      (apply WP_runI (lv := lvM) LM_ok 999 20; simp (disch := first | decide | omega) only [t193_0, lift_c, o_iload1, o_lookup, o_aload0, o_getref, o_inl, o_iaload, o_ireturn, o_getfield, z0, z1, z2, z3, z4, z5, z6, z7, z20, z31, z80, z81, z84, z100, z121, runI_0, runI_c, runI_n, liftI_n, liftI_y, run_0, run_c, run_n, fxn, fxi, fxr, fxl, fxl0, ↓swi_n, ↓swi_c, nck0, nck1, nck2, nck3, List.length_cons, List.length_nil, Nat.reduceAdd, Nat.reduceSub, Nat.reduceLeDiff, Nat.reduceEqDiff, Nat.reduceLT, reduceIte, ite_true, ite_false, Nat.sub_zero, Nat.zero_le, true_and, and_true, and_self, true_or, or_true, if_true, if_false, true_implies, implies_true, not_true_eq_false, not_false_eq_true, false_implies, forall_const, ne_eq, or_self, and_false, false_and, Lt, Le, Eq', Cp, In, nI_add, nI_mul, nI_sub, nI_sub1, Neg0, bI_eq0, bI_eq1, bI_01, bft, up2_eq, up2_no, Bool.true_eq_false, Bool.false_eq_true, eq_self, m1_ne, m1_ne2, m1_lt, m1_le, lt_m1, m1_le2, bI_t, bI_f, LM_all hF, FMu hF])
      exact h2
    (apply WP_runI (lv := lvK) (F := LK) LK_ok 999 20; simp (disch := first | decide | omega) only [t97_0, lift_c, o_iload1, o_lookup, o_aload0, o_getref, o_getfield, o_ireturn, o_inl, z0, z1, z2, z3, z4, z5, z6, z7, z20, z31, runI_0, runI_c, runI_n, liftI_n, liftI_y, run_0, run_c, run_n, fxn, fxi, fxr, fxl, fxl0, ↓swi_n, ↓swi_c, nck0, nck1, nck2, nck3, List.length_cons, List.length_nil, Nat.reduceAdd, Nat.reduceSub, Nat.reduceLeDiff, Nat.reduceEqDiff, Nat.reduceLT, reduceIte, ite_true, ite_false, Nat.sub_zero, Nat.zero_le, true_and, and_true, and_self, true_or, or_true, if_true, if_false, true_implies, implies_true, not_true_eq_false, not_false_eq_true, false_implies, forall_const, ne_eq, or_self, and_false, false_and, Lt, Le, Eq', Cp, In, nI_add, nI_mul, nI_sub, nI_sub1, Neg0, bI_eq0, bI_eq1, bI_01, bft, up2_eq, up2_no, Bool.true_eq_false, Bool.false_eq_true, eq_self, m1_ne, m1_ne2, m1_lt, m1_le, lt_m1, m1_le2, bI_t, bI_f, LK_st, FGu hG, LK_g hG h22 hs2, FY22u hY22, hr40, hr44, hr48, f1, hd0])
    exact hQ
  by_cases e5 : x = nI 5
  · subst e5
    have f1 := hI.2.2.2.2.1.2.2.1
    have hQ := hQ (I 124 121) n sh I L P fun Q2 h2 => by
      refine ⟨(FMu hI.1).1, ?_⟩
      have h2 := h2 _ _ _ _ _ ⟨F, E, k, g, r, hI⟩
      apply e193
      (apply WP_runI (lv := lvM) LM_ok 999 20; simp (disch := first | decide | omega) only [t193_0, lift_c, o_iload1, o_lookup, o_aload0, o_getref, o_inl, o_iaload, o_ireturn, o_getfield, z0, z1, z2, z3, z4, z5, z6, z7, z20, z31, z80, z81, z84, z100, z121, runI_0, runI_c, runI_n, liftI_n, liftI_y, run_0, run_c, run_n, fxn, fxi, fxr, fxl, fxl0, ↓swi_n, ↓swi_c, nck0, nck1, nck2, nck3, List.length_cons, List.length_nil, Nat.reduceAdd, Nat.reduceSub, Nat.reduceLeDiff, Nat.reduceEqDiff, Nat.reduceLT, reduceIte, ite_true, ite_false, Nat.sub_zero, Nat.zero_le, true_and, and_true, and_self, true_or, or_true, if_true, if_false, true_implies, implies_true, not_true_eq_false, not_false_eq_true, false_implies, forall_const, ne_eq, or_self, and_false, false_and, Lt, Le, Eq', Cp, In, nI_add, nI_mul, nI_sub, nI_sub1, Neg0, bI_eq0, bI_eq1, bI_01, bft, up2_eq, up2_no, Bool.true_eq_false, Bool.false_eq_true, eq_self, m1_ne, m1_ne2, m1_lt, m1_le, lt_m1, m1_le2, bI_t, bI_f, LM_all hF, FMu hF])
      exact h2
    (apply WP_runI (lv := lvK) (F := LK) LK_ok 999 20; simp (disch := first | decide | omega) only [t97_0, lift_c, o_iload1, o_lookup, o_aload0, o_getref, o_getfield, o_ireturn, o_inl, z0, z1, z2, z3, z4, z5, z6, z7, z20, z31, runI_0, runI_c, runI_n, liftI_n, liftI_y, run_0, run_c, run_n, fxn, fxi, fxr, fxl, fxl0, ↓swi_n, ↓swi_c, nck0, nck1, nck2, nck3, List.length_cons, List.length_nil, Nat.reduceAdd, Nat.reduceSub, Nat.reduceLeDiff, Nat.reduceEqDiff, Nat.reduceLT, reduceIte, ite_true, ite_false, Nat.sub_zero, Nat.zero_le, true_and, and_true, and_self, true_or, or_true, if_true, if_false, true_implies, implies_true, not_true_eq_false, not_false_eq_true, false_implies, forall_const, ne_eq, or_self, and_false, false_and, Lt, Le, Eq', Cp, In, nI_add, nI_mul, nI_sub, nI_sub1, Neg0, bI_eq0, bI_eq1, bI_01, bft, up2_eq, up2_no, Bool.true_eq_false, Bool.false_eq_true, eq_self, m1_ne, m1_ne2, m1_lt, m1_le, lt_m1, m1_le2, bI_t, bI_f, LK_st, FGu hG, LK_g hG h22 hs2, FY22u hY22, hr40, hr44, hr48, f1, hd0])
    exact hQ
  by_cases e6 : x = nI 6
  · subst e6
    have f1 := t2
    have f2 := t3
    have hQ := hQ (nI z) n sh I L P fun Q2 h2 => by
      refine ⟨(FMu hI.1).1, ?_⟩
      have h2 := h2 _ _ _ _ _ ⟨F, E, k, g, r, hI⟩
      apply e193
      (apply WP_runI (lv := lvM) LM_ok 999 20; simp (disch := first | decide | omega) only [t193_0, lift_c, o_iload1, o_lookup, o_aload0, o_getref, o_inl, o_iaload, o_ireturn, o_getfield, z0, z1, z2, z3, z4, z5, z6, z7, z20, z31, z80, z81, z84, z100, z121, runI_0, runI_c, runI_n, liftI_n, liftI_y, run_0, run_c, run_n, fxn, fxi, fxr, fxl, fxl0, ↓swi_n, ↓swi_c, nck0, nck1, nck2, nck3, List.length_cons, List.length_nil, Nat.reduceAdd, Nat.reduceSub, Nat.reduceLeDiff, Nat.reduceEqDiff, Nat.reduceLT, reduceIte, ite_true, ite_false, Nat.sub_zero, Nat.zero_le, true_and, and_true, and_self, true_or, or_true, if_true, if_false, true_implies, implies_true, not_true_eq_false, not_false_eq_true, false_implies, forall_const, ne_eq, or_self, and_false, false_and, Lt, Le, Eq', Cp, In, nI_add, nI_mul, nI_sub, nI_sub1, Neg0, bI_eq0, bI_eq1, bI_01, bft, up2_eq, up2_no, Bool.true_eq_false, Bool.false_eq_true, eq_self, m1_ne, m1_ne2, m1_lt, m1_le, lt_m1, m1_le2, bI_t, bI_f, LM_all hF, FMu hF, f2])
      exact h2
    (apply WP_runI (lv := lvK) (F := LK) LK_ok 999 20; simp (disch := first | decide | omega) only [t97_0, lift_c, o_iload1, o_lookup, o_aload0, o_getref, o_getfield, o_ireturn, o_inl, z0, z1, z2, z3, z4, z5, z6, z7, z20, z31, runI_0, runI_c, runI_n, liftI_n, liftI_y, run_0, run_c, run_n, fxn, fxi, fxr, fxl, fxl0, ↓swi_n, ↓swi_c, nck0, nck1, nck2, nck3, List.length_cons, List.length_nil, Nat.reduceAdd, Nat.reduceSub, Nat.reduceLeDiff, Nat.reduceEqDiff, Nat.reduceLT, reduceIte, ite_true, ite_false, Nat.sub_zero, Nat.zero_le, true_and, and_true, and_self, true_or, or_true, if_true, if_false, true_implies, implies_true, not_true_eq_false, not_false_eq_true, false_implies, forall_const, ne_eq, or_self, and_false, false_and, Lt, Le, Eq', Cp, In, nI_add, nI_mul, nI_sub, nI_sub1, Neg0, bI_eq0, bI_eq1, bI_01, bft, up2_eq, up2_no, Bool.true_eq_false, Bool.false_eq_true, eq_self, m1_ne, m1_ne2, m1_lt, m1_le, lt_m1, m1_le2, bI_t, bI_f, LK_st, FGu hG, LK_g hG h22 hs2, FY22u hY22, hr40, hr44, hr48, f1, hd0])
    exact hQ
  by_cases e7 : x = nI 7
  · subst e7
    have f1 := x2
    have f2 := x3
    have hQ := hQ (nI a) n sh I L P fun Q2 h2 => by
      refine ⟨(FMu hI.1).1, ?_⟩
      have h2 := h2 _ _ _ _ _ ⟨F, E, k, g, r, hI⟩
      apply e193
      (apply WP_runI (lv := lvM) LM_ok 999 20; simp (disch := first | decide | omega) only [t193_0, lift_c, o_iload1, o_lookup, o_aload0, o_getref, o_inl, o_iaload, o_ireturn, o_getfield, z0, z1, z2, z3, z4, z5, z6, z7, z20, z31, z80, z81, z84, z100, z121, runI_0, runI_c, runI_n, liftI_n, liftI_y, run_0, run_c, run_n, fxn, fxi, fxr, fxl, fxl0, ↓swi_n, ↓swi_c, nck0, nck1, nck2, nck3, List.length_cons, List.length_nil, Nat.reduceAdd, Nat.reduceSub, Nat.reduceLeDiff, Nat.reduceEqDiff, Nat.reduceLT, reduceIte, ite_true, ite_false, Nat.sub_zero, Nat.zero_le, true_and, and_true, and_self, true_or, or_true, if_true, if_false, true_implies, implies_true, not_true_eq_false, not_false_eq_true, false_implies, forall_const, ne_eq, or_self, and_false, false_and, Lt, Le, Eq', Cp, In, nI_add, nI_mul, nI_sub, nI_sub1, Neg0, bI_eq0, bI_eq1, bI_01, bft, up2_eq, up2_no, Bool.true_eq_false, Bool.false_eq_true, eq_self, m1_ne, m1_ne2, m1_lt, m1_le, lt_m1, m1_le2, bI_t, bI_f, LM_all hF, FMu hF, f2])
      exact h2
    (apply WP_runI (lv := lvK) (F := LK) LK_ok 999 20; simp (disch := first | decide | omega) only [t97_0, lift_c, o_iload1, o_lookup, o_aload0, o_getref, o_getfield, o_ireturn, o_inl, z0, z1, z2, z3, z4, z5, z6, z7, z20, z31, runI_0, runI_c, runI_n, liftI_n, liftI_y, run_0, run_c, run_n, fxn, fxi, fxr, fxl, fxl0, ↓swi_n, ↓swi_c, nck0, nck1, nck2, nck3, List.length_cons, List.length_nil, Nat.reduceAdd, Nat.reduceSub, Nat.reduceLeDiff, Nat.reduceEqDiff, Nat.reduceLT, reduceIte, ite_true, ite_false, Nat.sub_zero, Nat.zero_le, true_and, and_true, and_self, true_or, or_true, if_true, if_false, true_implies, implies_true, not_true_eq_false, not_false_eq_true, false_implies, forall_const, ne_eq, or_self, and_false, false_and, Lt, Le, Eq', Cp, In, nI_add, nI_mul, nI_sub, nI_sub1, Neg0, bI_eq0, bI_eq1, bI_01, bft, up2_eq, up2_no, Bool.true_eq_false, Bool.false_eq_true, eq_self, m1_ne, m1_ne2, m1_lt, m1_le, lt_m1, m1_le2, bI_t, bI_f, LK_st, FGu hG, LK_g hG h22 hs2, FY22u hY22, hr40, hr44, hr48, f1, hd0])
    exact hQ
  have hQ := hQ (-nI 2) n sh I L P fun Q2 h2 => by
    refine ⟨(FMu hI.1).1, ?_⟩
    have h2 := h2 _ _ _ _ _ ⟨F, E, k, g, r, hI⟩
    apply e193
    (apply WP_runI (lv := lvM) LM_ok 999 20; simp (disch := first | decide | omega) only [t193_0, lift_c, o_iload1, o_lookup, o_aload0, o_getref, o_inl, o_iaload, o_ireturn, o_getfield, z0, z1, z2, z3, z4, z5, z6, z7, z20, z31, z80, z81, z84, z100, z121, runI_0, runI_c, runI_n, liftI_n, liftI_y, run_0, run_c, run_n, fxn, fxi, fxr, fxl, fxl0, ↓swi_n, ↓swi_c, nck0, nck1, nck2, nck3, List.length_cons, List.length_nil, Nat.reduceAdd, Nat.reduceSub, Nat.reduceLeDiff, Nat.reduceEqDiff, Nat.reduceLT, reduceIte, ite_true, ite_false, Nat.sub_zero, Nat.zero_le, true_and, and_true, and_self, true_or, or_true, if_true, if_false, true_implies, implies_true, not_true_eq_false, not_false_eq_true, false_implies, forall_const, ne_eq, or_self, and_false, false_and, Lt, Le, Eq', Cp, In, nI_add, nI_mul, nI_sub, nI_sub1, Neg0, bI_eq0, bI_eq1, bI_01, bft, up2_eq, up2_no, Bool.true_eq_false, Bool.false_eq_true, eq_self, m1_ne, m1_ne2, m1_lt, m1_le, lt_m1, m1_le2, bI_t, bI_f, LM_all hF, FMu hF, e0, e1, e2, e3, e4, e5, e6, e7])
    exact h2
  have h102 : sh 102 = (4, 5) := (FGu hG).2.2.2.2.2.2.2.2.2.2.2.2.2.2.2.2.2.2.2.1
  (apply WP_runI (lv := lvK) (F := LK) LK_ok 999 20; simp (disch := first | decide | omega) only [t97_0, lift_c, o_iload1, o_lookup, o_aload0, o_getref, o_getfield, o_ireturn, o_inl, z0, z1, z2, z3, z4, z5, z6, z7, z20, z31, runI_0, runI_c, runI_n, liftI_n, liftI_y, run_0, run_c, run_n, fxn, fxi, fxr, fxl, fxl0, ↓swi_n, ↓swi_c, nck0, nck1, nck2, nck3, List.length_cons, List.length_nil, Nat.reduceAdd, Nat.reduceSub, Nat.reduceLeDiff, Nat.reduceEqDiff, Nat.reduceLT, reduceIte, ite_true, ite_false, Nat.sub_zero, Nat.zero_le, true_and, and_true, and_self, true_or, or_true, if_true, if_false, true_implies, implies_true, not_true_eq_false, not_false_eq_true, false_implies, forall_const, ne_eq, or_self, and_false, false_and, Lt, Le, Eq', Cp, In, nI_add, nI_mul, nI_sub, nI_sub1, Neg0, bI_eq0, bI_eq1, bI_01, bft, up2_eq, up2_no, Bool.true_eq_false, Bool.false_eq_true, eq_self, m1_ne, m1_ne2, m1_lt, m1_le, lt_m1, m1_le2, bI_t, bI_f, LK_st, FGu hG, LK_g hG h22 hs2, FY22u hY22, hr40, hr44, hr48, e0, e1, e2, e3, e4, e5, e6, e7, hd0])
  exact hQ
theorem trace_P (hd : 50 ≤ d) (x : Int32) : PAIR G d 95 191 [.ref 20, .int x] [.ref 123, .int x] := by
  intro n sh I L P Q hI hQ
  obtain ⟨F, E, k, g, r, hI⟩ := hI
  apply e95
  apply WP_SF
  intro hSF
  have hs2 := hSF.2.2.1
  have hB := hI.cb
  have hG := hB.fg
  have hY22 := hB.y22
  have hY84 := hB.y84
  have h22 : sh 22 = (8, 9) := (FY22u hY22).1
  have hd0 : 0 < d := by omega
  have hk := hI.2.2.1.1.k6
  have hg9 := hI.2.2.1.1.g9
  have hWe := hI.2.2.1.we
  have hF := hI.1
  have h5 := hB.count
  obtain ⟨a, x1, x2, x3, x4⟩ := hI.2.2.2.2.2.2.2.2.2.1
  have n0 : nI 0 - nI 1 = -nI 1 := by decide
  by_cases h0 : x < nI 0
  · have h0' : ¬ nI 0 ≤ x := Int32.not_le.mpr h0
    have hQ := hQ (-nI 1) n sh I L P fun Q2 h2 => by
      refine ⟨(FMu hI.1).1, ?_⟩
      have h2 := h2 _ _ _ _ _ ⟨F, E, k, g, r, hI⟩
      apply e191
      (apply WP_runI (lv := lvM) LM_ok 999 80; simp (disch := first | decide | omega) only [t191_0, lift_c, o_iload1, o_inl, o_aload0, o_getfield, o_fsub, o_isub, o_stat3, rpush_n, rpush_s, o_ifeq, o_getref, o_iaload, o_goto, o_ireturn, z0, z1, z2, z20, z31, runI_0, runI_c, runI_n, liftI_n, liftI_y, run_0, run_c, run_n, fxn, fxi, fxr, fxl, fxl0, ↓swi_n, ↓swi_c, nck0, nck1, nck2, nck3, List.length_cons, List.length_nil, Nat.reduceAdd, Nat.reduceSub, Nat.reduceLeDiff, Nat.reduceEqDiff, Nat.reduceLT, reduceIte, ite_true, ite_false, Nat.sub_zero, Nat.zero_le, true_and, and_true, and_self, true_or, or_true, if_true, if_false, true_implies, implies_true, not_true_eq_false, not_false_eq_true, false_implies, forall_const, ne_eq, or_self, and_false, false_and, Lt, Le, Eq', Cp, In, nI_add, nI_mul, nI_sub, nI_sub1, Neg0, bI_eq0, bI_eq1, bI_01, bft, up2_eq, up2_no, Bool.true_eq_false, Bool.false_eq_true, eq_self, m1_ne, m1_ne2, m1_lt, m1_le, lt_m1, m1_le2, bI_t, bI_f, LM_all hF, FMu hF, x3, h0', hd0, decide_false, false_and])
      exact h2
    (apply WP_runI (lv := lvK) (F := LK) LK_ok 999 80; simp (disch := first | decide | omega) only [t95_0, lift_c, o_iload1, o_iflt, o_aload0, o_getref, o_getfield, o_icge, o_inl, o_iclt, o_ireturn, o_iaload, z0, z1, z2, z20, z31, runI_0, runI_c, runI_n, liftI_n, liftI_y, run_0, run_c, run_n, fxn, fxi, fxr, fxl, fxl0, ↓swi_n, ↓swi_c, nck0, nck1, nck2, nck3, List.length_cons, List.length_nil, Nat.reduceAdd, Nat.reduceSub, Nat.reduceLeDiff, Nat.reduceEqDiff, Nat.reduceLT, reduceIte, ite_true, ite_false, Nat.sub_zero, Nat.zero_le, true_and, and_true, and_self, true_or, or_true, if_true, if_false, true_implies, implies_true, not_true_eq_false, not_false_eq_true, false_implies, forall_const, ne_eq, or_self, and_false, false_and, Lt, Le, Eq', Cp, In, nI_add, nI_mul, nI_sub, nI_sub1, Neg0, bI_eq0, bI_eq1, bI_01, bft, up2_eq, up2_no, Bool.true_eq_false, Bool.false_eq_true, eq_self, m1_ne, m1_ne2, m1_lt, m1_le, lt_m1, m1_le2, bI_t, bI_f, LK_st, FGu hG, LK_g hG h22 hs2, x2, h0, hd0])
    exact hQ
  · obtain ⟨j, hj, ex⟩ := nI_of h0
    subst ex
    by_cases hg : j < a ∧ j < 20
    · have hm : (if nI a < nI 20 then nI a else nI 20) - nI 1 = nI ((if a < 20 then a else 20) - 1) := by
        by_cases h : a < 20
        · rw [if_pos (by rw [Lt _ _ (by omega) (by omega)]; exact h), if_pos h, nI_sub _ _ (by omega)]
        · rw [if_neg (by rw [Lt _ _ (by omega) (by omega)]; exact h), if_neg h, nI_sub _ _ (by omega)]
      have h4 := x4 j hg.1 hg.2
      have hle : j ≤ (if a < 20 then a else 20) - 1 := by split <;> omega
      have hm3 : (if a < 20 then a else 20) - 1 < 100 := by split <;> omega
      generalize (if a < 20 then a else 20) - 1 = w at hm hle hm3
      have h5' := hg.1
      have h6' := hg.2
      have hQ := hQ (I 138 j) n sh I L P fun Q2 h2 => by
        refine ⟨(FMu hI.1).1, ?_⟩
        have h2 := h2 _ _ _ _ _ ⟨F, E, k, g, r, hI⟩
        apply e191
        have hm2 : (if a < 20 then nI a else nI 20) - nI 1 = nI w := by
          rw [← hm]
          by_cases h : a < 20
          · rw [if_pos h, if_pos (by rw [Lt _ _ (by omega) (by omega)]; exact h)]
          · rw [if_neg h, if_neg (by rw [Lt _ _ (by omega) (by omega)]; exact h)]
        (apply WP_runI (lv := lvM) LM_ok 999 80; simp (disch := first | decide | omega) only [t191_0, lift_c, o_iload1, o_inl, o_aload0, o_getfield, o_fsub, o_isub, o_stat3, rpush_n, rpush_s, o_ifeq, o_getref, o_iaload, o_goto, o_ireturn, z0, z1, z2, z20, z31, runI_0, runI_c, runI_n, liftI_n, liftI_y, run_0, run_c, run_n, fxn, fxi, fxr, fxl, fxl0, ↓swi_n, ↓swi_c, nck0, nck1, nck2, nck3, List.length_cons, List.length_nil, Nat.reduceAdd, Nat.reduceSub, Nat.reduceLeDiff, Nat.reduceEqDiff, Nat.reduceLT, reduceIte, ite_true, ite_false, Nat.sub_zero, Nat.zero_le, true_and, and_true, and_self, true_or, or_true, if_true, if_false, true_implies, implies_true, not_true_eq_false, not_false_eq_true, false_implies, forall_const, ne_eq, or_self, and_false, false_and, Lt, Le, Eq', Cp, In, nI_add, nI_mul, nI_sub, nI_sub1, Neg0, bI_eq0, bI_eq1, bI_01, bft, up2_eq, up2_no, Bool.true_eq_false, Bool.false_eq_true, eq_self, m1_ne, m1_ne2, m1_lt, m1_le, lt_m1, m1_le2, bI_t, bI_f, LM_all hF, FMu hF, x3, hm2, hle, hd0, decide_true])
        exact h2
      have n1 : ¬ a ≤ j := by omega
      have n2 : ¬ 20 ≤ j := by omega
      (apply WP_runI (lv := lvK) (F := LK) LK_ok 999 80; simp (disch := first | decide | omega) only [t95_0, lift_c, o_iload1, o_iflt, o_aload0, o_getref, o_getfield, o_icge, o_inl, o_iclt, o_ireturn, o_iaload, z0, z1, z2, z20, z31, runI_0, runI_c, runI_n, liftI_n, liftI_y, run_0, run_c, run_n, fxn, fxi, fxr, fxl, fxl0, ↓swi_n, ↓swi_c, nck0, nck1, nck2, nck3, List.length_cons, List.length_nil, Nat.reduceAdd, Nat.reduceSub, Nat.reduceLeDiff, Nat.reduceEqDiff, Nat.reduceLT, reduceIte, ite_true, ite_false, Nat.sub_zero, Nat.zero_le, true_and, and_true, and_self, true_or, or_true, if_true, if_false, true_implies, implies_true, not_true_eq_false, not_false_eq_true, false_implies, forall_const, ne_eq, or_self, and_false, false_and, Lt, Le, Eq', Cp, In, nI_add, nI_mul, nI_sub, nI_sub1, Neg0, bI_eq0, bI_eq1, bI_01, bft, up2_eq, up2_no, Bool.true_eq_false, Bool.false_eq_true, eq_self, m1_ne, m1_ne2, m1_lt, m1_le, lt_m1, m1_le2, bI_t, bI_f, LK_st, FGu hG, LK_g hG h22 hs2, x2, h4, n1, n2, hg, Nat.not_lt_zero, hd0])
      exact hQ
    · have hQ := hQ (-nI 1) n sh I L P fun Q2 h2 => by
        refine ⟨(FMu hI.1).1, ?_⟩
        have h2 := h2 _ _ _ _ _ ⟨F, E, k, g, r, hI⟩
        apply e191
        by_cases ha : a = 0
        · subst ha
          (apply WP_runI (lv := lvM) LM_ok 999 80; simp (disch := first | decide | omega) only [t191_0, lift_c, o_iload1, o_inl, o_aload0, o_getfield, o_fsub, o_isub, o_stat3, rpush_n, rpush_s, o_ifeq, o_getref, o_iaload, o_goto, o_ireturn, z0, z1, z2, z20, z31, runI_0, runI_c, runI_n, liftI_n, liftI_y, run_0, run_c, run_n, fxn, fxi, fxr, fxl, fxl0, ↓swi_n, ↓swi_c, nck0, nck1, nck2, nck3, List.length_cons, List.length_nil, Nat.reduceAdd, Nat.reduceSub, Nat.reduceLeDiff, Nat.reduceEqDiff, Nat.reduceLT, reduceIte, ite_true, ite_false, Nat.sub_zero, Nat.zero_le, true_and, and_true, and_self, true_or, or_true, if_true, if_false, true_implies, implies_true, not_true_eq_false, not_false_eq_true, false_implies, forall_const, ne_eq, or_self, and_false, false_and, Lt, Le, Eq', Cp, In, nI_add, nI_mul, nI_sub, nI_sub1, Neg0, bI_eq0, bI_eq1, bI_01, bft, up2_eq, up2_no, Bool.true_eq_false, Bool.false_eq_true, eq_self, m1_ne, m1_ne2, m1_lt, m1_le, lt_m1, m1_le2, bI_t, bI_f, LM_all hF, FMu hF, x3, n0, hd0, decide_false])
          exact h2
        · by_cases h : a < 20
          · have hle : ¬ j ≤ a - 1 := by omega
            (apply WP_runI (lv := lvM) LM_ok 999 80; simp (disch := first | decide | omega) only [t191_0, lift_c, o_iload1, o_inl, o_aload0, o_getfield, o_fsub, o_isub, o_stat3, rpush_n, rpush_s, o_ifeq, o_getref, o_iaload, o_goto, o_ireturn, z0, z1, z2, z20, z31, runI_0, runI_c, runI_n, liftI_n, liftI_y, run_0, run_c, run_n, fxn, fxi, fxr, fxl, fxl0, ↓swi_n, ↓swi_c, nck0, nck1, nck2, nck3, List.length_cons, List.length_nil, Nat.reduceAdd, Nat.reduceSub, Nat.reduceLeDiff, Nat.reduceEqDiff, Nat.reduceLT, reduceIte, ite_true, ite_false, Nat.sub_zero, Nat.zero_le, true_and, and_true, and_self, true_or, or_true, if_true, if_false, true_implies, implies_true, not_true_eq_false, not_false_eq_true, false_implies, forall_const, ne_eq, or_self, and_false, false_and, Lt, Le, Eq', Cp, In, nI_add, nI_mul, nI_sub, nI_sub1, Neg0, bI_eq0, bI_eq1, bI_01, bft, up2_eq, up2_no, Bool.true_eq_false, Bool.false_eq_true, eq_self, m1_ne, m1_ne2, m1_lt, m1_le, lt_m1, m1_le2, bI_t, bI_f, LM_all hF, FMu hF, x3, h, hle, hd0, decide_false])
            exact h2
          · have hle : ¬ j ≤ 19 := by omega
            (apply WP_runI (lv := lvM) LM_ok 999 80; simp (disch := first | decide | omega) only [t191_0, lift_c, o_iload1, o_inl, o_aload0, o_getfield, o_fsub, o_isub, o_stat3, rpush_n, rpush_s, o_ifeq, o_getref, o_iaload, o_goto, o_ireturn, z0, z1, z2, z20, z31, runI_0, runI_c, runI_n, liftI_n, liftI_y, run_0, run_c, run_n, fxn, fxi, fxr, fxl, fxl0, ↓swi_n, ↓swi_c, nck0, nck1, nck2, nck3, List.length_cons, List.length_nil, Nat.reduceAdd, Nat.reduceSub, Nat.reduceLeDiff, Nat.reduceEqDiff, Nat.reduceLT, reduceIte, ite_true, ite_false, Nat.sub_zero, Nat.zero_le, true_and, and_true, and_self, true_or, or_true, if_true, if_false, true_implies, implies_true, not_true_eq_false, not_false_eq_true, false_implies, forall_const, ne_eq, or_self, and_false, false_and, Lt, Le, Eq', Cp, In, nI_add, nI_mul, nI_sub, nI_sub1, Neg0, bI_eq0, bI_eq1, bI_01, bft, up2_eq, up2_no, Bool.true_eq_false, Bool.false_eq_true, eq_self, m1_ne, m1_ne2, m1_lt, m1_le, lt_m1, m1_le2, bI_t, bI_f, LM_all hF, FMu hF, x3, h, hle, hd0, decide_false])
            exact h2
      by_cases ha : a ≤ j
      · (apply WP_runI (lv := lvK) (F := LK) LK_ok 999 80; simp (disch := first | decide | omega) only [t95_0, lift_c, o_iload1, o_iflt, o_aload0, o_getref, o_getfield, o_icge, o_inl, o_iclt, o_ireturn, o_iaload, z0, z1, z2, z20, z31, runI_0, runI_c, runI_n, liftI_n, liftI_y, run_0, run_c, run_n, fxn, fxi, fxr, fxl, fxl0, ↓swi_n, ↓swi_c, nck0, nck1, nck2, nck3, List.length_cons, List.length_nil, Nat.reduceAdd, Nat.reduceSub, Nat.reduceLeDiff, Nat.reduceEqDiff, Nat.reduceLT, reduceIte, ite_true, ite_false, Nat.sub_zero, Nat.zero_le, true_and, and_true, and_self, true_or, or_true, if_true, if_false, true_implies, implies_true, not_true_eq_false, not_false_eq_true, false_implies, forall_const, ne_eq, or_self, and_false, false_and, Lt, Le, Eq', Cp, In, nI_add, nI_mul, nI_sub, nI_sub1, Neg0, bI_eq0, bI_eq1, bI_01, bft, up2_eq, up2_no, Bool.true_eq_false, Bool.false_eq_true, eq_self, m1_ne, m1_ne2, m1_lt, m1_le, lt_m1, m1_le2, bI_t, bI_f, LK_st, FGu hG, LK_g hG h22 hs2, x2, ha, Nat.not_lt_zero, hd0])
        exact hQ
      · have h20 : ¬ j < 20 := by omega
        (apply WP_runI (lv := lvK) (F := LK) LK_ok 999 80; simp (disch := first | decide | omega) only [t95_0, lift_c, o_iload1, o_iflt, o_aload0, o_getref, o_getfield, o_icge, o_inl, o_iclt, o_ireturn, o_iaload, z0, z1, z2, z20, z31, runI_0, runI_c, runI_n, liftI_n, liftI_y, run_0, run_c, run_n, fxn, fxi, fxr, fxl, fxl0, ↓swi_n, ↓swi_c, nck0, nck1, nck2, nck3, List.length_cons, List.length_nil, Nat.reduceAdd, Nat.reduceSub, Nat.reduceLeDiff, Nat.reduceEqDiff, Nat.reduceLT, reduceIte, ite_true, ite_false, Nat.sub_zero, Nat.zero_le, true_and, and_true, and_self, true_or, or_true, if_true, if_false, true_implies, implies_true, not_true_eq_false, not_false_eq_true, false_implies, forall_const, ne_eq, or_self, and_false, false_and, Lt, Le, Eq', Cp, In, nI_add, nI_mul, nI_sub, nI_sub1, Neg0, bI_eq0, bI_eq1, bI_01, bft, up2_eq, up2_no, Bool.true_eq_false, Bool.false_eq_true, eq_self, m1_ne, m1_ne2, m1_lt, m1_le, lt_m1, m1_le2, bI_t, bI_f, LK_st, FGu hG, LK_g hG h22 hs2, x2, ha, h20, Nat.not_lt_zero, hd0])
        exact hQ
theorem looked_P (hd : 50 ≤ d) : PAIR G d 90 186 [.ref 20] [.ref 123] := by
  intro n sh I L P Q hI hQ
  obtain ⟨F, E, k, g, r, hI⟩ := hI
  apply e90
  apply WP_SF
  intro hSF
  have hs2 := hSF.2.2.1
  have hB := hI.cb
  have hG := hB.fg
  have hY22 := hB.y22
  have hY84 := hB.y84
  have h22 : sh 22 = (8, 9) := (FY22u hY22).1
  have hd0 : 0 < d := by omega
  have hk := hI.2.2.1.1.k6
  have hg9 := hI.2.2.1.1.g9
  have hWe := hI.2.2.1.we
  have hF := hI.1
  have hr48 := FR48 hB.r48
  obtain ⟨s, hs8, hs, hrow⟩ := hI.2.2.2.2.2.1.2.2
  have e3 : I 48 3 = nI s := hI.2.2.2.2.1.2.2.1.trans hs
  have hrd := hI.2.2.2.2.1.2.2.2.2.2 s (by omega) hs
  have hQ := hQ (lookS (I 124) s 0) n sh I L P fun Q2 h2 => by
    refine ⟨(FMu hI.1).1, ?_⟩
    have h2 := h2 _ _ _ _ _ ⟨F, E, k, g, r, hI⟩
    apply e186
    generalize hv : lookS (I 124) s 0 = v at h2
    have loop : ∀ m j cc ss, j + m = s → lookS (I 124) m j = v → WP G 186 d Q2 2 [some (.ref 123), some (.int (nI j))] [] cc ss n sh I L P := by
      intro m
      induction m with
      | zero =>
        intro j cc ss h hv
        have hj : s ≤ j := by omega
        rw [← show -nI 5 = v from hv] at h2
        (apply WP_runI (lv := lvM) LM_ok 2 20; simp (disch := first | decide | omega) only [t186_0, lift_c, o_inl, o_istore, s1_0, s1_s, o_iload1, o_aload0, o_getref, o_iaload, o_icge, o_imul, o_iadd, o_iceq, o_ireturn, o_iinc1, o_goto, z0, z1, z2, z5, z20, z31, z121, z122, z123, runI_0, runI_c, runI_n, liftI_n, liftI_y, run_0, run_c, run_n, fxn, fxi, fxr, fxl, fxl0, ↓swi_n, ↓swi_c, nck0, nck1, nck2, nck3, List.length_cons, List.length_nil, Nat.reduceAdd, Nat.reduceSub, Nat.reduceLeDiff, Nat.reduceEqDiff, Nat.reduceLT, reduceIte, ite_true, ite_false, Nat.sub_zero, Nat.zero_le, true_and, and_true, and_self, true_or, or_true, if_true, if_false, true_implies, implies_true, not_true_eq_false, not_false_eq_true, false_implies, forall_const, ne_eq, or_self, and_false, false_and, Lt, Le, Eq', Cp, In, nI_add, nI_mul, nI_sub, nI_sub1, Neg0, bI_eq0, bI_eq1, bI_01, bft, up2_eq, up2_no, Bool.true_eq_false, Bool.false_eq_true, eq_self, m1_ne, m1_ne2, m1_lt, m1_le, lt_m1, m1_le2, bI_t, bI_f, LM_all hF, FMu hF, hs, hj])
        exact h2
      | succ m ih =>
        intro j cc ss h hv
        have hj : ¬ s ≤ j := by omega
        obtain ⟨⟨c, hc, ec⟩, ⟨u, hu, eu⟩⟩ := hrow j (by omega)
        rw [lookS, ec, eu, Cp _ (by omega)] at hv
        by_cases hcu : I 124 c = nI u
        · rw [if_pos hcu] at hv
          have ih := ih (j + 1) cc ss (by omega) hv
          (apply WP_runI (lv := lvM) LM_ok 2 40; simp (disch := first | decide | omega) only [t186_0, lift_c, o_inl, o_istore, s1_0, s1_s, o_iload1, o_aload0, o_getref, o_iaload, o_icge, o_imul, o_iadd, o_iceq, o_ireturn, o_iinc1, o_goto, z0, z1, z2, z5, z20, z31, z121, z122, z123, runI_0, runI_c, runI_n, liftI_n, liftI_y, run_0, run_c, run_n, fxn, fxi, fxr, fxl, fxl0, ↓swi_n, ↓swi_c, nck0, nck1, nck2, nck3, List.length_cons, List.length_nil, Nat.reduceAdd, Nat.reduceSub, Nat.reduceLeDiff, Nat.reduceEqDiff, Nat.reduceLT, reduceIte, ite_true, ite_false, Nat.sub_zero, Nat.zero_le, true_and, and_true, and_self, true_or, or_true, if_true, if_false, true_implies, implies_true, not_true_eq_false, not_false_eq_true, false_implies, forall_const, ne_eq, or_self, and_false, false_and, Lt, Le, Eq', Cp, In, nI_add, nI_mul, nI_sub, nI_sub1, Neg0, bI_eq0, bI_eq1, bI_01, bft, up2_eq, up2_no, Bool.true_eq_false, Bool.false_eq_true, eq_self, m1_ne, m1_ne2, m1_lt, m1_le, lt_m1, m1_le2, bI_t, bI_f, LM_all hF, FMu hF, hs, hj, ec, eu, hcu])
          exact ih
        · rw [if_neg hcu] at hv
          rw [← hv] at h2
          (apply WP_runI (lv := lvM) LM_ok 2 40; simp (disch := first | decide | omega) only [t186_0, lift_c, o_inl, o_istore, s1_0, s1_s, o_iload1, o_aload0, o_getref, o_iaload, o_icge, o_imul, o_iadd, o_iceq, o_ireturn, o_iinc1, o_goto, z0, z1, z2, z5, z20, z31, z121, z122, z123, runI_0, runI_c, runI_n, liftI_n, liftI_y, run_0, run_c, run_n, fxn, fxi, fxr, fxl, fxl0, ↓swi_n, ↓swi_c, nck0, nck1, nck2, nck3, List.length_cons, List.length_nil, Nat.reduceAdd, Nat.reduceSub, Nat.reduceLeDiff, Nat.reduceEqDiff, Nat.reduceLT, reduceIte, ite_true, ite_false, Nat.sub_zero, Nat.zero_le, true_and, and_true, and_self, true_or, or_true, if_true, if_false, true_implies, implies_true, not_true_eq_false, not_false_eq_true, false_implies, forall_const, ne_eq, or_self, and_false, false_and, Lt, Le, Eq', Cp, In, nI_add, nI_mul, nI_sub, nI_sub1, Neg0, bI_eq0, bI_eq1, bI_01, bft, up2_eq, up2_no, Bool.true_eq_false, Bool.false_eq_true, eq_self, m1_ne, m1_ne2, m1_lt, m1_le, lt_m1, m1_le2, bI_t, bI_f, LM_all hF, FMu hF, hs, hj, ec, eu, hcu])
          exact h2
    have loop := fun cc ss => loop s 0 cc ss (by omega) hv
    (apply WP_runI (lv := lvM) LM_ok 2 20; simp (disch := first | decide | omega) only [t186_0, lift_c, o_inl, o_istore, s1_0, s1_s, o_iload1, o_aload0, o_getref, o_iaload, o_icge, o_imul, o_iadd, o_iceq, o_ireturn, o_iinc1, o_goto, z0, z1, z2, z5, z20, z31, z121, z122, z123, runI_0, runI_c, runI_n, liftI_n, liftI_y, run_0, run_c, run_n, fxn, fxi, fxr, fxl, fxl0, ↓swi_n, ↓swi_c, nck0, nck1, nck2, nck3, List.length_cons, List.length_nil, Nat.reduceAdd, Nat.reduceSub, Nat.reduceLeDiff, Nat.reduceEqDiff, Nat.reduceLT, reduceIte, ite_true, ite_false, Nat.sub_zero, Nat.zero_le, true_and, and_true, and_self, true_or, or_true, if_true, if_false, true_implies, implies_true, not_true_eq_false, not_false_eq_true, false_implies, forall_const, ne_eq, or_self, and_false, false_and, Lt, Le, Eq', Cp, In, nI_add, nI_mul, nI_sub, nI_sub1, Neg0, bI_eq0, bI_eq1, bI_01, bft, up2_eq, up2_no, Bool.true_eq_false, Bool.false_eq_true, eq_self, m1_ne, m1_ne2, m1_lt, m1_le, lt_m1, m1_le2, bI_t, bI_f, LM_all hF, FMu hF])
    exact loop _ _
  generalize hv : lookS (I 124) s 0 = v at hQ
  have loop : ∀ m j cc ss, j + m = s → lookS (I 124) m j = v → WP G 90 d Q 10 [some (.ref 20), some (.ref 48), some (.int (nI j))] [] cc ss n sh I L P := by
    intro m
    induction m with
    | zero =>
      intro j cc ss h hv
      have hj : s ≤ j := by omega
      rw [← show -nI 5 = v from hv] at hQ
      (apply WP_runI (lv := lvK) (F := LK) LK_ok 10 20; simp (disch := first | decide | omega) only [t90_0, lift_c, o_aload0, o_getref, o_astore, s1_0, s1_s, o_inl, o_istore, o_iload2, o_aload1, o_getfield, o_icge, o_iaload, o_iceq, o_ireturn, o_iinc2, o_goto, z0, z1, z2, z5, z20, z31, runI_0, runI_c, runI_n, liftI_n, liftI_y, run_0, run_c, run_n, fxn, fxi, fxr, fxl, fxl0, ↓swi_n, ↓swi_c, nck0, nck1, nck2, nck3, List.length_cons, List.length_nil, Nat.reduceAdd, Nat.reduceSub, Nat.reduceLeDiff, Nat.reduceEqDiff, Nat.reduceLT, reduceIte, ite_true, ite_false, Nat.sub_zero, Nat.zero_le, true_and, and_true, and_self, true_or, or_true, if_true, if_false, true_implies, implies_true, not_true_eq_false, not_false_eq_true, false_implies, forall_const, ne_eq, or_self, and_false, false_and, Lt, Le, Eq', Cp, In, nI_add, nI_mul, nI_sub, nI_sub1, Neg0, bI_eq0, bI_eq1, bI_01, bft, up2_eq, up2_no, Bool.true_eq_false, Bool.false_eq_true, eq_self, m1_ne, m1_ne2, m1_lt, m1_le, lt_m1, m1_le2, bI_t, bI_f, LK_st, FGu hG, LK_g hG h22 hs2, FY22u hY22, hr48, e3, hj])
      exact hQ
    | succ m ih =>
      intro j cc ss h hv
      have hj : ¬ s ≤ j := by omega
      obtain ⟨⟨c, hc, ec⟩, ⟨u, hu, eu⟩⟩ := hrow j (by omega)
      obtain ⟨r1, r2⟩ := hrd j (by omega)
      rw [ec] at r1
      rw [eu] at r2
      have hgr : I 23 c = I 124 c := hB.2.1.grain c hc
      rw [lookS, ec, eu, Cp _ (by omega)] at hv
      by_cases hcu : I 124 c = nI u
      · rw [if_pos hcu] at hv
        have ih := ih (j + 1) cc ss (by omega) hv
        (apply WP_runI (lv := lvK) (F := LK) LK_ok 10 40; simp (disch := first | decide | omega) only [t90_0, lift_c, o_aload0, o_getref, o_astore, s1_0, s1_s, o_inl, o_istore, o_iload2, o_aload1, o_getfield, o_icge, o_iaload, o_iceq, o_ireturn, o_iinc2, o_goto, z0, z1, z2, z5, z20, z31, runI_0, runI_c, runI_n, liftI_n, liftI_y, run_0, run_c, run_n, fxn, fxi, fxr, fxl, fxl0, ↓swi_n, ↓swi_c, nck0, nck1, nck2, nck3, List.length_cons, List.length_nil, Nat.reduceAdd, Nat.reduceSub, Nat.reduceLeDiff, Nat.reduceEqDiff, Nat.reduceLT, reduceIte, ite_true, ite_false, Nat.sub_zero, Nat.zero_le, true_and, and_true, and_self, true_or, or_true, if_true, if_false, true_implies, implies_true, not_true_eq_false, not_false_eq_true, false_implies, forall_const, ne_eq, or_self, and_false, false_and, Lt, Le, Eq', Cp, In, nI_add, nI_mul, nI_sub, nI_sub1, Neg0, bI_eq0, bI_eq1, bI_01, bft, up2_eq, up2_no, Bool.true_eq_false, Bool.false_eq_true, eq_self, m1_ne, m1_ne2, m1_lt, m1_le, lt_m1, m1_le2, bI_t, bI_f, LK_st, FGu hG, LK_g hG h22 hs2, FY22u hY22, hr48, e3, hj, r1, r2, hgr, hcu])
        exact ih
      · rw [if_neg hcu] at hv
        rw [← hv] at hQ
        (apply WP_runI (lv := lvK) (F := LK) LK_ok 10 40; simp (disch := first | decide | omega) only [t90_0, lift_c, o_aload0, o_getref, o_astore, s1_0, s1_s, o_inl, o_istore, o_iload2, o_aload1, o_getfield, o_icge, o_iaload, o_iceq, o_ireturn, o_iinc2, o_goto, z0, z1, z2, z5, z20, z31, runI_0, runI_c, runI_n, liftI_n, liftI_y, run_0, run_c, run_n, fxn, fxi, fxr, fxl, fxl0, ↓swi_n, ↓swi_c, nck0, nck1, nck2, nck3, List.length_cons, List.length_nil, Nat.reduceAdd, Nat.reduceSub, Nat.reduceLeDiff, Nat.reduceEqDiff, Nat.reduceLT, reduceIte, ite_true, ite_false, Nat.sub_zero, Nat.zero_le, true_and, and_true, and_self, true_or, or_true, if_true, if_false, true_implies, implies_true, not_true_eq_false, not_false_eq_true, false_implies, forall_const, ne_eq, or_self, and_false, false_and, Lt, Le, Eq', Cp, In, nI_add, nI_mul, nI_sub, nI_sub1, Neg0, bI_eq0, bI_eq1, bI_01, bft, up2_eq, up2_no, Bool.true_eq_false, Bool.false_eq_true, eq_self, m1_ne, m1_ne2, m1_lt, m1_le, lt_m1, m1_le2, bI_t, bI_f, LK_st, FGu hG, LK_g hG h22 hs2, FY22u hY22, hr48, e3, hj, r1, r2, hgr, hcu])
        exact hQ
  have loop := fun cc ss => loop s 0 cc ss (by omega) hv
  (apply WP_runI (lv := lvK) (F := LK) LK_ok 10 20; simp (disch := first | decide | omega) only [t90_0, lift_c, o_aload0, o_getref, o_astore, s1_0, s1_s, o_inl, o_istore, o_iload2, o_aload1, o_getfield, o_icge, o_iaload, o_iceq, o_ireturn, o_iinc2, o_goto, z0, z1, z2, z5, z20, z31, runI_0, runI_c, runI_n, liftI_n, liftI_y, run_0, run_c, run_n, fxn, fxi, fxr, fxl, fxl0, ↓swi_n, ↓swi_c, nck0, nck1, nck2, nck3, List.length_cons, List.length_nil, Nat.reduceAdd, Nat.reduceSub, Nat.reduceLeDiff, Nat.reduceEqDiff, Nat.reduceLT, reduceIte, ite_true, ite_false, Nat.sub_zero, Nat.zero_le, true_and, and_true, and_self, true_or, or_true, if_true, if_false, true_implies, implies_true, not_true_eq_false, not_false_eq_true, false_implies, forall_const, ne_eq, or_self, and_false, false_and, Lt, Le, Eq', Cp, In, nI_add, nI_mul, nI_sub, nI_sub1, Neg0, bI_eq0, bI_eq1, bI_01, bft, up2_eq, up2_no, Bool.true_eq_false, Bool.false_eq_true, eq_self, m1_ne, m1_ne2, m1_lt, m1_le, lt_m1, m1_le2, bI_t, bI_f, LK_st, FGu hG, LK_g hG h22 hs2, hr48])
  exact loop _ _
end
