/-! ### pairs: of -/
theorem scV_q {a j : Nat} (h : scV 22 a j) : qS a j := by
  have h : a = 27 := h
  exact Or.inl h
theorem IW.scv {n : Nat} {sh : TS} {I I' : TI} {L : TL} {P : TP} {F : TF} {E : Nat → Int32} {k g r : Nat} (h : IW n sh I L P F E k g r) (he : Eo (scV 22) I I') : IW n sh I' L P F E k g r := h.quiet (he.mono fun _ _ => scV_q) Eo.rf Eo.rf
section
variable {G : GE} {d : Nat}
theorem of_P (hd : 50 ≤ d) (x y : Int32) : PAIR G d 68 133 [.ref 20, .int x, .int y] [.ref 123, .int x, .int y] := by
  intro n sh I L P Q hI hQ
  obtain ⟨F, E, k, g, r, hI⟩ := hI
  apply e68
  apply WP_SF
  intro hSF
  have hs2 := hSF.2.2.1
  have hB := hI.cb
  have hG := hB.fg
  have hY22 := hB.y22
  have hY84 := hB.y84
  have h22 : sh 22 = (8, 9) := (FY22u hY22).1
  have hd0 : 0 < d := by omega
  have hk := hI.2.2.1.1.k6
  have hg9 := hI.2.2.1.1.g9
  have hWe := hI.2.2.1.we
  have hF := hI.1
  have h5 := hB.count
  have hx := gooseB hB x
  cases hb : isY (I 124) x with
  | false =>
    rw [hb] at hx
    have bad := hQ (-10001) n sh I L P fun Q2 h2 => by
      refine ⟨(FMu hI.1).1, ?_⟩
      have h2 := h2 _ _ _ _ _ ⟨F, E, k, g, r, hI⟩
      apply e133
      (apply WP_runI (lv := lvM) LM_ok 999 20; simp (disch := first | decide | omega) only [t133_0, t133_1, lift_c, o_aload0, o_iload1, o_virt2, rpush_n, rpush_s, o_ifne, o_inl, o_ireturn, o_iload2, o_stat3, o_ifeq, o_icne, o_virt3, o_stat1, o_goto, o_isub, z0, z1, z2, z3, z4, z5, z10, z20, z31, runI_0, runI_c, runI_n, liftI_n, liftI_y, run_0, run_c, run_n, fxn, fxi, fxr, fxl, fxl0, ↓swi_n, ↓swi_c, nck0, nck1, nck2, nck3, List.length_cons, List.length_nil, Nat.reduceAdd, Nat.reduceSub, Nat.reduceLeDiff, Nat.reduceEqDiff, Nat.reduceLT, reduceIte, ite_true, ite_false, Nat.sub_zero, Nat.zero_le, true_and, and_true, and_self, true_or, or_true, if_true, if_false, true_implies, implies_true, not_true_eq_false, not_false_eq_true, false_implies, forall_const, ne_eq, or_self, and_false, false_and, Lt, Le, Eq', Cp, In, nI_add, nI_mul, nI_sub, nI_sub1, Neg0, bI_eq0, bI_eq1, bI_01, bft, up2_eq, up2_no, Bool.true_eq_false, Bool.false_eq_true, eq_self, m1_ne, m1_ne2, m1_lt, m1_le, lt_m1, m1_le2, bI_t, bI_f, LM_all hF, FMu hF, hWe, hb, hd0])
      exact h2
    (apply WP_runI (lv := lvK) (F := LK) LK_ok 999 20; simp (disch := first | decide | omega) only [t68_0, t68_1, lift_c, o_aload0, o_getref, o_astore, s1_0, s1_s, o_iload1, o_virt2, rpush_n, rpush_s, o_ifne, o_inl, o_ireturn, o_iload2, o_iclt, o_isub, o_stat1, o_ifeq, o_aload3, o_virt3, o_aaload, o_lookup, o_aload4, o_getfield, o_goto, z0, z1, z2, z3, z4, z5, z10, z20, z31, runI_0, runI_c, runI_n, liftI_n, liftI_y, run_0, run_c, run_n, fxn, fxi, fxr, fxl, fxl0, ↓swi_n, ↓swi_c, nck0, nck1, nck2, nck3, List.length_cons, List.length_nil, Nat.reduceAdd, Nat.reduceSub, Nat.reduceLeDiff, Nat.reduceEqDiff, Nat.reduceLT, reduceIte, ite_true, ite_false, Nat.sub_zero, Nat.zero_le, true_and, and_true, and_self, true_or, or_true, if_true, if_false, true_implies, implies_true, not_true_eq_false, not_false_eq_true, false_implies, forall_const, ne_eq, or_self, and_false, false_and, Lt, Le, Eq', Cp, In, nI_add, nI_mul, nI_sub, nI_sub1, Neg0, bI_eq0, bI_eq1, bI_01, bft, up2_eq, up2_no, Bool.true_eq_false, Bool.false_eq_true, eq_self, m1_ne, m1_ne2, m1_lt, m1_le, lt_m1, m1_le2, bI_t, bI_f, LK_st, FGu hG, LK_g hG h22 hs2, FY22u hY22, hx, hd0])
    exact bad
  | true =>
    obtain ⟨i, hi, ex⟩ := isY_of hB.2.2.1 hb
    subst ex
    clear hx
    have g0 : I (28 + 2 * i) 0 = gs (I 124) i 0 := hB.2.1.geese i 0 hi (by omega)
    have g1 : I (28 + 2 * i) 1 = gs (I 124) i 1 := hB.2.1.geese i 1 hi (by omega)
    have g2 : I (28 + 2 * i) 2 = gs (I 124) i 2 := hB.2.1.geese i 2 hi (by omega)
    have g3 : I (28 + 2 * i) 3 = gs (I 124) i 3 := hB.2.1.geese i 3 hi (by omega)
    have g4 : I (28 + 2 * i) 4 = gs (I 124) i 4 := hB.2.1.geese i 4 hi (by omega)
    cases hy : isC (y - nI 10) with
    | true =>
      obtain ⟨c, hc, e⟩ := isC_of hy
      have ey := sub_of e
      subst ey
      have hcc := isC_nI hc
      have q1 : ¬ 10 + c ≤ 4 := by omega
      have q2 : ¬ 10 + c = 5 := by omega
      have q3 : ¬ 10 + c < 10 := by omega
      have good : ∀ I1, Eo (scV 22) I I1 → Q (some (.int (pullS F (I 124) i c))) n sh I1 L P := fun I1 he => hQ _ _ _ _ _ _ fun Q2 h2 => by
        refine ⟨(FMu hI.1).1, ?_⟩
        have hI1 := hI.scv he
        have e124 : I1 124 = I 124 := row_eo he 124 fun j q => by have q : 124 = 27 := q; omega
        apply e133
        (apply WP_runI (lv := lvM) LM_ok 999 60; simp (disch := first | decide | omega) only [t133_0, t133_1, lift_c, o_aload0, o_iload1, o_virt2, rpush_n, rpush_s, o_ifne, o_inl, o_ireturn, o_iload2, o_stat3, o_ifeq, o_icne, o_virt3, o_stat1, o_goto, o_isub, z0, z1, z2, z3, z4, z5, z10, z20, z31, runI_0, runI_c, runI_n, liftI_n, liftI_y, run_0, run_c, run_n, fxn, fxi, fxr, fxl, fxl0, ↓swi_n, ↓swi_c, nck0, nck1, nck2, nck3, List.length_cons, List.length_nil, Nat.reduceAdd, Nat.reduceSub, Nat.reduceLeDiff, Nat.reduceEqDiff, Nat.reduceLT, reduceIte, ite_true, ite_false, Nat.sub_zero, Nat.zero_le, true_and, and_true, and_self, true_or, or_true, if_true, if_false, true_implies, implies_true, not_true_eq_false, not_false_eq_true, false_implies, forall_const, ne_eq, or_self, and_false, false_and, Lt, Le, Eq', Cp, In, nI_add, nI_mul, nI_sub, nI_sub1, Neg0, bI_eq0, bI_eq1, bI_01, bft, up2_eq, up2_no, Bool.true_eq_false, Bool.false_eq_true, eq_self, m1_ne, m1_ne2, m1_lt, m1_le, lt_m1, m1_le2, bI_t, bI_f, LM_all hF, FMu hF, hWe, hb, e124, q1, q2, hcc, hd0, Nat.add_sub_cancel_left, decide_false])
        refine pull_M hF hI1.2.2.1.1 hI1.2.2.1.2.1 hi hc (by omega) fun I2 he2 => ?_
        rw [hI1.2.2.1.2.2.1, e124]
        have h2 := h2 n sh I2 L P ⟨F, E, k, g, r, hI1.scA (he2.mono fun _ _ => scR_A)⟩
        generalize pullS F (I 124) i c = v at h2 ⊢
        (apply WP_runI (lv := lvM) LM_ok 999 20; simp (disch := first | decide | omega) only [t133_0, t133_1, lift_c, o_aload0, o_iload1, o_virt2, rpush_n, rpush_s, o_ifne, o_inl, o_ireturn, o_iload2, o_stat3, o_ifeq, o_icne, o_virt3, o_stat1, o_goto, o_isub, z0, z1, z2, z3, z4, z5, z10, z20, z31, runI_0, runI_c, runI_n, liftI_n, liftI_y, run_0, run_c, run_n, fxn, fxi, fxr, fxl, fxl0, ↓swi_n, ↓swi_c, nck0, nck1, nck2, nck3, List.length_cons, List.length_nil, Nat.reduceAdd, Nat.reduceSub, Nat.reduceLeDiff, Nat.reduceEqDiff, Nat.reduceLT, reduceIte, ite_true, ite_false, Nat.sub_zero, Nat.zero_le, true_and, and_true, and_self, true_or, or_true, if_true, if_false, true_implies, implies_true, not_true_eq_false, not_false_eq_true, false_implies, forall_const, ne_eq, or_self, and_false, false_and, Lt, Le, Eq', Cp, In, nI_add, nI_mul, nI_sub, nI_sub1, Neg0, bI_eq0, bI_eq1, bI_01, bft, up2_eq, up2_no, Bool.true_eq_false, Bool.false_eq_true, eq_self, m1_ne, m1_ne2, m1_lt, m1_le, lt_m1, m1_le2, bI_t, bI_f, LM_all hF, FMu hF, hd0])
        exact h2
      (apply WP_runI (lv := lvK) (F := LK) LK_ok 999 40; simp (disch := first | decide | omega) only [t68_0, t68_1, lift_c, o_aload0, o_getref, o_astore, s1_0, s1_s, o_iload1, o_virt2, rpush_n, rpush_s, o_ifne, o_inl, o_ireturn, o_iload2, o_iclt, o_isub, o_stat1, o_ifeq, o_aload3, o_virt3, o_aaload, o_lookup, o_aload4, o_getfield, o_goto, z0, z1, z2, z3, z4, z5, z10, z20, z31, runI_0, runI_c, runI_n, liftI_n, liftI_y, run_0, run_c, run_n, fxn, fxi, fxr, fxl, fxl0, ↓swi_n, ↓swi_c, nck0, nck1, nck2, nck3, List.length_cons, List.length_nil, Nat.reduceAdd, Nat.reduceSub, Nat.reduceLeDiff, Nat.reduceEqDiff, Nat.reduceLT, reduceIte, ite_true, ite_false, Nat.sub_zero, Nat.zero_le, true_and, and_true, and_self, true_or, or_true, if_true, if_false, true_implies, implies_true, not_true_eq_false, not_false_eq_true, false_implies, forall_const, ne_eq, or_self, and_false, false_and, Lt, Le, Eq', Cp, In, nI_add, nI_mul, nI_sub, nI_sub1, Neg0, bI_eq0, bI_eq1, bI_01, bft, up2_eq, up2_no, Bool.true_eq_false, Bool.false_eq_true, eq_self, m1_ne, m1_ne2, m1_lt, m1_le, lt_m1, m1_le2, bI_t, bI_f, LK_st, FGu hG, LK_g hG h22 hs2, FY22u hY22, h5, hi, q3, hcc, decide_true, hd0, Nat.add_sub_cancel_left])
      refine pull_Y hB.2.1 hB.2.2.1 (by omega) hi hc (by omega) fun I1 he => ?_
      have good := good I1 he
      generalize pullS F (I 124) i c = v at good ⊢
      (apply WP_runI (lv := lvK) (F := LK) LK_ok 999 20; simp (disch := first | decide | omega) only [t68_0, t68_1, lift_c, o_aload0, o_getref, o_astore, s1_0, s1_s, o_iload1, o_virt2, rpush_n, rpush_s, o_ifne, o_inl, o_ireturn, o_iload2, o_iclt, o_isub, o_stat1, o_ifeq, o_aload3, o_virt3, o_aaload, o_lookup, o_aload4, o_getfield, o_goto, z0, z1, z2, z3, z4, z5, z10, z20, z31, runI_0, runI_c, runI_n, liftI_n, liftI_y, run_0, run_c, run_n, fxn, fxi, fxr, fxl, fxl0, ↓swi_n, ↓swi_c, nck0, nck1, nck2, nck3, List.length_cons, List.length_nil, Nat.reduceAdd, Nat.reduceSub, Nat.reduceLeDiff, Nat.reduceEqDiff, Nat.reduceLT, reduceIte, ite_true, ite_false, Nat.sub_zero, Nat.zero_le, true_and, and_true, and_self, true_or, or_true, if_true, if_false, true_implies, implies_true, not_true_eq_false, not_false_eq_true, false_implies, forall_const, ne_eq, or_self, and_false, false_and, Lt, Le, Eq', Cp, In, nI_add, nI_mul, nI_sub, nI_sub1, Neg0, bI_eq0, bI_eq1, bI_01, bft, up2_eq, up2_no, Bool.true_eq_false, Bool.false_eq_true, eq_self, m1_ne, m1_ne2, m1_lt, m1_le, lt_m1, m1_le2, bI_t, bI_f, LK_st, FGu hG, LK_g hG h22 hs2, hd0])
      exact good
    | false =>
      have low : ∀ t, t < 6 → ¬ (nI t = nI 10) := fun t ht => by rw [nI_eq (by omega) (by omega)]; omega
      by_cases e0 : y = nI 0
      · subst e0
        have hQ := hQ (gs (I 124) i 0) n sh I L P fun Q2 h2 => by
          refine ⟨(FMu hI.1).1, ?_⟩
          have h2 := h2 _ _ _ _ _ ⟨F, E, k, g, r, hI⟩
          apply e133
          (apply WP_runI (lv := lvM) LM_ok 999 40; simp (disch := first | decide | omega) only [t133_0, t133_1, lift_c, o_aload0, o_iload1, o_virt2, rpush_n, rpush_s, o_ifne, o_inl, o_ireturn, o_iload2, o_stat3, o_ifeq, o_icne, o_virt3, o_stat1, o_goto, o_isub, z0, z1, z2, z3, z4, z5, z10, z20, z31, runI_0, runI_c, runI_n, liftI_n, liftI_y, run_0, run_c, run_n, fxn, fxi, fxr, fxl, fxl0, ↓swi_n, ↓swi_c, nck0, nck1, nck2, nck3, List.length_cons, List.length_nil, Nat.reduceAdd, Nat.reduceSub, Nat.reduceLeDiff, Nat.reduceEqDiff, Nat.reduceLT, reduceIte, ite_true, ite_false, Nat.sub_zero, Nat.zero_le, true_and, and_true, and_self, true_or, or_true, if_true, if_false, true_implies, implies_true, not_true_eq_false, not_false_eq_true, false_implies, forall_const, ne_eq, or_self, and_false, false_and, Lt, Le, Eq', Cp, In, nI_add, nI_mul, nI_sub, nI_sub1, Neg0, bI_eq0, bI_eq1, bI_01, bft, up2_eq, up2_no, Bool.true_eq_false, Bool.false_eq_true, eq_self, m1_ne, m1_ne2, m1_lt, m1_le, lt_m1, m1_le2, bI_t, bI_f, LM_all hF, FMu hF, hWe, hb, hd0, decide_true])
          exact h2
        (apply WP_runI (lv := lvK) (F := LK) LK_ok 999 40; simp (disch := first | decide | omega) only [t68_0, t68_1, lift_c, o_aload0, o_getref, o_astore, s1_0, s1_s, o_iload1, o_virt2, rpush_n, rpush_s, o_ifne, o_inl, o_ireturn, o_iload2, o_iclt, o_isub, o_stat1, o_ifeq, o_aload3, o_virt3, o_aaload, o_lookup, o_aload4, o_getfield, o_goto, z0, z1, z2, z3, z4, z5, z10, z20, z31, runI_0, runI_c, runI_n, liftI_n, liftI_y, run_0, run_c, run_n, fxn, fxi, fxr, fxl, fxl0, ↓swi_n, ↓swi_c, nck0, nck1, nck2, nck3, List.length_cons, List.length_nil, Nat.reduceAdd, Nat.reduceSub, Nat.reduceLeDiff, Nat.reduceEqDiff, Nat.reduceLT, reduceIte, ite_true, ite_false, Nat.sub_zero, Nat.zero_le, true_and, and_true, and_self, true_or, or_true, if_true, if_false, true_implies, implies_true, not_true_eq_false, not_false_eq_true, false_implies, forall_const, ne_eq, or_self, and_false, false_and, Lt, Le, Eq', Cp, In, nI_add, nI_mul, nI_sub, nI_sub1, Neg0, bI_eq0, bI_eq1, bI_01, bft, up2_eq, up2_no, Bool.true_eq_false, Bool.false_eq_true, eq_self, m1_ne, m1_ne2, m1_lt, m1_le, lt_m1, m1_le2, bI_t, bI_f, LK_st, FGu hG, LK_g hG h22 hs2, FY22u hY22, h5, hi, decide_true, hd0, g0])
        exact hQ
      by_cases e1 : y = nI 1
      · subst e1
        have hQ := hQ (gs (I 124) i 1) n sh I L P fun Q2 h2 => by
          refine ⟨(FMu hI.1).1, ?_⟩
          have h2 := h2 _ _ _ _ _ ⟨F, E, k, g, r, hI⟩
          apply e133
          (apply WP_runI (lv := lvM) LM_ok 999 40; simp (disch := first | decide | omega) only [t133_0, t133_1, lift_c, o_aload0, o_iload1, o_virt2, rpush_n, rpush_s, o_ifne, o_inl, o_ireturn, o_iload2, o_stat3, o_ifeq, o_icne, o_virt3, o_stat1, o_goto, o_isub, z0, z1, z2, z3, z4, z5, z10, z20, z31, runI_0, runI_c, runI_n, liftI_n, liftI_y, run_0, run_c, run_n, fxn, fxi, fxr, fxl, fxl0, ↓swi_n, ↓swi_c, nck0, nck1, nck2, nck3, List.length_cons, List.length_nil, Nat.reduceAdd, Nat.reduceSub, Nat.reduceLeDiff, Nat.reduceEqDiff, Nat.reduceLT, reduceIte, ite_true, ite_false, Nat.sub_zero, Nat.zero_le, true_and, and_true, and_self, true_or, or_true, if_true, if_false, true_implies, implies_true, not_true_eq_false, not_false_eq_true, false_implies, forall_const, ne_eq, or_self, and_false, false_and, Lt, Le, Eq', Cp, In, nI_add, nI_mul, nI_sub, nI_sub1, Neg0, bI_eq0, bI_eq1, bI_01, bft, up2_eq, up2_no, Bool.true_eq_false, Bool.false_eq_true, eq_self, m1_ne, m1_ne2, m1_lt, m1_le, lt_m1, m1_le2, bI_t, bI_f, LM_all hF, FMu hF, hWe, hb, hd0, decide_true])
          exact h2
        (apply WP_runI (lv := lvK) (F := LK) LK_ok 999 40; simp (disch := first | decide | omega) only [t68_0, t68_1, lift_c, o_aload0, o_getref, o_astore, s1_0, s1_s, o_iload1, o_virt2, rpush_n, rpush_s, o_ifne, o_inl, o_ireturn, o_iload2, o_iclt, o_isub, o_stat1, o_ifeq, o_aload3, o_virt3, o_aaload, o_lookup, o_aload4, o_getfield, o_goto, z0, z1, z2, z3, z4, z5, z10, z20, z31, runI_0, runI_c, runI_n, liftI_n, liftI_y, run_0, run_c, run_n, fxn, fxi, fxr, fxl, fxl0, ↓swi_n, ↓swi_c, nck0, nck1, nck2, nck3, List.length_cons, List.length_nil, Nat.reduceAdd, Nat.reduceSub, Nat.reduceLeDiff, Nat.reduceEqDiff, Nat.reduceLT, reduceIte, ite_true, ite_false, Nat.sub_zero, Nat.zero_le, true_and, and_true, and_self, true_or, or_true, if_true, if_false, true_implies, implies_true, not_true_eq_false, not_false_eq_true, false_implies, forall_const, ne_eq, or_self, and_false, false_and, Lt, Le, Eq', Cp, In, nI_add, nI_mul, nI_sub, nI_sub1, Neg0, bI_eq0, bI_eq1, bI_01, bft, up2_eq, up2_no, Bool.true_eq_false, Bool.false_eq_true, eq_self, m1_ne, m1_ne2, m1_lt, m1_le, lt_m1, m1_le2, bI_t, bI_f, LK_st, FGu hG, LK_g hG h22 hs2, FY22u hY22, h5, hi, decide_true, hd0, g1])
        exact hQ
      by_cases e2 : y = nI 2
      · subst e2
        have hQ := hQ (gs (I 124) i 2) n sh I L P fun Q2 h2 => by
          refine ⟨(FMu hI.1).1, ?_⟩
          have h2 := h2 _ _ _ _ _ ⟨F, E, k, g, r, hI⟩
          apply e133
          (apply WP_runI (lv := lvM) LM_ok 999 40; simp (disch := first | decide | omega) only [t133_0, t133_1, lift_c, o_aload0, o_iload1, o_virt2, rpush_n, rpush_s, o_ifne, o_inl, o_ireturn, o_iload2, o_stat3, o_ifeq, o_icne, o_virt3, o_stat1, o_goto, o_isub, z0, z1, z2, z3, z4, z5, z10, z20, z31, runI_0, runI_c, runI_n, liftI_n, liftI_y, run_0, run_c, run_n, fxn, fxi, fxr, fxl, fxl0, ↓swi_n, ↓swi_c, nck0, nck1, nck2, nck3, List.length_cons, List.length_nil, Nat.reduceAdd, Nat.reduceSub, Nat.reduceLeDiff, Nat.reduceEqDiff, Nat.reduceLT, reduceIte, ite_true, ite_false, Nat.sub_zero, Nat.zero_le, true_and, and_true, and_self, true_or, or_true, if_true, if_false, true_implies, implies_true, not_true_eq_false, not_false_eq_true, false_implies, forall_const, ne_eq, or_self, and_false, false_and, Lt, Le, Eq', Cp, In, nI_add, nI_mul, nI_sub, nI_sub1, Neg0, bI_eq0, bI_eq1, bI_01, bft, up2_eq, up2_no, Bool.true_eq_false, Bool.false_eq_true, eq_self, m1_ne, m1_ne2, m1_lt, m1_le, lt_m1, m1_le2, bI_t, bI_f, LM_all hF, FMu hF, hWe, hb, hd0, decide_true])
          exact h2
        (apply WP_runI (lv := lvK) (F := LK) LK_ok 999 40; simp (disch := first | decide | omega) only [t68_0, t68_1, lift_c, o_aload0, o_getref, o_astore, s1_0, s1_s, o_iload1, o_virt2, rpush_n, rpush_s, o_ifne, o_inl, o_ireturn, o_iload2, o_iclt, o_isub, o_stat1, o_ifeq, o_aload3, o_virt3, o_aaload, o_lookup, o_aload4, o_getfield, o_goto, z0, z1, z2, z3, z4, z5, z10, z20, z31, runI_0, runI_c, runI_n, liftI_n, liftI_y, run_0, run_c, run_n, fxn, fxi, fxr, fxl, fxl0, ↓swi_n, ↓swi_c, nck0, nck1, nck2, nck3, List.length_cons, List.length_nil, Nat.reduceAdd, Nat.reduceSub, Nat.reduceLeDiff, Nat.reduceEqDiff, Nat.reduceLT, reduceIte, ite_true, ite_false, Nat.sub_zero, Nat.zero_le, true_and, and_true, and_self, true_or, or_true, if_true, if_false, true_implies, implies_true, not_true_eq_false, not_false_eq_true, false_implies, forall_const, ne_eq, or_self, and_false, false_and, Lt, Le, Eq', Cp, In, nI_add, nI_mul, nI_sub, nI_sub1, Neg0, bI_eq0, bI_eq1, bI_01, bft, up2_eq, up2_no, Bool.true_eq_false, Bool.false_eq_true, eq_self, m1_ne, m1_ne2, m1_lt, m1_le, lt_m1, m1_le2, bI_t, bI_f, LK_st, FGu hG, LK_g hG h22 hs2, FY22u hY22, h5, hi, decide_true, hd0, g2])
        exact hQ
      by_cases e3 : y = nI 3
      · subst e3
        have hQ := hQ (orN (gs (I 124) i 3)) n sh I L P fun Q2 h2 => by
          refine ⟨(FMu hI.1).1, ?_⟩
          have h2 := h2 _ _ _ _ _ ⟨F, E, k, g, r, hI⟩
          apply e133
          (apply WP_runI (lv := lvM) LM_ok 999 40; simp (disch := first | decide | omega) only [t133_0, t133_1, lift_c, o_aload0, o_iload1, o_virt2, rpush_n, rpush_s, o_ifne, o_inl, o_ireturn, o_iload2, o_stat3, o_ifeq, o_icne, o_virt3, o_stat1, o_goto, o_isub, z0, z1, z2, z3, z4, z5, z10, z20, z31, runI_0, runI_c, runI_n, liftI_n, liftI_y, run_0, run_c, run_n, fxn, fxi, fxr, fxl, fxl0, ↓swi_n, ↓swi_c, nck0, nck1, nck2, nck3, List.length_cons, List.length_nil, Nat.reduceAdd, Nat.reduceSub, Nat.reduceLeDiff, Nat.reduceEqDiff, Nat.reduceLT, reduceIte, ite_true, ite_false, Nat.sub_zero, Nat.zero_le, true_and, and_true, and_self, true_or, or_true, if_true, if_false, true_implies, implies_true, not_true_eq_false, not_false_eq_true, false_implies, forall_const, ne_eq, or_self, and_false, false_and, Lt, Le, Eq', Cp, In, nI_add, nI_mul, nI_sub, nI_sub1, Neg0, bI_eq0, bI_eq1, bI_01, bft, up2_eq, up2_no, Bool.true_eq_false, Bool.false_eq_true, eq_self, m1_ne, m1_ne2, m1_lt, m1_le, lt_m1, m1_le2, bI_t, bI_f, LM_all hF, FMu hF, hWe, hb, hd0, decide_true])
          exact h2
        (apply WP_runI (lv := lvK) (F := LK) LK_ok 999 40; simp (disch := first | decide | omega) only [t68_0, t68_1, lift_c, o_aload0, o_getref, o_astore, s1_0, s1_s, o_iload1, o_virt2, rpush_n, rpush_s, o_ifne, o_inl, o_ireturn, o_iload2, o_iclt, o_isub, o_stat1, o_ifeq, o_aload3, o_virt3, o_aaload, o_lookup, o_aload4, o_getfield, o_goto, z0, z1, z2, z3, z4, z5, z10, z20, z31, runI_0, runI_c, runI_n, liftI_n, liftI_y, run_0, run_c, run_n, fxn, fxi, fxr, fxl, fxl0, ↓swi_n, ↓swi_c, nck0, nck1, nck2, nck3, List.length_cons, List.length_nil, Nat.reduceAdd, Nat.reduceSub, Nat.reduceLeDiff, Nat.reduceEqDiff, Nat.reduceLT, reduceIte, ite_true, ite_false, Nat.sub_zero, Nat.zero_le, true_and, and_true, and_self, true_or, or_true, if_true, if_false, true_implies, implies_true, not_true_eq_false, not_false_eq_true, false_implies, forall_const, ne_eq, or_self, and_false, false_and, Lt, Le, Eq', Cp, In, nI_add, nI_mul, nI_sub, nI_sub1, Neg0, bI_eq0, bI_eq1, bI_01, bft, up2_eq, up2_no, Bool.true_eq_false, Bool.false_eq_true, eq_self, m1_ne, m1_ne2, m1_lt, m1_le, lt_m1, m1_le2, bI_t, bI_f, LK_st, FGu hG, LK_g hG h22 hs2, FY22u hY22, h5, hi, decide_true, hd0, g3])
        exact hQ
      by_cases e4 : y = nI 4
      · subst e4
        have hQ := hQ (gs (I 124) i 4) n sh I L P fun Q2 h2 => by
          refine ⟨(FMu hI.1).1, ?_⟩
          have h2 := h2 _ _ _ _ _ ⟨F, E, k, g, r, hI⟩
          apply e133
          (apply WP_runI (lv := lvM) LM_ok 999 40; simp (disch := first | decide | omega) only [t133_0, t133_1, lift_c, o_aload0, o_iload1, o_virt2, rpush_n, rpush_s, o_ifne, o_inl, o_ireturn, o_iload2, o_stat3, o_ifeq, o_icne, o_virt3, o_stat1, o_goto, o_isub, z0, z1, z2, z3, z4, z5, z10, z20, z31, runI_0, runI_c, runI_n, liftI_n, liftI_y, run_0, run_c, run_n, fxn, fxi, fxr, fxl, fxl0, ↓swi_n, ↓swi_c, nck0, nck1, nck2, nck3, List.length_cons, List.length_nil, Nat.reduceAdd, Nat.reduceSub, Nat.reduceLeDiff, Nat.reduceEqDiff, Nat.reduceLT, reduceIte, ite_true, ite_false, Nat.sub_zero, Nat.zero_le, true_and, and_true, and_self, true_or, or_true, if_true, if_false, true_implies, implies_true, not_true_eq_false, not_false_eq_true, false_implies, forall_const, ne_eq, or_self, and_false, false_and, Lt, Le, Eq', Cp, In, nI_add, nI_mul, nI_sub, nI_sub1, Neg0, bI_eq0, bI_eq1, bI_01, bft, up2_eq, up2_no, Bool.true_eq_false, Bool.false_eq_true, eq_self, m1_ne, m1_ne2, m1_lt, m1_le, lt_m1, m1_le2, bI_t, bI_f, LM_all hF, FMu hF, hWe, hb, hd0, decide_true])
          exact h2
        have n01 : ¬ nI 1 = nI 0 := by decide
        rcases hB.2.2.1.taken hi with e | e
        · rw [e] at g4 hQ
          (apply WP_runI (lv := lvK) (F := LK) LK_ok 999 40; simp (disch := first | decide | omega) only [t68_0, t68_1, lift_c, o_aload0, o_getref, o_astore, s1_0, s1_s, o_iload1, o_virt2, rpush_n, rpush_s, o_ifne, o_inl, o_ireturn, o_iload2, o_iclt, o_isub, o_stat1, o_ifeq, o_aload3, o_virt3, o_aaload, o_lookup, o_aload4, o_getfield, o_goto, z0, z1, z2, z3, z4, z5, z10, z20, z31, runI_0, runI_c, runI_n, liftI_n, liftI_y, run_0, run_c, run_n, fxn, fxi, fxr, fxl, fxl0, ↓swi_n, ↓swi_c, nck0, nck1, nck2, nck3, List.length_cons, List.length_nil, Nat.reduceAdd, Nat.reduceSub, Nat.reduceLeDiff, Nat.reduceEqDiff, Nat.reduceLT, reduceIte, ite_true, ite_false, Nat.sub_zero, Nat.zero_le, true_and, and_true, and_self, true_or, or_true, if_true, if_false, true_implies, implies_true, not_true_eq_false, not_false_eq_true, false_implies, forall_const, ne_eq, or_self, and_false, false_and, Lt, Le, Eq', Cp, In, nI_add, nI_mul, nI_sub, nI_sub1, Neg0, bI_eq0, bI_eq1, bI_01, bft, up2_eq, up2_no, Bool.true_eq_false, Bool.false_eq_true, eq_self, m1_ne, m1_ne2, m1_lt, m1_le, lt_m1, m1_le2, bI_t, bI_f, LK_st, FGu hG, LK_g hG h22 hs2, FY22u hY22, h5, hi, decide_true, hd0, g4])
          exact hQ
        · rw [e] at g4 hQ
          (apply WP_runI (lv := lvK) (F := LK) LK_ok 999 40; simp (disch := first | decide | omega) only [t68_0, t68_1, lift_c, o_aload0, o_getref, o_astore, s1_0, s1_s, o_iload1, o_virt2, rpush_n, rpush_s, o_ifne, o_inl, o_ireturn, o_iload2, o_iclt, o_isub, o_stat1, o_ifeq, o_aload3, o_virt3, o_aaload, o_lookup, o_aload4, o_getfield, o_goto, z0, z1, z2, z3, z4, z5, z10, z20, z31, runI_0, runI_c, runI_n, liftI_n, liftI_y, run_0, run_c, run_n, fxn, fxi, fxr, fxl, fxl0, ↓swi_n, ↓swi_c, nck0, nck1, nck2, nck3, List.length_cons, List.length_nil, Nat.reduceAdd, Nat.reduceSub, Nat.reduceLeDiff, Nat.reduceEqDiff, Nat.reduceLT, reduceIte, ite_true, ite_false, Nat.sub_zero, Nat.zero_le, true_and, and_true, and_self, true_or, or_true, if_true, if_false, true_implies, implies_true, not_true_eq_false, not_false_eq_true, false_implies, forall_const, ne_eq, or_self, and_false, false_and, Lt, Le, Eq', Cp, In, nI_add, nI_mul, nI_sub, nI_sub1, Neg0, bI_eq0, bI_eq1, bI_01, bft, up2_eq, up2_no, Bool.true_eq_false, Bool.false_eq_true, eq_self, m1_ne, m1_ne2, m1_lt, m1_le, lt_m1, m1_le2, bI_t, bI_f, LK_st, FGu hG, LK_g hG h22 hs2, FY22u hY22, h5, hi, decide_true, hd0, g4, n01])
          exact hQ
      by_cases e5 : y = nI 5
      · subst e5
        have good : ∀ I1 v, Eo (scV 22) I I1 → goS F (I 124) i = v → Q (some (.int (nI v))) n sh I1 L P := fun I1 v he hv => hQ _ _ _ _ _ _ fun Q2 h2 => by
          refine ⟨(FMu hI.1).1, ?_⟩
          have hI1 := hI.scv he
          have e124 : I1 124 = I 124 := row_eo he 124 fun j q => by have q : 124 = 27 := q; omega
          apply e133
          (apply WP_runI (lv := lvM) LM_ok 999 40; simp (disch := first | decide | omega) only [t133_0, t133_1, lift_c, o_aload0, o_iload1, o_virt2, rpush_n, rpush_s, o_ifne, o_inl, o_ireturn, o_iload2, o_stat3, o_ifeq, o_icne, o_virt3, o_stat1, o_goto, o_isub, z0, z1, z2, z3, z4, z5, z10, z20, z31, runI_0, runI_c, runI_n, liftI_n, liftI_y, run_0, run_c, run_n, fxn, fxi, fxr, fxl, fxl0, ↓swi_n, ↓swi_c, nck0, nck1, nck2, nck3, List.length_cons, List.length_nil, Nat.reduceAdd, Nat.reduceSub, Nat.reduceLeDiff, Nat.reduceEqDiff, Nat.reduceLT, reduceIte, ite_true, ite_false, Nat.sub_zero, Nat.zero_le, true_and, and_true, and_self, true_or, or_true, if_true, if_false, true_implies, implies_true, not_true_eq_false, not_false_eq_true, false_implies, forall_const, ne_eq, or_self, and_false, false_and, Lt, Le, Eq', Cp, In, nI_add, nI_mul, nI_sub, nI_sub1, Neg0, bI_eq0, bI_eq1, bI_01, bft, up2_eq, up2_no, Bool.true_eq_false, Bool.false_eq_true, eq_self, m1_ne, m1_ne2, m1_lt, m1_le, lt_m1, m1_le2, bI_t, bI_f, LM_all hF, FMu hF, hWe, hb, e124, hd0, decide_false])
          refine goesTo_M hF hI1.2.2.1.1 hI1.2.2.1.2.1 hi (by omega) fun I2 he2 => ?_
          rw [hI1.2.2.1.2.2.1, e124, hv]
          have h2 := h2 n sh I2 L P ⟨F, E, k, g, r, hI1.scA (he2.mono fun _ _ => scR_A)⟩
          (apply WP_runI (lv := lvM) LM_ok 999 20; simp (disch := first | decide | omega) only [t133_0, t133_1, lift_c, o_aload0, o_iload1, o_virt2, rpush_n, rpush_s, o_ifne, o_inl, o_ireturn, o_iload2, o_stat3, o_ifeq, o_icne, o_virt3, o_stat1, o_goto, o_isub, z0, z1, z2, z3, z4, z5, z10, z20, z31, runI_0, runI_c, runI_n, liftI_n, liftI_y, run_0, run_c, run_n, fxn, fxi, fxr, fxl, fxl0, ↓swi_n, ↓swi_c, nck0, nck1, nck2, nck3, List.length_cons, List.length_nil, Nat.reduceAdd, Nat.reduceSub, Nat.reduceLeDiff, Nat.reduceEqDiff, Nat.reduceLT, reduceIte, ite_true, ite_false, Nat.sub_zero, Nat.zero_le, true_and, and_true, and_self, true_or, or_true, if_true, if_false, true_implies, implies_true, not_true_eq_false, not_false_eq_true, false_implies, forall_const, ne_eq, or_self, and_false, false_and, Lt, Le, Eq', Cp, In, nI_add, nI_mul, nI_sub, nI_sub1, Neg0, bI_eq0, bI_eq1, bI_01, bft, up2_eq, up2_no, Bool.true_eq_false, Bool.false_eq_true, eq_self, m1_ne, m1_ne2, m1_lt, m1_le, lt_m1, m1_le2, bI_t, bI_f, LM_all hF, FMu hF, hd0])
          exact h2
        (apply WP_runI (lv := lvK) (F := LK) LK_ok 999 40; simp (disch := first | decide | omega) only [t68_0, t68_1, lift_c, o_aload0, o_getref, o_astore, s1_0, s1_s, o_iload1, o_virt2, rpush_n, rpush_s, o_ifne, o_inl, o_ireturn, o_iload2, o_iclt, o_isub, o_stat1, o_ifeq, o_aload3, o_virt3, o_aaload, o_lookup, o_aload4, o_getfield, o_goto, z0, z1, z2, z3, z4, z5, z10, z20, z31, runI_0, runI_c, runI_n, liftI_n, liftI_y, run_0, run_c, run_n, fxn, fxi, fxr, fxl, fxl0, ↓swi_n, ↓swi_c, nck0, nck1, nck2, nck3, List.length_cons, List.length_nil, Nat.reduceAdd, Nat.reduceSub, Nat.reduceLeDiff, Nat.reduceEqDiff, Nat.reduceLT, reduceIte, ite_true, ite_false, Nat.sub_zero, Nat.zero_le, true_and, and_true, and_self, true_or, or_true, if_true, if_false, true_implies, implies_true, not_true_eq_false, not_false_eq_true, false_implies, forall_const, ne_eq, or_self, and_false, false_and, Lt, Le, Eq', Cp, In, nI_add, nI_mul, nI_sub, nI_sub1, Neg0, bI_eq0, bI_eq1, bI_01, bft, up2_eq, up2_no, Bool.true_eq_false, Bool.false_eq_true, eq_self, m1_ne, m1_ne2, m1_lt, m1_le, lt_m1, m1_le2, bI_t, bI_f, LK_st, FGu hG, LK_g hG h22 hs2, FY22u hY22, h5, hi, decide_true, hd0])
        refine goal_Y hB.2.1 hB.2.2.1 (by omega) hi (by omega) fun I1 v he hv => ?_
        have good := good I1 v he hv
        clear hv
        (apply WP_runI (lv := lvK) (F := LK) LK_ok 999 20; simp (disch := first | decide | omega) only [t68_0, t68_1, lift_c, o_aload0, o_getref, o_astore, s1_0, s1_s, o_iload1, o_virt2, rpush_n, rpush_s, o_ifne, o_inl, o_ireturn, o_iload2, o_iclt, o_isub, o_stat1, o_ifeq, o_aload3, o_virt3, o_aaload, o_lookup, o_aload4, o_getfield, o_goto, z0, z1, z2, z3, z4, z5, z10, z20, z31, runI_0, runI_c, runI_n, liftI_n, liftI_y, run_0, run_c, run_n, fxn, fxi, fxr, fxl, fxl0, ↓swi_n, ↓swi_c, nck0, nck1, nck2, nck3, List.length_cons, List.length_nil, Nat.reduceAdd, Nat.reduceSub, Nat.reduceLeDiff, Nat.reduceEqDiff, Nat.reduceLT, reduceIte, ite_true, ite_false, Nat.sub_zero, Nat.zero_le, true_and, and_true, and_self, true_or, or_true, if_true, if_false, true_implies, implies_true, not_true_eq_false, not_false_eq_true, false_implies, forall_const, ne_eq, or_self, and_false, false_and, Lt, Le, Eq', Cp, In, nI_add, nI_mul, nI_sub, nI_sub1, Neg0, bI_eq0, bI_eq1, bI_01, bft, up2_eq, up2_no, Bool.true_eq_false, Bool.false_eq_true, eq_self, m1_ne, m1_ne2, m1_lt, m1_le, lt_m1, m1_le2, bI_t, bI_f, LK_st, FGu hG, LK_g hG h22 hs2, hd0])
        exact good
      have hn : inR y 0 4 = false := by
        cases h : inR y 0 4 with
        | false => rfl
        | true =>
          obtain ⟨m, -, hm, rfl⟩ := inR_of (by omega) (by omega) h
          have : m = 0 ∨ m = 1 ∨ m = 2 ∨ m = 3 ∨ m = 4 := by omega
          rcases this with rfl | rfl | rfl | rfl | rfl
          · exact absurd rfl e0
          · exact absurd rfl e1
          · exact absurd rfl e2
          · exact absurd rfl e3
          · exact absurd rfl e4
      have hn2 : decide (nI 0 ≤ y ∧ y ≤ nI 4) = false := hn
      have hQ := hQ (-10001) n sh I L P fun Q2 h2 => by
        refine ⟨(FMu hI.1).1, ?_⟩
        have h2 := h2 _ _ _ _ _ ⟨F, E, k, g, r, hI⟩
        apply e133
        (apply WP_runI (lv := lvM) LM_ok 999 60; simp (disch := first | decide | omega) only [t133_0, t133_1, lift_c, o_aload0, o_iload1, o_virt2, rpush_n, rpush_s, o_ifne, o_inl, o_ireturn, o_iload2, o_stat3, o_ifeq, o_icne, o_virt3, o_stat1, o_goto, o_isub, z0, z1, z2, z3, z4, z5, z10, z20, z31, runI_0, runI_c, runI_n, liftI_n, liftI_y, run_0, run_c, run_n, fxn, fxi, fxr, fxl, fxl0, ↓swi_n, ↓swi_c, nck0, nck1, nck2, nck3, List.length_cons, List.length_nil, Nat.reduceAdd, Nat.reduceSub, Nat.reduceLeDiff, Nat.reduceEqDiff, Nat.reduceLT, reduceIte, ite_true, ite_false, Nat.sub_zero, Nat.zero_le, true_and, and_true, and_self, true_or, or_true, if_true, if_false, true_implies, implies_true, not_true_eq_false, not_false_eq_true, false_implies, forall_const, ne_eq, or_self, and_false, false_and, Lt, Le, Eq', Cp, In, nI_add, nI_mul, nI_sub, nI_sub1, Neg0, bI_eq0, bI_eq1, bI_01, bft, up2_eq, up2_no, Bool.true_eq_false, Bool.false_eq_true, eq_self, m1_ne, m1_ne2, m1_lt, m1_le, lt_m1, m1_le2, bI_t, bI_f, LM_all hF, FMu hF, hWe, hb, hn2, e5, hy, hd0])
        exact h2
      clear hn hn2
      by_cases l1 : y < nI 10
      · (apply WP_runI (lv := lvK) (F := LK) LK_ok 999 60; simp (disch := first | decide | omega) only [t68_0, t68_1, lift_c, o_aload0, o_getref, o_astore, s1_0, s1_s, o_iload1, o_virt2, rpush_n, rpush_s, o_ifne, o_inl, o_ireturn, o_iload2, o_iclt, o_isub, o_stat1, o_ifeq, o_aload3, o_virt3, o_aaload, o_lookup, o_aload4, o_getfield, o_goto, z0, z1, z2, z3, z4, z5, z10, z20, z31, runI_0, runI_c, runI_n, liftI_n, liftI_y, run_0, run_c, run_n, fxn, fxi, fxr, fxl, fxl0, ↓swi_n, ↓swi_c, nck0, nck1, nck2, nck3, List.length_cons, List.length_nil, Nat.reduceAdd, Nat.reduceSub, Nat.reduceLeDiff, Nat.reduceEqDiff, Nat.reduceLT, reduceIte, ite_true, ite_false, Nat.sub_zero, Nat.zero_le, true_and, and_true, and_self, true_or, or_true, if_true, if_false, true_implies, implies_true, not_true_eq_false, not_false_eq_true, false_implies, forall_const, ne_eq, or_self, and_false, false_and, Lt, Le, Eq', Cp, In, nI_add, nI_mul, nI_sub, nI_sub1, Neg0, bI_eq0, bI_eq1, bI_01, bft, up2_eq, up2_no, Bool.true_eq_false, Bool.false_eq_true, eq_self, m1_ne, m1_ne2, m1_lt, m1_le, lt_m1, m1_le2, bI_t, bI_f, LK_st, FGu hG, LK_g hG h22 hs2, FY22u hY22, h5, hi, l1, e0, e1, e2, e3, e4, e5, decide_true, hd0])
        exact hQ
      · (apply WP_runI (lv := lvK) (F := LK) LK_ok 999 60; simp (disch := first | decide | omega) only [t68_0, t68_1, lift_c, o_aload0, o_getref, o_astore, s1_0, s1_s, o_iload1, o_virt2, rpush_n, rpush_s, o_ifne, o_inl, o_ireturn, o_iload2, o_iclt, o_isub, o_stat1, o_ifeq, o_aload3, o_virt3, o_aaload, o_lookup, o_aload4, o_getfield, o_goto, z0, z1, z2, z3, z4, z5, z10, z20, z31, runI_0, runI_c, runI_n, liftI_n, liftI_y, run_0, run_c, run_n, fxn, fxi, fxr, fxl, fxl0, ↓swi_n, ↓swi_c, nck0, nck1, nck2, nck3, List.length_cons, List.length_nil, Nat.reduceAdd, Nat.reduceSub, Nat.reduceLeDiff, Nat.reduceEqDiff, Nat.reduceLT, reduceIte, ite_true, ite_false, Nat.sub_zero, Nat.zero_le, true_and, and_true, and_self, true_or, or_true, if_true, if_false, true_implies, implies_true, not_true_eq_false, not_false_eq_true, false_implies, forall_const, ne_eq, or_self, and_false, false_and, Lt, Le, Eq', Cp, In, nI_add, nI_mul, nI_sub, nI_sub1, Neg0, bI_eq0, bI_eq1, bI_01, bft, up2_eq, up2_no, Bool.true_eq_false, Bool.false_eq_true, eq_self, m1_ne, m1_ne2, m1_lt, m1_le, lt_m1, m1_le2, bI_t, bI_f, LK_st, FGu hG, LK_g hG h22 hs2, FY22u hY22, h5, hi, l1, hy, e0, e1, e2, e3, e4, e5, decide_true, hd0])
        exact hQ
end
