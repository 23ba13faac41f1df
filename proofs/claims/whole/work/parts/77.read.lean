/-! ### pairs: read -/
theorem isT_of {x : Int32} (h : isT x = true) : ∃ t, t < 6 ∧ x = nI t := by
  obtain ⟨m, -, h2, h3⟩ := inR_of (a := 0) (b := 5) (by omega) (by omega) h
  exact ⟨m, by omega, h3⟩
theorem hp_1 {z : Nat} (hz : z ≤ 60) {y : Int32} : hpB (nI z) y (nI 1) = decide (nI 0 ≤ y ∧ y ≤ nI z - nI 1) := by
  unfold hpB
  apply decide_eq_decide.mpr
  constructor
  · intro ⟨h1, h2, h3, h4⟩
    obtain ⟨j, hj, rfl⟩ := nI_of (Int32.not_lt.mpr h1)
    rw [Le _ _ (by omega) (by omega)] at h3
    rw [nI_sub _ _ h3, Le _ _ (by omega) (by omega)] at h4
    exact ⟨h1, by rw [nI_sub _ _ (by omega), Le _ _ (by omega) (by omega)]; omega⟩
  · intro ⟨h1, h2⟩
    obtain ⟨j, hj, rfl⟩ := nI_of (Int32.not_lt.mpr h1)
    rcases Nat.eq_zero_or_pos z with h0 | h0
    · subst h0
      rw [show nI 0 - nI 1 = -nI 1 by decide] at h2
      rw [m1_le _ (by omega)] at h2
      exact h2.elim
    · rw [nI_sub _ _ (by omega), Le _ _ (by omega) (by omega)] at h2
      exact ⟨h1, by decide, by rw [Le _ _ (by omega) (by omega)]; omega, by rw [nI_sub _ _ (by omega), Le _ _ (by omega) (by omega)]; omega⟩
theorem hp_of {z : Nat} (hz : z ≤ 60) {y : Int32} (h : hpB (nI z) y (nI 1) = true) : ∃ j, j < z ∧ y = nI j := by
  unfold hpB at h
  obtain ⟨h1, h2, h3, h4⟩ := of_decide_eq_true h
  obtain ⟨j, hj, rfl⟩ := nI_of (Int32.not_lt.mpr h1)
  rw [Le _ _ (by omega) (by omega)] at h3
  rw [nI_sub _ _ h3, Le _ _ (by omega) (by omega)] at h4
  exact ⟨j, by omega, rfl⟩
section
variable {G : GE} {d : Nat}
theorem read_P (hd : 50 ≤ d) (x y : Int32) : PAIRL G d 100 197 [.ref 20, .int x, .int y] [.ref 123, .int x, .int y] := by
  intro n sh I L P Q hI hQ
  obtain ⟨F, E, k, g, r, hI⟩ := hI
  apply e100
  apply WP_SF
  intro hSF
  have hs2 := hSF.2.2.1
  have hB := hI.cb
  have hG := hB.fg
  have hY22 := hB.y22
  have hY84 := hB.y84
  have h22 : sh 22 = (8, 9) := (FY22u hY22).1
  have hd0 : 0 < d := by omega
  have hk := hI.2.2.1.1.k6
  have hg9 := hI.2.2.1.1.g9
  have hWe := hI.2.2.1.we
  have hF := hI.1
  have h5 := hB.count
  cases hx : isT x with
  | false =>
    have bad := hQ (-9223372036854775808) n sh I L P fun Q2 h2 => by
      refine ⟨(FMu hI.1).1, ?_⟩
      have h2 := h2 _ _ _ _ _ ⟨F, E, k, g, r, hI⟩
      apply e197
      (apply WP_runI (lv := lvM) LM_ok 999 20; simp (disch := first | decide | omega) only [t197_0, lift_c, o_iload1, o_stat1, rpush_n, rpush_s, o_ifeq, o_iload2, o_inl, o_aload0, o_getref, o_iaload, o_isub, o_stat3, o_imul, o_iadd, o_laload, o_goto, o_lreturn, z0, z1, z2, z20, z31, z60, runI_0, runI_c, runI_n, liftI_n, liftI_y, run_0, run_c, run_n, fxn, fxi, fxr, fxl, fxl0, ↓swi_n, ↓swi_c, nck0, nck1, nck2, nck3, List.length_cons, List.length_nil, Nat.reduceAdd, Nat.reduceSub, Nat.reduceLeDiff, Nat.reduceEqDiff, Nat.reduceLT, reduceIte, ite_true, ite_false, Nat.sub_zero, Nat.zero_le, true_and, and_true, and_self, true_or, or_true, if_true, if_false, true_implies, implies_true, not_true_eq_false, not_false_eq_true, false_implies, forall_const, ne_eq, or_self, and_false, false_and, Lt, Le, Eq', Cp, In, nI_add, nI_mul, nI_sub, nI_sub1, Neg0, bI_eq0, bI_eq1, bI_01, bft, up2_eq, up2_no, Bool.true_eq_false, Bool.false_eq_true, eq_self, m1_ne, m1_ne2, m1_lt, m1_le, lt_m1, m1_le2, bI_t, bI_f, LM_all hF, FMu hF, hx, hd0])
      exact h2
    (apply WP_runI (lv := lvK) (F := LK) LK_ok 999 20; simp (disch := first | decide | omega) only [t100_0, lift_c, o_iload1, o_stat1, rpush_n, rpush_s, o_ifeq, o_aload0, o_getref, o_aaload, o_iload2, o_inl, o_virt3, o_ifne, o_lreturn, o_laload, z0, z1, z2, z20, z31, runI_0, runI_c, runI_n, liftI_n, liftI_y, run_0, run_c, run_n, fxn, fxi, fxr, fxl, fxl0, ↓swi_n, ↓swi_c, nck0, nck1, nck2, nck3, List.length_cons, List.length_nil, Nat.reduceAdd, Nat.reduceSub, Nat.reduceLeDiff, Nat.reduceEqDiff, Nat.reduceLT, reduceIte, ite_true, ite_false, Nat.sub_zero, Nat.zero_le, true_and, and_true, and_self, true_or, or_true, if_true, if_false, true_implies, implies_true, not_true_eq_false, not_false_eq_true, false_implies, forall_const, ne_eq, or_self, and_false, false_and, Lt, Le, Eq', Cp, In, nI_add, nI_mul, nI_sub, nI_sub1, Neg0, bI_eq0, bI_eq1, bI_01, bft, up2_eq, up2_no, Bool.true_eq_false, Bool.false_eq_true, eq_self, m1_ne, m1_ne2, m1_lt, m1_le, lt_m1, m1_le2, bI_t, bI_f, LK_st, FGu hG, LK_g hG h22 hs2, hx, hd0])
    exact bad
  | true =>
    obtain ⟨t, ht, ex⟩ := isT_of hx
    subst ex
    obtain ⟨p1, p2, ⟨z, hz, p3, p4⟩, p5⟩ := hI.2.2.2.2.2.2.2.2.2.2.1 t ht
    have hhp := hp_1 (y := y) hz
    cases hy : hpB (nI z) y (nI 1) with
    | false =>
      rw [hy] at hhp
      have hhp := hhp.symm
      have bad := hQ (-9223372036854775808) n sh I L P fun Q2 h2 => by
        refine ⟨(FMu hI.1).1, ?_⟩
        have h2 := h2 _ _ _ _ _ ⟨F, E, k, g, r, hI⟩
        apply e197
        rcases Nat.eq_zero_or_pos z with h0 | h0
        · subst h0
          have n0 : nI 0 - nI 1 = -nI 1 := by decide
          rw [n0] at hhp
          (apply WP_runI (lv := lvM) LM_ok 999 40; simp (disch := first | decide | omega) only [t197_0, lift_c, o_iload1, o_stat1, rpush_n, rpush_s, o_ifeq, o_iload2, o_inl, o_aload0, o_getref, o_iaload, o_isub, o_stat3, o_imul, o_iadd, o_laload, o_goto, o_lreturn, z0, z1, z2, z20, z31, z60, runI_0, runI_c, runI_n, liftI_n, liftI_y, run_0, run_c, run_n, fxn, fxi, fxr, fxl, fxl0, ↓swi_n, ↓swi_c, nck0, nck1, nck2, nck3, List.length_cons, List.length_nil, Nat.reduceAdd, Nat.reduceSub, Nat.reduceLeDiff, Nat.reduceEqDiff, Nat.reduceLT, reduceIte, ite_true, ite_false, Nat.sub_zero, Nat.zero_le, true_and, and_true, and_self, true_or, or_true, if_true, if_false, true_implies, implies_true, not_true_eq_false, not_false_eq_true, false_implies, forall_const, ne_eq, or_self, and_false, false_and, Lt, Le, Eq', Cp, In, nI_add, nI_mul, nI_sub, nI_sub1, Neg0, bI_eq0, bI_eq1, bI_01, bft, up2_eq, up2_no, Bool.true_eq_false, Bool.false_eq_true, eq_self, m1_ne, m1_ne2, m1_lt, m1_le, lt_m1, m1_le2, bI_t, bI_f, LM_all hF, FMu hF, hx, p4, n0, hhp, hd0])
          exact h2
        · rw [nI_sub _ _ (by omega)] at hhp
          (apply WP_runI (lv := lvM) LM_ok 999 40; simp (disch := first | decide | omega) only [t197_0, lift_c, o_iload1, o_stat1, rpush_n, rpush_s, o_ifeq, o_iload2, o_inl, o_aload0, o_getref, o_iaload, o_isub, o_stat3, o_imul, o_iadd, o_laload, o_goto, o_lreturn, z0, z1, z2, z20, z31, z60, runI_0, runI_c, runI_n, liftI_n, liftI_y, run_0, run_c, run_n, fxn, fxi, fxr, fxl, fxl0, ↓swi_n, ↓swi_c, nck0, nck1, nck2, nck3, List.length_cons, List.length_nil, Nat.reduceAdd, Nat.reduceSub, Nat.reduceLeDiff, Nat.reduceEqDiff, Nat.reduceLT, reduceIte, ite_true, ite_false, Nat.sub_zero, Nat.zero_le, true_and, and_true, and_self, true_or, or_true, if_true, if_false, true_implies, implies_true, not_true_eq_false, not_false_eq_true, false_implies, forall_const, ne_eq, or_self, and_false, false_and, Lt, Le, Eq', Cp, In, nI_add, nI_mul, nI_sub, nI_sub1, Neg0, bI_eq0, bI_eq1, bI_01, bft, up2_eq, up2_no, Bool.true_eq_false, Bool.false_eq_true, eq_self, m1_ne, m1_ne2, m1_lt, m1_le, lt_m1, m1_le2, bI_t, bI_f, LM_all hF, FMu hF, hx, p4, hhp, hd0])
          exact h2
      (apply WP_runI (lv := lvK) (F := LK) LK_ok 999 30; simp (disch := first | decide | omega) only [t100_0, lift_c, o_iload1, o_stat1, rpush_n, rpush_s, o_ifeq, o_aload0, o_getref, o_aaload, o_iload2, o_inl, o_virt3, o_ifne, o_lreturn, o_laload, z0, z1, z2, z20, z31, runI_0, runI_c, runI_n, liftI_n, liftI_y, run_0, run_c, run_n, fxn, fxi, fxr, fxl, fxl0, ↓swi_n, ↓swi_c, nck0, nck1, nck2, nck3, List.length_cons, List.length_nil, Nat.reduceAdd, Nat.reduceSub, Nat.reduceLeDiff, Nat.reduceEqDiff, Nat.reduceLT, reduceIte, ite_true, ite_false, Nat.sub_zero, Nat.zero_le, true_and, and_true, and_self, true_or, or_true, if_true, if_false, true_implies, implies_true, not_true_eq_false, not_false_eq_true, false_implies, forall_const, ne_eq, or_self, and_false, false_and, Lt, Le, Eq', Cp, In, nI_add, nI_mul, nI_sub, nI_sub1, Neg0, bI_eq0, bI_eq1, bI_01, bft, up2_eq, up2_no, Bool.true_eq_false, Bool.false_eq_true, eq_self, m1_ne, m1_ne2, m1_lt, m1_le, lt_m1, m1_le2, bI_t, bI_f, LK_st, FGu hG, LK_g hG h22 hs2, hx, p3, hy, hd0])
      exact bad
    | true =>
      obtain ⟨j, hj, ey⟩ := hp_of hz hy
      have hhp : decide (nI 0 ≤ y ∧ y ≤ nI z - nI 1) = true := hhp.symm.trans hy
      subst ey
      have p6 := p5 j (by omega)
      have good := hQ (L 141 (60 * t + j)) n sh I L P fun Q2 h2 => by
        refine ⟨(FMu hI.1).1, ?_⟩
        have h2 := h2 _ _ _ _ _ ⟨F, E, k, g, r, hI⟩
        apply e197
        have hle : j ≤ z - 1 := by omega
        have h1z : 1 ≤ z := by omega
        (apply WP_runI (lv := lvM) LM_ok 999 40; simp (disch := first | decide | omega) only [t197_0, lift_c, o_iload1, o_stat1, rpush_n, rpush_s, o_ifeq, o_iload2, o_inl, o_aload0, o_getref, o_iaload, o_isub, o_stat3, o_imul, o_iadd, o_laload, o_goto, o_lreturn, z0, z1, z2, z20, z31, z60, runI_0, runI_c, runI_n, liftI_n, liftI_y, run_0, run_c, run_n, fxn, fxi, fxr, fxl, fxl0, ↓swi_n, ↓swi_c, nck0, nck1, nck2, nck3, List.length_cons, List.length_nil, Nat.reduceAdd, Nat.reduceSub, Nat.reduceLeDiff, Nat.reduceEqDiff, Nat.reduceLT, reduceIte, ite_true, ite_false, Nat.sub_zero, Nat.zero_le, true_and, and_true, and_self, true_or, or_true, if_true, if_false, true_implies, implies_true, not_true_eq_false, not_false_eq_true, false_implies, forall_const, ne_eq, or_self, and_false, false_and, Lt, Le, Eq', Cp, In, nI_add, nI_mul, nI_sub, nI_sub1, Neg0, bI_eq0, bI_eq1, bI_01, bft, up2_eq, up2_no, Bool.true_eq_false, Bool.false_eq_true, eq_self, m1_ne, m1_ne2, m1_lt, m1_le, lt_m1, m1_le2, bI_t, bI_f, LM_all hF, FMu hF, hx, p4, hle, hd0, decide_true])
        exact h2
      (apply WP_runI (lv := lvK) (F := LK) LK_ok 999 40; simp (disch := first | decide | omega) only [t100_0, lift_c, o_iload1, o_stat1, rpush_n, rpush_s, o_ifeq, o_aload0, o_getref, o_aaload, o_iload2, o_inl, o_virt3, o_ifne, o_lreturn, o_laload, z0, z1, z2, z20, z31, runI_0, runI_c, runI_n, liftI_n, liftI_y, run_0, run_c, run_n, fxn, fxi, fxr, fxl, fxl0, ↓swi_n, ↓swi_c, nck0, nck1, nck2, nck3, List.length_cons, List.length_nil, Nat.reduceAdd, Nat.reduceSub, Nat.reduceLeDiff, Nat.reduceEqDiff, Nat.reduceLT, reduceIte, ite_true, ite_false, Nat.sub_zero, Nat.zero_le, true_and, and_true, and_self, true_or, or_true, if_true, if_false, true_implies, implies_true, not_true_eq_false, not_false_eq_true, false_implies, forall_const, ne_eq, or_self, and_false, false_and, Lt, Le, Eq', Cp, In, nI_add, nI_mul, nI_sub, nI_sub1, Neg0, bI_eq0, bI_eq1, bI_01, bft, up2_eq, up2_no, Bool.true_eq_false, Bool.false_eq_true, eq_self, m1_ne, m1_ne2, m1_lt, m1_le, lt_m1, m1_le2, bI_t, bI_f, LK_st, FGu hG, LK_g hG h22 hs2, hx, p3, hy, p6, hd0])
      exact good
end
