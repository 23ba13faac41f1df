/-! ### pairs: gate -/
theorem IW.gateu {n : Nat} {sh : TS} {I I' : TI} {L : TL} {P : TP} {F : TF} {E : Nat → Int32} {k g r : Nat} (h : IW n sh I L P F E k g r) (hg : g < 9) {c1 c2 : Nat} (hc1 : c1 < 8) (hc2 : c2 < 8)
    (hI : Eo (fun a j => (a = 24 ∧ j = g) ∨ (a = 25 ∧ j = g) ∨ (a = 22 ∧ j = 3) ∨ (a = 124 ∧ (j = 8 + 2 * g ∨ j = 9 + 2 * g ∨ j = 81))) I I') (e1 : I' 24 g = nI c1) (e2 : I' 25 g = nI c2) (e3 : I' 22 3 = nI (g + 1)) (e4 : I' 124 (8 + 2 * g) = nI c1) (e5 : I' 124 (9 + 2 * g) = nI c2) (e6 : I' 124 81 = nI (g + 1)) : IW n sh I' L P F E k (g + 1) r := by
  have hW := h.2.2.1.1
  have hk := hW.k6
  have e : ∀ j, ¬ (j = 8 + 2 * g ∨ j = 9 + 2 * g ∨ j = 81) → I' 124 j = I 124 j := fun j q => hI 124 j (by omega)
  have hgs : ∀ i w, i < k → w < 9 → gs (I' 124) i w = gs (I 124) i w := fun i w hi hw => e _ (by omega)
  have hed : ∀ j w, j < g → w < 2 → ed (I' 124) j w = ed (I 124) j w := fun j w hj hw => e _ (by omega)
  have f0 : ed (I' 124) g 0 = nI c1 := e4
  have f1 : ed (I' 124) g 1 = nI c2 := by
    show I' 124 (8 + 2 * g + 1) = nI c2
    rw [show 8 + 2 * g + 1 = 9 + 2 * g by omega]
    exact e5
  refine h.row (hI.mono fun a j q => by unfold mS; omega) ?_ ?_ ?_ ?_
  · refine ⟨hk, (e _ (by omega)).trans hW.n80, by omega, e6, hW.r6, ?_, fun i hi => ?_, fun j w hj hw => ?_, fun c hc => ?_, fun i hi => ?_, fun i hi => ?_, fun i hi => ?_, fun i hi => ?_⟩
    · obtain ⟨u, h1, h2⟩ := hW.n83
      exact ⟨u, h1, (e _ (by omega)).trans h2⟩
    · rw [hgs i 2 hi (by omega)]; exact hW.court hi
    · by_cases ej : j = g
      · have hw2 : w = 0 ∨ w = 1 := by omega
        rcases hw2 with rfl | rfl
        · exact ⟨c1, hc1, by rw [ej]; exact f0⟩
        · exact ⟨c2, hc2, by rw [ej]; exact f1⟩
      · rw [hed j w (by omega) hw]; exact hW.ends (by omega) hw
    · rw [e c (by omega)]; exact hW.grain hc
    · rw [hgs i 3 hi (by omega)]; exact hW.key hi
    · rw [hgs i 0 hi (by omega)]; exact hW.kind hi
    · rw [hgs i 1 hi (by omega)]; exact hW.v9 hi
    · rw [hgs i 4 hi (by omega)]; exact hW.taken hi
  · have hD := h.2.2.2.1
    have q : ∀ a j, ¬ ((a = 24 ∧ j = g) ∨ (a = 25 ∧ j = g) ∨ (a = 22 ∧ j = 3) ∨ (a = 124 ∧ (j = 8 + 2 * g ∨ j = 9 + 2 * g ∨ j = 81))) → I' a j = I a j := fun a j w => hI a j w
    refine ⟨hD.y, e3, (q _ _ (by omega)).trans hD.count, ?_, fun c hc => ?_, fun j hj => ?_, fun j hj => ?_, fun i w hi hw => ?_, fun i w hi hw => ?_, ?_⟩
    · rw [q 22 6 (by omega), e 82 (by omega)]; exact hD.hour
    · rw [q _ _ (by omega), e c (by omega)]; exact hD.grain c hc
    · by_cases ej : j = g
      · rw [ej, f0]; exact e1
      · rw [q _ _ (by omega), hed j 0 (by omega) (by omega)]; exact hD.one j (by omega)
    · by_cases ej : j = g
      · rw [ej, f1]; exact e2
      · rw [q _ _ (by omega), hed j 1 (by omega) (by omega)]; exact hD.other j (by omega)
    · rw [q _ _ (by omega), hgs i w hi (by omega)]; exact hD.geese i w hi hw
    · rw [q _ _ (by omega), hgs i (5 + w) hi (by omega)]; exact hD.rows i w hi hw
    · rw [show rl (I' 124) = rl (I 124) by show (I' 124 83).toNatClampNeg = _; rw [e 83 (by omega)]; rfl]
      exact hD.holds.eo hI fun c j w => by omega
  · exact (h.2.2.2.2.1.row (M := I' 124) fun j hj => e j (by omega)).eo hI fun a j w => by omega
  · exact h.2.2.2.2.2.1.keep fun j hj => e j (by omega)
section
variable {G : GE} {d : Nat}
theorem gate_P (hd : 50 ≤ d) (x y : Int32) : PAIR G d 66 130 [.ref 20, .int x, .int y] [.ref 123, .int x, .int y] := by
  intro n sh I L P Q hI hQ
  obtain ⟨F, E, k, g, r, hI⟩ := hI
  apply e66
  apply WP_SF
  intro hSF
  have hs2 := hSF.2.2.1
  have hB := hI.cb
  have hG := hB.fg
  have hY22 := hB.y22
  have hY84 := hB.y84
  have h22 : sh 22 = (8, 9) := (FY22u hY22).1
  have hd0 : 0 < d := by omega
  have hk := hI.2.2.1.1.k6
  have hg9 := hI.2.2.1.1.g9
  have hWe := hI.2.2.1.we
  have hF := hI.1
  have h5 := hB.count
  have h3 := hB.2.1.gates
  have h81 := hB.2.2.1.n81
  cases hx : isC x with
  | false =>
    have bad := hQ (-nI 1) n sh I L P fun Q2 h2 => by
      refine ⟨(FMu hI.1).1, ?_⟩
      have h2 := h2 _ _ _ _ _ ⟨F, E, k, g, r, hI⟩
      apply e130
      (apply WP_runI (lv := lvM) LM_ok 999 20; simp (disch := first | decide | omega) only [t130_0, t130_1, lift_c, o_iload1, o_stat1, rpush_n, rpush_s, o_ifeq, o_iload2, o_ifne, o_inl, o_ireturn, o_icne, o_aload0, o_getref, o_iaload, o_istore, s1_0, s1_s, o_iload3, o_imul, o_iadd, o_iastore, o_dup2, z0, z1, z2, z4, z8, z9, z20, z31, z81, runI_0, runI_c, runI_n, liftI_n, liftI_y, run_0, run_c, run_n, fxn, fxi, fxr, fxl, fxl0, ↓swi_n, ↓swi_c, nck0, nck1, nck2, nck3, List.length_cons, List.length_nil, Nat.reduceAdd, Nat.reduceSub, Nat.reduceLeDiff, Nat.reduceEqDiff, Nat.reduceLT, reduceIte, ite_true, ite_false, Nat.sub_zero, Nat.zero_le, true_and, and_true, and_self, true_or, or_true, if_true, if_false, true_implies, implies_true, not_true_eq_false, not_false_eq_true, false_implies, forall_const, ne_eq, or_self, and_false, false_and, Lt, Le, Eq', Cp, In, nI_add, nI_mul, nI_sub, nI_sub1, Neg0, bI_eq0, bI_eq1, bI_01, bft, up2_eq, up2_no, Bool.true_eq_false, Bool.false_eq_true, eq_self, m1_ne, m1_ne2, m1_lt, m1_le, lt_m1, m1_le2, bI_t, bI_f, LM_all hF, FMu hF, hx, hd0])
      exact h2
    (apply WP_runI (lv := lvK) (F := LK) LK_ok 999 20; simp (disch := first | decide | omega) only [t66_0, t66_1, lift_c, o_aload0, o_getref, o_astore, s1_0, s1_s, o_iload1, o_stat1, rpush_n, rpush_s, o_ifeq, o_iload2, o_ifne, o_inl, o_ireturn, o_icne, o_aload3, o_getfield, o_iastore, o_dupi, o_dupr, o_iadd, o_putfield, o_isub, z0, z1, z2, z4, z9, z20, z31, runI_0, runI_c, runI_n, liftI_n, liftI_y, run_0, run_c, run_n, fxn, fxi, fxr, fxl, fxl0, ↓swi_n, ↓swi_c, nck0, nck1, nck2, nck3, List.length_cons, List.length_nil, Nat.reduceAdd, Nat.reduceSub, Nat.reduceLeDiff, Nat.reduceEqDiff, Nat.reduceLT, reduceIte, ite_true, ite_false, Nat.sub_zero, Nat.zero_le, true_and, and_true, and_self, true_or, or_true, if_true, if_false, true_implies, implies_true, not_true_eq_false, not_false_eq_true, false_implies, forall_const, ne_eq, or_self, and_false, false_and, Lt, Le, Eq', Cp, In, nI_add, nI_mul, nI_sub, nI_sub1, Neg0, bI_eq0, bI_eq1, bI_01, bft, up2_eq, up2_no, Bool.true_eq_false, Bool.false_eq_true, eq_self, m1_ne, m1_ne2, m1_lt, m1_le, lt_m1, m1_le2, bI_t, bI_f, LK_st, FGu hG, LK_g hG h22 hs2, FY22u hY22, hx, hd0])
    exact bad
  | true =>
    cases hy : isC y with
    | false =>
      have bad := hQ (-nI 1) n sh I L P fun Q2 h2 => by
        refine ⟨(FMu hI.1).1, ?_⟩
        have h2 := h2 _ _ _ _ _ ⟨F, E, k, g, r, hI⟩
        apply e130
        (apply WP_runI (lv := lvM) LM_ok 999 20; simp (disch := first | decide | omega) only [t130_0, t130_1, lift_c, o_iload1, o_stat1, rpush_n, rpush_s, o_ifeq, o_iload2, o_ifne, o_inl, o_ireturn, o_icne, o_aload0, o_getref, o_iaload, o_istore, s1_0, s1_s, o_iload3, o_imul, o_iadd, o_iastore, o_dup2, z0, z1, z2, z4, z8, z9, z20, z31, z81, runI_0, runI_c, runI_n, liftI_n, liftI_y, run_0, run_c, run_n, fxn, fxi, fxr, fxl, fxl0, ↓swi_n, ↓swi_c, nck0, nck1, nck2, nck3, List.length_cons, List.length_nil, Nat.reduceAdd, Nat.reduceSub, Nat.reduceLeDiff, Nat.reduceEqDiff, Nat.reduceLT, reduceIte, ite_true, ite_false, Nat.sub_zero, Nat.zero_le, true_and, and_true, and_self, true_or, or_true, if_true, if_false, true_implies, implies_true, not_true_eq_false, not_false_eq_true, false_implies, forall_const, ne_eq, or_self, and_false, false_and, Lt, Le, Eq', Cp, In, nI_add, nI_mul, nI_sub, nI_sub1, Neg0, bI_eq0, bI_eq1, bI_01, bft, up2_eq, up2_no, Bool.true_eq_false, Bool.false_eq_true, eq_self, m1_ne, m1_ne2, m1_lt, m1_le, lt_m1, m1_le2, bI_t, bI_f, LM_all hF, FMu hF, hx, hy, hd0])
        exact h2
      (apply WP_runI (lv := lvK) (F := LK) LK_ok 999 20; simp (disch := first | decide | omega) only [t66_0, t66_1, lift_c, o_aload0, o_getref, o_astore, s1_0, s1_s, o_iload1, o_stat1, rpush_n, rpush_s, o_ifeq, o_iload2, o_ifne, o_inl, o_ireturn, o_icne, o_aload3, o_getfield, o_iastore, o_dupi, o_dupr, o_iadd, o_putfield, o_isub, z0, z1, z2, z4, z9, z20, z31, runI_0, runI_c, runI_n, liftI_n, liftI_y, run_0, run_c, run_n, fxn, fxi, fxr, fxl, fxl0, ↓swi_n, ↓swi_c, nck0, nck1, nck2, nck3, List.length_cons, List.length_nil, Nat.reduceAdd, Nat.reduceSub, Nat.reduceLeDiff, Nat.reduceEqDiff, Nat.reduceLT, reduceIte, ite_true, ite_false, Nat.sub_zero, Nat.zero_le, true_and, and_true, and_self, true_or, or_true, if_true, if_false, true_implies, implies_true, not_true_eq_false, not_false_eq_true, false_implies, forall_const, ne_eq, or_self, and_false, false_and, Lt, Le, Eq', Cp, In, nI_add, nI_mul, nI_sub, nI_sub1, Neg0, bI_eq0, bI_eq1, bI_01, bft, up2_eq, up2_no, Bool.true_eq_false, Bool.false_eq_true, eq_self, m1_ne, m1_ne2, m1_lt, m1_le, lt_m1, m1_le2, bI_t, bI_f, LK_st, FGu hG, LK_g hG h22 hs2, FY22u hY22, hx, hy, hd0])
      exact bad
    | true =>
      by_cases hxy : x = y
      · have bad := hQ (-nI 2) n sh I L P fun Q2 h2 => by
          refine ⟨(FMu hI.1).1, ?_⟩
          have h2 := h2 _ _ _ _ _ ⟨F, E, k, g, r, hI⟩
          apply e130
          (apply WP_runI (lv := lvM) LM_ok 999 30; simp (disch := first | decide | omega) only [t130_0, t130_1, lift_c, o_iload1, o_stat1, rpush_n, rpush_s, o_ifeq, o_iload2, o_ifne, o_inl, o_ireturn, o_icne, o_aload0, o_getref, o_iaload, o_istore, s1_0, s1_s, o_iload3, o_imul, o_iadd, o_iastore, o_dup2, z0, z1, z2, z4, z8, z9, z20, z31, z81, runI_0, runI_c, runI_n, liftI_n, liftI_y, run_0, run_c, run_n, fxn, fxi, fxr, fxl, fxl0, ↓swi_n, ↓swi_c, nck0, nck1, nck2, nck3, List.length_cons, List.length_nil, Nat.reduceAdd, Nat.reduceSub, Nat.reduceLeDiff, Nat.reduceEqDiff, Nat.reduceLT, reduceIte, ite_true, ite_false, Nat.sub_zero, Nat.zero_le, true_and, and_true, and_self, true_or, or_true, if_true, if_false, true_implies, implies_true, not_true_eq_false, not_false_eq_true, false_implies, forall_const, ne_eq, or_self, and_false, false_and, Lt, Le, Eq', Cp, In, nI_add, nI_mul, nI_sub, nI_sub1, Neg0, bI_eq0, bI_eq1, bI_01, bft, up2_eq, up2_no, Bool.true_eq_false, Bool.false_eq_true, eq_self, m1_ne, m1_ne2, m1_lt, m1_le, lt_m1, m1_le2, bI_t, bI_f, LM_all hF, FMu hF, hx, hy, hxy, hd0])
          exact h2
        (apply WP_runI (lv := lvK) (F := LK) LK_ok 999 30; simp (disch := first | decide | omega) only [t66_0, t66_1, lift_c, o_aload0, o_getref, o_astore, s1_0, s1_s, o_iload1, o_stat1, rpush_n, rpush_s, o_ifeq, o_iload2, o_ifne, o_inl, o_ireturn, o_icne, o_aload3, o_getfield, o_iastore, o_dupi, o_dupr, o_iadd, o_putfield, o_isub, z0, z1, z2, z4, z9, z20, z31, runI_0, runI_c, runI_n, liftI_n, liftI_y, run_0, run_c, run_n, fxn, fxi, fxr, fxl, fxl0, ↓swi_n, ↓swi_c, nck0, nck1, nck2, nck3, List.length_cons, List.length_nil, Nat.reduceAdd, Nat.reduceSub, Nat.reduceLeDiff, Nat.reduceEqDiff, Nat.reduceLT, reduceIte, ite_true, ite_false, Nat.sub_zero, Nat.zero_le, true_and, and_true, and_self, true_or, or_true, if_true, if_false, true_implies, implies_true, not_true_eq_false, not_false_eq_true, false_implies, forall_const, ne_eq, or_self, and_false, false_and, Lt, Le, Eq', Cp, In, nI_add, nI_mul, nI_sub, nI_sub1, Neg0, bI_eq0, bI_eq1, bI_01, bft, up2_eq, up2_no, Bool.true_eq_false, Bool.false_eq_true, eq_self, m1_ne, m1_ne2, m1_lt, m1_le, lt_m1, m1_le2, bI_t, bI_f, LK_st, FGu hG, LK_g hG h22 hs2, FY22u hY22, hx, hy, hxy, hd0])
        exact bad
      · by_cases h9 : g = 9
        · have bad := hQ (-nI 4) n sh I L P fun Q2 h2 => by
            refine ⟨(FMu hI.1).1, ?_⟩
            have h2 := h2 _ _ _ _ _ ⟨F, E, k, g, r, hI⟩
            apply e130
            (apply WP_runI (lv := lvM) LM_ok 999 30; simp (disch := first | decide | omega) only [t130_0, t130_1, lift_c, o_iload1, o_stat1, rpush_n, rpush_s, o_ifeq, o_iload2, o_ifne, o_inl, o_ireturn, o_icne, o_aload0, o_getref, o_iaload, o_istore, s1_0, s1_s, o_iload3, o_imul, o_iadd, o_iastore, o_dup2, z0, z1, z2, z4, z8, z9, z20, z31, z81, runI_0, runI_c, runI_n, liftI_n, liftI_y, run_0, run_c, run_n, fxn, fxi, fxr, fxl, fxl0, ↓swi_n, ↓swi_c, nck0, nck1, nck2, nck3, List.length_cons, List.length_nil, Nat.reduceAdd, Nat.reduceSub, Nat.reduceLeDiff, Nat.reduceEqDiff, Nat.reduceLT, reduceIte, ite_true, ite_false, Nat.sub_zero, Nat.zero_le, true_and, and_true, and_self, true_or, or_true, if_true, if_false, true_implies, implies_true, not_true_eq_false, not_false_eq_true, false_implies, forall_const, ne_eq, or_self, and_false, false_and, Lt, Le, Eq', Cp, In, nI_add, nI_mul, nI_sub, nI_sub1, Neg0, bI_eq0, bI_eq1, bI_01, bft, up2_eq, up2_no, Bool.true_eq_false, Bool.false_eq_true, eq_self, m1_ne, m1_ne2, m1_lt, m1_le, lt_m1, m1_le2, bI_t, bI_f, LM_all hF, FMu hF, hx, hy, hxy, h81, h9, hd0])
            exact h2
          (apply WP_runI (lv := lvK) (F := LK) LK_ok 999 30; simp (disch := first | decide | omega) only [t66_0, t66_1, lift_c, o_aload0, o_getref, o_astore, s1_0, s1_s, o_iload1, o_stat1, rpush_n, rpush_s, o_ifeq, o_iload2, o_ifne, o_inl, o_ireturn, o_icne, o_aload3, o_getfield, o_iastore, o_dupi, o_dupr, o_iadd, o_putfield, o_isub, z0, z1, z2, z4, z9, z20, z31, runI_0, runI_c, runI_n, liftI_n, liftI_y, run_0, run_c, run_n, fxn, fxi, fxr, fxl, fxl0, ↓swi_n, ↓swi_c, nck0, nck1, nck2, nck3, List.length_cons, List.length_nil, Nat.reduceAdd, Nat.reduceSub, Nat.reduceLeDiff, Nat.reduceEqDiff, Nat.reduceLT, reduceIte, ite_true, ite_false, Nat.sub_zero, Nat.zero_le, true_and, and_true, and_self, true_or, or_true, if_true, if_false, true_implies, implies_true, not_true_eq_false, not_false_eq_true, false_implies, forall_const, ne_eq, or_self, and_false, false_and, Lt, Le, Eq', Cp, In, nI_add, nI_mul, nI_sub, nI_sub1, Neg0, bI_eq0, bI_eq1, bI_01, bft, up2_eq, up2_no, Bool.true_eq_false, Bool.false_eq_true, eq_self, m1_ne, m1_ne2, m1_lt, m1_le, lt_m1, m1_le2, bI_t, bI_f, LK_st, FGu hG, LK_g hG h22 hs2, FY22u hY22, hx, hy, hxy, h3, h9, hd0])
          exact bad
        · obtain ⟨c1, hc1, ex⟩ := isC_of hx
          obtain ⟨c2, hc2, ey⟩ := isC_of hy
          have n24 : nle 20 24 := by show 20 ≤ 24; decide
          have n25 : nle 20 25 := by show 20 ≤ 25; decide
          have n124 : nle 20 124 := by show 20 ≤ 124; decide
          have hD : IW n sh (up2 (up2 (up2 (up2 (up2 (up2 I 24 g x) 25 g y) 22 3 (nI (g + 1))) 124 (8 + 2 * g) x) 124 (8 + 2 * g + 1) y) 124 81 (nI (g + 1))) L P F E k (g + 1) r := by
            refine hI.gateu (by omega) hc1 hc2 (fun a j q => by simp (disch := omega) only [up2_no]) ?_ ?_ ?_ ?_ ?_ (up2_eq _ _ _ _)
            · rw [← ex]; simp (disch := omega) only [up2_no, up2_eq]
            · rw [← ey]; simp (disch := omega) only [up2_no, up2_eq]
            · simp (disch := omega) only [up2_no, up2_eq]
            · rw [← ex]; simp (disch := omega) only [up2_no, up2_eq]
            · rw [← ey, show 9 + 2 * g = 8 + 2 * g + 1 by omega]; simp (disch := omega) only [up2_no, up2_eq]
          have good := hQ (nI g) n sh (up2 (up2 (up2 I 24 g x) 25 g y) 22 3 (nI (g + 1))) L P fun Q2 h2 => by
            refine ⟨(FMu hI.1).1, ?_⟩
            have h2 := h2 _ _ _ _ _ ⟨F, E, k, g + 1, r, hD⟩
            apply e130
            (apply WP_runI (lv := lvM) LM_ok 999 80; simp (disch := first | decide | omega) only [t130_0, t130_1, lift_c, o_iload1, o_stat1, rpush_n, rpush_s, o_ifeq, o_iload2, o_ifne, o_inl, o_ireturn, o_icne, o_aload0, o_getref, o_iaload, o_istore, s1_0, s1_s, o_iload3, o_imul, o_iadd, o_iastore, o_dup2, z0, z1, z2, z4, z8, z9, z20, z31, z81, runI_0, runI_c, runI_n, liftI_n, liftI_y, run_0, run_c, run_n, fxn, fxi, fxr, fxl, fxl0, ↓swi_n, ↓swi_c, nck0, nck1, nck2, nck3, List.length_cons, List.length_nil, Nat.reduceAdd, Nat.reduceSub, Nat.reduceLeDiff, Nat.reduceEqDiff, Nat.reduceLT, reduceIte, ite_true, ite_false, Nat.sub_zero, Nat.zero_le, true_and, and_true, and_self, true_or, or_true, if_true, if_false, true_implies, implies_true, not_true_eq_false, not_false_eq_true, false_implies, forall_const, ne_eq, or_self, and_false, false_and, Lt, Le, Eq', Cp, In, nI_add, nI_mul, nI_sub, nI_sub1, Neg0, bI_eq0, bI_eq1, bI_01, bft, up2_eq, up2_no, Bool.true_eq_false, Bool.false_eq_true, eq_self, m1_ne, m1_ne2, m1_lt, m1_le, lt_m1, m1_le2, bI_t, bI_f, LM_all hF, FMu hF, hx, hy, hxy, h81, h9, n124, hd0])
            exact h2
          clear hD
          (apply WP_runI (lv := lvK) (F := LK) LK_ok 999 80; simp (disch := first | decide | omega) only [t66_0, t66_1, lift_c, o_aload0, o_getref, o_astore, s1_0, s1_s, o_iload1, o_stat1, rpush_n, rpush_s, o_ifeq, o_iload2, o_ifne, o_inl, o_ireturn, o_icne, o_aload3, o_getfield, o_iastore, o_dupi, o_dupr, o_iadd, o_putfield, o_isub, z0, z1, z2, z4, z9, z20, z31, runI_0, runI_c, runI_n, liftI_n, liftI_y, run_0, run_c, run_n, fxn, fxi, fxr, fxl, fxl0, ↓swi_n, ↓swi_c, nck0, nck1, nck2, nck3, List.length_cons, List.length_nil, Nat.reduceAdd, Nat.reduceSub, Nat.reduceLeDiff, Nat.reduceEqDiff, Nat.reduceLT, reduceIte, ite_true, ite_false, Nat.sub_zero, Nat.zero_le, true_and, and_true, and_self, true_or, or_true, if_true, if_false, true_implies, implies_true, not_true_eq_false, not_false_eq_true, false_implies, forall_const, ne_eq, or_self, and_false, false_and, Lt, Le, Eq', Cp, In, nI_add, nI_mul, nI_sub, nI_sub1, Neg0, bI_eq0, bI_eq1, bI_01, bft, up2_eq, up2_no, Bool.true_eq_false, Bool.false_eq_true, eq_self, m1_ne, m1_ne2, m1_lt, m1_le, lt_m1, m1_le2, bI_t, bI_f, LK_st, FGu hG, LK_g hG h22 hs2, FY22u hY22, hx, hy, hxy, h3, h9, n24, n25, Nat.add_sub_cancel, hd0])
          exact good
end
