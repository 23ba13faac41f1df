/-! ### pairs: book, plan -/
section
variable {G : GE} {d : Nat}
theorem book_P (hd : 50 ≤ d) (x y : Int32) : PAIR G d 89 185 [.ref 20, .int x, .int y] [.ref 123, .int x, .int y] := by
  intro n sh I L P Q hI hQ
  obtain ⟨F, E, k, g, r, hI⟩ := hI
  apply e89
  apply WP_SF
  intro hSF
  have hs2 := hSF.2.2.1
  have hB := hI.cb
  have hG := hB.fg
  have hY22 := hB.y22
  have hY84 := hB.y84
  have h22 : sh 22 = (8, 9) := (FY22u hY22).1
  have hd0 : 0 < d := by omega
  have hk := hI.2.2.1.1.k6
  have hg9 := hI.2.2.1.1.g9
  have hWe := hI.2.2.1.we
  have hF := hI.1
  have h5 := hB.count
  have hr48 := FR48 hB.r48
  have h20 : nle 20 124 := by show 20 ≤ 124; decide
  obtain ⟨s, hs8, hs, hrow⟩ := hI.2.2.2.2.2.1.2.2
  have e3 : I 48 3 = nI s := hI.2.2.2.2.1.2.2.1.trans hs
  have hrd := hI.2.2.2.2.1.2.2.2.2.2 s (by omega) hs
  by_cases h1 : x = -nI 1
  · subst h1
    have hD : IW n sh (up2 (up2 I 48 3 (nI 0)) 124 121 (nI 0)) L P F E k g r := hI.tbook (s := 0) (fun a j q => by rw [up2_no _ _ _ _ _ _ (by omega), up2_no _ _ _ _ _ _ (by omega)]) (by omega) (by rw [up2_no _ _ _ _ _ _ (by omega), up2_eq]) (up2_eq _ _ _ _) (fun j hj => by omega)
    have hQ := hQ (nI 0) n sh (up2 I 48 3 (nI 0)) L P fun Q2 h2 => by
      refine ⟨(FMu hI.1).1, ?_⟩
      have h2 := h2 _ _ _ _ _ ⟨F, E, k, g, r, hD⟩
      apply e185
      (apply WP_runI (lv := lvM) LM_ok 999 20; simp (disch := first | decide | omega) only [t185_0, t185_1, lift_c, o_iload1, o_inl, o_icne, o_aload0, o_getref, o_iastore, o_ireturn, o_stat1, rpush_n, rpush_s, o_ifne, o_iload2, o_stat3, o_iaload, o_imul, o_iadd, o_dup2, z0, z1, z2, z4, z8, z20, z31, z99, z121, z122, z123, runI_0, runI_c, runI_n, liftI_n, liftI_y, run_0, run_c, run_n, fxn, fxi, fxr, fxl, fxl0, ↓swi_n, ↓swi_c, nck0, nck1, nck2, nck3, List.length_cons, List.length_nil, Nat.reduceAdd, Nat.reduceSub, Nat.reduceLeDiff, Nat.reduceEqDiff, Nat.reduceLT, reduceIte, ite_true, ite_false, Nat.sub_zero, Nat.zero_le, true_and, and_true, and_self, true_or, or_true, if_true, if_false, true_implies, implies_true, not_true_eq_false, not_false_eq_true, false_implies, forall_const, ne_eq, or_self, and_false, false_and, Lt, Le, Eq', Cp, In, nI_add, nI_mul, nI_sub, nI_sub1, Neg0, bI_eq0, bI_eq1, bI_01, bft, up2_eq, up2_no, Bool.true_eq_false, Bool.false_eq_true, eq_self, m1_ne, m1_ne2, m1_lt, m1_le, lt_m1, m1_le2, bI_t, bI_f, LM_all hF, FMu hF, h20, hd0])
      exact h2
    clear hD
    (apply WP_runI (lv := lvK) (F := LK) LK_ok 999 20; simp (disch := first | decide | omega) only [t89_0, lift_c, o_iload1, o_inl, o_icne, o_aload0, o_getref, o_putfield, o_ireturn, o_stat1, rpush_n, rpush_s, o_ifne, o_iload2, o_virt4, z0, z1, z2, z20, z31, runI_0, runI_c, runI_n, liftI_n, liftI_y, run_0, run_c, run_n, fxn, fxi, fxr, fxl, fxl0, ↓swi_n, ↓swi_c, nck0, nck1, nck2, nck3, List.length_cons, List.length_nil, Nat.reduceAdd, Nat.reduceSub, Nat.reduceLeDiff, Nat.reduceEqDiff, Nat.reduceLT, reduceIte, ite_true, ite_false, Nat.sub_zero, Nat.zero_le, true_and, and_true, and_self, true_or, or_true, if_true, if_false, true_implies, implies_true, not_true_eq_false, not_false_eq_true, false_implies, forall_const, ne_eq, or_self, and_false, false_and, Lt, Le, Eq', Cp, In, nI_add, nI_mul, nI_sub, nI_sub1, Neg0, bI_eq0, bI_eq1, bI_01, bft, up2_eq, up2_no, Bool.true_eq_false, Bool.false_eq_true, eq_self, m1_ne, m1_ne2, m1_lt, m1_le, lt_m1, m1_le2, bI_t, bI_f, LK_st, FGu hG, LK_g hG h22 hs2, FY22u hY22, hr48, hd0])
    exact hQ
  · cases hz : isC x with
    | false =>
      have bad := hQ (-nI 1) n sh I L P fun Q2 h2 => by
        refine ⟨(FMu hI.1).1, ?_⟩
        have h2 := h2 _ _ _ _ _ ⟨F, E, k, g, r, hI⟩
        apply e185
        (apply WP_runI (lv := lvM) LM_ok 999 40; simp (disch := first | decide | omega) only [t185_0, t185_1, lift_c, o_iload1, o_inl, o_icne, o_aload0, o_getref, o_iastore, o_ireturn, o_stat1, rpush_n, rpush_s, o_ifne, o_iload2, o_stat3, o_iaload, o_imul, o_iadd, o_dup2, z0, z1, z2, z4, z8, z20, z31, z99, z121, z122, z123, runI_0, runI_c, runI_n, liftI_n, liftI_y, run_0, run_c, run_n, fxn, fxi, fxr, fxl, fxl0, ↓swi_n, ↓swi_c, nck0, nck1, nck2, nck3, List.length_cons, List.length_nil, Nat.reduceAdd, Nat.reduceSub, Nat.reduceLeDiff, Nat.reduceEqDiff, Nat.reduceLT, reduceIte, ite_true, ite_false, Nat.sub_zero, Nat.zero_le, true_and, and_true, and_self, true_or, or_true, if_true, if_false, true_implies, implies_true, not_true_eq_false, not_false_eq_true, false_implies, forall_const, ne_eq, or_self, and_false, false_and, Lt, Le, Eq', Cp, In, nI_add, nI_mul, nI_sub, nI_sub1, Neg0, bI_eq0, bI_eq1, bI_01, bft, up2_eq, up2_no, Bool.true_eq_false, Bool.false_eq_true, eq_self, m1_ne, m1_ne2, m1_lt, m1_le, lt_m1, m1_le2, bI_t, bI_f, LM_all hF, FMu hF, hWe, h1, hz, hd0])
        exact h2
      (apply WP_runI (lv := lvK) (F := LK) LK_ok 999 40; simp (disch := first | decide | omega) only [t89_0, lift_c, o_iload1, o_inl, o_icne, o_aload0, o_getref, o_putfield, o_ireturn, o_stat1, rpush_n, rpush_s, o_ifne, o_iload2, o_virt4, z0, z1, z2, z20, z31, runI_0, runI_c, runI_n, liftI_n, liftI_y, run_0, run_c, run_n, fxn, fxi, fxr, fxl, fxl0, ↓swi_n, ↓swi_c, nck0, nck1, nck2, nck3, List.length_cons, List.length_nil, Nat.reduceAdd, Nat.reduceSub, Nat.reduceLeDiff, Nat.reduceEqDiff, Nat.reduceLT, reduceIte, ite_true, ite_false, Nat.sub_zero, Nat.zero_le, true_and, and_true, and_self, true_or, or_true, if_true, if_false, true_implies, implies_true, not_true_eq_false, not_false_eq_true, false_implies, forall_const, ne_eq, or_self, and_false, false_and, Lt, Le, Eq', Cp, In, nI_add, nI_mul, nI_sub, nI_sub1, Neg0, bI_eq0, bI_eq1, bI_01, bft, up2_eq, up2_no, Bool.true_eq_false, Bool.false_eq_true, eq_self, m1_ne, m1_ne2, m1_lt, m1_le, lt_m1, m1_le2, bI_t, bI_f, LK_st, FGu hG, LK_g hG h22 hs2, FY22u hY22, h1, hz, hd0])
      exact bad
    | true =>
      obtain ⟨c, hc, ex⟩ := isC_of hz
      subst ex
      cases hy : inR y 0 99 with
      | false =>
        have hy2 : decide (nI 0 ≤ y ∧ y ≤ nI 99) = false := hy
        have bad := hQ (-nI 2) n sh I L P fun Q2 h2 => by
          refine ⟨(FMu hI.1).1, ?_⟩
          have h2 := h2 _ _ _ _ _ ⟨F, E, k, g, r, hI⟩
          apply e185
          (apply WP_runI (lv := lvM) LM_ok 999 40; simp (disch := first | decide | omega) only [t185_0, t185_1, lift_c, o_iload1, o_inl, o_icne, o_aload0, o_getref, o_iastore, o_ireturn, o_stat1, rpush_n, rpush_s, o_ifne, o_iload2, o_stat3, o_iaload, o_imul, o_iadd, o_dup2, z0, z1, z2, z4, z8, z20, z31, z99, z121, z122, z123, runI_0, runI_c, runI_n, liftI_n, liftI_y, run_0, run_c, run_n, fxn, fxi, fxr, fxl, fxl0, ↓swi_n, ↓swi_c, nck0, nck1, nck2, nck3, List.length_cons, List.length_nil, Nat.reduceAdd, Nat.reduceSub, Nat.reduceLeDiff, Nat.reduceEqDiff, Nat.reduceLT, reduceIte, ite_true, ite_false, Nat.sub_zero, Nat.zero_le, true_and, and_true, and_self, true_or, or_true, if_true, if_false, true_implies, implies_true, not_true_eq_false, not_false_eq_true, false_implies, forall_const, ne_eq, or_self, and_false, false_and, Lt, Le, Eq', Cp, In, nI_add, nI_mul, nI_sub, nI_sub1, Neg0, bI_eq0, bI_eq1, bI_01, bft, up2_eq, up2_no, Bool.true_eq_false, Bool.false_eq_true, eq_self, m1_ne, m1_ne2, m1_lt, m1_le, lt_m1, m1_le2, bI_t, bI_f, LM_all hF, FMu hF, hWe, hz, hy2, hd0])
          exact h2
        (apply WP_runI (lv := lvK) (F := LK) LK_ok 999 40; simp (disch := first | decide | omega) only [t89_0, lift_c, o_iload1, o_inl, o_icne, o_aload0, o_getref, o_putfield, o_ireturn, o_stat1, rpush_n, rpush_s, o_ifne, o_iload2, o_virt4, z0, z1, z2, z20, z31, runI_0, runI_c, runI_n, liftI_n, liftI_y, run_0, run_c, run_n, fxn, fxi, fxr, fxl, fxl0, ↓swi_n, ↓swi_c, nck0, nck1, nck2, nck3, List.length_cons, List.length_nil, Nat.reduceAdd, Nat.reduceSub, Nat.reduceLeDiff, Nat.reduceEqDiff, Nat.reduceLT, reduceIte, ite_true, ite_false, Nat.sub_zero, Nat.zero_le, true_and, and_true, and_self, true_or, or_true, if_true, if_false, true_implies, implies_true, not_true_eq_false, not_false_eq_true, false_implies, forall_const, ne_eq, or_self, and_false, false_and, Lt, Le, Eq', Cp, In, nI_add, nI_mul, nI_sub, nI_sub1, Neg0, bI_eq0, bI_eq1, bI_01, bft, up2_eq, up2_no, Bool.true_eq_false, Bool.false_eq_true, eq_self, m1_ne, m1_ne2, m1_lt, m1_le, lt_m1, m1_le2, bI_t, bI_f, LK_st, FGu hG, LK_g hG h22 hs2, FY22u hY22, hz, hy, hd0])
        exact bad
      | true =>
        have hy2 : decide (nI 0 ≤ y ∧ y ≤ nI 99) = true := hy
        obtain ⟨t, -, ht, ey⟩ := inR_of (by omega) (by omega) hy
        (apply WP_runI (lv := lvK) (F := LK) LK_ok 999 60; simp (disch := first | decide | omega) only [t89_0, lift_c, o_iload1, o_inl, o_icne, o_aload0, o_getref, o_putfield, o_ireturn, o_stat1, rpush_n, rpush_s, o_ifne, o_iload2, o_virt4, z0, z1, z2, z20, z31, runI_0, runI_c, runI_n, liftI_n, liftI_y, run_0, run_c, run_n, fxn, fxi, fxr, fxl, fxl0, ↓swi_n, ↓swi_c, nck0, nck1, nck2, nck3, List.length_cons, List.length_nil, Nat.reduceAdd, Nat.reduceSub, Nat.reduceLeDiff, Nat.reduceEqDiff, Nat.reduceLT, reduceIte, ite_true, ite_false, Nat.sub_zero, Nat.zero_le, true_and, and_true, and_self, true_or, or_true, if_true, if_false, true_implies, implies_true, not_true_eq_false, not_false_eq_true, false_implies, forall_const, ne_eq, or_self, and_false, false_and, Lt, Le, Eq', Cp, In, nI_add, nI_mul, nI_sub, nI_sub1, Neg0, bI_eq0, bI_eq1, bI_01, bft, up2_eq, up2_no, Bool.true_eq_false, Bool.false_eq_true, eq_self, m1_ne, m1_ne2, m1_lt, m1_le, lt_m1, m1_le2, bI_t, bI_f, LK_st, FGu hG, LK_g hG h22 hs2, FY22u hY22, hr48, hz, hy, hd0])
        refine add_K hB.r48 (by omega) (by omega) hs8 e3 (fun hf => ?_) fun hlt => ?_
        · have full := hQ (-nI 4) n sh I L P fun Q2 h2 => by
            refine ⟨(FMu hI.1).1, ?_⟩
            have h2 := h2 _ _ _ _ _ ⟨F, E, k, g, r, hI⟩
            apply e185
            (apply WP_runI (lv := lvM) LM_ok 999 60; simp (disch := first | decide | omega) only [t185_0, t185_1, lift_c, o_iload1, o_inl, o_icne, o_aload0, o_getref, o_iastore, o_ireturn, o_stat1, rpush_n, rpush_s, o_ifne, o_iload2, o_stat3, o_iaload, o_imul, o_iadd, o_dup2, z0, z1, z2, z4, z8, z20, z31, z99, z121, z122, z123, runI_0, runI_c, runI_n, liftI_n, liftI_y, run_0, run_c, run_n, fxn, fxi, fxr, fxl, fxl0, ↓swi_n, ↓swi_c, nck0, nck1, nck2, nck3, List.length_cons, List.length_nil, Nat.reduceAdd, Nat.reduceSub, Nat.reduceLeDiff, Nat.reduceEqDiff, Nat.reduceLT, reduceIte, ite_true, ite_false, Nat.sub_zero, Nat.zero_le, true_and, and_true, and_self, true_or, or_true, if_true, if_false, true_implies, implies_true, not_true_eq_false, not_false_eq_true, false_implies, forall_const, ne_eq, or_self, and_false, false_and, Lt, Le, Eq', Cp, In, nI_add, nI_mul, nI_sub, nI_sub1, Neg0, bI_eq0, bI_eq1, bI_01, bft, up2_eq, up2_no, Bool.true_eq_false, Bool.false_eq_true, eq_self, m1_ne, m1_ne2, m1_lt, m1_le, lt_m1, m1_le2, bI_t, bI_f, LM_all hF, FMu hF, hWe, hz, hy2, hs, hf, hd0])
            exact h2
          (apply WP_runI (lv := lvK) (F := LK) LK_ok 999 20; simp (disch := first | decide | omega) only [t89_0, lift_c, o_iload1, o_inl, o_icne, o_aload0, o_getref, o_putfield, o_ireturn, o_stat1, rpush_n, rpush_s, o_ifne, o_iload2, o_virt4, z0, z1, z2, z20, z31, runI_0, runI_c, runI_n, liftI_n, liftI_y, run_0, run_c, run_n, fxn, fxi, fxr, fxl, fxl0, ↓swi_n, ↓swi_c, nck0, nck1, nck2, nck3, List.length_cons, List.length_nil, Nat.reduceAdd, Nat.reduceSub, Nat.reduceLeDiff, Nat.reduceEqDiff, Nat.reduceLT, reduceIte, ite_true, ite_false, Nat.sub_zero, Nat.zero_le, true_and, and_true, and_self, true_or, or_true, if_true, if_false, true_implies, implies_true, not_true_eq_false, not_false_eq_true, false_implies, forall_const, ne_eq, or_self, and_false, false_and, Lt, Le, Eq', Cp, In, nI_add, nI_mul, nI_sub, nI_sub1, Neg0, bI_eq0, bI_eq1, bI_01, bft, up2_eq, up2_no, Bool.true_eq_false, Bool.false_eq_true, eq_self, m1_ne, m1_ne2, m1_lt, m1_le, lt_m1, m1_le2, bI_t, bI_f, LK_st, FGu hG, LK_g hG h22 hs2, hd0])
          exact full
        · have hD : IW n sh (up2 (up2 (up2 (up2 (up2 (up2 (up2 I 49 s (nI c)) 50 s y) 51 s (nI 0)) 48 3 (nI (s + 1))) 124 (122 + 2 * s) (nI c)) 124 (123 + 2 * s) y) 124 121 (nI (s + 1))) L P F E k g r := by
            refine hI.tbook (s := s + 1) (fun a j q => by simp (disch := omega) only [up2_no]) (by omega) (by simp (disch := omega) only [up2_no, up2_eq]) (up2_eq _ _ _ _) fun j hj => ?_
            by_cases ej : j = s
            · subst ej
              simp (disch := omega) only [up2_no, up2_eq]
              exact ⟨⟨trivial, trivial⟩, ⟨c, hc, rfl⟩, ⟨t, ht, ey⟩⟩
            · simp (disch := omega) only [up2_no, up2_eq]
              exact ⟨hrd j (by omega), hrow j (by omega)⟩
          have hns : ¬ s = 8 := by omega
          have good := hQ (nI (s + 1)) n sh (up2 (up2 (up2 (up2 I 49 s (nI c)) 50 s y) 51 s (nI 0)) 48 3 (nI (s + 1))) L P fun Q2 h2 => by
            refine ⟨(FMu hI.1).1, ?_⟩
            have h2 := h2 _ _ _ _ _ ⟨F, E, k, g, r, hD⟩
            apply e185
            (apply WP_runI (lv := lvM) LM_ok 999 120; simp (disch := first | decide | omega) only [t185_0, t185_1, lift_c, o_iload1, o_inl, o_icne, o_aload0, o_getref, o_iastore, o_ireturn, o_stat1, rpush_n, rpush_s, o_ifne, o_iload2, o_stat3, o_iaload, o_imul, o_iadd, o_dup2, z0, z1, z2, z4, z8, z20, z31, z99, z121, z122, z123, runI_0, runI_c, runI_n, liftI_n, liftI_y, run_0, run_c, run_n, fxn, fxi, fxr, fxl, fxl0, ↓swi_n, ↓swi_c, nck0, nck1, nck2, nck3, List.length_cons, List.length_nil, Nat.reduceAdd, Nat.reduceSub, Nat.reduceLeDiff, Nat.reduceEqDiff, Nat.reduceLT, reduceIte, ite_true, ite_false, Nat.sub_zero, Nat.zero_le, true_and, and_true, and_self, true_or, or_true, if_true, if_false, true_implies, implies_true, not_true_eq_false, not_false_eq_true, false_implies, forall_const, ne_eq, or_self, and_false, false_and, Lt, Le, Eq', Cp, In, nI_add, nI_mul, nI_sub, nI_sub1, Neg0, bI_eq0, bI_eq1, bI_01, bft, up2_eq, up2_no, Bool.true_eq_false, Bool.false_eq_true, eq_self, m1_ne, m1_ne2, m1_lt, m1_le, lt_m1, m1_le2, bI_t, bI_f, LM_all hF, FMu hF, hWe, hz, hy2, hs, hns, h20, up2_row, hd0])
            exact h2
          clear hD
          (apply WP_runI (lv := lvK) (F := LK) LK_ok 999 20; simp (disch := first | decide | omega) only [t89_0, lift_c, o_iload1, o_inl, o_icne, o_aload0, o_getref, o_putfield, o_ireturn, o_stat1, rpush_n, rpush_s, o_ifne, o_iload2, o_virt4, z0, z1, z2, z20, z31, runI_0, runI_c, runI_n, liftI_n, liftI_y, run_0, run_c, run_n, fxn, fxi, fxr, fxl, fxl0, ↓swi_n, ↓swi_c, nck0, nck1, nck2, nck3, List.length_cons, List.length_nil, Nat.reduceAdd, Nat.reduceSub, Nat.reduceLeDiff, Nat.reduceEqDiff, Nat.reduceLT, reduceIte, ite_true, ite_false, Nat.sub_zero, Nat.zero_le, true_and, and_true, and_self, true_or, or_true, if_true, if_false, true_implies, implies_true, not_true_eq_false, not_false_eq_true, false_implies, forall_const, ne_eq, or_self, and_false, false_and, Lt, Le, Eq', Cp, In, nI_add, nI_mul, nI_sub, nI_sub1, Neg0, bI_eq0, bI_eq1, bI_01, bft, up2_eq, up2_no, Bool.true_eq_false, Bool.false_eq_true, eq_self, m1_ne, m1_ne2, m1_lt, m1_le, lt_m1, m1_le2, bI_t, bI_f, LK_st, FGu hG, LK_g hG h22 hs2, hd0])
          exact good
end
