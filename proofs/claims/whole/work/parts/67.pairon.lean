/-! ### pairs: on -/
section
variable {G : GE} {d : Nat}
theorem on_P (hd : 50 ≤ d) (x y : Int32) : PAIR G d 78 169 [.ref 20, .int x, .int y] [.ref 123, .int x, .int y] := by
  intro n sh I L P Q hI hQ
  obtain ⟨F, E, k, g, r, hI⟩ := hI
  apply e78
  apply WP_SF
  intro hSF
  have hs2 := hSF.2.2.1
  have hB := hI.cb
  have hG := hB.fg
  have hY22 := hB.y22
  have hY84 := hB.y84
  have h22 : sh 22 = (8, 9) := (FY22u hY22).1
  have hd0 : 0 < d := by omega
  have hk := hI.2.2.1.1.k6
  have hg9 := hI.2.2.1.1.g9
  have fin : ∀ I1 L1 P1, CF I L P I1 L1 P1 → Q (some (.int (onA F E (I 124) x y))) n sh I1 L1 P1 := fun I1 L1 P1 hc => hQ _ _ _ _ _ _ fun Q2 h2 => by
    refine ⟨(FMu hI.1).1, ?_⟩
    have hI1 := hI.cf hc
    refine on_M hI1.1 hI1.2.2.1 (by omega) fun I2 he => ?_
    rw [hc.n124]
    exact h2 _ _ _ _ _ ⟨F, E, k, g, r, hI1.scA he⟩
  have hyg := gooseB hB (y - nI 20)
  unfold onA at fin
  -- from the place where the three are known
  have mid : ∀ b3 b4 b5 : Bool, (b3 || (b4 || b5)) = okW (I 124) y → (b3 = true → y = nI 0) → (b3 = false → b4 = true → isC (y - nI 10) = true ∧ ¬ y = nI 0) → (b3 = false → b4 = false → b5 = true → isY (I 124) (y - nI 20) = true ∧ isC (y - nI 10) = false ∧ ¬ y = nI 0) → ∀ cc ss, WP G 78 d Q 57 [some (.ref 20), some (.int x), some (.int y), some (.int (bI b3)), some (.int (bI b4)), some (.int (bI b5)), none] [] cc ss n sh I L P := by
    intro b3 b4 b5 hok h3 h4 h5 cc ss
    cases hw : okW (I 124) y with
    | false =>
      rw [hw, if_pos rfl] at fin
      have fin := fin I L P CF.rf
      rw [hw] at hok
      have e3 : b3 = false := by cases b3 <;> simp_all
      have e4 : b4 = false := by cases b4 <;> simp_all
      have e5 : b5 = false := by cases b5 <;> simp_all
      subst e3 e4 e5
      (apply WP_runI (lv := lvK) (F := LK) LK_ok 999 40; simp (disch := first | decide | omega) only [t78_0, t78_1, lift_c, o_iload2, o_ifne, o_inl, o_goto, o_istore, s1_0, s1_s, o_iclt, o_isub, o_stat1, rpush_n, rpush_s, o_ifeq, o_aload0, o_virt2, o_iload3, o_iload4, o_iload5, o_ireturn, o_iload1, o_stat2, o_getref, o_virt3, o_astore, o_aload6, o_virt1, o_iaload, o_aaload, o_getfield, z0, z1, z2, z10, z20, z31, z60, runI_0, runI_c, runI_n, liftI_n, liftI_y, run_0, run_c, run_n, fxn, fxi, fxr, fxl, fxl0, ↓swi_n, ↓swi_c, nck0, nck1, nck2, nck3, List.length_cons, List.length_nil, Nat.reduceAdd, Nat.reduceSub, Nat.reduceLeDiff, Nat.reduceEqDiff, Nat.reduceLT, reduceIte, ite_true, ite_false, Nat.sub_zero, Nat.zero_le, true_and, and_true, and_self, true_or, or_true, if_true, if_false, true_implies, implies_true, not_true_eq_false, not_false_eq_true, false_implies, forall_const, ne_eq, or_self, and_false, false_and, Lt, Le, Eq', Cp, In, nI_add, nI_mul, nI_sub, nI_sub1, Neg0, bI_eq0, bI_eq1, bI_01, bft, up2_eq, up2_no, Bool.true_eq_false, Bool.false_eq_true, eq_self, m1_ne, m1_ne2, m1_lt, m1_le, lt_m1, m1_le2, bI_t, bI_f, LK_st, FGu hG, LK_g hG h22 hs2, FY22u hY22, hd0])
      exact fin
    | true =>
      rw [hw, if_neg (by decide)] at fin
      cases hx : inR x 0 60 with
      | false =>
        have hx2 : decide (nI 0 ≤ x ∧ x ≤ nI 60) = false := hx
        rw [hx, if_pos rfl] at fin
        have fin := fin I L P CF.rf
        rw [hw] at hok
        cases b3 with
        | true =>
          (apply WP_runI (lv := lvK) (F := LK) LK_ok 999 40; simp (disch := first | decide | omega) only [t78_0, t78_1, lift_c, o_iload2, o_ifne, o_inl, o_goto, o_istore, s1_0, s1_s, o_iclt, o_isub, o_stat1, rpush_n, rpush_s, o_ifeq, o_aload0, o_virt2, o_iload3, o_iload4, o_iload5, o_ireturn, o_iload1, o_stat2, o_getref, o_virt3, o_astore, o_aload6, o_virt1, o_iaload, o_aaload, o_getfield, z0, z1, z2, z10, z20, z31, z60, runI_0, runI_c, runI_n, liftI_n, liftI_y, run_0, run_c, run_n, fxn, fxi, fxr, fxl, fxl0, ↓swi_n, ↓swi_c, nck0, nck1, nck2, nck3, List.length_cons, List.length_nil, Nat.reduceAdd, Nat.reduceSub, Nat.reduceLeDiff, Nat.reduceEqDiff, Nat.reduceLT, reduceIte, ite_true, ite_false, Nat.sub_zero, Nat.zero_le, true_and, and_true, and_self, true_or, or_true, if_true, if_false, true_implies, implies_true, not_true_eq_false, not_false_eq_true, false_implies, forall_const, ne_eq, or_self, and_false, false_and, Lt, Le, Eq', Cp, In, nI_add, nI_mul, nI_sub, nI_sub1, Neg0, bI_eq0, bI_eq1, bI_01, bft, up2_eq, up2_no, Bool.true_eq_false, Bool.false_eq_true, eq_self, m1_ne, m1_ne2, m1_lt, m1_le, lt_m1, m1_le2, bI_t, bI_f, LK_st, FGu hG, LK_g hG h22 hs2, FY22u hY22, hx2, hd0])
          exact fin
        | false =>
          cases b4 with
          | true =>
            (apply WP_runI (lv := lvK) (F := LK) LK_ok 999 40; simp (disch := first | decide | omega) only [t78_0, t78_1, lift_c, o_iload2, o_ifne, o_inl, o_goto, o_istore, s1_0, s1_s, o_iclt, o_isub, o_stat1, rpush_n, rpush_s, o_ifeq, o_aload0, o_virt2, o_iload3, o_iload4, o_iload5, o_ireturn, o_iload1, o_stat2, o_getref, o_virt3, o_astore, o_aload6, o_virt1, o_iaload, o_aaload, o_getfield, z0, z1, z2, z10, z20, z31, z60, runI_0, runI_c, runI_n, liftI_n, liftI_y, run_0, run_c, run_n, fxn, fxi, fxr, fxl, fxl0, ↓swi_n, ↓swi_c, nck0, nck1, nck2, nck3, List.length_cons, List.length_nil, Nat.reduceAdd, Nat.reduceSub, Nat.reduceLeDiff, Nat.reduceEqDiff, Nat.reduceLT, reduceIte, ite_true, ite_false, Nat.sub_zero, Nat.zero_le, true_and, and_true, and_self, true_or, or_true, if_true, if_false, true_implies, implies_true, not_true_eq_false, not_false_eq_true, false_implies, forall_const, ne_eq, or_self, and_false, false_and, Lt, Le, Eq', Cp, In, nI_add, nI_mul, nI_sub, nI_sub1, Neg0, bI_eq0, bI_eq1, bI_01, bft, up2_eq, up2_no, Bool.true_eq_false, Bool.false_eq_true, eq_self, m1_ne, m1_ne2, m1_lt, m1_le, lt_m1, m1_le2, bI_t, bI_f, LK_st, FGu hG, LK_g hG h22 hs2, FY22u hY22, hx2, hd0])
            exact fin
          | false =>
            have e5 : b5 = true := by simpa using hok
            subst e5
            (apply WP_runI (lv := lvK) (F := LK) LK_ok 999 40; simp (disch := first | decide | omega) only [t78_0, t78_1, lift_c, o_iload2, o_ifne, o_inl, o_goto, o_istore, s1_0, s1_s, o_iclt, o_isub, o_stat1, rpush_n, rpush_s, o_ifeq, o_aload0, o_virt2, o_iload3, o_iload4, o_iload5, o_ireturn, o_iload1, o_stat2, o_getref, o_virt3, o_astore, o_aload6, o_virt1, o_iaload, o_aaload, o_getfield, z0, z1, z2, z10, z20, z31, z60, runI_0, runI_c, runI_n, liftI_n, liftI_y, run_0, run_c, run_n, fxn, fxi, fxr, fxl, fxl0, ↓swi_n, ↓swi_c, nck0, nck1, nck2, nck3, List.length_cons, List.length_nil, Nat.reduceAdd, Nat.reduceSub, Nat.reduceLeDiff, Nat.reduceEqDiff, Nat.reduceLT, reduceIte, ite_true, ite_false, Nat.sub_zero, Nat.zero_le, true_and, and_true, and_self, true_or, or_true, if_true, if_false, true_implies, implies_true, not_true_eq_false, not_false_eq_true, false_implies, forall_const, ne_eq, or_self, and_false, false_and, Lt, Le, Eq', Cp, In, nI_add, nI_mul, nI_sub, nI_sub1, Neg0, bI_eq0, bI_eq1, bI_01, bft, up2_eq, up2_no, Bool.true_eq_false, Bool.false_eq_true, eq_self, m1_ne, m1_ne2, m1_lt, m1_le, lt_m1, m1_le2, bI_t, bI_f, LK_st, FGu hG, LK_g hG h22 hs2, FY22u hY22, hx2, hd0])
            exact fin
      | true =>
        have hx2 : decide (nI 0 ≤ x ∧ x ≤ nI 60) = true := hx
        rw [hx, if_neg (by decide)] at fin
        obtain ⟨m, -, hm, ex⟩ := inR_of (by omega) (by omega) hx
        rw [show x.toNatClampNeg = m by rw [ex, Cp _ (by omega)]] at fin
        rw [hw] at hok
        unfold onF at fin
        cases b3 with
        | true =>
          rw [if_pos (h3 rfl)] at fin
          (apply WP_runI (lv := lvK) (F := LK) LK_ok 999 40; simp (disch := first | decide | omega) only [t78_0, t78_1, lift_c, o_iload2, o_ifne, o_inl, o_goto, o_istore, s1_0, s1_s, o_iclt, o_isub, o_stat1, rpush_n, rpush_s, o_ifeq, o_aload0, o_virt2, o_iload3, o_iload4, o_iload5, o_ireturn, o_iload1, o_stat2, o_getref, o_virt3, o_astore, o_aload6, o_virt1, o_iaload, o_aaload, o_getfield, z0, z1, z2, z10, z20, z31, z60, runI_0, runI_c, runI_n, liftI_n, liftI_y, run_0, run_c, run_n, fxn, fxi, fxr, fxl, fxl0, ↓swi_n, ↓swi_c, nck0, nck1, nck2, nck3, List.length_cons, List.length_nil, Nat.reduceAdd, Nat.reduceSub, Nat.reduceLeDiff, Nat.reduceEqDiff, Nat.reduceLT, reduceIte, ite_true, ite_false, Nat.sub_zero, Nat.zero_le, true_and, and_true, and_self, true_or, or_true, if_true, if_false, true_implies, implies_true, not_true_eq_false, not_false_eq_true, false_implies, forall_const, ne_eq, or_self, and_false, false_and, Lt, Le, Eq', Cp, In, nI_add, nI_mul, nI_sub, nI_sub1, Neg0, bI_eq0, bI_eq1, bI_01, bft, up2_eq, up2_no, Bool.true_eq_false, Bool.false_eq_true, eq_self, m1_ne, m1_ne2, m1_lt, m1_le, lt_m1, m1_le2, bI_t, bI_f, LK_st, FGu hG, LK_g hG h22 hs2, FY22u hY22, hx2, hd0])
          rw [ex]
          refine behind_T hB (by omega) (by omega) fun I1 L1 P1 hT => ?_
          have fin := fin I1 L1 P1 hT.1
          have hY84 := hT.y
          have n84 : ¬ neq 84 1 := by show ¬ 84 = 1; decide
          (apply WP_runI (lv := lvK) (F := LK) LK_ok 999 40; simp (disch := first | decide | omega) only [t78_0, t78_1, lift_c, o_iload2, o_ifne, o_inl, o_goto, o_istore, s1_0, s1_s, o_iclt, o_isub, o_stat1, rpush_n, rpush_s, o_ifeq, o_aload0, o_virt2, o_iload3, o_iload4, o_iload5, o_ireturn, o_iload1, o_stat2, o_getref, o_virt3, o_astore, o_aload6, o_virt1, o_iaload, o_aaload, o_getfield, z0, z1, z2, z10, z20, z31, z60, runI_0, runI_c, runI_n, liftI_n, liftI_y, run_0, run_c, run_n, fxn, fxi, fxr, fxl, fxl0, ↓swi_n, ↓swi_c, nck0, nck1, nck2, nck3, List.length_cons, List.length_nil, Nat.reduceAdd, Nat.reduceSub, Nat.reduceLeDiff, Nat.reduceEqDiff, Nat.reduceLT, reduceIte, ite_true, ite_false, Nat.sub_zero, Nat.zero_le, true_and, and_true, and_self, true_or, or_true, if_true, if_false, true_implies, implies_true, not_true_eq_false, not_false_eq_true, false_implies, forall_const, ne_eq, or_self, and_false, false_and, Lt, Le, Eq', Cp, In, nI_add, nI_mul, nI_sub, nI_sub1, Neg0, bI_eq0, bI_eq1, bI_01, bft, up2_eq, up2_no, Bool.true_eq_false, Bool.false_eq_true, eq_self, m1_ne, m1_ne2, m1_lt, m1_le, lt_m1, m1_le2, bI_t, bI_f, LK_st, FGu hG, LK_g hG h22 hs2, FY84u hY84, n84, hd0])
          refine openG_Y hT.2.2.1 hT.2.2.2 (by omega) ?_
          generalize openS (hoursS F E (I 124) m) = v at fin ⊢
          (apply WP_runI (lv := lvK) (F := LK) LK_ok 999 40; simp (disch := first | decide | omega) only [t78_0, t78_1, lift_c, o_iload2, o_ifne, o_inl, o_goto, o_istore, s1_0, s1_s, o_iclt, o_isub, o_stat1, rpush_n, rpush_s, o_ifeq, o_aload0, o_virt2, o_iload3, o_iload4, o_iload5, o_ireturn, o_iload1, o_stat2, o_getref, o_virt3, o_astore, o_aload6, o_virt1, o_iaload, o_aaload, o_getfield, z0, z1, z2, z10, z20, z31, z60, runI_0, runI_c, runI_n, liftI_n, liftI_y, run_0, run_c, run_n, fxn, fxi, fxr, fxl, fxl0, ↓swi_n, ↓swi_c, nck0, nck1, nck2, nck3, List.length_cons, List.length_nil, Nat.reduceAdd, Nat.reduceSub, Nat.reduceLeDiff, Nat.reduceEqDiff, Nat.reduceLT, reduceIte, ite_true, ite_false, Nat.sub_zero, Nat.zero_le, true_and, and_true, and_self, true_or, or_true, if_true, if_false, true_implies, implies_true, not_true_eq_false, not_false_eq_true, false_implies, forall_const, ne_eq, or_self, and_false, false_and, Lt, Le, Eq', Cp, In, nI_add, nI_mul, nI_sub, nI_sub1, Neg0, bI_eq0, bI_eq1, bI_01, bft, up2_eq, up2_no, Bool.true_eq_false, Bool.false_eq_true, eq_self, m1_ne, m1_ne2, m1_lt, m1_le, lt_m1, m1_le2, bI_t, bI_f, LK_st, FGu hG, LK_g hG h22 hs2, hd0])
          exact fin
        | false =>
          cases b4 with
          | true =>
            obtain ⟨h1, h0⟩ := h4 rfl rfl
            obtain ⟨c, hc, e⟩ := isC_of h1
            rw [if_neg h0, if_pos h1, e, Cp _ (by omega)] at fin
            (apply WP_runI (lv := lvK) (F := LK) LK_ok 999 40; simp (disch := first | decide | omega) only [t78_0, t78_1, lift_c, o_iload2, o_ifne, o_inl, o_goto, o_istore, s1_0, s1_s, o_iclt, o_isub, o_stat1, rpush_n, rpush_s, o_ifeq, o_aload0, o_virt2, o_iload3, o_iload4, o_iload5, o_ireturn, o_iload1, o_stat2, o_getref, o_virt3, o_astore, o_aload6, o_virt1, o_iaload, o_aaload, o_getfield, z0, z1, z2, z10, z20, z31, z60, runI_0, runI_c, runI_n, liftI_n, liftI_y, run_0, run_c, run_n, fxn, fxi, fxr, fxl, fxl0, ↓swi_n, ↓swi_c, nck0, nck1, nck2, nck3, List.length_cons, List.length_nil, Nat.reduceAdd, Nat.reduceSub, Nat.reduceLeDiff, Nat.reduceEqDiff, Nat.reduceLT, reduceIte, ite_true, ite_false, Nat.sub_zero, Nat.zero_le, true_and, and_true, and_self, true_or, or_true, if_true, if_false, true_implies, implies_true, not_true_eq_false, not_false_eq_true, false_implies, forall_const, ne_eq, or_self, and_false, false_and, Lt, Le, Eq', Cp, In, nI_add, nI_mul, nI_sub, nI_sub1, Neg0, bI_eq0, bI_eq1, bI_01, bft, up2_eq, up2_no, Bool.true_eq_false, Bool.false_eq_true, eq_self, m1_ne, m1_ne2, m1_lt, m1_le, lt_m1, m1_le2, bI_t, bI_f, LK_st, FGu hG, LK_g hG h22 hs2, FY22u hY22, hx2, hd0])
            rw [ex]
            refine behind_T hB (by omega) (by omega) fun I1 L1 P1 hT => ?_
            have fin := fin I1 L1 P1 hT.1
            have hY84 := hT.y
            have hgr : I1 85 c = hoursS F E (I 124) m c := hT.2.2.1.grain c hc
            rw [← hgr] at fin
            (apply WP_runI (lv := lvK) (F := LK) LK_ok 999 40; simp (disch := first | decide | omega) only [t78_0, t78_1, lift_c, o_iload2, o_ifne, o_inl, o_goto, o_istore, s1_0, s1_s, o_iclt, o_isub, o_stat1, rpush_n, rpush_s, o_ifeq, o_aload0, o_virt2, o_iload3, o_iload4, o_iload5, o_ireturn, o_iload1, o_stat2, o_getref, o_virt3, o_astore, o_aload6, o_virt1, o_iaload, o_aaload, o_getfield, z0, z1, z2, z10, z20, z31, z60, runI_0, runI_c, runI_n, liftI_n, liftI_y, run_0, run_c, run_n, fxn, fxi, fxr, fxl, fxl0, ↓swi_n, ↓swi_c, nck0, nck1, nck2, nck3, List.length_cons, List.length_nil, Nat.reduceAdd, Nat.reduceSub, Nat.reduceLeDiff, Nat.reduceEqDiff, Nat.reduceLT, reduceIte, ite_true, ite_false, Nat.sub_zero, Nat.zero_le, true_and, and_true, and_self, true_or, or_true, if_true, if_false, true_implies, implies_true, not_true_eq_false, not_false_eq_true, false_implies, forall_const, ne_eq, or_self, and_false, false_and, Lt, Le, Eq', Cp, In, nI_add, nI_mul, nI_sub, nI_sub1, Neg0, bI_eq0, bI_eq1, bI_01, bft, up2_eq, up2_no, Bool.true_eq_false, Bool.false_eq_true, eq_self, m1_ne, m1_ne2, m1_lt, m1_le, lt_m1, m1_le2, bI_t, bI_f, LK_st, FGu hG, LK_g hG h22 hs2, FY84u hY84, e, hd0])
            exact fin
          | false =>
            have e5 : b5 = true := by simpa using hok
            subst e5
            obtain ⟨h2, h1, h0⟩ := h5 rfl rfl rfl
            obtain ⟨i, hi, e⟩ := isY_of hB.2.2.1 h2
            rw [if_neg h0, if_neg (by rw [h1]; decide), e, Cp _ (by omega)] at fin
            (apply WP_runI (lv := lvK) (F := LK) LK_ok 999 40; simp (disch := first | decide | omega) only [t78_0, t78_1, lift_c, o_iload2, o_ifne, o_inl, o_goto, o_istore, s1_0, s1_s, o_iclt, o_isub, o_stat1, rpush_n, rpush_s, o_ifeq, o_aload0, o_virt2, o_iload3, o_iload4, o_iload5, o_ireturn, o_iload1, o_stat2, o_getref, o_virt3, o_astore, o_aload6, o_virt1, o_iaload, o_aaload, o_getfield, z0, z1, z2, z10, z20, z31, z60, runI_0, runI_c, runI_n, liftI_n, liftI_y, run_0, run_c, run_n, fxn, fxi, fxr, fxl, fxl0, ↓swi_n, ↓swi_c, nck0, nck1, nck2, nck3, List.length_cons, List.length_nil, Nat.reduceAdd, Nat.reduceSub, Nat.reduceLeDiff, Nat.reduceEqDiff, Nat.reduceLT, reduceIte, ite_true, ite_false, Nat.sub_zero, Nat.zero_le, true_and, and_true, and_self, true_or, or_true, if_true, if_false, true_implies, implies_true, not_true_eq_false, not_false_eq_true, false_implies, forall_const, ne_eq, or_self, and_false, false_and, Lt, Le, Eq', Cp, In, nI_add, nI_mul, nI_sub, nI_sub1, Neg0, bI_eq0, bI_eq1, bI_01, bft, up2_eq, up2_no, Bool.true_eq_false, Bool.false_eq_true, eq_self, m1_ne, m1_ne2, m1_lt, m1_le, lt_m1, m1_le2, bI_t, bI_f, LK_st, FGu hG, LK_g hG h22 hs2, FY22u hY22, hx2, hd0])
            rw [ex]
            refine behind_T hB (by omega) (by omega) fun I1 L1 P1 hT => ?_
            have fin := fin I1 L1 P1 hT.1
            have hY84 := hT.y
            have hgr : I1 (90 + 2 * i) 2 = gs (hoursS F E (I 124) m) i 2 := hT.2.2.1.geese i 2 hi (by omega)
            rw [← hgr] at fin
            (apply WP_runI (lv := lvK) (F := LK) LK_ok 999 40; simp (disch := first | decide | omega) only [t78_0, t78_1, lift_c, o_iload2, o_ifne, o_inl, o_goto, o_istore, s1_0, s1_s, o_iclt, o_isub, o_stat1, rpush_n, rpush_s, o_ifeq, o_aload0, o_virt2, o_iload3, o_iload4, o_iload5, o_ireturn, o_iload1, o_stat2, o_getref, o_virt3, o_astore, o_aload6, o_virt1, o_iaload, o_aaload, o_getfield, z0, z1, z2, z10, z20, z31, z60, runI_0, runI_c, runI_n, liftI_n, liftI_y, run_0, run_c, run_n, fxn, fxi, fxr, fxl, fxl0, ↓swi_n, ↓swi_c, nck0, nck1, nck2, nck3, List.length_cons, List.length_nil, Nat.reduceAdd, Nat.reduceSub, Nat.reduceLeDiff, Nat.reduceEqDiff, Nat.reduceLT, reduceIte, ite_true, ite_false, Nat.sub_zero, Nat.zero_le, true_and, and_true, and_self, true_or, or_true, if_true, if_false, true_implies, implies_true, not_true_eq_false, not_false_eq_true, false_implies, forall_const, ne_eq, or_self, and_false, false_and, Lt, Le, Eq', Cp, In, nI_add, nI_mul, nI_sub, nI_sub1, Neg0, bI_eq0, bI_eq1, bI_01, bft, up2_eq, up2_no, Bool.true_eq_false, Bool.false_eq_true, eq_self, m1_ne, m1_ne2, m1_lt, m1_le, lt_m1, m1_le2, bI_t, bI_f, LK_st, FGu hG, LK_g hG h22 hs2, FY84u hY84, e, hd0])
            exact fin
  clear fin
  by_cases h0 : y = nI 0
  · have mid := mid true false false (by unfold okW; rw [decide_eq_true h0]; rfl) (fun _ => h0) (fun q => by cases q) (fun q => by cases q)
    subst h0
    rw [bI_t, bI_f] at mid
    (apply WP_runI (lv := lvK) (F := LK) LK_ok 57 80; simp (disch := first | decide | omega) only [t78_0, t78_1, lift_c, o_iload2, o_ifne, o_inl, o_goto, o_istore, s1_0, s1_s, o_iclt, o_isub, o_stat1, rpush_n, rpush_s, o_ifeq, o_aload0, o_virt2, o_iload3, o_iload4, o_iload5, o_ireturn, o_iload1, o_stat2, o_getref, o_virt3, o_astore, o_aload6, o_virt1, o_iaload, o_aaload, o_getfield, z0, z1, z2, z10, z20, z31, z60, runI_0, runI_c, runI_n, liftI_n, liftI_y, run_0, run_c, run_n, fxn, fxi, fxr, fxl, fxl0, ↓swi_n, ↓swi_c, nck0, nck1, nck2, nck3, List.length_cons, List.length_nil, Nat.reduceAdd, Nat.reduceSub, Nat.reduceLeDiff, Nat.reduceEqDiff, Nat.reduceLT, reduceIte, ite_true, ite_false, Nat.sub_zero, Nat.zero_le, true_and, and_true, and_self, true_or, or_true, if_true, if_false, true_implies, implies_true, not_true_eq_false, not_false_eq_true, false_implies, forall_const, ne_eq, or_self, and_false, false_and, Lt, Le, Eq', Cp, In, nI_add, nI_mul, nI_sub, nI_sub1, Neg0, bI_eq0, bI_eq1, bI_01, bft, up2_eq, up2_no, Bool.true_eq_false, Bool.false_eq_true, eq_self, m1_ne, m1_ne2, m1_lt, m1_le, lt_m1, m1_le2, bI_t, bI_f, LK_st, FGu hG, LK_g hG h22 hs2, FY22u hY22, hd0])
    exact mid _ _
  · cases h1 : isC (y - nI 10) with
    | true =>
      obtain ⟨c, hc, e⟩ := isC_of h1
      have ey := sub_of e
      have mid := mid false true false (by unfold okW; rw [h1, decide_eq_false h0]; rfl) (fun q => by cases q) (fun _ _ => ⟨h1, h0⟩) (fun _ q => by cases q)
      have l1 : ¬ y < nI 10 := by rw [ey, Lt _ _ (by omega) (by omega)]; omega
      have l2 : y < nI 20 := by rw [ey, Lt _ _ (by omega) (by omega)]; omega
      rw [bI_t, bI_f] at mid
      (apply WP_runI (lv := lvK) (F := LK) LK_ok 57 80; simp (disch := first | decide | omega) only [t78_0, t78_1, lift_c, o_iload2, o_ifne, o_inl, o_goto, o_istore, s1_0, s1_s, o_iclt, o_isub, o_stat1, rpush_n, rpush_s, o_ifeq, o_aload0, o_virt2, o_iload3, o_iload4, o_iload5, o_ireturn, o_iload1, o_stat2, o_getref, o_virt3, o_astore, o_aload6, o_virt1, o_iaload, o_aaload, o_getfield, z0, z1, z2, z10, z20, z31, z60, runI_0, runI_c, runI_n, liftI_n, liftI_y, run_0, run_c, run_n, fxn, fxi, fxr, fxl, fxl0, ↓swi_n, ↓swi_c, nck0, nck1, nck2, nck3, List.length_cons, List.length_nil, Nat.reduceAdd, Nat.reduceSub, Nat.reduceLeDiff, Nat.reduceEqDiff, Nat.reduceLT, reduceIte, ite_true, ite_false, Nat.sub_zero, Nat.zero_le, true_and, and_true, and_self, true_or, or_true, if_true, if_false, true_implies, implies_true, not_true_eq_false, not_false_eq_true, false_implies, forall_const, ne_eq, or_self, and_false, false_and, Lt, Le, Eq', Cp, In, nI_add, nI_mul, nI_sub, nI_sub1, Neg0, bI_eq0, bI_eq1, bI_01, bft, up2_eq, up2_no, Bool.true_eq_false, Bool.false_eq_true, eq_self, m1_ne, m1_ne2, m1_lt, m1_le, lt_m1, m1_le2, bI_t, bI_f, LK_st, FGu hG, LK_g hG h22 hs2, FY22u hY22, h0, h1, l1, l2, hd0])
      exact mid _ _
    | false =>
      cases h2 : isY (I 124) (y - nI 20) with
      | true =>
        obtain ⟨i, hi, e⟩ := isY_of hB.2.2.1 h2
        have ey := sub_of e
        have mid := mid false false true (by unfold okW; rw [h1, h2, decide_eq_false h0]) (fun q => by cases q) (fun _ q => by cases q) (fun _ _ _ => ⟨h2, h1, h0⟩)
        have l1 : ¬ y < nI 10 := by rw [ey, Lt _ _ (by omega) (by omega)]; omega
        have l2 : ¬ y < nI 20 := by rw [ey, Lt _ _ (by omega) (by omega)]; omega
        rw [h2] at hyg
        rw [bI_t, bI_f] at mid
        (apply WP_runI (lv := lvK) (F := LK) LK_ok 57 80; simp (disch := first | decide | omega) only [t78_0, t78_1, lift_c, o_iload2, o_ifne, o_inl, o_goto, o_istore, s1_0, s1_s, o_iclt, o_isub, o_stat1, rpush_n, rpush_s, o_ifeq, o_aload0, o_virt2, o_iload3, o_iload4, o_iload5, o_ireturn, o_iload1, o_stat2, o_getref, o_virt3, o_astore, o_aload6, o_virt1, o_iaload, o_aaload, o_getfield, z0, z1, z2, z10, z20, z31, z60, runI_0, runI_c, runI_n, liftI_n, liftI_y, run_0, run_c, run_n, fxn, fxi, fxr, fxl, fxl0, ↓swi_n, ↓swi_c, nck0, nck1, nck2, nck3, List.length_cons, List.length_nil, Nat.reduceAdd, Nat.reduceSub, Nat.reduceLeDiff, Nat.reduceEqDiff, Nat.reduceLT, reduceIte, ite_true, ite_false, Nat.sub_zero, Nat.zero_le, true_and, and_true, and_self, true_or, or_true, if_true, if_false, true_implies, implies_true, not_true_eq_false, not_false_eq_true, false_implies, forall_const, ne_eq, or_self, and_false, false_and, Lt, Le, Eq', Cp, In, nI_add, nI_mul, nI_sub, nI_sub1, Neg0, bI_eq0, bI_eq1, bI_01, bft, up2_eq, up2_no, Bool.true_eq_false, Bool.false_eq_true, eq_self, m1_ne, m1_ne2, m1_lt, m1_le, lt_m1, m1_le2, bI_t, bI_f, LK_st, FGu hG, LK_g hG h22 hs2, FY22u hY22, h0, h1, l1, l2, hyg, hd0])
        exact mid _ _
      | false =>
        have mid := mid false false false (by unfold okW; rw [h1, h2, decide_eq_false h0]) (fun q => by cases q) (fun _ q => by cases q) (fun _ _ q => by cases q)
        rw [h2] at hyg
        rw [bI_f] at mid
        by_cases l1 : y < nI 10
        · have l2 : y < nI 20 := by rw [i_lt, nIi _ (by omega)] at l1 ⊢; omega
          (apply WP_runI (lv := lvK) (F := LK) LK_ok 57 80; simp (disch := first | decide | omega) only [t78_0, t78_1, lift_c, o_iload2, o_ifne, o_inl, o_goto, o_istore, s1_0, s1_s, o_iclt, o_isub, o_stat1, rpush_n, rpush_s, o_ifeq, o_aload0, o_virt2, o_iload3, o_iload4, o_iload5, o_ireturn, o_iload1, o_stat2, o_getref, o_virt3, o_astore, o_aload6, o_virt1, o_iaload, o_aaload, o_getfield, z0, z1, z2, z10, z20, z31, z60, runI_0, runI_c, runI_n, liftI_n, liftI_y, run_0, run_c, run_n, fxn, fxi, fxr, fxl, fxl0, ↓swi_n, ↓swi_c, nck0, nck1, nck2, nck3, List.length_cons, List.length_nil, Nat.reduceAdd, Nat.reduceSub, Nat.reduceLeDiff, Nat.reduceEqDiff, Nat.reduceLT, reduceIte, ite_true, ite_false, Nat.sub_zero, Nat.zero_le, true_and, and_true, and_self, true_or, or_true, if_true, if_false, true_implies, implies_true, not_true_eq_false, not_false_eq_true, false_implies, forall_const, ne_eq, or_self, and_false, false_and, Lt, Le, Eq', Cp, In, nI_add, nI_mul, nI_sub, nI_sub1, Neg0, bI_eq0, bI_eq1, bI_01, bft, up2_eq, up2_no, Bool.true_eq_false, Bool.false_eq_true, eq_self, m1_ne, m1_ne2, m1_lt, m1_le, lt_m1, m1_le2, bI_t, bI_f, LK_st, FGu hG, LK_g hG h22 hs2, FY22u hY22, h0, l1, l2, hyg, hd0])
          exact mid _ _
        · by_cases l2 : y < nI 20
          · (apply WP_runI (lv := lvK) (F := LK) LK_ok 57 80; simp (disch := first | decide | omega) only [t78_0, t78_1, lift_c, o_iload2, o_ifne, o_inl, o_goto, o_istore, s1_0, s1_s, o_iclt, o_isub, o_stat1, rpush_n, rpush_s, o_ifeq, o_aload0, o_virt2, o_iload3, o_iload4, o_iload5, o_ireturn, o_iload1, o_stat2, o_getref, o_virt3, o_astore, o_aload6, o_virt1, o_iaload, o_aaload, o_getfield, z0, z1, z2, z10, z20, z31, z60, runI_0, runI_c, runI_n, liftI_n, liftI_y, run_0, run_c, run_n, fxn, fxi, fxr, fxl, fxl0, ↓swi_n, ↓swi_c, nck0, nck1, nck2, nck3, List.length_cons, List.length_nil, Nat.reduceAdd, Nat.reduceSub, Nat.reduceLeDiff, Nat.reduceEqDiff, Nat.reduceLT, reduceIte, ite_true, ite_false, Nat.sub_zero, Nat.zero_le, true_and, and_true, and_self, true_or, or_true, if_true, if_false, true_implies, implies_true, not_true_eq_false, not_false_eq_true, false_implies, forall_const, ne_eq, or_self, and_false, false_and, Lt, Le, Eq', Cp, In, nI_add, nI_mul, nI_sub, nI_sub1, Neg0, bI_eq0, bI_eq1, bI_01, bft, up2_eq, up2_no, Bool.true_eq_false, Bool.false_eq_true, eq_self, m1_ne, m1_ne2, m1_lt, m1_le, lt_m1, m1_le2, bI_t, bI_f, LK_st, FGu hG, LK_g hG h22 hs2, FY22u hY22, h0, h1, l1, l2, hyg, hd0])
            exact mid _ _
          · (apply WP_runI (lv := lvK) (F := LK) LK_ok 57 80; simp (disch := first | decide | omega) only [t78_0, t78_1, lift_c, o_iload2, o_ifne, o_inl, o_goto, o_istore, s1_0, s1_s, o_iclt, o_isub, o_stat1, rpush_n, rpush_s, o_ifeq, o_aload0, o_virt2, o_iload3, o_iload4, o_iload5, o_ireturn, o_iload1, o_stat2, o_getref, o_virt3, o_astore, o_aload6, o_virt1, o_iaload, o_aaload, o_getfield, z0, z1, z2, z10, z20, z31, z60, runI_0, runI_c, runI_n, liftI_n, liftI_y, run_0, run_c, run_n, fxn, fxi, fxr, fxl, fxl0, ↓swi_n, ↓swi_c, nck0, nck1, nck2, nck3, List.length_cons, List.length_nil, Nat.reduceAdd, Nat.reduceSub, Nat.reduceLeDiff, Nat.reduceEqDiff, Nat.reduceLT, reduceIte, ite_true, ite_false, Nat.sub_zero, Nat.zero_le, true_and, and_true, and_self, true_or, or_true, if_true, if_false, true_implies, implies_true, not_true_eq_false, not_false_eq_true, false_implies, forall_const, ne_eq, or_self, and_false, false_and, Lt, Le, Eq', Cp, In, nI_add, nI_mul, nI_sub, nI_sub1, Neg0, bI_eq0, bI_eq1, bI_01, bft, up2_eq, up2_no, Bool.true_eq_false, Bool.false_eq_true, eq_self, m1_ne, m1_ne2, m1_lt, m1_le, lt_m1, m1_le2, bI_t, bI_f, LK_st, FGu hG, LK_g hG h22 hs2, FY22u hY22, h0, h1, l1, l2, hyg, hd0])
            exact mid _ _
end
