/-! ### pairs: row -/
theorem IW.rowu {n : Nat} {sh : TS} {I : TI} {L : TL} {P : TP} {F : TF} {E : Nat → Int32} {k g r : Nat} (h : IW n sh I L P F E k g r) {i p : Nat} {v : Int32} (hi : i < k) (hp : p < 4) : IW n sh (up2 (up2 I (29 + 2 * i) p v) 124 (26 + 9 * i + (5 + p)) v) L P F E k g r := by
  have hk := h.2.2.1.1.k6
  have hg := h.2.2.1.1.g9
  have e : (up2 (up2 I (29 + 2 * i) p v) 124 (26 + 9 * i + (5 + p)) v) 124 = upN (I 124) (26 + 9 * i + (5 + p)) v := by rw [up2_upN, up2_row _ _ _ _ _ (by omega)]
  have hE : Eo mS I (up2 (up2 I (29 + 2 * i) p v) 124 (26 + 9 * i + (5 + p)) v) := (Eo.rf.up (by unfold mS; omega) _).up (by unfold mS; omega) _
  have q : ∀ a j, ¬ (a = 29 + 2 * i ∧ j = p) → ¬ a = 124 → (up2 (up2 I (29 + 2 * i) p v) 124 (26 + 9 * i + (5 + p)) v) a j = I a j := fun a j w1 w2 => by
    rw [up2_no _ _ _ _ _ _ (fun w => w2 w.1), up2_no _ _ _ _ _ _ w1]
  have u : ∀ j, ¬ j = 26 + 9 * i + (5 + p) → upN (I 124) (26 + 9 * i + (5 + p)) v j = I 124 j := fun j w => upN_no _ _ _ _ w
  have f1 : (up2 (up2 I (29 + 2 * i) p v) 124 (26 + 9 * i + (5 + p)) v) (29 + 2 * i) p = v := by rw [up2_no _ _ _ _ _ _ (by omega), up2_eq]
  refine h.row hE (by rw [e]; exact h.2.2.1.1.row_up hi (by omega) (by omega)) ?_ ?_ ?_
  · rw [e]
    generalize up2 (up2 I (29 + 2 * i) p v) 124 (26 + 9 * i + (5 + p)) v = I' at e hE q f1 ⊢
    have f2 : gs (upN (I 124) (26 + 9 * i + (5 + p)) v) i (5 + p) = v := upN_eq _ _ _
    have hgs : ∀ i' w, ¬ 26 + 9 * i' + w = 26 + 9 * i + (5 + p) → gs (upN (I 124) (26 + 9 * i + (5 + p)) v) i' w = gs (I 124) i' w := fun i' w q => u _ q
    have hed : ∀ j w, j < g → w < 2 → ed (upN (I 124) (26 + 9 * i + (5 + p)) v) j w = ed (I 124) j w := fun j w hj hw => u _ (by omega)
    have h83 : rl (upN (I 124) (26 + 9 * i + (5 + p)) v) = rl (I 124) := by
      show (upN (I 124) (26 + 9 * i + (5 + p)) v 83).toNatClampNeg = _
      rw [u 83 (by omega)]
      rfl
    have h82 := u 82 (by omega)
    have hgr : ∀ c, c < 8 → upN (I 124) (26 + 9 * i + (5 + p)) v c = I 124 c := fun c hc => u c (by omega)
    generalize upN (I 124) (26 + 9 * i + (5 + p)) v = M at f2 hgs hed h83 h82 hgr ⊢
    have hD := h.2.2.2.1
    refine ⟨hD.y, (q _ _ (by omega) (by omega)).trans hD.gates, (q _ _ (by omega) (by omega)).trans hD.count, ?_, fun c hc => ?_, fun j hj => ?_, fun j hj => ?_, fun i' w hi' hw => ?_, fun i' w hi' hw => ?_, ?_⟩
    · rw [q _ _ (by omega) (by omega), h82]; exact hD.hour
    · rw [q _ _ (by omega) (by omega), hgr c hc]; exact hD.grain c hc
    · rw [q _ _ (by omega) (by omega), hed j 0 hj (by omega)]; exact hD.one j hj
    · rw [q _ _ (by omega) (by omega), hed j 1 hj (by omega)]; exact hD.other j hj
    · rw [q _ _ (by omega) (by omega), hgs i' w (by omega)]; exact hD.geese i' w hi' hw
    · by_cases ei : i' = i ∧ w = p
      · rw [ei.1, ei.2, f2]; exact f1
      · rw [q _ _ (by omega) (by omega), hgs i' (5 + w) (by omega)]; exact hD.rows i' w hi' hw
    · rw [h83]
      exact hD.holds.eo hE fun c j w => by unfold mS qS at w; omega
  · rw [e]
    exact (h.2.2.2.2.1.row (M := upN (I 124) (26 + 9 * i + (5 + p)) v) fun j hj => upN_no _ _ _ _ (by omega)).eo (S := fun a _ => a = 29 + 2 * i ∨ a = 124) (fun a j q => by rw [up2_no _ _ _ _ _ _ (by omega), up2_no _ _ _ _ _ _ (by omega)]) fun a j q => by omega
  · rw [e]
    exact h.2.2.2.2.2.1.keep fun j hj => upN_no _ _ _ _ (by omega)
section
variable {G : GE} {d : Nat}
theorem row_P (hd : 50 ≤ d) (x y z : Int32) : PAIR G d 73 139 [.ref 20, .int x, .int y, .int z] [.ref 123, .int x, .int y, .int z] := by
  intro n sh I L P Q hI hQ
  obtain ⟨F, E, k, g, r, hI⟩ := hI
  apply e73
  apply WP_SF
  intro hSF
  have hs2 := hSF.2.2.1
  have hB := hI.cb
  have hG := hB.fg
  have hY22 := hB.y22
  have hY84 := hB.y84
  have h22 : sh 22 = (8, 9) := (FY22u hY22).1
  have hd0 : 0 < d := by omega
  have hk := hI.2.2.1.1.k6
  have hg9 := hI.2.2.1.1.g9
  have hWe := hI.2.2.1.we
  have hF := hI.1
  have h5 := hB.count
  have hx := gooseB hB x
  cases hb : isY (I 124) x with
  | false =>
    rw [hb] at hx
    have bad := hQ (-nI 1) n sh I L P fun Q2 h2 => by
      refine ⟨(FMu hI.1).1, ?_⟩
      have h2 := h2 _ _ _ _ _ ⟨F, E, k, g, r, hI⟩
      apply e139
      (apply WP_runI (lv := lvM) LM_ok 999 40; simp (disch := first | decide | omega) only [t139_0, lift_c, o_aload0, o_iload1, o_virt2, rpush_n, rpush_s, o_ifeq, o_iload2, o_inl, o_stat3, o_ifne, o_ireturn, o_iload3, o_virt3, o_icne, o_iadd, o_virt4, o_goto, z0, z1, z2, z3, z5, z6, z9, z20, z31, runI_0, runI_c, runI_n, liftI_n, liftI_y, run_0, run_c, run_n, fxn, fxi, fxr, fxl, fxl0, ↓swi_n, ↓swi_c, nck0, nck1, nck2, nck3, List.length_cons, List.length_nil, Nat.reduceAdd, Nat.reduceSub, Nat.reduceLeDiff, Nat.reduceEqDiff, Nat.reduceLT, reduceIte, ite_true, ite_false, Nat.sub_zero, Nat.zero_le, true_and, and_true, and_self, true_or, or_true, if_true, if_false, true_implies, implies_true, not_true_eq_false, not_false_eq_true, false_implies, forall_const, ne_eq, or_self, and_false, false_and, Lt, Le, Eq', Cp, In, nI_add, nI_mul, nI_sub, nI_sub1, Neg0, bI_eq0, bI_eq1, bI_01, bft, up2_eq, up2_no, Bool.true_eq_false, Bool.false_eq_true, eq_self, m1_ne, m1_ne2, m1_lt, m1_le, lt_m1, m1_le2, bI_t, bI_f, LM_all hF, FMu hF, hWe, hb, hd0])
      exact h2
    (apply WP_runI (lv := lvK) (F := LK) LK_ok 999 40; simp (disch := first | decide | omega) only [t73_0, t73_1, lift_c, o_aload0, o_iload1, o_virt2, rpush_n, rpush_s, o_ifeq, o_iload2, o_iflt, o_inl, o_iclt, o_ireturn, o_iload3, o_icle, o_getref, o_aaload, o_astore, s1_0, s1_s, o_aload4, o_getfield, o_iceq, o_iaload, o_istore, o_iastore, o_iload5, z0, z1, z2, z3, z4, z6, z9, z20, z31, runI_0, runI_c, runI_n, liftI_n, liftI_y, run_0, run_c, run_n, fxn, fxi, fxr, fxl, fxl0, ↓swi_n, ↓swi_c, nck0, nck1, nck2, nck3, List.length_cons, List.length_nil, Nat.reduceAdd, Nat.reduceSub, Nat.reduceLeDiff, Nat.reduceEqDiff, Nat.reduceLT, reduceIte, ite_true, ite_false, Nat.sub_zero, Nat.zero_le, true_and, and_true, and_self, true_or, or_true, if_true, if_false, true_implies, implies_true, not_true_eq_false, not_false_eq_true, false_implies, forall_const, ne_eq, or_self, and_false, false_and, Lt, Le, Eq', Cp, In, nI_add, nI_mul, nI_sub, nI_sub1, Neg0, bI_eq0, bI_eq1, bI_01, bft, up2_eq, up2_no, Bool.true_eq_false, Bool.false_eq_true, eq_self, m1_ne, m1_ne2, m1_lt, m1_le, lt_m1, m1_le2, bI_t, bI_f, LK_st, FGu hG, LK_g hG h22 hs2, FY22u hY22, hx, hd0])
    exact bad
  | true =>
    obtain ⟨i, hi, ex⟩ := isY_of hB.2.2.1 hb
    subst ex
    rw [hb] at hx
    cases hy : inR y 0 3 with
    | false =>
      have hy2 : decide (nI 0 ≤ y ∧ y ≤ nI 3) = false := hy
      have bad := hQ (-nI 1) n sh I L P fun Q2 h2 => by
        refine ⟨(FMu hI.1).1, ?_⟩
        have h2 := h2 _ _ _ _ _ ⟨F, E, k, g, r, hI⟩
        apply e139
        (apply WP_runI (lv := lvM) LM_ok 999 40; simp (disch := first | decide | omega) only [t139_0, lift_c, o_aload0, o_iload1, o_virt2, rpush_n, rpush_s, o_ifeq, o_iload2, o_inl, o_stat3, o_ifne, o_ireturn, o_iload3, o_virt3, o_icne, o_iadd, o_virt4, o_goto, z0, z1, z2, z3, z5, z6, z9, z20, z31, runI_0, runI_c, runI_n, liftI_n, liftI_y, run_0, run_c, run_n, fxn, fxi, fxr, fxl, fxl0, ↓swi_n, ↓swi_c, nck0, nck1, nck2, nck3, List.length_cons, List.length_nil, Nat.reduceAdd, Nat.reduceSub, Nat.reduceLeDiff, Nat.reduceEqDiff, Nat.reduceLT, reduceIte, ite_true, ite_false, Nat.sub_zero, Nat.zero_le, true_and, and_true, and_self, true_or, or_true, if_true, if_false, true_implies, implies_true, not_true_eq_false, not_false_eq_true, false_implies, forall_const, ne_eq, or_self, and_false, false_and, Lt, Le, Eq', Cp, In, nI_add, nI_mul, nI_sub, nI_sub1, Neg0, bI_eq0, bI_eq1, bI_01, bft, up2_eq, up2_no, Bool.true_eq_false, Bool.false_eq_true, eq_self, m1_ne, m1_ne2, m1_lt, m1_le, lt_m1, m1_le2, bI_t, bI_f, LM_all hF, FMu hF, hWe, hb, hy2, hd0])
        exact h2
      rcases inR_no hy with h | ⟨h1, h2⟩
      · skip
        (apply WP_runI (lv := lvK) (F := LK) LK_ok 999 40; simp (disch := first | decide | omega) only [t73_0, t73_1, lift_c, o_aload0, o_iload1, o_virt2, rpush_n, rpush_s, o_ifeq, o_iload2, o_iflt, o_inl, o_iclt, o_ireturn, o_iload3, o_icle, o_getref, o_aaload, o_astore, s1_0, s1_s, o_aload4, o_getfield, o_iceq, o_iaload, o_istore, o_iastore, o_iload5, z0, z1, z2, z3, z4, z6, z9, z20, z31, runI_0, runI_c, runI_n, liftI_n, liftI_y, run_0, run_c, run_n, fxn, fxi, fxr, fxl, fxl0, ↓swi_n, ↓swi_c, nck0, nck1, nck2, nck3, List.length_cons, List.length_nil, Nat.reduceAdd, Nat.reduceSub, Nat.reduceLeDiff, Nat.reduceEqDiff, Nat.reduceLT, reduceIte, ite_true, ite_false, Nat.sub_zero, Nat.zero_le, true_and, and_true, and_self, true_or, or_true, if_true, if_false, true_implies, implies_true, not_true_eq_false, not_false_eq_true, false_implies, forall_const, ne_eq, or_self, and_false, false_and, Lt, Le, Eq', Cp, In, nI_add, nI_mul, nI_sub, nI_sub1, Neg0, bI_eq0, bI_eq1, bI_01, bft, up2_eq, up2_no, Bool.true_eq_false, Bool.false_eq_true, eq_self, m1_ne, m1_ne2, m1_lt, m1_le, lt_m1, m1_le2, bI_t, bI_f, LK_st, FGu hG, LK_g hG h22 hs2, FY22u hY22, h5, hi, decide_true, h, hd0])
        exact bad
      · have h3 : ¬ y < nI 4 := Int32.not_lt.mpr (by rw [i_lt, nIi _ (by omega)] at h2; rw [i_le, nIi _ (by omega)]; omega)
        (apply WP_runI (lv := lvK) (F := LK) LK_ok 999 40; simp (disch := first | decide | omega) only [t73_0, t73_1, lift_c, o_aload0, o_iload1, o_virt2, rpush_n, rpush_s, o_ifeq, o_iload2, o_iflt, o_inl, o_iclt, o_ireturn, o_iload3, o_icle, o_getref, o_aaload, o_astore, s1_0, s1_s, o_aload4, o_getfield, o_iceq, o_iaload, o_istore, o_iastore, o_iload5, z0, z1, z2, z3, z4, z6, z9, z20, z31, runI_0, runI_c, runI_n, liftI_n, liftI_y, run_0, run_c, run_n, fxn, fxi, fxr, fxl, fxl0, ↓swi_n, ↓swi_c, nck0, nck1, nck2, nck3, List.length_cons, List.length_nil, Nat.reduceAdd, Nat.reduceSub, Nat.reduceLeDiff, Nat.reduceEqDiff, Nat.reduceLT, reduceIte, ite_true, ite_false, Nat.sub_zero, Nat.zero_le, true_and, and_true, and_self, true_or, or_true, if_true, if_false, true_implies, implies_true, not_true_eq_false, not_false_eq_true, false_implies, forall_const, ne_eq, or_self, and_false, false_and, Lt, Le, Eq', Cp, In, nI_add, nI_mul, nI_sub, nI_sub1, Neg0, bI_eq0, bI_eq1, bI_01, bft, up2_eq, up2_no, Bool.true_eq_false, Bool.false_eq_true, eq_self, m1_ne, m1_ne2, m1_lt, m1_le, lt_m1, m1_le2, bI_t, bI_f, LK_st, FGu hG, LK_g hG h22 hs2, FY22u hY22, h5, hi, decide_true, h1, h3, hd0])
        exact bad
    | true =>
      have hy2 : decide (nI 0 ≤ y ∧ y ≤ nI 3) = true := hy
      obtain ⟨p, -, hp3, ey⟩ := inR_of (by omega) (by omega) hy
      have hp : p < 4 := by omega
      have y1 : ¬ y < nI 0 := (inR_yes hy).1
      have y2 : y < nI 4 := by rw [ey, Lt _ _ (by omega) (by omega)]; omega
      cases hz : inR z 0 9 with
      | false =>
        have hz2 : decide (nI 0 ≤ z ∧ z ≤ nI 9) = false := hz
        have bad := hQ (-nI 2) n sh I L P fun Q2 h2 => by
          refine ⟨(FMu hI.1).1, ?_⟩
          have h2 := h2 _ _ _ _ _ ⟨F, E, k, g, r, hI⟩
          apply e139
          (apply WP_runI (lv := lvM) LM_ok 999 40; simp (disch := first | decide | omega) only [t139_0, lift_c, o_aload0, o_iload1, o_virt2, rpush_n, rpush_s, o_ifeq, o_iload2, o_inl, o_stat3, o_ifne, o_ireturn, o_iload3, o_virt3, o_icne, o_iadd, o_virt4, o_goto, z0, z1, z2, z3, z5, z6, z9, z20, z31, runI_0, runI_c, runI_n, liftI_n, liftI_y, run_0, run_c, run_n, fxn, fxi, fxr, fxl, fxl0, ↓swi_n, ↓swi_c, nck0, nck1, nck2, nck3, List.length_cons, List.length_nil, Nat.reduceAdd, Nat.reduceSub, Nat.reduceLeDiff, Nat.reduceEqDiff, Nat.reduceLT, reduceIte, ite_true, ite_false, Nat.sub_zero, Nat.zero_le, true_and, and_true, and_self, true_or, or_true, if_true, if_false, true_implies, implies_true, not_true_eq_false, not_false_eq_true, false_implies, forall_const, ne_eq, or_self, and_false, false_and, Lt, Le, Eq', Cp, In, nI_add, nI_mul, nI_sub, nI_sub1, Neg0, bI_eq0, bI_eq1, bI_01, bft, up2_eq, up2_no, Bool.true_eq_false, Bool.false_eq_true, eq_self, m1_ne, m1_ne2, m1_lt, m1_le, lt_m1, m1_le2, bI_t, bI_f, LM_all hF, FMu hF, hWe, hb, hy2, hz2, hd0])
          exact h2
        rcases inR_no hz with h | ⟨h1, h2⟩
        · skip
          (apply WP_runI (lv := lvK) (F := LK) LK_ok 999 40; simp (disch := first | decide | omega) only [t73_0, t73_1, lift_c, o_aload0, o_iload1, o_virt2, rpush_n, rpush_s, o_ifeq, o_iload2, o_iflt, o_inl, o_iclt, o_ireturn, o_iload3, o_icle, o_getref, o_aaload, o_astore, s1_0, s1_s, o_aload4, o_getfield, o_iceq, o_iaload, o_istore, o_iastore, o_iload5, z0, z1, z2, z3, z4, z6, z9, z20, z31, runI_0, runI_c, runI_n, liftI_n, liftI_y, run_0, run_c, run_n, fxn, fxi, fxr, fxl, fxl0, ↓swi_n, ↓swi_c, nck0, nck1, nck2, nck3, List.length_cons, List.length_nil, Nat.reduceAdd, Nat.reduceSub, Nat.reduceLeDiff, Nat.reduceEqDiff, Nat.reduceLT, reduceIte, ite_true, ite_false, Nat.sub_zero, Nat.zero_le, true_and, and_true, and_self, true_or, or_true, if_true, if_false, true_implies, implies_true, not_true_eq_false, not_false_eq_true, false_implies, forall_const, ne_eq, or_self, and_false, false_and, Lt, Le, Eq', Cp, In, nI_add, nI_mul, nI_sub, nI_sub1, Neg0, bI_eq0, bI_eq1, bI_01, bft, up2_eq, up2_no, Bool.true_eq_false, Bool.false_eq_true, eq_self, m1_ne, m1_ne2, m1_lt, m1_le, lt_m1, m1_le2, bI_t, bI_f, LK_st, FGu hG, LK_g hG h22 hs2, FY22u hY22, h5, hi, decide_true, y1, y2, h, hd0])
          exact bad
        · have h3 : ¬ z ≤ nI 9 := Int32.not_le.mpr h2
          (apply WP_runI (lv := lvK) (F := LK) LK_ok 999 40; simp (disch := first | decide | omega) only [t73_0, t73_1, lift_c, o_aload0, o_iload1, o_virt2, rpush_n, rpush_s, o_ifeq, o_iload2, o_iflt, o_inl, o_iclt, o_ireturn, o_iload3, o_icle, o_getref, o_aaload, o_astore, s1_0, s1_s, o_aload4, o_getfield, o_iceq, o_iaload, o_istore, o_iastore, o_iload5, z0, z1, z2, z3, z4, z6, z9, z20, z31, runI_0, runI_c, runI_n, liftI_n, liftI_y, run_0, run_c, run_n, fxn, fxi, fxr, fxl, fxl0, ↓swi_n, ↓swi_c, nck0, nck1, nck2, nck3, List.length_cons, List.length_nil, Nat.reduceAdd, Nat.reduceSub, Nat.reduceLeDiff, Nat.reduceEqDiff, Nat.reduceLT, reduceIte, ite_true, ite_false, Nat.sub_zero, Nat.zero_le, true_and, and_true, and_self, true_or, or_true, if_true, if_false, true_implies, implies_true, not_true_eq_false, not_false_eq_true, false_implies, forall_const, ne_eq, or_self, and_false, false_and, Lt, Le, Eq', Cp, In, nI_add, nI_mul, nI_sub, nI_sub1, Neg0, bI_eq0, bI_eq1, bI_01, bft, up2_eq, up2_no, Bool.true_eq_false, Bool.false_eq_true, eq_self, m1_ne, m1_ne2, m1_lt, m1_le, lt_m1, m1_le2, bI_t, bI_f, LK_st, FGu hG, LK_g hG h22 hs2, FY22u hY22, h5, hi, decide_true, y1, y2, h1, h3, hd0])
          exact bad
      | true =>
        have hz2 : decide (nI 0 ≤ z ∧ z ≤ nI 9) = true := hz
        have zz1 : ¬ z < nI 0 := (inR_yes hz).1
        have zz2 : z ≤ nI 9 := Int32.not_lt.mp (inR_yes hz).2
        obtain ⟨u, hu, eu⟩ := hB.2.2.1.kind hi
        have hg0 : I (28 + 2 * i) 0 = gs (I 124) i 0 := hB.2.1.geese i 0 hi (by omega)
        rw [eu] at hg0
        by_cases h6 : u = 6
        · have hD := hI.rowu (v := z) hi hp
          have hg2 : I (29 + 2 * i) p = gs (I 124) i (5 + p) := hB.2.1.rows i p hi hp
          have good := hQ (gs (I 124) i (5 + p)) n sh (up2 I (29 + 2 * i) p z) L P fun Q2 h2 => by
            refine ⟨(FMu hI.1).1, ?_⟩
            have h2 := h2 _ _ _ _ _ ⟨F, E, k, g, r, hD⟩
            have h124 : (up2 I (29 + 2 * i) p z) 124 = I 124 := up2_row _ _ _ _ _ (by omega)
            apply e139
            (apply WP_runI (lv := lvM) LM_ok 43 80; simp (disch := first | decide | omega) only [t139_0, lift_c, o_aload0, o_iload1, o_virt2, rpush_n, rpush_s, o_ifeq, o_iload2, o_inl, o_stat3, o_ifne, o_ireturn, o_iload3, o_virt3, o_icne, o_iadd, o_virt4, o_goto, z0, z1, z2, z3, z5, z6, z9, z20, z31, runI_0, runI_c, runI_n, liftI_n, liftI_y, run_0, run_c, run_n, fxn, fxi, fxr, fxl, fxl0, ↓swi_n, ↓swi_c, nck0, nck1, nck2, nck3, List.length_cons, List.length_nil, Nat.reduceAdd, Nat.reduceSub, Nat.reduceLeDiff, Nat.reduceEqDiff, Nat.reduceLT, reduceIte, ite_true, ite_false, Nat.sub_zero, Nat.zero_le, true_and, and_true, and_self, true_or, or_true, if_true, if_false, true_implies, implies_true, not_true_eq_false, not_false_eq_true, false_implies, forall_const, ne_eq, or_self, and_false, false_and, Lt, Le, Eq', Cp, In, nI_add, nI_mul, nI_sub, nI_sub1, Neg0, bI_eq0, bI_eq1, bI_01, bft, up2_eq, up2_no, Bool.true_eq_false, Bool.false_eq_true, eq_self, m1_ne, m1_ne2, m1_lt, m1_le, lt_m1, m1_le2, bI_t, bI_f, LM_all hF, FMu hF, hWe, hb, hy2, hz2, hd0, h124, eu, h6])
            rw [ey]
            (apply WP_runI (lv := lvM) LM_ok 999 40; simp (disch := first | decide | omega) only [t139_0, lift_c, o_aload0, o_iload1, o_virt2, rpush_n, rpush_s, o_ifeq, o_iload2, o_inl, o_stat3, o_ifne, o_ireturn, o_iload3, o_virt3, o_icne, o_iadd, o_virt4, o_goto, z0, z1, z2, z3, z5, z6, z9, z20, z31, runI_0, runI_c, runI_n, liftI_n, liftI_y, run_0, run_c, run_n, fxn, fxi, fxr, fxl, fxl0, ↓swi_n, ↓swi_c, nck0, nck1, nck2, nck3, List.length_cons, List.length_nil, Nat.reduceAdd, Nat.reduceSub, Nat.reduceLeDiff, Nat.reduceEqDiff, Nat.reduceLT, reduceIte, ite_true, ite_false, Nat.sub_zero, Nat.zero_le, true_and, and_true, and_self, true_or, or_true, if_true, if_false, true_implies, implies_true, not_true_eq_false, not_false_eq_true, false_implies, forall_const, ne_eq, or_self, and_false, false_and, Lt, Le, Eq', Cp, In, nI_add, nI_mul, nI_sub, nI_sub1, Neg0, bI_eq0, bI_eq1, bI_01, bft, up2_eq, up2_no, Bool.true_eq_false, Bool.false_eq_true, eq_self, m1_ne, m1_ne2, m1_lt, m1_le, lt_m1, m1_le2, bI_t, bI_f, LM_all hF, FMu hF, hWe, hd0, h124, eu, h6])
            exact h2
          clear hD
          have n29 : nle 20 (29 + 2 * i) := by show 20 ≤ 29 + 2 * i; omega
          generalize gs (I 124) i (5 + p) = w at good hg2
          (apply WP_runI (lv := lvK) (F := LK) LK_ok 46 40; simp (disch := first | decide | omega) only [t73_0, t73_1, lift_c, o_aload0, o_iload1, o_virt2, rpush_n, rpush_s, o_ifeq, o_iload2, o_iflt, o_inl, o_iclt, o_ireturn, o_iload3, o_icle, o_getref, o_aaload, o_astore, s1_0, s1_s, o_aload4, o_getfield, o_iceq, o_iaload, o_istore, o_iastore, o_iload5, z0, z1, z2, z3, z4, z6, z9, z20, z31, runI_0, runI_c, runI_n, liftI_n, liftI_y, run_0, run_c, run_n, fxn, fxi, fxr, fxl, fxl0, ↓swi_n, ↓swi_c, nck0, nck1, nck2, nck3, List.length_cons, List.length_nil, Nat.reduceAdd, Nat.reduceSub, Nat.reduceLeDiff, Nat.reduceEqDiff, Nat.reduceLT, reduceIte, ite_true, ite_false, Nat.sub_zero, Nat.zero_le, true_and, and_true, and_self, true_or, or_true, if_true, if_false, true_implies, implies_true, not_true_eq_false, not_false_eq_true, false_implies, forall_const, ne_eq, or_self, and_false, false_and, Lt, Le, Eq', Cp, In, nI_add, nI_mul, nI_sub, nI_sub1, Neg0, bI_eq0, bI_eq1, bI_01, bft, up2_eq, up2_no, Bool.true_eq_false, Bool.false_eq_true, eq_self, m1_ne, m1_ne2, m1_lt, m1_le, lt_m1, m1_le2, bI_t, bI_f, LK_st, FGu hG, LK_g hG h22 hs2, FY22u hY22, h5, hi, decide_true, y1, y2, zz1, zz2, hd0])
          rw [ey]
          (apply WP_runI (lv := lvK) (F := LK) LK_ok 999 40; simp (disch := first | decide | omega) only [t73_0, t73_1, lift_c, o_aload0, o_iload1, o_virt2, rpush_n, rpush_s, o_ifeq, o_iload2, o_iflt, o_inl, o_iclt, o_ireturn, o_iload3, o_icle, o_getref, o_aaload, o_astore, s1_0, s1_s, o_aload4, o_getfield, o_iceq, o_iaload, o_istore, o_iastore, o_iload5, z0, z1, z2, z3, z4, z6, z9, z20, z31, runI_0, runI_c, runI_n, liftI_n, liftI_y, run_0, run_c, run_n, fxn, fxi, fxr, fxl, fxl0, ↓swi_n, ↓swi_c, nck0, nck1, nck2, nck3, List.length_cons, List.length_nil, Nat.reduceAdd, Nat.reduceSub, Nat.reduceLeDiff, Nat.reduceEqDiff, Nat.reduceLT, reduceIte, ite_true, ite_false, Nat.sub_zero, Nat.zero_le, true_and, and_true, and_self, true_or, or_true, if_true, if_false, true_implies, implies_true, not_true_eq_false, not_false_eq_true, false_implies, forall_const, ne_eq, or_self, and_false, false_and, Lt, Le, Eq', Cp, In, nI_add, nI_mul, nI_sub, nI_sub1, Neg0, bI_eq0, bI_eq1, bI_01, bft, up2_eq, up2_no, Bool.true_eq_false, Bool.false_eq_true, eq_self, m1_ne, m1_ne2, m1_lt, m1_le, lt_m1, m1_le2, bI_t, bI_f, LK_st, FGu hG, LK_g hG h22 hs2, FY22u hY22, hg0, h6, hg2, n29, hd0])
          exact good
        · have bad := hQ (-nI 3) n sh I L P fun Q2 h2 => by
            refine ⟨(FMu hI.1).1, ?_⟩
            have h2 := h2 _ _ _ _ _ ⟨F, E, k, g, r, hI⟩
            apply e139
            (apply WP_runI (lv := lvM) LM_ok 999 40; simp (disch := first | decide | omega) only [t139_0, lift_c, o_aload0, o_iload1, o_virt2, rpush_n, rpush_s, o_ifeq, o_iload2, o_inl, o_stat3, o_ifne, o_ireturn, o_iload3, o_virt3, o_icne, o_iadd, o_virt4, o_goto, z0, z1, z2, z3, z5, z6, z9, z20, z31, runI_0, runI_c, runI_n, liftI_n, liftI_y, run_0, run_c, run_n, fxn, fxi, fxr, fxl, fxl0, ↓swi_n, ↓swi_c, nck0, nck1, nck2, nck3, List.length_cons, List.length_nil, Nat.reduceAdd, Nat.reduceSub, Nat.reduceLeDiff, Nat.reduceEqDiff, Nat.reduceLT, reduceIte, ite_true, ite_false, Nat.sub_zero, Nat.zero_le, true_and, and_true, and_self, true_or, or_true, if_true, if_false, true_implies, implies_true, not_true_eq_false, not_false_eq_true, false_implies, forall_const, ne_eq, or_self, and_false, false_and, Lt, Le, Eq', Cp, In, nI_add, nI_mul, nI_sub, nI_sub1, Neg0, bI_eq0, bI_eq1, bI_01, bft, up2_eq, up2_no, Bool.true_eq_false, Bool.false_eq_true, eq_self, m1_ne, m1_ne2, m1_lt, m1_le, lt_m1, m1_le2, bI_t, bI_f, LM_all hF, FMu hF, hWe, hb, hy2, hz2, eu, h6, hd0])
            exact h2
          (apply WP_runI (lv := lvK) (F := LK) LK_ok 999 40; simp (disch := first | decide | omega) only [t73_0, t73_1, lift_c, o_aload0, o_iload1, o_virt2, rpush_n, rpush_s, o_ifeq, o_iload2, o_iflt, o_inl, o_iclt, o_ireturn, o_iload3, o_icle, o_getref, o_aaload, o_astore, s1_0, s1_s, o_aload4, o_getfield, o_iceq, o_iaload, o_istore, o_iastore, o_iload5, z0, z1, z2, z3, z4, z6, z9, z20, z31, runI_0, runI_c, runI_n, liftI_n, liftI_y, run_0, run_c, run_n, fxn, fxi, fxr, fxl, fxl0, ↓swi_n, ↓swi_c, nck0, nck1, nck2, nck3, List.length_cons, List.length_nil, Nat.reduceAdd, Nat.reduceSub, Nat.reduceLeDiff, Nat.reduceEqDiff, Nat.reduceLT, reduceIte, ite_true, ite_false, Nat.sub_zero, Nat.zero_le, true_and, and_true, and_self, true_or, or_true, if_true, if_false, true_implies, implies_true, not_true_eq_false, not_false_eq_true, false_implies, forall_const, ne_eq, or_self, and_false, false_and, Lt, Le, Eq', Cp, In, nI_add, nI_mul, nI_sub, nI_sub1, Neg0, bI_eq0, bI_eq1, bI_01, bft, up2_eq, up2_no, Bool.true_eq_false, Bool.false_eq_true, eq_self, m1_ne, m1_ne2, m1_lt, m1_le, lt_m1, m1_le2, bI_t, bI_f, LK_st, FGu hG, LK_g hG h22 hs2, FY22u hY22, h5, hi, decide_true, y1, y2, zz1, zz2, hg0, h6, hd0])
          exact bad
end
