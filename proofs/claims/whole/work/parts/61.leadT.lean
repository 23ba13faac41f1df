/-! ### the class: ways, keys, leading, odds -/
theorem FY84u {sh : TS} {P : TP} (h : FY sh P 84) : sh 84 = (8, 9) ∧ sh 85 = (100, 8) ∧ sh 86 = (100, 9) ∧ sh 87 = (100, 9) ∧ sh 88 = (104, 6) ∧ sh 89 = (100, 6) ∧
  P 84 0 = 85 ∧ P 84 1 = 86 ∧ P 84 2 = 87 ∧ P 84 4 = 88 ∧ P 84 8 = 89 ∧
  (∀ i, i < 6 → P 88 i = 90 + 2 * i) ∧ (∀ i, i < 6 → sh (90 + 2 * i) = (3, 6)) ∧ (∀ i, i < 6 → sh (91 + 2 * i) = (100, 4)) ∧ (∀ i, i < 6 → P (90 + 2 * i) 5 = 91 + 2 * i) := h
theorem FY22u {sh : TS} {P : TP} (h : FY sh P 22) : sh 22 = (8, 9) ∧ sh 23 = (100, 8) ∧ sh 24 = (100, 9) ∧ sh 25 = (100, 9) ∧ sh 26 = (104, 6) ∧ sh 27 = (100, 6) ∧
  P 22 0 = 23 ∧ P 22 1 = 24 ∧ P 22 2 = 25 ∧ P 22 4 = 26 ∧ P 22 8 = 27 ∧
  (∀ i, i < 6 → P 26 i = 28 + 2 * i) ∧ (∀ i, i < 6 → sh (28 + 2 * i) = (3, 6)) ∧ (∀ i, i < 6 → sh (29 + 2 * i) = (100, 4)) ∧ (∀ i, i < 6 → P (28 + 2 * i) 5 = 29 + 2 * i) := h
section
variable {G : GE} {d n : Nat} {sh : TS} {I0 I : TI} {L0 L : TL} {P0 P : TP} {Q : TQ} {N M : TN} {F : TF} {E : Nat → Int32} {k g r : Nat}
theorem CB.fg (h : CB sh I P N F E k g r) : FG sh P := h.1.1
theorem CB.y84 (h : CB sh I P N F E k g r) : FY sh P 84 := h.1.2.2.2.1
theorem CB.y22 (h : CB sh I P N F E k g r) : FY sh P 22 := h.1.2.1
theorem CB.count (h : CB sh I P N F E k g r) : I 22 5 = nI k := h.2.1.count
theorem wayT_T (hB : CB sh I P N F E k g r) {x y : Int32} (hd : 8 ≤ d) (hQ : ∀ I' L' P', CF I L P I' L' P' → Q (some (.int (lateS (wayL F E N x y 16 0)))) n sh I' L' P') : Cl G d 12 [.ref 83, .ref 22, .int x, .int y] n sh I L P Q := by
  apply e12
  have hd0 : 0 < d := by omega
  have hG := hB.fg
  have hY84 := hB.y84
  (apply WP_runI (lv := lvK) (F := LK) LK_ok 999 80; simp (disch := first | decide | omega) only [t12_0, lift_c, o_aload0, o_getref, o_aload1, o_virt2, rpush_n, rpush_s, o_iload2, o_iload3, o_virt3, o_ireturn, z0, z1, z2, z20, z31, runI_0, runI_c, runI_n, liftI_n, liftI_y, run_0, run_c, run_n, fxn, fxi, fxr, fxl, fxl0, ↓swi_n, ↓swi_c, nck0, nck1, nck2, nck3, List.length_cons, List.length_nil, Nat.reduceAdd, Nat.reduceSub, Nat.reduceLeDiff, Nat.reduceEqDiff, Nat.reduceLT, reduceIte, ite_true, ite_false, Nat.sub_zero, Nat.zero_le, true_and, and_true, and_self, true_or, or_true, if_true, if_false, true_implies, implies_true, not_true_eq_false, not_false_eq_true, false_implies, forall_const, ne_eq, or_self, and_false, false_and, Lt, Le, Eq', Cp, In, nI_add, nI_mul, nI_sub, nI_sub1, Neg0, bI_eq0, bI_eq1, bI_01, bft, up2_eq, up2_no, Bool.true_eq_false, Bool.false_eq_true, eq_self, m1_ne, m1_ne2, m1_lt, m1_le, lt_m1, m1_le2, bI_t, bI_f, LK_st, FGu hG, FY84u hY84, hd0])
  refine copy_T hB CF.rf (by omega) fun I1 L1 P1 hT => ?_
  have hG := hT.fg
  have hY84 := hT.y
  (apply WP_runI (lv := lvK) (F := LK) LK_ok 999 80; simp (disch := first | decide | omega) only [t12_0, lift_c, o_aload0, o_getref, o_aload1, o_virt2, rpush_n, rpush_s, o_iload2, o_iload3, o_virt3, o_ireturn, z0, z1, z2, z20, z31, runI_0, runI_c, runI_n, liftI_n, liftI_y, run_0, run_c, run_n, fxn, fxi, fxr, fxl, fxl0, ↓swi_n, ↓swi_c, nck0, nck1, nck2, nck3, List.length_cons, List.length_nil, Nat.reduceAdd, Nat.reduceSub, Nat.reduceLeDiff, Nat.reduceEqDiff, Nat.reduceLT, reduceIte, ite_true, ite_false, Nat.sub_zero, Nat.zero_le, true_and, and_true, and_self, true_or, or_true, if_true, if_false, true_implies, implies_true, not_true_eq_false, not_false_eq_true, false_implies, forall_const, ne_eq, or_self, and_false, false_and, Lt, Le, Eq', Cp, In, nI_add, nI_mul, nI_sub, nI_sub1, Neg0, bI_eq0, bI_eq1, bI_01, bft, up2_eq, up2_no, Bool.true_eq_false, Bool.false_eq_true, eq_self, m1_ne, m1_ne2, m1_lt, m1_le, lt_m1, m1_le2, bI_t, bI_f, LK_st, FGu hG, FY84u hY84, hd0])
  refine there_T hT (by omega) fun I2 L2 P2 hc _ => ?_
  have hQ := hQ I2 L2 P2 hc
  generalize lateS (wayL F E N x y 16 0) = v at hQ ⊢
  (apply WP_runI (lv := lvK) (F := LK) LK_ok 999 80; simp (disch := first | decide | omega) only [t12_0, lift_c, o_aload0, o_getref, o_aload1, o_virt2, rpush_n, rpush_s, o_iload2, o_iload3, o_virt3, o_ireturn, z0, z1, z2, z20, z31, runI_0, runI_c, runI_n, liftI_n, liftI_y, run_0, run_c, run_n, fxn, fxi, fxr, fxl, fxl0, ↓swi_n, ↓swi_c, nck0, nck1, nck2, nck3, List.length_cons, List.length_nil, Nat.reduceAdd, Nat.reduceSub, Nat.reduceLeDiff, Nat.reduceEqDiff, Nat.reduceLT, reduceIte, ite_true, ite_false, Nat.sub_zero, Nat.zero_le, true_and, and_true, and_self, true_or, or_true, if_true, if_false, true_implies, implies_true, not_true_eq_false, not_false_eq_true, false_implies, forall_const, ne_eq, or_self, and_false, false_and, Lt, Le, Eq', Cp, In, nI_add, nI_mul, nI_sub, nI_sub1, Neg0, bI_eq0, bI_eq1, bI_01, bft, up2_eq, up2_no, Bool.true_eq_false, Bool.false_eq_true, eq_self, m1_ne, m1_ne2, m1_lt, m1_le, lt_m1, m1_le2, bI_t, bI_f, LK_st, FGu hG, hd0])
  exact hQ
theorem reached_T (hB : CB sh I P N F E k g r) {x : Int32} (hd : 8 ≤ d) (hQ : ∀ I' L' P', CF I L P I' L' P' → Q (some (.int (wkS F E N x 15))) n sh I' L' P') : Cl G d 14 [.ref 83, .ref 22, .int x] n sh I L P Q := by
  apply e14
  have hd0 : 0 < d := by omega
  have hG := hB.fg
  have hY84 := hB.y84
  (apply WP_runI (lv := lvK) (F := LK) LK_ok 15 20; simp (disch := first | decide | omega) only [t14_0, lift_c, o_aload0, o_getref, o_aload1, o_virt2, rpush_n, rpush_s, o_inl, o_iload2, o_ishl, o_istore, s1_0, s1_s, o_iload4, o_icge, o_iload3, o_virt1, o_virt3, o_ior, o_iinc4, o_goto, o_ireturn, z0, z1, z2, z15, z20, z31, runI_0, runI_c, runI_n, liftI_n, liftI_y, run_0, run_c, run_n, fxn, fxi, fxr, fxl, fxl0, ↓swi_n, ↓swi_c, nck0, nck1, nck2, nck3, List.length_cons, List.length_nil, Nat.reduceAdd, Nat.reduceSub, Nat.reduceLeDiff, Nat.reduceEqDiff, Nat.reduceLT, reduceIte, ite_true, ite_false, Nat.sub_zero, Nat.zero_le, true_and, and_true, and_self, true_or, or_true, if_true, if_false, true_implies, implies_true, not_true_eq_false, not_false_eq_true, false_implies, forall_const, ne_eq, or_self, and_false, false_and, Lt, Le, Eq', Cp, In, nI_add, nI_mul, nI_sub, nI_sub1, Neg0, bI_eq0, bI_eq1, bI_01, bft, up2_eq, up2_no, Bool.true_eq_false, Bool.false_eq_true, eq_self, m1_ne, m1_ne2, m1_lt, m1_le, lt_m1, m1_le2, bI_t, bI_f, LK_st, FGu hG, FY84u hY84, hd0])
  refine copy_T hB CF.rf (by omega) fun I1 L1 P1 hT => ?_
  have hG := hT.fg
  have hY84 := hT.y
  have loop : ∀ m j I2 cc ss, j + m = 15 → TT sh I L P I2 L1 P1 N (hoursS F E N j) F E k g r → WP G 14 d Q 15 [some (.ref 83), some (.ref 22), some (.int x), some (.int (wkS F E N x j)), some (.int (nI j))] [] cc ss n sh I2 L1 P1 := by
    intro m
    induction m with
    | zero =>
      intro j I2 cc ss h hT2
      have hj : 15 ≤ j := by omega
      have hQ := hQ I2 L1 P1 hT2.1
      rw [show wkS F E N x j = wkS F E N x 15 by rw [show j = 15 by omega]]
      generalize wkS F E N x 15 = o at hQ ⊢
      (apply WP_runI (lv := lvK) (F := LK) LK_ok 15 20; simp (disch := first | decide | omega) only [t14_0, lift_c, o_aload0, o_getref, o_aload1, o_virt2, rpush_n, rpush_s, o_inl, o_iload2, o_ishl, o_istore, s1_0, s1_s, o_iload4, o_icge, o_iload3, o_virt1, o_virt3, o_ior, o_iinc4, o_goto, o_ireturn, z0, z1, z2, z15, z20, z31, runI_0, runI_c, runI_n, liftI_n, liftI_y, run_0, run_c, run_n, fxn, fxi, fxr, fxl, fxl0, ↓swi_n, ↓swi_c, nck0, nck1, nck2, nck3, List.length_cons, List.length_nil, Nat.reduceAdd, Nat.reduceSub, Nat.reduceLeDiff, Nat.reduceEqDiff, Nat.reduceLT, reduceIte, ite_true, ite_false, Nat.sub_zero, Nat.zero_le, true_and, and_true, and_self, true_or, or_true, if_true, if_false, true_implies, implies_true, not_true_eq_false, not_false_eq_true, false_implies, forall_const, ne_eq, or_self, and_false, false_and, Lt, Le, Eq', Cp, In, nI_add, nI_mul, nI_sub, nI_sub1, Neg0, bI_eq0, bI_eq1, bI_01, bft, up2_eq, up2_no, Bool.true_eq_false, Bool.false_eq_true, eq_self, m1_ne, m1_ne2, m1_lt, m1_le, lt_m1, m1_le2, bI_t, bI_f, LK_st, FGu hG, FY84u hY84, hj, hd0])
      exact hQ
    | succ m ih =>
      intro j I2 cc ss h hT2
      have hj : ¬ 15 ≤ j := by omega
      have hwk := wkS_b F E N x j hT2.2.2.2
      generalize wkS F E N x j = o at hwk ⊢
      (apply WP_runI (lv := lvK) (F := LK) LK_ok 15 30; simp (disch := first | decide | omega) only [t14_0, lift_c, o_aload0, o_getref, o_aload1, o_virt2, rpush_n, rpush_s, o_inl, o_iload2, o_ishl, o_istore, s1_0, s1_s, o_iload4, o_icge, o_iload3, o_virt1, o_virt3, o_ior, o_iinc4, o_goto, o_ireturn, z0, z1, z2, z15, z20, z31, runI_0, runI_c, runI_n, liftI_n, liftI_y, run_0, run_c, run_n, fxn, fxi, fxr, fxl, fxl0, ↓swi_n, ↓swi_c, nck0, nck1, nck2, nck3, List.length_cons, List.length_nil, Nat.reduceAdd, Nat.reduceSub, Nat.reduceLeDiff, Nat.reduceEqDiff, Nat.reduceLT, reduceIte, ite_true, ite_false, Nat.sub_zero, Nat.zero_le, true_and, and_true, and_self, true_or, or_true, if_true, if_false, true_implies, implies_true, not_true_eq_false, not_false_eq_true, false_implies, forall_const, ne_eq, or_self, and_false, false_and, Lt, Le, Eq', Cp, In, nI_add, nI_mul, nI_sub, nI_sub1, Neg0, bI_eq0, bI_eq1, bI_01, bft, up2_eq, up2_no, Bool.true_eq_false, Bool.false_eq_true, eq_self, m1_ne, m1_ne2, m1_lt, m1_le, lt_m1, m1_le2, bI_t, bI_f, LK_st, FGu hG, FY84u hY84, hj, hd0])
      refine open_T hT2 (by omega) ?_
      (apply WP_runI (lv := lvK) (F := LK) LK_ok 15 30; simp (disch := first | decide | omega) only [t14_0, lift_c, o_aload0, o_getref, o_aload1, o_virt2, rpush_n, rpush_s, o_inl, o_iload2, o_ishl, o_istore, s1_0, s1_s, o_iload4, o_icge, o_iload3, o_virt1, o_virt3, o_ior, o_iinc4, o_goto, o_ireturn, z0, z1, z2, z15, z20, z31, runI_0, runI_c, runI_n, liftI_n, liftI_y, run_0, run_c, run_n, fxn, fxi, fxr, fxl, fxl0, ↓swi_n, ↓swi_c, nck0, nck1, nck2, nck3, List.length_cons, List.length_nil, Nat.reduceAdd, Nat.reduceSub, Nat.reduceLeDiff, Nat.reduceEqDiff, Nat.reduceLT, reduceIte, ite_true, ite_false, Nat.sub_zero, Nat.zero_le, true_and, and_true, and_self, true_or, or_true, if_true, if_false, true_implies, implies_true, not_true_eq_false, not_false_eq_true, false_implies, forall_const, ne_eq, or_self, and_false, false_and, Lt, Le, Eq', Cp, In, nI_add, nI_mul, nI_sub, nI_sub1, Neg0, bI_eq0, bI_eq1, bI_01, bft, up2_eq, up2_no, Bool.true_eq_false, Bool.false_eq_true, eq_self, m1_ne, m1_ne2, m1_lt, m1_le, lt_m1, m1_le2, bI_t, bI_f, LK_st, FGu hG, FY84u hY84, hd0])
      refine beyond_Y hT2.2.2.1 hT2.2.2.2 (by omega) ?_
      generalize bydL (hoursS F E N j) (openS (hoursS F E N j)) o g = w at hwk ⊢
      (apply WP_runI (lv := lvK) (F := LK) LK_ok 15 30; simp (disch := first | decide | omega) only [t14_0, lift_c, o_aload0, o_getref, o_aload1, o_virt2, rpush_n, rpush_s, o_inl, o_iload2, o_ishl, o_istore, s1_0, s1_s, o_iload4, o_icge, o_iload3, o_virt1, o_virt3, o_ior, o_iinc4, o_goto, o_ireturn, z0, z1, z2, z15, z20, z31, runI_0, runI_c, runI_n, liftI_n, liftI_y, run_0, run_c, run_n, fxn, fxi, fxr, fxl, fxl0, ↓swi_n, ↓swi_c, nck0, nck1, nck2, nck3, List.length_cons, List.length_nil, Nat.reduceAdd, Nat.reduceSub, Nat.reduceLeDiff, Nat.reduceEqDiff, Nat.reduceLT, reduceIte, ite_true, ite_false, Nat.sub_zero, Nat.zero_le, true_and, and_true, and_self, true_or, or_true, if_true, if_false, true_implies, implies_true, not_true_eq_false, not_false_eq_true, false_implies, forall_const, ne_eq, or_self, and_false, false_and, Lt, Le, Eq', Cp, In, nI_add, nI_mul, nI_sub, nI_sub1, Neg0, bI_eq0, bI_eq1, bI_01, bft, up2_eq, up2_no, Bool.true_eq_false, Bool.false_eq_true, eq_self, m1_ne, m1_ne2, m1_lt, m1_le, lt_m1, m1_le2, bI_t, bI_f, LK_st, FGu hG, FY84u hY84, hd0])
      refine hour_T hT2 (by omega) fun I3 hT3 => ?_
      have ih := fun cc ss => ih (j + 1) I3 cc ss (by omega) hT3
      rw [hwk] at ih
      (apply WP_runI (lv := lvK) (F := LK) LK_ok 15 30; simp (disch := first | decide | omega) only [t14_0, lift_c, o_aload0, o_getref, o_aload1, o_virt2, rpush_n, rpush_s, o_inl, o_iload2, o_ishl, o_istore, s1_0, s1_s, o_iload4, o_icge, o_iload3, o_virt1, o_virt3, o_ior, o_iinc4, o_goto, o_ireturn, z0, z1, z2, z15, z20, z31, runI_0, runI_c, runI_n, liftI_n, liftI_y, run_0, run_c, run_n, fxn, fxi, fxr, fxl, fxl0, ↓swi_n, ↓swi_c, nck0, nck1, nck2, nck3, List.length_cons, List.length_nil, Nat.reduceAdd, Nat.reduceSub, Nat.reduceLeDiff, Nat.reduceEqDiff, Nat.reduceLT, reduceIte, ite_true, ite_false, Nat.sub_zero, Nat.zero_le, true_and, and_true, and_self, true_or, or_true, if_true, if_false, true_implies, implies_true, not_true_eq_false, not_false_eq_true, false_implies, forall_const, ne_eq, or_self, and_false, false_and, Lt, Le, Eq', Cp, In, nI_add, nI_mul, nI_sub, nI_sub1, Neg0, bI_eq0, bI_eq1, bI_01, bft, up2_eq, up2_no, Bool.true_eq_false, Bool.false_eq_true, eq_self, m1_ne, m1_ne2, m1_lt, m1_le, lt_m1, m1_le2, bI_t, bI_f, LK_st, FGu hG])
      exact ih _ _
  have loop := fun cc ss => loop 15 0 I1 cc ss (by omega) hT
  rw [wkS] at loop
  unfold p2 at loop
  (apply WP_runI (lv := lvK) (F := LK) LK_ok 15 20; simp (disch := first | decide | omega) only [t14_0, lift_c, o_aload0, o_getref, o_aload1, o_virt2, rpush_n, rpush_s, o_inl, o_iload2, o_ishl, o_istore, s1_0, s1_s, o_iload4, o_icge, o_iload3, o_virt1, o_virt3, o_ior, o_iinc4, o_goto, o_ireturn, z0, z1, z2, z15, z20, z31, runI_0, runI_c, runI_n, liftI_n, liftI_y, run_0, run_c, run_n, fxn, fxi, fxr, fxl, fxl0, ↓swi_n, ↓swi_c, nck0, nck1, nck2, nck3, List.length_cons, List.length_nil, Nat.reduceAdd, Nat.reduceSub, Nat.reduceLeDiff, Nat.reduceEqDiff, Nat.reduceLT, reduceIte, ite_true, ite_false, Nat.sub_zero, Nat.zero_le, true_and, and_true, and_self, true_or, or_true, if_true, if_false, true_implies, implies_true, not_true_eq_false, not_false_eq_true, false_implies, forall_const, ne_eq, or_self, and_false, false_and, Lt, Le, Eq', Cp, In, nI_add, nI_mul, nI_sub, nI_sub1, Neg0, bI_eq0, bI_eq1, bI_01, bft, up2_eq, up2_no, Bool.true_eq_false, Bool.false_eq_true, eq_self, m1_ne, m1_ne2, m1_lt, m1_le, lt_m1, m1_le2, bI_t, bI_f, LK_st, FGu hG])
  exact loop _ _
theorem keysT_S (hB : CB sh I P N F E k g r) (hc : CF I0 L0 P0 I L P) {x y a b w : Int32} {i j : Nat} (hij : i < j) (hj : j < k) (hd : 8 ≤ d) (hw : lateS (wayL F E (swapS N i j) x y 16 0) = w) {o8 : Option Value} {cc ss : Nat}
    (hK : ∀ I2 L2 P2 o8 cc ss, CF I0 L0 P0 I2 L2 P2 → CB sh I2 P2 N F E k g r → WP G 15 d Q 38 [some (.ref 83), some (.ref 22), some (.int x), some (.int y), some (.int (pk w (nI (10 * i + j)) (a, b)).2), some (.int (pk w (nI (10 * i + j)) (a, b)).1), some (.int (nI i)), some (.int (nI (j + 1))), o8] [] cc ss n sh I2 L2 P2) :
    WP G 15 d Q 38 [some (.ref 83), some (.ref 22), some (.int x), some (.int y), some (.int b), some (.int a), some (.int (nI i)), some (.int (nI j)), o8] [] cc ss n sh I L P := by
  have hd0 : 0 < d := by omega
  have hk := hB.2.2.1.k6
  have hG := hB.fg
  have hY84 := hB.y84
  have hY22 := hB.y22
  have h5 := hB.count
  have hj2 : ¬ k ≤ j := by omega
  (apply WP_runI (lv := lvK) (F := LK) LK_ok 38 40; simp (disch := first | decide | omega) only [t15_0, t15_1, lift_c, o_aload0, o_getref, o_aload1, o_virt2, rpush_n, rpush_s, o_iload2, o_iload3, o_virt3, o_istore, s1_0, s1_s, o_inl, o_iload6, o_getfield, o_icge, o_iadd, o_iload7, o_aaload, o_putfield, o_iload8, o_iload4, o_imul, o_iinc7, o_goto, o_iinc6, o_iload5, o_ireturn, z0, z1, z2, z5, z10, z20, z31, runI_0, runI_c, runI_n, liftI_n, liftI_y, run_0, run_c, run_n, fxn, fxi, fxr, fxl, fxl0, ↓swi_n, ↓swi_c, nck0, nck1, nck2, nck3, List.length_cons, List.length_nil, Nat.reduceAdd, Nat.reduceSub, Nat.reduceLeDiff, Nat.reduceEqDiff, Nat.reduceLT, reduceIte, ite_true, ite_false, Nat.sub_zero, Nat.zero_le, true_and, and_true, and_self, true_or, or_true, if_true, if_false, true_implies, implies_true, not_true_eq_false, not_false_eq_true, false_implies, forall_const, ne_eq, or_self, and_false, false_and, Lt, Le, Eq', Cp, In, nI_add, nI_mul, nI_sub, nI_sub1, Neg0, bI_eq0, bI_eq1, bI_01, bft, up2_eq, up2_no, Bool.true_eq_false, Bool.false_eq_true, eq_self, m1_ne, m1_ne2, m1_lt, m1_le, lt_m1, m1_le2, bI_t, bI_f, LK_st, FGu hG, FY84u hY84, FY22u hY22, h5, hj2, hd0])
  refine copy_T hB hc (by omega) fun I1 L1 P1 hT => ?_
  have hG := hT.fg
  have hY84 := hT.y
  have hY22 := hT.y22
  have e1 : I1 (28 + 2 * j) 3 = gs N j 3 := hT.2.1.2.1.geese j 3 hj (by omega)
  have e2 : I1 (28 + 2 * i) 3 = gs N i 3 := hT.2.1.2.1.geese i 3 (by omega) (by omega)
  have hW := hB.2.2.1
  have hT2 := goose_T hT (i := i) (w := 3) (v := gs N j 3) (by omega) (by omega) (hW.key_up (by omega) (hW.key hj))
  have hT3 := goose_T hT2 (i := j) (w := 3) (v := gs N i 3) hj (by omega) (hW.swap (by omega) hj)
  have hT3 : TT sh I0 L0 P0 (up2 (up2 I1 (90 + 2 * i) 3 (gs N j 3)) (90 + 2 * j) 3 (gs N i 3)) L1 P1 N (swapS N i j) F E k g r := hT3
  have run1 : ∀ cc ss, Cl G (d - 1) 13 [.ref 83, .int x, .int y] n sh (up2 (up2 I1 (90 + 2 * i) 3 (gs N j 3)) (90 + 2 * j) 3 (gs N i 3)) L1 P1 (fun v n' sh' I' L' P' => WP G 15 d Q 107 [some (.ref 83), some (.ref 22), some (.int x), some (.int y), some (.int b), some (.int a), some (.int (nI i)), some (.int (nI j)), o8] (rpush v []) cc ss n' sh' I' L' P') := by
    intro cc ss
    refine there_T hT3 (by omega) fun I2 L2 P2 hc2 hB2 => ?_
    have hK := fun o8 cc ss => hK I2 L2 P2 o8 cc ss hc2 hB2
    clear hT3 hT2 hT hB
    generalize wayL F E (swapS N i j) x y 16 0 = u at hw ⊢
    rw [hw]
    by_cases hlt : w < b
    · have hle : ¬ b ≤ w := Int32.not_le.mpr hlt
      rw [pk_y hlt] at hK
      (apply WP_runI (lv := lvK) (F := LK) LK_ok 38 40; simp (disch := first | decide | omega) only [t15_0, t15_1, lift_c, o_aload0, o_getref, o_aload1, o_virt2, rpush_n, rpush_s, o_iload2, o_iload3, o_virt3, o_istore, s1_0, s1_s, o_inl, o_iload6, o_getfield, o_icge, o_iadd, o_iload7, o_aaload, o_putfield, o_iload8, o_iload4, o_imul, o_iinc7, o_goto, o_iinc6, o_iload5, o_ireturn, z0, z1, z2, z5, z10, z20, z31, runI_0, runI_c, runI_n, liftI_n, liftI_y, run_0, run_c, run_n, fxn, fxi, fxr, fxl, fxl0, ↓swi_n, ↓swi_c, nck0, nck1, nck2, nck3, List.length_cons, List.length_nil, Nat.reduceAdd, Nat.reduceSub, Nat.reduceLeDiff, Nat.reduceEqDiff, Nat.reduceLT, reduceIte, ite_true, ite_false, Nat.sub_zero, Nat.zero_le, true_and, and_true, and_self, true_or, or_true, if_true, if_false, true_implies, implies_true, not_true_eq_false, not_false_eq_true, false_implies, forall_const, ne_eq, or_self, and_false, false_and, Lt, Le, Eq', Cp, In, nI_add, nI_mul, nI_sub, nI_sub1, Neg0, bI_eq0, bI_eq1, bI_01, bft, up2_eq, up2_no, Bool.true_eq_false, Bool.false_eq_true, eq_self, m1_ne, m1_ne2, m1_lt, m1_le, lt_m1, m1_le2, bI_t, bI_f, LK_st, hle])
      exact hK _ _ _
    · have hle : b ≤ w := Int32.not_lt.mp hlt
      rw [pk_n hlt] at hK
      (apply WP_runI (lv := lvK) (F := LK) LK_ok 38 40; simp (disch := first | decide | omega) only [t15_0, t15_1, lift_c, o_aload0, o_getref, o_aload1, o_virt2, rpush_n, rpush_s, o_iload2, o_iload3, o_virt3, o_istore, s1_0, s1_s, o_inl, o_iload6, o_getfield, o_icge, o_iadd, o_iload7, o_aaload, o_putfield, o_iload8, o_iload4, o_imul, o_iinc7, o_goto, o_iinc6, o_iload5, o_ireturn, z0, z1, z2, z5, z10, z20, z31, runI_0, runI_c, runI_n, liftI_n, liftI_y, run_0, run_c, run_n, fxn, fxi, fxr, fxl, fxl0, ↓swi_n, ↓swi_c, nck0, nck1, nck2, nck3, List.length_cons, List.length_nil, Nat.reduceAdd, Nat.reduceSub, Nat.reduceLeDiff, Nat.reduceEqDiff, Nat.reduceLT, reduceIte, ite_true, ite_false, Nat.sub_zero, Nat.zero_le, true_and, and_true, and_self, true_or, or_true, if_true, if_false, true_implies, implies_true, not_true_eq_false, not_false_eq_true, false_implies, forall_const, ne_eq, or_self, and_false, false_and, Lt, Le, Eq', Cp, In, nI_add, nI_mul, nI_sub, nI_sub1, Neg0, bI_eq0, bI_eq1, bI_01, bft, up2_eq, up2_no, Bool.true_eq_false, Bool.false_eq_true, eq_self, m1_ne, m1_ne2, m1_lt, m1_le, lt_m1, m1_le2, bI_t, bI_f, LK_st, hle])
      exact hK _ _ _
  clear hT3 hT2 hT hB hK hW hw
  (apply WP_runI (lv := lvK) (F := LK) LK_ok 38 60; simp (disch := first | decide | omega) only [t15_0, t15_1, lift_c, o_aload0, o_getref, o_aload1, o_virt2, rpush_n, rpush_s, o_iload2, o_iload3, o_virt3, o_istore, s1_0, s1_s, o_inl, o_iload6, o_getfield, o_icge, o_iadd, o_iload7, o_aaload, o_putfield, o_iload8, o_iload4, o_imul, o_iinc7, o_goto, o_iinc6, o_iload5, o_ireturn, z0, z1, z2, z5, z10, z20, z31, runI_0, runI_c, runI_n, liftI_n, liftI_y, run_0, run_c, run_n, fxn, fxi, fxr, fxl, fxl0, ↓swi_n, ↓swi_c, nck0, nck1, nck2, nck3, List.length_cons, List.length_nil, Nat.reduceAdd, Nat.reduceSub, Nat.reduceLeDiff, Nat.reduceEqDiff, Nat.reduceLT, reduceIte, ite_true, ite_false, Nat.sub_zero, Nat.zero_le, true_and, and_true, and_self, true_or, or_true, if_true, if_false, true_implies, implies_true, not_true_eq_false, not_false_eq_true, false_implies, forall_const, ne_eq, or_self, and_false, false_and, Lt, Le, Eq', Cp, In, nI_add, nI_mul, nI_sub, nI_sub1, Neg0, bI_eq0, bI_eq1, bI_01, bft, up2_eq, up2_no, Bool.true_eq_false, Bool.false_eq_true, eq_self, m1_ne, m1_ne2, m1_lt, m1_le, lt_m1, m1_le2, bI_t, bI_f, LK_st, FGu hG, FY84u hY84, FY22u hY22, e1, e2, hd0])
  exact run1 _ _
theorem keysT_T (hB : CB sh I P N F E k g r) {x y : Int32} (hd : 10 ≤ d) (hQ : ∀ I' L' P', CF I L P I' L' P' → Q (some (.int (kyI F E N x y k k).1)) n sh I' L' P') : Cl G d 15 [.ref 83, .ref 22, .int x, .int y] n sh I L P Q := by
  apply e15
  have hd0 : 0 < d := by omega
  have hk := hB.2.2.1.k6
  have outer : ∀ m i I1 L1 P1 a b o7 o8 cc ss, i + m = k → CF I L P I1 L1 P1 → CB sh I1 P1 N F E k g r → kyI F E N x y k i = (a, b) → WP G 15 d Q 23 [some (.ref 83), some (.ref 22), some (.int x), some (.int y), some (.int b), some (.int a), some (.int (nI i)), o7, o8] [] cc ss n sh I1 L1 P1 := by
    intro m
    induction m with
    | zero =>
      intro i I1 L1 P1 a b o7 o8 cc ss h hc hB1 hq
      have hi : k ≤ i := by omega
      have hG := hB1.fg
      have hY22 := hB1.y22
      have h5 := hB1.count
      have hQ := hQ I1 L1 P1 hc
      rw [show kyI F E N x y k k = (a, b) by rw [← hq, show i = k by omega]] at hQ
      (apply WP_runI (lv := lvK) (F := LK) LK_ok 23 20; simp (disch := first | decide | omega) only [t15_0, t15_1, lift_c, o_aload0, o_getref, o_aload1, o_virt2, rpush_n, rpush_s, o_iload2, o_iload3, o_virt3, o_istore, s1_0, s1_s, o_inl, o_iload6, o_getfield, o_icge, o_iadd, o_iload7, o_aaload, o_putfield, o_iload8, o_iload4, o_imul, o_iinc7, o_goto, o_iinc6, o_iload5, o_ireturn, z0, z1, z2, z5, z10, z20, z31, runI_0, runI_c, runI_n, liftI_n, liftI_y, run_0, run_c, run_n, fxn, fxi, fxr, fxl, fxl0, ↓swi_n, ↓swi_c, nck0, nck1, nck2, nck3, List.length_cons, List.length_nil, Nat.reduceAdd, Nat.reduceSub, Nat.reduceLeDiff, Nat.reduceEqDiff, Nat.reduceLT, reduceIte, ite_true, ite_false, Nat.sub_zero, Nat.zero_le, true_and, and_true, and_self, true_or, or_true, if_true, if_false, true_implies, implies_true, not_true_eq_false, not_false_eq_true, false_implies, forall_const, ne_eq, or_self, and_false, false_and, Lt, Le, Eq', Cp, In, nI_add, nI_mul, nI_sub, nI_sub1, Neg0, bI_eq0, bI_eq1, bI_01, bft, up2_eq, up2_no, Bool.true_eq_false, Bool.false_eq_true, eq_self, m1_ne, m1_ne2, m1_lt, m1_le, lt_m1, m1_le2, bI_t, bI_f, LK_st, FGu hG, FY22u hY22, h5, hi])
      exact hQ
    | succ m ih =>
      intro i I1 L1 P1 a b o7 o8 cc ss h hc hB1 hq
      have hi : ¬ k ≤ i := by omega
      have inner : ∀ l j I2 L2 P2 a' b' o8 cc ss, j + l = k → i < j → CF I L P I2 L2 P2 → CB sh I2 P2 N F E k g r → kyJ F E N x y i (a, b) j = (a', b') → WP G 15 d Q 38 [some (.ref 83), some (.ref 22), some (.int x), some (.int y), some (.int b'), some (.int a'), some (.int (nI i)), some (.int (nI j)), o8] [] cc ss n sh I2 L2 P2 := by
        intro l
        induction l with
        | zero =>
          intro j I2 L2 P2 a' b' o8 cc ss h hij hc2 hB2 hq2
          have hj : k ≤ j := by omega
          have hG := hB2.fg
          have hY22 := hB2.y22
          have h5 := hB2.count
          have ih := fun o7 o8 cc ss => ih (i + 1) I2 L2 P2 a' b' o7 o8 cc ss (by omega) hc2 hB2 (by rw [kyI, hq, ← hq2, show j = k by omega])
          (apply WP_runI (lv := lvK) (F := LK) LK_ok 23 20; simp (disch := first | decide | omega) only [t15_0, t15_1, lift_c, o_aload0, o_getref, o_aload1, o_virt2, rpush_n, rpush_s, o_iload2, o_iload3, o_virt3, o_istore, s1_0, s1_s, o_inl, o_iload6, o_getfield, o_icge, o_iadd, o_iload7, o_aaload, o_putfield, o_iload8, o_iload4, o_imul, o_iinc7, o_goto, o_iinc6, o_iload5, o_ireturn, z0, z1, z2, z5, z10, z20, z31, runI_0, runI_c, runI_n, liftI_n, liftI_y, run_0, run_c, run_n, fxn, fxi, fxr, fxl, fxl0, ↓swi_n, ↓swi_c, nck0, nck1, nck2, nck3, List.length_cons, List.length_nil, Nat.reduceAdd, Nat.reduceSub, Nat.reduceLeDiff, Nat.reduceEqDiff, Nat.reduceLT, reduceIte, ite_true, ite_false, Nat.sub_zero, Nat.zero_le, true_and, and_true, and_self, true_or, or_true, if_true, if_false, true_implies, implies_true, not_true_eq_false, not_false_eq_true, false_implies, forall_const, ne_eq, or_self, and_false, false_and, Lt, Le, Eq', Cp, In, nI_add, nI_mul, nI_sub, nI_sub1, Neg0, bI_eq0, bI_eq1, bI_01, bft, up2_eq, up2_no, Bool.true_eq_false, Bool.false_eq_true, eq_self, m1_ne, m1_ne2, m1_lt, m1_le, lt_m1, m1_le2, bI_t, bI_f, LK_st, FGu hG, FY22u hY22, h5, hj])
          exact ih _ _ _ _
        | succ l ih2 =>
          intro j I2 L2 P2 a' b' o8 cc ss h hij hc2 hB2 hq2
          generalize hw : lateS (wayL F E (swapS N i j) x y 16 0) = w
          refine keysT_S hB2 hc2 hij (by omega) (by omega) hw fun I3 L3 P3 o8 cc ss hc3 hB3 => ?_
          exact ih2 (j + 1) I3 L3 P3 _ _ o8 cc ss (by omega) (by omega) hc3 hB3 (kyJ_y hij hq2 hw)
      have inner := fun cc ss => inner (k - (i + 1)) (i + 1) I1 L1 P1 a b o8 cc ss (by omega) (by omega) hc hB1 (kyJ_0 _ _ _ _ _ _ _ _ (Nat.le_refl _))
      have hG := hB1.fg
      have hY22 := hB1.y22
      have h5 := hB1.count
      (apply WP_runI (lv := lvK) (F := LK) LK_ok 38 20; simp (disch := first | decide | omega) only [t15_0, t15_1, lift_c, o_aload0, o_getref, o_aload1, o_virt2, rpush_n, rpush_s, o_iload2, o_iload3, o_virt3, o_istore, s1_0, s1_s, o_inl, o_iload6, o_getfield, o_icge, o_iadd, o_iload7, o_aaload, o_putfield, o_iload8, o_iload4, o_imul, o_iinc7, o_goto, o_iinc6, o_iload5, o_ireturn, z0, z1, z2, z5, z10, z20, z31, runI_0, runI_c, runI_n, liftI_n, liftI_y, run_0, run_c, run_n, fxn, fxi, fxr, fxl, fxl0, ↓swi_n, ↓swi_c, nck0, nck1, nck2, nck3, List.length_cons, List.length_nil, Nat.reduceAdd, Nat.reduceSub, Nat.reduceLeDiff, Nat.reduceEqDiff, Nat.reduceLT, reduceIte, ite_true, ite_false, Nat.sub_zero, Nat.zero_le, true_and, and_true, and_self, true_or, or_true, if_true, if_false, true_implies, implies_true, not_true_eq_false, not_false_eq_true, false_implies, forall_const, ne_eq, or_self, and_false, false_and, Lt, Le, Eq', Cp, In, nI_add, nI_mul, nI_sub, nI_sub1, Neg0, bI_eq0, bI_eq1, bI_01, bft, up2_eq, up2_no, Bool.true_eq_false, Bool.false_eq_true, eq_self, m1_ne, m1_ne2, m1_lt, m1_le, lt_m1, m1_le2, bI_t, bI_f, LK_st, FGu hG, FY22u hY22, h5, hi])
      exact inner _ _
  have hG := hB.fg
  have hY84 := hB.y84
  (apply WP_runI (lv := lvK) (F := LK) LK_ok 23 20; simp (disch := first | decide | omega) only [t15_0, t15_1, lift_c, o_aload0, o_getref, o_aload1, o_virt2, rpush_n, rpush_s, o_iload2, o_iload3, o_virt3, o_istore, s1_0, s1_s, o_inl, o_iload6, o_getfield, o_icge, o_iadd, o_iload7, o_aaload, o_putfield, o_iload8, o_iload4, o_imul, o_iinc7, o_goto, o_iinc6, o_iload5, o_ireturn, z0, z1, z2, z5, z10, z20, z31, runI_0, runI_c, runI_n, liftI_n, liftI_y, run_0, run_c, run_n, fxn, fxi, fxr, fxl, fxl0, ↓swi_n, ↓swi_c, nck0, nck1, nck2, nck3, List.length_cons, List.length_nil, Nat.reduceAdd, Nat.reduceSub, Nat.reduceLeDiff, Nat.reduceEqDiff, Nat.reduceLT, reduceIte, ite_true, ite_false, Nat.sub_zero, Nat.zero_le, true_and, and_true, and_self, true_or, or_true, if_true, if_false, true_implies, implies_true, not_true_eq_false, not_false_eq_true, false_implies, forall_const, ne_eq, or_self, and_false, false_and, Lt, Le, Eq', Cp, In, nI_add, nI_mul, nI_sub, nI_sub1, Neg0, bI_eq0, bI_eq1, bI_01, bft, up2_eq, up2_no, Bool.true_eq_false, Bool.false_eq_true, eq_self, m1_ne, m1_ne2, m1_lt, m1_le, lt_m1, m1_le2, bI_t, bI_f, LK_st, FGu hG, FY84u hY84, hd0])
  refine copy_T hB CF.rf (by omega) fun I1 L1 P1 hT => ?_
  have hG := hT.fg
  have hY84 := hT.y
  (apply WP_runI (lv := lvK) (F := LK) LK_ok 23 20; simp (disch := first | decide | omega) only [t15_0, t15_1, lift_c, o_aload0, o_getref, o_aload1, o_virt2, rpush_n, rpush_s, o_iload2, o_iload3, o_virt3, o_istore, s1_0, s1_s, o_inl, o_iload6, o_getfield, o_icge, o_iadd, o_iload7, o_aaload, o_putfield, o_iload8, o_iload4, o_imul, o_iinc7, o_goto, o_iinc6, o_iload5, o_ireturn, z0, z1, z2, z5, z10, z20, z31, runI_0, runI_c, runI_n, liftI_n, liftI_y, run_0, run_c, run_n, fxn, fxi, fxr, fxl, fxl0, ↓swi_n, ↓swi_c, nck0, nck1, nck2, nck3, List.length_cons, List.length_nil, Nat.reduceAdd, Nat.reduceSub, Nat.reduceLeDiff, Nat.reduceEqDiff, Nat.reduceLT, reduceIte, ite_true, ite_false, Nat.sub_zero, Nat.zero_le, true_and, and_true, and_self, true_or, or_true, if_true, if_false, true_implies, implies_true, not_true_eq_false, not_false_eq_true, false_implies, forall_const, ne_eq, or_self, and_false, false_and, Lt, Le, Eq', Cp, In, nI_add, nI_mul, nI_sub, nI_sub1, Neg0, bI_eq0, bI_eq1, bI_01, bft, up2_eq, up2_no, Bool.true_eq_false, Bool.false_eq_true, eq_self, m1_ne, m1_ne2, m1_lt, m1_le, lt_m1, m1_le2, bI_t, bI_f, LK_st, FGu hG, FY84u hY84, hd0])
  refine there_T hT (by omega) fun I2 L2 P2 hc2 hB2 => ?_
  have outer := fun cc ss => outer k 0 I2 L2 P2 (-nI 5) _ none none cc ss (by omega) hc2 hB2 (by rw [kyI])
  generalize lateS (wayL F E N x y 16 0) = u at outer ⊢
  (apply WP_runI (lv := lvK) (F := LK) LK_ok 23 20; simp (disch := first | decide | omega) only [t15_0, t15_1, lift_c, o_aload0, o_getref, o_aload1, o_virt2, rpush_n, rpush_s, o_iload2, o_iload3, o_virt3, o_istore, s1_0, s1_s, o_inl, o_iload6, o_getfield, o_icge, o_iadd, o_iload7, o_aaload, o_putfield, o_iload8, o_iload4, o_imul, o_iinc7, o_goto, o_iinc6, o_iload5, o_ireturn, z0, z1, z2, z5, z10, z20, z31, runI_0, runI_c, runI_n, liftI_n, liftI_y, run_0, run_c, run_n, fxn, fxi, fxr, fxl, fxl0, ↓swi_n, ↓swi_c, nck0, nck1, nck2, nck3, List.length_cons, List.length_nil, Nat.reduceAdd, Nat.reduceSub, Nat.reduceLeDiff, Nat.reduceEqDiff, Nat.reduceLT, reduceIte, ite_true, ite_false, Nat.sub_zero, Nat.zero_le, true_and, and_true, and_self, true_or, or_true, if_true, if_false, true_implies, implies_true, not_true_eq_false, not_false_eq_true, false_implies, forall_const, ne_eq, or_self, and_false, false_and, Lt, Le, Eq', Cp, In, nI_add, nI_mul, nI_sub, nI_sub1, Neg0, bI_eq0, bI_eq1, bI_01, bft, up2_eq, up2_no, Bool.true_eq_false, Bool.false_eq_true, eq_self, m1_ne, m1_ne2, m1_lt, m1_le, lt_m1, m1_le2, bI_t, bI_f, LK_st, FGu hG, z5, hd0])
  exact outer _ _
theorem leadT_T (hB : CB sh I P N F E k g r) {x z : Int32} {m : Nat} (hm : m ≤ 99) (hz : z = nI m) (hd : 10 ≤ d) (hQ : ∀ I' L' P', CF I L P I' L' P' → Q (some (.int (ldL F E N x z 8).1)) n sh I' L' P') : Cl G d 16 [.ref 83, .ref 22, .int x, .int z] n sh I L P Q := by
  apply e16
  have hd0 : 0 < d := by omega
  have loop : ∀ l c I1 L1 P1 a b o7 cc ss, c + l = 8 → CF I L P I1 L1 P1 → CB sh I1 P1 N F E k g r → ldL F E N x z c = (a, b) → WP G 16 d Q 22 [some (.ref 83), some (.ref 22), some (.int x), some (.int z), some (.int b), some (.int a), some (.int (nI c)), o7] [] cc ss n sh I1 L1 P1 := by
    intro l
    induction l with
    | zero =>
      intro c I1 L1 P1 a b o7 cc ss h hc hB1 hq
      have hc8 : 8 ≤ c := by omega
      have hQ := hQ I1 L1 P1 hc
      rw [show ldL F E N x z 8 = (a, b) by rw [← hq, show c = 8 by omega]] at hQ
      (apply WP_runI (lv := lvK) (F := LK) LK_ok 22 20; simp (disch := first | decide | omega) only [t16_0, lift_c, o_aload0, o_getref, o_aload1, o_virt2, rpush_n, rpush_s, o_iload2, o_istore, s1_0, s1_s, o_inl, o_iload6, o_icge, o_iload3, o_virt3, o_iload7, o_iload4, o_iinc6, o_goto, o_iload5, o_ireturn, z0, z1, z2, z5, z8, z20, z31, runI_0, runI_c, runI_n, liftI_n, liftI_y, run_0, run_c, run_n, fxn, fxi, fxr, fxl, fxl0, ↓swi_n, ↓swi_c, nck0, nck1, nck2, nck3, List.length_cons, List.length_nil, Nat.reduceAdd, Nat.reduceSub, Nat.reduceLeDiff, Nat.reduceEqDiff, Nat.reduceLT, reduceIte, ite_true, ite_false, Nat.sub_zero, Nat.zero_le, true_and, and_true, and_self, true_or, or_true, if_true, if_false, true_implies, implies_true, not_true_eq_false, not_false_eq_true, false_implies, forall_const, ne_eq, or_self, and_false, false_and, Lt, Le, Eq', Cp, In, nI_add, nI_mul, nI_sub, nI_sub1, Neg0, bI_eq0, bI_eq1, bI_01, bft, up2_eq, up2_no, Bool.true_eq_false, Bool.false_eq_true, eq_self, m1_ne, m1_ne2, m1_lt, m1_le, lt_m1, m1_le2, bI_t, bI_f, LK_st, hc8])
      exact hQ
    | succ l ih =>
      intro c I1 L1 P1 a b o7 cc ss h hc hB1 hq
      have hc8 : ¬ 8 ≤ c := by omega
      have hc8' : c < 8 := by omega
      have hG := hB1.fg
      have hY84 := hB1.y84
      generalize hw : lateS (soonS F E (upN N c (mnS (N c + z))) x) = w
      have hq2 := ldL_s hq hw
      (apply WP_runI (lv := lvK) (F := LK) LK_ok 22 40; simp (disch := first | decide | omega) only [t16_0, lift_c, o_aload0, o_getref, o_aload1, o_virt2, rpush_n, rpush_s, o_iload2, o_istore, s1_0, s1_s, o_inl, o_iload6, o_icge, o_iload3, o_virt3, o_iload7, o_iload4, o_iinc6, o_goto, o_iload5, o_ireturn, z0, z1, z2, z5, z8, z20, z31, runI_0, runI_c, runI_n, liftI_n, liftI_y, run_0, run_c, run_n, fxn, fxi, fxr, fxl, fxl0, ↓swi_n, ↓swi_c, nck0, nck1, nck2, nck3, List.length_cons, List.length_nil, Nat.reduceAdd, Nat.reduceSub, Nat.reduceLeDiff, Nat.reduceEqDiff, Nat.reduceLT, reduceIte, ite_true, ite_false, Nat.sub_zero, Nat.zero_le, true_and, and_true, and_self, true_or, or_true, if_true, if_false, true_implies, implies_true, not_true_eq_false, not_false_eq_true, false_implies, forall_const, ne_eq, or_self, and_false, false_and, Lt, Le, Eq', Cp, In, nI_add, nI_mul, nI_sub, nI_sub1, Neg0, bI_eq0, bI_eq1, bI_01, bft, up2_eq, up2_no, Bool.true_eq_false, Bool.false_eq_true, eq_self, m1_ne, m1_ne2, m1_lt, m1_le, lt_m1, m1_le2, bI_t, bI_f, LK_st, FGu hG, FY84u hY84, hc8, hd0])
      refine copy_T hB1 hc (by omega) fun I2 L2 P2 hT => ?_
      have hG := hT.fg
      have hY84 := hT.y
      have hW2 : WF (upN N c (mnS (N c + z))) k g r := by
        obtain ⟨u, hu, hu2⟩ := hB.2.2.1.grain hc8'
        obtain ⟨v, hv, e⟩ := mnS_ok hu hm
        rw [hu2, hz, e]
        exact hB.2.2.1.grain_up hc8' hv
      (apply WP_runI (lv := lvK) (F := LK) LK_ok 22 40; simp (disch := first | decide | omega) only [t16_0, lift_c, o_aload0, o_getref, o_aload1, o_virt2, rpush_n, rpush_s, o_iload2, o_istore, s1_0, s1_s, o_inl, o_iload6, o_icge, o_iload3, o_virt3, o_iload7, o_iload4, o_iinc6, o_goto, o_iload5, o_ireturn, z0, z1, z2, z5, z8, z20, z31, runI_0, runI_c, runI_n, liftI_n, liftI_y, run_0, run_c, run_n, fxn, fxi, fxr, fxl, fxl0, ↓swi_n, ↓swi_c, nck0, nck1, nck2, nck3, List.length_cons, List.length_nil, Nat.reduceAdd, Nat.reduceSub, Nat.reduceLeDiff, Nat.reduceEqDiff, Nat.reduceLT, reduceIte, ite_true, ite_false, Nat.sub_zero, Nat.zero_le, true_and, and_true, and_self, true_or, or_true, if_true, if_false, true_implies, implies_true, not_true_eq_false, not_false_eq_true, false_implies, forall_const, ne_eq, or_self, and_false, false_and, Lt, Le, Eq', Cp, In, nI_add, nI_mul, nI_sub, nI_sub1, Neg0, bI_eq0, bI_eq1, bI_01, bft, up2_eq, up2_no, Bool.true_eq_false, Bool.false_eq_true, eq_self, m1_ne, m1_ne2, m1_lt, m1_le, lt_m1, m1_le2, bI_t, bI_f, LK_st, FGu hG, FY84u hY84, hd0])
      refine addG_T hT hc8' (by omega) hW2 fun I3 hT3 => ?_
      (apply WP_runI (lv := lvK) (F := LK) LK_ok 22 40; simp (disch := first | decide | omega) only [t16_0, lift_c, o_aload0, o_getref, o_aload1, o_virt2, rpush_n, rpush_s, o_iload2, o_istore, s1_0, s1_s, o_inl, o_iload6, o_icge, o_iload3, o_virt3, o_iload7, o_iload4, o_iinc6, o_goto, o_iload5, o_ireturn, z0, z1, z2, z5, z8, z20, z31, runI_0, runI_c, runI_n, liftI_n, liftI_y, run_0, run_c, run_n, fxn, fxi, fxr, fxl, fxl0, ↓swi_n, ↓swi_c, nck0, nck1, nck2, nck3, List.length_cons, List.length_nil, Nat.reduceAdd, Nat.reduceSub, Nat.reduceLeDiff, Nat.reduceEqDiff, Nat.reduceLT, reduceIte, ite_true, ite_false, Nat.sub_zero, Nat.zero_le, true_and, and_true, and_self, true_or, or_true, if_true, if_false, true_implies, implies_true, not_true_eq_false, not_false_eq_true, false_implies, forall_const, ne_eq, or_self, and_false, false_and, Lt, Le, Eq', Cp, In, nI_add, nI_mul, nI_sub, nI_sub1, Neg0, bI_eq0, bI_eq1, bI_01, bft, up2_eq, up2_no, Bool.true_eq_false, Bool.false_eq_true, eq_self, m1_ne, m1_ne2, m1_lt, m1_le, lt_m1, m1_le2, bI_t, bI_f, LK_st, FGu hG, FY84u hY84, hd0])
      refine until_T hT3 (by omega) fun I4 L4 P4 hc4 hB4 => ?_
      rw [hw]
      have ih := fun o7 cc ss => ih (c + 1) I4 L4 P4 (pk w (nI c) (a, b)).1 (pk w (nI c) (a, b)).2 o7 cc ss (by omega) hc4 hB4 hq2
      clear hq2 hq hw hT3 hT hW2
      by_cases hlt : w < b
      · have hle : ¬ b ≤ w := Int32.not_le.mpr hlt
        rw [pk_y hlt] at ih
        (apply WP_runI (lv := lvK) (F := LK) LK_ok 22 40; simp (disch := first | decide | omega) only [t16_0, lift_c, o_aload0, o_getref, o_aload1, o_virt2, rpush_n, rpush_s, o_iload2, o_istore, s1_0, s1_s, o_inl, o_iload6, o_icge, o_iload3, o_virt3, o_iload7, o_iload4, o_iinc6, o_goto, o_iload5, o_ireturn, z0, z1, z2, z5, z8, z20, z31, runI_0, runI_c, runI_n, liftI_n, liftI_y, run_0, run_c, run_n, fxn, fxi, fxr, fxl, fxl0, ↓swi_n, ↓swi_c, nck0, nck1, nck2, nck3, List.length_cons, List.length_nil, Nat.reduceAdd, Nat.reduceSub, Nat.reduceLeDiff, Nat.reduceEqDiff, Nat.reduceLT, reduceIte, ite_true, ite_false, Nat.sub_zero, Nat.zero_le, true_and, and_true, and_self, true_or, or_true, if_true, if_false, true_implies, implies_true, not_true_eq_false, not_false_eq_true, false_implies, forall_const, ne_eq, or_self, and_false, false_and, Lt, Le, Eq', Cp, In, nI_add, nI_mul, nI_sub, nI_sub1, Neg0, bI_eq0, bI_eq1, bI_01, bft, up2_eq, up2_no, Bool.true_eq_false, Bool.false_eq_true, eq_self, m1_ne, m1_ne2, m1_lt, m1_le, lt_m1, m1_le2, bI_t, bI_f, LK_st, hle])
        exact ih _ _ _
      · have hle : b ≤ w := Int32.not_lt.mp hlt
        rw [pk_n hlt] at ih
        (apply WP_runI (lv := lvK) (F := LK) LK_ok 22 40; simp (disch := first | decide | omega) only [t16_0, lift_c, o_aload0, o_getref, o_aload1, o_virt2, rpush_n, rpush_s, o_iload2, o_istore, s1_0, s1_s, o_inl, o_iload6, o_icge, o_iload3, o_virt3, o_iload7, o_iload4, o_iinc6, o_goto, o_iload5, o_ireturn, z0, z1, z2, z5, z8, z20, z31, runI_0, runI_c, runI_n, liftI_n, liftI_y, run_0, run_c, run_n, fxn, fxi, fxr, fxl, fxl0, ↓swi_n, ↓swi_c, nck0, nck1, nck2, nck3, List.length_cons, List.length_nil, Nat.reduceAdd, Nat.reduceSub, Nat.reduceLeDiff, Nat.reduceEqDiff, Nat.reduceLT, reduceIte, ite_true, ite_false, Nat.sub_zero, Nat.zero_le, true_and, and_true, and_self, true_or, or_true, if_true, if_false, true_implies, implies_true, not_true_eq_false, not_false_eq_true, false_implies, forall_const, ne_eq, or_self, and_false, false_and, Lt, Le, Eq', Cp, In, nI_add, nI_mul, nI_sub, nI_sub1, Neg0, bI_eq0, bI_eq1, bI_01, bft, up2_eq, up2_no, Bool.true_eq_false, Bool.false_eq_true, eq_self, m1_ne, m1_ne2, m1_lt, m1_le, lt_m1, m1_le2, bI_t, bI_f, LK_st, hle])
        exact ih _ _ _
  have hG := hB.fg
  have hY84 := hB.y84
  (apply WP_runI (lv := lvK) (F := LK) LK_ok 22 20; simp (disch := first | decide | omega) only [t16_0, lift_c, o_aload0, o_getref, o_aload1, o_virt2, rpush_n, rpush_s, o_iload2, o_istore, s1_0, s1_s, o_inl, o_iload6, o_icge, o_iload3, o_virt3, o_iload7, o_iload4, o_iinc6, o_goto, o_iload5, o_ireturn, z0, z1, z2, z5, z8, z20, z31, runI_0, runI_c, runI_n, liftI_n, liftI_y, run_0, run_c, run_n, fxn, fxi, fxr, fxl, fxl0, ↓swi_n, ↓swi_c, nck0, nck1, nck2, nck3, List.length_cons, List.length_nil, Nat.reduceAdd, Nat.reduceSub, Nat.reduceLeDiff, Nat.reduceEqDiff, Nat.reduceLT, reduceIte, ite_true, ite_false, Nat.sub_zero, Nat.zero_le, true_and, and_true, and_self, true_or, or_true, if_true, if_false, true_implies, implies_true, not_true_eq_false, not_false_eq_true, false_implies, forall_const, ne_eq, or_self, and_false, false_and, Lt, Le, Eq', Cp, In, nI_add, nI_mul, nI_sub, nI_sub1, Neg0, bI_eq0, bI_eq1, bI_01, bft, up2_eq, up2_no, Bool.true_eq_false, Bool.false_eq_true, eq_self, m1_ne, m1_ne2, m1_lt, m1_le, lt_m1, m1_le2, bI_t, bI_f, LK_st, FGu hG, FY84u hY84, hd0])
  refine copy_T hB CF.rf (by omega) fun I1 L1 P1 hT => ?_
  have hG := hT.fg
  have hY84 := hT.y
  (apply WP_runI (lv := lvK) (F := LK) LK_ok 22 20; simp (disch := first | decide | omega) only [t16_0, lift_c, o_aload0, o_getref, o_aload1, o_virt2, rpush_n, rpush_s, o_iload2, o_istore, s1_0, s1_s, o_inl, o_iload6, o_icge, o_iload3, o_virt3, o_iload7, o_iload4, o_iinc6, o_goto, o_iload5, o_ireturn, z0, z1, z2, z5, z8, z20, z31, runI_0, runI_c, runI_n, liftI_n, liftI_y, run_0, run_c, run_n, fxn, fxi, fxr, fxl, fxl0, ↓swi_n, ↓swi_c, nck0, nck1, nck2, nck3, List.length_cons, List.length_nil, Nat.reduceAdd, Nat.reduceSub, Nat.reduceLeDiff, Nat.reduceEqDiff, Nat.reduceLT, reduceIte, ite_true, ite_false, Nat.sub_zero, Nat.zero_le, true_and, and_true, and_self, true_or, or_true, if_true, if_false, true_implies, implies_true, not_true_eq_false, not_false_eq_true, false_implies, forall_const, ne_eq, or_self, and_false, false_and, Lt, Le, Eq', Cp, In, nI_add, nI_mul, nI_sub, nI_sub1, Neg0, bI_eq0, bI_eq1, bI_01, bft, up2_eq, up2_no, Bool.true_eq_false, Bool.false_eq_true, eq_self, m1_ne, m1_ne2, m1_lt, m1_le, lt_m1, m1_le2, bI_t, bI_f, LK_st, FGu hG, FY84u hY84, hd0])
  refine until_T hT (by omega) fun I2 L2 P2 hc2 hB2 => ?_
  have loop := fun cc ss => loop 8 0 I2 L2 P2 (-nI 5) _ none cc ss (by omega) hc2 hB2 (by rw [ldL])
  generalize lateS (soonS F E N x) = u at loop ⊢
  (apply WP_runI (lv := lvK) (F := LK) LK_ok 22 20; simp (disch := first | decide | omega) only [t16_0, lift_c, o_aload0, o_getref, o_aload1, o_virt2, rpush_n, rpush_s, o_iload2, o_istore, s1_0, s1_s, o_inl, o_iload6, o_icge, o_iload3, o_virt3, o_iload7, o_iload4, o_iinc6, o_goto, o_iload5, o_ireturn, z0, z1, z2, z5, z8, z20, z31, runI_0, runI_c, runI_n, liftI_n, liftI_y, run_0, run_c, run_n, fxn, fxi, fxr, fxl, fxl0, ↓swi_n, ↓swi_c, nck0, nck1, nck2, nck3, List.length_cons, List.length_nil, Nat.reduceAdd, Nat.reduceSub, Nat.reduceLeDiff, Nat.reduceEqDiff, Nat.reduceLT, reduceIte, ite_true, ite_false, Nat.sub_zero, Nat.zero_le, true_and, and_true, and_self, true_or, or_true, if_true, if_false, true_implies, implies_true, not_true_eq_false, not_false_eq_true, false_implies, forall_const, ne_eq, or_self, and_false, false_and, Lt, Le, Eq', Cp, In, nI_add, nI_mul, nI_sub, nI_sub1, Neg0, bI_eq0, bI_eq1, bI_01, bft, up2_eq, up2_no, Bool.true_eq_false, Bool.false_eq_true, eq_self, m1_ne, m1_ne2, m1_lt, m1_le, lt_m1, m1_le2, bI_t, bI_f, LK_st, FGu hG, z5, hd0])
  exact loop _ _
theorem oddsT_T (hB : CB sh I P N F E k g r) {x : Int32} {m : Nat} (hm : m ≤ 20) (hd : 10 ≤ d) (hQ : ∀ I' L' P', CF I L P I' L' P' → Q (some (.int (nI (odC F E N m x 8)))) n sh I' L' P') : Cl G d 17 [.ref 83, .ref 22, .int x, .int (nI m)] n sh I L P Q := by
  apply e17
  have hd0 : 0 < d := by omega
  have loop : ∀ l c I1 L1 P1 cc ss, c + l = 8 → CF I L P I1 L1 P1 → CB sh I1 P1 N F E k g r → WP G 17 d Q 6 [some (.ref 83), some (.ref 22), some (.int x), some (.int (nI m)), some (.int (nI (odC F E N m x c))), some (.int (nI c))] [] cc ss n sh I1 L1 P1 := by
    intro l
    induction l with
    | zero =>
      intro c I1 L1 P1 cc ss h hc hB1
      have hc8 : 8 ≤ c := by omega
      have hQ := hQ I1 L1 P1 hc
      rw [show odC F E N m x 8 = odC F E N m x c by rw [show c = 8 by omega]] at hQ
      generalize odC F E N m x c = a at hQ ⊢
      (apply WP_runI (lv := lvK) (F := LK) LK_ok 6 20; simp (disch := first | decide | omega) only [t17_0, lift_c, o_inl, o_istore, s1_0, s1_s, o_iload5, o_icge, o_aload0, o_getref, o_aload1, o_virt2, rpush_n, rpush_s, o_virt3, o_iload3, o_virt1, o_iload2, o_stat2, o_ifeq, o_iinc4, o_iinc5, o_goto, o_iload4, o_ireturn, z0, z1, z2, z8, z9, z20, z31, runI_0, runI_c, runI_n, liftI_n, liftI_y, run_0, run_c, run_n, fxn, fxi, fxr, fxl, fxl0, ↓swi_n, ↓swi_c, nck0, nck1, nck2, nck3, List.length_cons, List.length_nil, Nat.reduceAdd, Nat.reduceSub, Nat.reduceLeDiff, Nat.reduceEqDiff, Nat.reduceLT, reduceIte, ite_true, ite_false, Nat.sub_zero, Nat.zero_le, true_and, and_true, and_self, true_or, or_true, if_true, if_false, true_implies, implies_true, not_true_eq_false, not_false_eq_true, false_implies, forall_const, ne_eq, or_self, and_false, false_and, Lt, Le, Eq', Cp, In, nI_add, nI_mul, nI_sub, nI_sub1, Neg0, bI_eq0, bI_eq1, bI_01, bft, up2_eq, up2_no, Bool.true_eq_false, Bool.false_eq_true, eq_self, m1_ne, m1_ne2, m1_lt, m1_le, lt_m1, m1_le2, bI_t, bI_f, LK_st, hc8])
      exact hQ
    | succ l ih =>
      intro c I1 L1 P1 cc ss h hc hB1
      have hc8 : ¬ 8 ≤ c := by omega
      have hc8' : c < 8 := by omega
      have hG := hB1.fg
      have hY84 := hB1.y84
      have hW2 : WF (upN N c (mnS (N c + nI 9))) k g r := by
        obtain ⟨u, hu, hu2⟩ := hB.2.2.1.grain hc8'
        obtain ⟨v, hv, e⟩ := mnS_ok (m := 9) hu (by omega)
        rw [hu2, e]
        exact hB.2.2.1.grain_up hc8' hv
      have hl := odC_le F E N m x c
      have ih := fun I4 L4 P4 cc ss => ih (c + 1) I4 L4 P4 cc ss (by omega)
      rw [odC] at ih
      generalize odC F E N m x c = a at ih hl ⊢
      (apply WP_runI (lv := lvK) (F := LK) LK_ok 6 40; simp (disch := first | decide | omega) only [t17_0, lift_c, o_inl, o_istore, s1_0, s1_s, o_iload5, o_icge, o_aload0, o_getref, o_aload1, o_virt2, rpush_n, rpush_s, o_virt3, o_iload3, o_virt1, o_iload2, o_stat2, o_ifeq, o_iinc4, o_iinc5, o_goto, o_iload4, o_ireturn, z0, z1, z2, z8, z9, z20, z31, runI_0, runI_c, runI_n, liftI_n, liftI_y, run_0, run_c, run_n, fxn, fxi, fxr, fxl, fxl0, ↓swi_n, ↓swi_c, nck0, nck1, nck2, nck3, List.length_cons, List.length_nil, Nat.reduceAdd, Nat.reduceSub, Nat.reduceLeDiff, Nat.reduceEqDiff, Nat.reduceLT, reduceIte, ite_true, ite_false, Nat.sub_zero, Nat.zero_le, true_and, and_true, and_self, true_or, or_true, if_true, if_false, true_implies, implies_true, not_true_eq_false, not_false_eq_true, false_implies, forall_const, ne_eq, or_self, and_false, false_and, Lt, Le, Eq', Cp, In, nI_add, nI_mul, nI_sub, nI_sub1, Neg0, bI_eq0, bI_eq1, bI_01, bft, up2_eq, up2_no, Bool.true_eq_false, Bool.false_eq_true, eq_self, m1_ne, m1_ne2, m1_lt, m1_le, lt_m1, m1_le2, bI_t, bI_f, LK_st, FGu hG, FY84u hY84, hc8, hd0])
      refine copy_T hB1 hc (by omega) fun I2 L2 P2 hT => ?_
      have hG := hT.fg
      have hY84 := hT.y
      (apply WP_runI (lv := lvK) (F := LK) LK_ok 6 40; simp (disch := first | decide | omega) only [t17_0, lift_c, o_inl, o_istore, s1_0, s1_s, o_iload5, o_icge, o_aload0, o_getref, o_aload1, o_virt2, rpush_n, rpush_s, o_virt3, o_iload3, o_virt1, o_iload2, o_stat2, o_ifeq, o_iinc4, o_iinc5, o_goto, o_iload4, o_ireturn, z0, z1, z2, z8, z9, z20, z31, runI_0, runI_c, runI_n, liftI_n, liftI_y, run_0, run_c, run_n, fxn, fxi, fxr, fxl, fxl0, ↓swi_n, ↓swi_c, nck0, nck1, nck2, nck3, List.length_cons, List.length_nil, Nat.reduceAdd, Nat.reduceSub, Nat.reduceLeDiff, Nat.reduceEqDiff, Nat.reduceLT, reduceIte, ite_true, ite_false, Nat.sub_zero, Nat.zero_le, true_and, and_true, and_self, true_or, or_true, if_true, if_false, true_implies, implies_true, not_true_eq_false, not_false_eq_true, false_implies, forall_const, ne_eq, or_self, and_false, false_and, Lt, Le, Eq', Cp, In, nI_add, nI_mul, nI_sub, nI_sub1, Neg0, bI_eq0, bI_eq1, bI_01, bft, up2_eq, up2_no, Bool.true_eq_false, Bool.false_eq_true, eq_self, m1_ne, m1_ne2, m1_lt, m1_le, lt_m1, m1_le2, bI_t, bI_f, LK_st, FGu hG, FY84u hY84, hd0])
      refine addG_T hT hc8' (by omega) hW2 fun I3 hT3 => ?_
      (apply WP_runI (lv := lvK) (F := LK) LK_ok 6 40; simp (disch := first | decide | omega) only [t17_0, lift_c, o_inl, o_istore, s1_0, s1_s, o_iload5, o_icge, o_aload0, o_getref, o_aload1, o_virt2, rpush_n, rpush_s, o_virt3, o_iload3, o_virt1, o_iload2, o_stat2, o_ifeq, o_iinc4, o_iinc5, o_goto, o_iload4, o_ireturn, z0, z1, z2, z8, z9, z20, z31, runI_0, runI_c, runI_n, liftI_n, liftI_y, run_0, run_c, run_n, fxn, fxi, fxr, fxl, fxl0, ↓swi_n, ↓swi_c, nck0, nck1, nck2, nck3, List.length_cons, List.length_nil, Nat.reduceAdd, Nat.reduceSub, Nat.reduceLeDiff, Nat.reduceEqDiff, Nat.reduceLT, reduceIte, ite_true, ite_false, Nat.sub_zero, Nat.zero_le, true_and, and_true, and_self, true_or, or_true, if_true, if_false, true_implies, implies_true, not_true_eq_false, not_false_eq_true, false_implies, forall_const, ne_eq, or_self, and_false, false_and, Lt, Le, Eq', Cp, In, nI_add, nI_mul, nI_sub, nI_sub1, Neg0, bI_eq0, bI_eq1, bI_01, bft, up2_eq, up2_no, Bool.true_eq_false, Bool.false_eq_true, eq_self, m1_ne, m1_ne2, m1_lt, m1_le, lt_m1, m1_le2, bI_t, bI_f, LK_st, FGu hG, FY84u hY84, hd0])
      refine hours_T hT3 (by omega) (by omega) fun I4 hT4 => ?_
      (apply WP_runI (lv := lvK) (F := LK) LK_ok 6 40; simp (disch := first | decide | omega) only [t17_0, lift_c, o_inl, o_istore, s1_0, s1_s, o_iload5, o_icge, o_aload0, o_getref, o_aload1, o_virt2, rpush_n, rpush_s, o_virt3, o_iload3, o_virt1, o_iload2, o_stat2, o_ifeq, o_iinc4, o_iinc5, o_goto, o_iload4, o_ireturn, z0, z1, z2, z8, z9, z20, z31, runI_0, runI_c, runI_n, liftI_n, liftI_y, run_0, run_c, run_n, fxn, fxi, fxr, fxl, fxl0, ↓swi_n, ↓swi_c, nck0, nck1, nck2, nck3, List.length_cons, List.length_nil, Nat.reduceAdd, Nat.reduceSub, Nat.reduceLeDiff, Nat.reduceEqDiff, Nat.reduceLT, reduceIte, ite_true, ite_false, Nat.sub_zero, Nat.zero_le, true_and, and_true, and_self, true_or, or_true, if_true, if_false, true_implies, implies_true, not_true_eq_false, not_false_eq_true, false_implies, forall_const, ne_eq, or_self, and_false, false_and, Lt, Le, Eq', Cp, In, nI_add, nI_mul, nI_sub, nI_sub1, Neg0, bI_eq0, bI_eq1, bI_01, bft, up2_eq, up2_no, Bool.true_eq_false, Bool.false_eq_true, eq_self, m1_ne, m1_ne2, m1_lt, m1_le, lt_m1, m1_le2, bI_t, bI_f, LK_st, FGu hG, FY84u hY84, hd0])
      refine open_T hT4 (by omega) ?_
      have ih := fun cc ss => ih I4 L2 P2 cc ss hT4.1 hT4.2.1
      clear hT hT3 hT4 hW2
      generalize openS (hoursS F E (upN N c (mnS (N c + nI 9))) m) = o at ih ⊢
      cases hb : bt o x with
      | true =>
        rw [if_pos hb] at ih
        (apply WP_runI (lv := lvK) (F := LK) LK_ok 6 40; simp (disch := first | decide | omega) only [t17_0, lift_c, o_inl, o_istore, s1_0, s1_s, o_iload5, o_icge, o_aload0, o_getref, o_aload1, o_virt2, rpush_n, rpush_s, o_virt3, o_iload3, o_virt1, o_iload2, o_stat2, o_ifeq, o_iinc4, o_iinc5, o_goto, o_iload4, o_ireturn, z0, z1, z2, z8, z9, z20, z31, runI_0, runI_c, runI_n, liftI_n, liftI_y, run_0, run_c, run_n, fxn, fxi, fxr, fxl, fxl0, ↓swi_n, ↓swi_c, nck0, nck1, nck2, nck3, List.length_cons, List.length_nil, Nat.reduceAdd, Nat.reduceSub, Nat.reduceLeDiff, Nat.reduceEqDiff, Nat.reduceLT, reduceIte, ite_true, ite_false, Nat.sub_zero, Nat.zero_le, true_and, and_true, and_self, true_or, or_true, if_true, if_false, true_implies, implies_true, not_true_eq_false, not_false_eq_true, false_implies, forall_const, ne_eq, or_self, and_false, false_and, Lt, Le, Eq', Cp, In, nI_add, nI_mul, nI_sub, nI_sub1, Neg0, bI_eq0, bI_eq1, bI_01, bft, up2_eq, up2_no, Bool.true_eq_false, Bool.false_eq_true, eq_self, m1_ne, m1_ne2, m1_lt, m1_le, lt_m1, m1_le2, bI_t, bI_f, LK_st, FGu hG, FY84u hY84, hb, hd0])
        exact ih _ _
      | false =>
        rw [if_neg (by rw [hb]; decide), Nat.add_zero] at ih
        (apply WP_runI (lv := lvK) (F := LK) LK_ok 6 40; simp (disch := first | decide | omega) only [t17_0, lift_c, o_inl, o_istore, s1_0, s1_s, o_iload5, o_icge, o_aload0, o_getref, o_aload1, o_virt2, rpush_n, rpush_s, o_virt3, o_iload3, o_virt1, o_iload2, o_stat2, o_ifeq, o_iinc4, o_iinc5, o_goto, o_iload4, o_ireturn, z0, z1, z2, z8, z9, z20, z31, runI_0, runI_c, runI_n, liftI_n, liftI_y, run_0, run_c, run_n, fxn, fxi, fxr, fxl, fxl0, ↓swi_n, ↓swi_c, nck0, nck1, nck2, nck3, List.length_cons, List.length_nil, Nat.reduceAdd, Nat.reduceSub, Nat.reduceLeDiff, Nat.reduceEqDiff, Nat.reduceLT, reduceIte, ite_true, ite_false, Nat.sub_zero, Nat.zero_le, true_and, and_true, and_self, true_or, or_true, if_true, if_false, true_implies, implies_true, not_true_eq_false, not_false_eq_true, false_implies, forall_const, ne_eq, or_self, and_false, false_and, Lt, Le, Eq', Cp, In, nI_add, nI_mul, nI_sub, nI_sub1, Neg0, bI_eq0, bI_eq1, bI_01, bft, up2_eq, up2_no, Bool.true_eq_false, Bool.false_eq_true, eq_self, m1_ne, m1_ne2, m1_lt, m1_le, lt_m1, m1_le2, bI_t, bI_f, LK_st, FGu hG, FY84u hY84, hb, hd0])
        exact ih _ _
  have loop := fun cc ss => loop 8 0 I L P cc ss (by omega) CF.rf hB
  rw [odC] at loop
  (apply WP_runI (lv := lvK) (F := LK) LK_ok 6 20; simp (disch := first | decide | omega) only [t17_0, lift_c, o_inl, o_istore, s1_0, s1_s, o_iload5, o_icge, o_aload0, o_getref, o_aload1, o_virt2, rpush_n, rpush_s, o_virt3, o_iload3, o_virt1, o_iload2, o_stat2, o_ifeq, o_iinc4, o_iinc5, o_goto, o_iload4, o_ireturn, z0, z1, z2, z8, z9, z20, z31, runI_0, runI_c, runI_n, liftI_n, liftI_y, run_0, run_c, run_n, fxn, fxi, fxr, fxl, fxl0, ↓swi_n, ↓swi_c, nck0, nck1, nck2, nck3, List.length_cons, List.length_nil, Nat.reduceAdd, Nat.reduceSub, Nat.reduceLeDiff, Nat.reduceEqDiff, Nat.reduceLT, reduceIte, ite_true, ite_false, Nat.sub_zero, Nat.zero_le, true_and, and_true, and_self, true_or, or_true, if_true, if_false, true_implies, implies_true, not_true_eq_false, not_false_eq_true, false_implies, forall_const, ne_eq, or_self, and_false, false_and, Lt, Le, Eq', Cp, In, nI_add, nI_mul, nI_sub, nI_sub1, Neg0, bI_eq0, bI_eq1, bI_01, bft, up2_eq, up2_no, Bool.true_eq_false, Bool.false_eq_true, eq_self, m1_ne, m1_ne2, m1_lt, m1_le, lt_m1, m1_le2, bI_t, bI_f, LK_st])
  exact loop _ _
end
