/-! ### the class: from, can, plans -/
section
variable {G : GE} {d n : Nat} {sh : TS} {I0 I : TI} {L0 L : TL} {P0 P : TP} {Q : TQ} {N M : TN} {F : TF} {E : Nat → Int32} {k g r : Nat}
theorem courtsAsSeen_T (hB : CB sh I P N F E k g r) (hR : RD I N) (hS : WS N k) {i : Nat} (hi : i < k) (hd : 10 ≤ d) (hQ : ∀ I' L' P', CF I L P I' L' P' → Q (some (.int (fitL F E N (26 + 9 * i + 2) 8))) n sh I' L' P') : Cl G d 18 [.ref 83, .ref 21, .int (nI i)] n sh I L P Q := by
  apply e18
  have hd0 : 0 < d := by omega
  have hk := hB.2.2.1.k6
  have loop : ∀ l c I1 L1 P1 cc ss, c + l = 8 → CF I L P I1 L1 P1 → CB sh I1 P1 N F E k g r → WP G 18 d Q 5 [some (.ref 83), some (.ref 21), some (.int (nI i)), some (.int (fitL F E N (26 + 9 * i + 2) c)), some (.int (nI c))] [] cc ss n sh I1 L1 P1 := by
    intro l
    induction l with
    | zero =>
      intro c I1 L1 P1 cc ss h hc hB1
      have hc8 : 8 ≤ c := by omega
      have hQ := hQ I1 L1 P1 hc
      rw [show fitL F E N (26 + 9 * i + 2) 8 = fitL F E N (26 + 9 * i + 2) c by rw [show c = 8 by omega]] at hQ
      generalize fitL F E N (26 + 9 * i + 2) c = a at hQ ⊢
      (apply WP_runI (lv := lvK) (F := LK) LK_ok 5 20; simp (disch := first | decide | omega) only [t18_0, lift_c, o_inl, o_istore, s1_0, s1_s, o_iload4, o_icge, o_aload0, o_getref, o_aload1, o_virt2, rpush_n, rpush_s, o_iload2, o_aaload, o_putfield, o_ifeq, o_iload3, o_ishl, o_ior, o_iinc4, o_goto, o_ireturn, z0, z1, z2, z8, z20, z31, runI_0, runI_c, runI_n, liftI_n, liftI_y, run_0, run_c, run_n, fxn, fxi, fxr, fxl, fxl0, ↓swi_n, ↓swi_c, nck0, nck1, nck2, nck3, List.length_cons, List.length_nil, Nat.reduceAdd, Nat.reduceSub, Nat.reduceLeDiff, Nat.reduceEqDiff, Nat.reduceLT, reduceIte, ite_true, ite_false, Nat.sub_zero, Nat.zero_le, true_and, and_true, and_self, true_or, or_true, if_true, if_false, true_implies, implies_true, not_true_eq_false, not_false_eq_true, false_implies, forall_const, ne_eq, or_self, and_false, false_and, Lt, Le, Eq', Cp, In, nI_add, nI_mul, nI_sub, nI_sub1, Neg0, bI_eq0, bI_eq1, bI_01, bft, up2_eq, up2_no, Bool.true_eq_false, Bool.false_eq_true, eq_self, m1_ne, m1_ne2, m1_lt, m1_le, lt_m1, m1_le2, bI_t, bI_f, LK_st, hc8])
      exact hQ
    | succ l ih =>
      intro c I1 L1 P1 cc ss h hc hB1
      have hc8 : ¬ 8 ≤ c := by omega
      have hG := hB1.fg
      have hY84 := hB1.y84
      have hWv := hB.2.2.1.court_up (i := i) (c := c) hi (by omega)
      have ih := fun I4 L4 P4 cc ss => ih (c + 1) I4 L4 P4 cc ss (by omega)
      rw [fitL] at ih
      unfold p2 at ih
      generalize fitL F E N (26 + 9 * i + 2) c = a at ih ⊢
      (apply WP_runI (lv := lvK) (F := LK) LK_ok 5 40; simp (disch := first | decide | omega) only [t18_0, lift_c, o_inl, o_istore, s1_0, s1_s, o_iload4, o_icge, o_aload0, o_getref, o_aload1, o_virt2, rpush_n, rpush_s, o_iload2, o_aaload, o_putfield, o_ifeq, o_iload3, o_ishl, o_ior, o_iinc4, o_goto, o_ireturn, z0, z1, z2, z8, z20, z31, runI_0, runI_c, runI_n, liftI_n, liftI_y, run_0, run_c, run_n, fxn, fxi, fxr, fxl, fxl0, ↓swi_n, ↓swi_c, nck0, nck1, nck2, nck3, List.length_cons, List.length_nil, Nat.reduceAdd, Nat.reduceSub, Nat.reduceLeDiff, Nat.reduceEqDiff, Nat.reduceLT, reduceIte, ite_true, ite_false, Nat.sub_zero, Nat.zero_le, true_and, and_true, and_self, true_or, or_true, if_true, if_false, true_implies, implies_true, not_true_eq_false, not_false_eq_true, false_implies, forall_const, ne_eq, or_self, and_false, false_and, Lt, Le, Eq', Cp, In, nI_add, nI_mul, nI_sub, nI_sub1, Neg0, bI_eq0, bI_eq1, bI_01, bft, up2_eq, up2_no, Bool.true_eq_false, Bool.false_eq_true, eq_self, m1_ne, m1_ne2, m1_lt, m1_le, lt_m1, m1_le2, bI_t, bI_f, LK_st, FGu hG, FY84u hY84, hc8, hd0])
      refine copy_T hB1 hc (by omega) fun I2 L2 P2 hT => ?_
      have hG := hT.fg
      have hY84 := hT.y
      have hT3 := goose_T hT (i := i) (w := 2) (v := nI c) hi (by omega) hWv
      have hT3 : TT sh I L P (up2 I2 (90 + 2 * i) 2 (nI c)) L2 P2 N (upN N (26 + 9 * i + 2) (nI c)) F E k g r := hT3
      have hR3 : RD (up2 I2 (90 + 2 * i) 2 (nI c)) N := hR.cf hT3.1.1
      have run1 : ∀ cc ss, Cl G (d - 1) 20 [.ref 83, .ref 40] n sh (up2 I2 (90 + 2 * i) 2 (nI c)) L2 P2 (fun v n' sh' I' L' P' => WP G 18 d Q 45 [some (.ref 83), some (.ref 21), some (.int (nI i)), some (.int a), some (.int (nI c))] (rpush v []) cc ss n' sh' I' L' P') := by
        intro cc ss
        refine asSeen_T hT3 hR3 hS (fun p hp => upN_no _ _ _ _ (by omega)) (by omega) fun I4 hc4 hB4 => ?_
        have ih := fun cc ss => ih I4 L2 P2 cc ss hc4 hB4
        clear hT3 hT hR3
        cases hb : seA F E (upN N (26 + 9 * i + 2) (nI c)) with
        | true =>
          rw [hb, if_pos rfl] at ih
          (apply WP_runI (lv := lvK) (F := LK) LK_ok 5 40; simp (disch := first | decide | omega) only [t18_0, lift_c, o_inl, o_istore, s1_0, s1_s, o_iload4, o_icge, o_aload0, o_getref, o_aload1, o_virt2, rpush_n, rpush_s, o_iload2, o_aaload, o_putfield, o_ifeq, o_iload3, o_ishl, o_ior, o_iinc4, o_goto, o_ireturn, z0, z1, z2, z8, z20, z31, runI_0, runI_c, runI_n, liftI_n, liftI_y, run_0, run_c, run_n, fxn, fxi, fxr, fxl, fxl0, ↓swi_n, ↓swi_c, nck0, nck1, nck2, nck3, List.length_cons, List.length_nil, Nat.reduceAdd, Nat.reduceSub, Nat.reduceLeDiff, Nat.reduceEqDiff, Nat.reduceLT, reduceIte, ite_true, ite_false, Nat.sub_zero, Nat.zero_le, true_and, and_true, and_self, true_or, or_true, if_true, if_false, true_implies, implies_true, not_true_eq_false, not_false_eq_true, false_implies, forall_const, ne_eq, or_self, and_false, false_and, Lt, Le, Eq', Cp, In, nI_add, nI_mul, nI_sub, nI_sub1, Neg0, bI_eq0, bI_eq1, bI_01, bft, up2_eq, up2_no, Bool.true_eq_false, Bool.false_eq_true, eq_self, m1_ne, m1_ne2, m1_lt, m1_le, lt_m1, m1_le2, bI_t, bI_f, LK_st])
          exact ih _ _
        | false =>
          rw [hb, if_neg (by decide), or0] at ih
          (apply WP_runI (lv := lvK) (F := LK) LK_ok 5 40; simp (disch := first | decide | omega) only [t18_0, lift_c, o_inl, o_istore, s1_0, s1_s, o_iload4, o_icge, o_aload0, o_getref, o_aload1, o_virt2, rpush_n, rpush_s, o_iload2, o_aaload, o_putfield, o_ifeq, o_iload3, o_ishl, o_ior, o_iinc4, o_goto, o_ireturn, z0, z1, z2, z8, z20, z31, runI_0, runI_c, runI_n, liftI_n, liftI_y, run_0, run_c, run_n, fxn, fxi, fxr, fxl, fxl0, ↓swi_n, ↓swi_c, nck0, nck1, nck2, nck3, List.length_cons, List.length_nil, Nat.reduceAdd, Nat.reduceSub, Nat.reduceLeDiff, Nat.reduceEqDiff, Nat.reduceLT, reduceIte, ite_true, ite_false, Nat.sub_zero, Nat.zero_le, true_and, and_true, and_self, true_or, or_true, if_true, if_false, true_implies, implies_true, not_true_eq_false, not_false_eq_true, false_implies, forall_const, ne_eq, or_self, and_false, false_and, Lt, Le, Eq', Cp, In, nI_add, nI_mul, nI_sub, nI_sub1, Neg0, bI_eq0, bI_eq1, bI_01, bft, up2_eq, up2_no, Bool.true_eq_false, Bool.false_eq_true, eq_self, m1_ne, m1_ne2, m1_lt, m1_le, lt_m1, m1_le2, bI_t, bI_f, LK_st])
          exact ih _ _
      clear hT3 hT hR3 ih
      (apply WP_runI (lv := lvK) (F := LK) LK_ok 5 60; simp (disch := first | decide | omega) only [t18_0, lift_c, o_inl, o_istore, s1_0, s1_s, o_iload4, o_icge, o_aload0, o_getref, o_aload1, o_virt2, rpush_n, rpush_s, o_iload2, o_aaload, o_putfield, o_ifeq, o_iload3, o_ishl, o_ior, o_iinc4, o_goto, o_ireturn, z0, z1, z2, z8, z20, z31, runI_0, runI_c, runI_n, liftI_n, liftI_y, run_0, run_c, run_n, fxn, fxi, fxr, fxl, fxl0, ↓swi_n, ↓swi_c, nck0, nck1, nck2, nck3, List.length_cons, List.length_nil, Nat.reduceAdd, Nat.reduceSub, Nat.reduceLeDiff, Nat.reduceEqDiff, Nat.reduceLT, reduceIte, ite_true, ite_false, Nat.sub_zero, Nat.zero_le, true_and, and_true, and_self, true_or, or_true, if_true, if_false, true_implies, implies_true, not_true_eq_false, not_false_eq_true, false_implies, forall_const, ne_eq, or_self, and_false, false_and, Lt, Le, Eq', Cp, In, nI_add, nI_mul, nI_sub, nI_sub1, Neg0, bI_eq0, bI_eq1, bI_01, bft, up2_eq, up2_no, Bool.true_eq_false, Bool.false_eq_true, eq_self, m1_ne, m1_ne2, m1_lt, m1_le, lt_m1, m1_le2, bI_t, bI_f, LK_st, FGu hG, FY84u hY84, hd0])
      exact run1 _ _
  have loop := fun cc ss => loop 8 0 I L P cc ss (by omega) CF.rf hB
  rw [fitL] at loop
  (apply WP_runI (lv := lvK) (F := LK) LK_ok 5 20; simp (disch := first | decide | omega) only [t18_0, lift_c, o_inl, o_istore, s1_0, s1_s, o_iload4, o_icge, o_aload0, o_getref, o_aload1, o_virt2, rpush_n, rpush_s, o_iload2, o_aaload, o_putfield, o_ifeq, o_iload3, o_ishl, o_ior, o_iinc4, o_goto, o_ireturn, z0, z1, z2, z8, z20, z31, runI_0, runI_c, runI_n, liftI_n, liftI_y, run_0, run_c, run_n, fxn, fxi, fxr, fxl, fxl0, ↓swi_n, ↓swi_c, nck0, nck1, nck2, nck3, List.length_cons, List.length_nil, Nat.reduceAdd, Nat.reduceSub, Nat.reduceLeDiff, Nat.reduceEqDiff, Nat.reduceLT, reduceIte, ite_true, ite_false, Nat.sub_zero, Nat.zero_le, true_and, and_true, and_self, true_or, or_true, if_true, if_false, true_implies, implies_true, not_true_eq_false, not_false_eq_true, false_implies, forall_const, ne_eq, or_self, and_false, false_and, Lt, Le, Eq', Cp, In, nI_add, nI_mul, nI_sub, nI_sub1, Neg0, bI_eq0, bI_eq1, bI_01, bft, up2_eq, up2_no, Bool.true_eq_false, Bool.false_eq_true, eq_self, m1_ne, m1_ne2, m1_lt, m1_le, lt_m1, m1_le2, bI_t, bI_f, LK_st])
  exact loop _ _
theorem numbersAsSeen_T (hB : CB sh I P N F E k g r) (hR : RD I N) (hS : WS N k) {i : Nat} (hi : i < k) (hd : 10 ≤ d) (hQ : ∀ I' L' P', CF I L P I' L' P' → Q (some (.int (fitL F E N (26 + 9 * i + 1) 10))) n sh I' L' P') : Cl G d 19 [.ref 83, .ref 21, .int (nI i)] n sh I L P Q := by
  apply e19
  have hd0 : 0 < d := by omega
  have hk := hB.2.2.1.k6
  have loop : ∀ l c I1 L1 P1 cc ss, c + l = 10 → CF I L P I1 L1 P1 → CB sh I1 P1 N F E k g r → WP G 19 d Q 5 [some (.ref 83), some (.ref 21), some (.int (nI i)), some (.int (fitL F E N (26 + 9 * i + 1) c)), some (.int (nI c))] [] cc ss n sh I1 L1 P1 := by
    intro l
    induction l with
    | zero =>
      intro c I1 L1 P1 cc ss h hc hB1
      have hc8 : 9 < c := by omega
      have hQ := hQ I1 L1 P1 hc
      rw [show fitL F E N (26 + 9 * i + 1) 10 = fitL F E N (26 + 9 * i + 1) c by rw [show c = 10 by omega]] at hQ
      generalize fitL F E N (26 + 9 * i + 1) c = a at hQ ⊢
      (apply WP_runI (lv := lvK) (F := LK) LK_ok 5 20; simp (disch := first | decide | omega) only [t19_0, lift_c, o_inl, o_istore, s1_0, s1_s, o_iload4, o_icgt, o_aload0, o_getref, o_aload1, o_virt2, rpush_n, rpush_s, o_iload2, o_aaload, o_putfield, o_ifeq, o_iload3, o_ishl, o_ior, o_iinc4, o_goto, o_ireturn, z0, z1, z2, z9, z20, z31, runI_0, runI_c, runI_n, liftI_n, liftI_y, run_0, run_c, run_n, fxn, fxi, fxr, fxl, fxl0, ↓swi_n, ↓swi_c, nck0, nck1, nck2, nck3, List.length_cons, List.length_nil, Nat.reduceAdd, Nat.reduceSub, Nat.reduceLeDiff, Nat.reduceEqDiff, Nat.reduceLT, reduceIte, ite_true, ite_false, Nat.sub_zero, Nat.zero_le, true_and, and_true, and_self, true_or, or_true, if_true, if_false, true_implies, implies_true, not_true_eq_false, not_false_eq_true, false_implies, forall_const, ne_eq, or_self, and_false, false_and, Lt, Le, Eq', Cp, In, nI_add, nI_mul, nI_sub, nI_sub1, Neg0, bI_eq0, bI_eq1, bI_01, bft, up2_eq, up2_no, Bool.true_eq_false, Bool.false_eq_true, eq_self, m1_ne, m1_ne2, m1_lt, m1_le, lt_m1, m1_le2, bI_t, bI_f, LK_st, hc8])
      exact hQ
    | succ l ih =>
      intro c I1 L1 P1 cc ss h hc hB1
      have hc8 : ¬ 9 < c := by omega
      have hG := hB1.fg
      have hY84 := hB1.y84
      have hWv := hB.2.2.1.v_up (i := i) (c := c) hi (by omega)
      have ih := fun I4 L4 P4 cc ss => ih (c + 1) I4 L4 P4 cc ss (by omega)
      rw [fitL] at ih
      unfold p2 at ih
      generalize fitL F E N (26 + 9 * i + 1) c = a at ih ⊢
      (apply WP_runI (lv := lvK) (F := LK) LK_ok 5 40; simp (disch := first | decide | omega) only [t19_0, lift_c, o_inl, o_istore, s1_0, s1_s, o_iload4, o_icgt, o_aload0, o_getref, o_aload1, o_virt2, rpush_n, rpush_s, o_iload2, o_aaload, o_putfield, o_ifeq, o_iload3, o_ishl, o_ior, o_iinc4, o_goto, o_ireturn, z0, z1, z2, z9, z20, z31, runI_0, runI_c, runI_n, liftI_n, liftI_y, run_0, run_c, run_n, fxn, fxi, fxr, fxl, fxl0, ↓swi_n, ↓swi_c, nck0, nck1, nck2, nck3, List.length_cons, List.length_nil, Nat.reduceAdd, Nat.reduceSub, Nat.reduceLeDiff, Nat.reduceEqDiff, Nat.reduceLT, reduceIte, ite_true, ite_false, Nat.sub_zero, Nat.zero_le, true_and, and_true, and_self, true_or, or_true, if_true, if_false, true_implies, implies_true, not_true_eq_false, not_false_eq_true, false_implies, forall_const, ne_eq, or_self, and_false, false_and, Lt, Le, Eq', Cp, In, nI_add, nI_mul, nI_sub, nI_sub1, Neg0, bI_eq0, bI_eq1, bI_01, bft, up2_eq, up2_no, Bool.true_eq_false, Bool.false_eq_true, eq_self, m1_ne, m1_ne2, m1_lt, m1_le, lt_m1, m1_le2, bI_t, bI_f, LK_st, FGu hG, FY84u hY84, hc8, hd0])
      refine copy_T hB1 hc (by omega) fun I2 L2 P2 hT => ?_
      have hG := hT.fg
      have hY84 := hT.y
      have hT3 := goose_T hT (i := i) (w := 1) (v := nI c) hi (by omega) hWv
      have hT3 : TT sh I L P (up2 I2 (90 + 2 * i) 1 (nI c)) L2 P2 N (upN N (26 + 9 * i + 1) (nI c)) F E k g r := hT3
      have hR3 : RD (up2 I2 (90 + 2 * i) 1 (nI c)) N := hR.cf hT3.1.1
      have run1 : ∀ cc ss, Cl G (d - 1) 20 [.ref 83, .ref 40] n sh (up2 I2 (90 + 2 * i) 1 (nI c)) L2 P2 (fun v n' sh' I' L' P' => WP G 19 d Q 45 [some (.ref 83), some (.ref 21), some (.int (nI i)), some (.int a), some (.int (nI c))] (rpush v []) cc ss n' sh' I' L' P') := by
        intro cc ss
        refine asSeen_T hT3 hR3 hS (fun p hp => upN_no _ _ _ _ (by omega)) (by omega) fun I4 hc4 hB4 => ?_
        have ih := fun cc ss => ih I4 L2 P2 cc ss hc4 hB4
        clear hT3 hT hR3
        cases hb : seA F E (upN N (26 + 9 * i + 1) (nI c)) with
        | true =>
          rw [hb, if_pos rfl] at ih
          (apply WP_runI (lv := lvK) (F := LK) LK_ok 5 40; simp (disch := first | decide | omega) only [t19_0, lift_c, o_inl, o_istore, s1_0, s1_s, o_iload4, o_icgt, o_aload0, o_getref, o_aload1, o_virt2, rpush_n, rpush_s, o_iload2, o_aaload, o_putfield, o_ifeq, o_iload3, o_ishl, o_ior, o_iinc4, o_goto, o_ireturn, z0, z1, z2, z9, z20, z31, runI_0, runI_c, runI_n, liftI_n, liftI_y, run_0, run_c, run_n, fxn, fxi, fxr, fxl, fxl0, ↓swi_n, ↓swi_c, nck0, nck1, nck2, nck3, List.length_cons, List.length_nil, Nat.reduceAdd, Nat.reduceSub, Nat.reduceLeDiff, Nat.reduceEqDiff, Nat.reduceLT, reduceIte, ite_true, ite_false, Nat.sub_zero, Nat.zero_le, true_and, and_true, and_self, true_or, or_true, if_true, if_false, true_implies, implies_true, not_true_eq_false, not_false_eq_true, false_implies, forall_const, ne_eq, or_self, and_false, false_and, Lt, Le, Eq', Cp, In, nI_add, nI_mul, nI_sub, nI_sub1, Neg0, bI_eq0, bI_eq1, bI_01, bft, up2_eq, up2_no, Bool.true_eq_false, Bool.false_eq_true, eq_self, m1_ne, m1_ne2, m1_lt, m1_le, lt_m1, m1_le2, bI_t, bI_f, LK_st])
          exact ih _ _
        | false =>
          rw [hb, if_neg (by decide), or0] at ih
          (apply WP_runI (lv := lvK) (F := LK) LK_ok 5 40; simp (disch := first | decide | omega) only [t19_0, lift_c, o_inl, o_istore, s1_0, s1_s, o_iload4, o_icgt, o_aload0, o_getref, o_aload1, o_virt2, rpush_n, rpush_s, o_iload2, o_aaload, o_putfield, o_ifeq, o_iload3, o_ishl, o_ior, o_iinc4, o_goto, o_ireturn, z0, z1, z2, z9, z20, z31, runI_0, runI_c, runI_n, liftI_n, liftI_y, run_0, run_c, run_n, fxn, fxi, fxr, fxl, fxl0, ↓swi_n, ↓swi_c, nck0, nck1, nck2, nck3, List.length_cons, List.length_nil, Nat.reduceAdd, Nat.reduceSub, Nat.reduceLeDiff, Nat.reduceEqDiff, Nat.reduceLT, reduceIte, ite_true, ite_false, Nat.sub_zero, Nat.zero_le, true_and, and_true, and_self, true_or, or_true, if_true, if_false, true_implies, implies_true, not_true_eq_false, not_false_eq_true, false_implies, forall_const, ne_eq, or_self, and_false, false_and, Lt, Le, Eq', Cp, In, nI_add, nI_mul, nI_sub, nI_sub1, Neg0, bI_eq0, bI_eq1, bI_01, bft, up2_eq, up2_no, Bool.true_eq_false, Bool.false_eq_true, eq_self, m1_ne, m1_ne2, m1_lt, m1_le, lt_m1, m1_le2, bI_t, bI_f, LK_st])
          exact ih _ _
      clear hT3 hT hR3 ih
      (apply WP_runI (lv := lvK) (F := LK) LK_ok 5 60; simp (disch := first | decide | omega) only [t19_0, lift_c, o_inl, o_istore, s1_0, s1_s, o_iload4, o_icgt, o_aload0, o_getref, o_aload1, o_virt2, rpush_n, rpush_s, o_iload2, o_aaload, o_putfield, o_ifeq, o_iload3, o_ishl, o_ior, o_iinc4, o_goto, o_ireturn, z0, z1, z2, z9, z20, z31, runI_0, runI_c, runI_n, liftI_n, liftI_y, run_0, run_c, run_n, fxn, fxi, fxr, fxl, fxl0, ↓swi_n, ↓swi_c, nck0, nck1, nck2, nck3, List.length_cons, List.length_nil, Nat.reduceAdd, Nat.reduceSub, Nat.reduceLeDiff, Nat.reduceEqDiff, Nat.reduceLT, reduceIte, ite_true, ite_false, Nat.sub_zero, Nat.zero_le, true_and, and_true, and_self, true_or, or_true, if_true, if_false, true_implies, implies_true, not_true_eq_false, not_false_eq_true, false_implies, forall_const, ne_eq, or_self, and_false, false_and, Lt, Le, Eq', Cp, In, nI_add, nI_mul, nI_sub, nI_sub1, Neg0, bI_eq0, bI_eq1, bI_01, bft, up2_eq, up2_no, Bool.true_eq_false, Bool.false_eq_true, eq_self, m1_ne, m1_ne2, m1_lt, m1_le, lt_m1, m1_le2, bI_t, bI_f, LK_st, FGu hG, FY84u hY84, hd0])
      exact run1 _ _
  have loop := fun cc ss => loop 10 0 I L P cc ss (by omega) CF.rf hB
  rw [fitL] at loop
  (apply WP_runI (lv := lvK) (F := LK) LK_ok 5 20; simp (disch := first | decide | omega) only [t19_0, lift_c, o_inl, o_istore, s1_0, s1_s, o_iload4, o_icgt, o_aload0, o_getref, o_aload1, o_virt2, rpush_n, rpush_s, o_iload2, o_aaload, o_putfield, o_ifeq, o_iload3, o_ishl, o_ior, o_iinc4, o_goto, o_ireturn, z0, z1, z2, z9, z20, z31, runI_0, runI_c, runI_n, liftI_n, liftI_y, run_0, run_c, run_n, fxn, fxi, fxr, fxl, fxl0, ↓swi_n, ↓swi_c, nck0, nck1, nck2, nck3, List.length_cons, List.length_nil, Nat.reduceAdd, Nat.reduceSub, Nat.reduceLeDiff, Nat.reduceEqDiff, Nat.reduceLT, reduceIte, ite_true, ite_false, Nat.sub_zero, Nat.zero_le, true_and, and_true, and_self, true_or, or_true, if_true, if_false, true_implies, implies_true, not_true_eq_false, not_false_eq_true, false_implies, forall_const, ne_eq, or_self, and_false, false_and, Lt, Le, Eq', Cp, In, nI_add, nI_mul, nI_sub, nI_sub1, Neg0, bI_eq0, bI_eq1, bI_01, bft, up2_eq, up2_no, Bool.true_eq_false, Bool.false_eq_true, eq_self, m1_ne, m1_ne2, m1_lt, m1_le, lt_m1, m1_le2, bI_t, bI_f, LK_st])
  exact loop _ _
theorem planned_T (hB : CB sh I P N F E k g r) (hR : RD I N) (hS : WS N k) (hd : 10 ≤ d) (hQ : ∀ I' L' P', TT sh I L P I' L' P' N (plS F E N (N 100).toNatClampNeg) F E k g r → Q (some (.ref 84)) n sh I' L' P') : Cl G d 21 [.ref 83, .ref 21] n sh I L P Q := by
  apply e21
  have hd0 : 0 < d := by omega
  have hk := hB.2.2.1.k6
  obtain ⟨s, hs10, hs, hrow⟩ := hS.2.1
  rw [hs, Cp _ (by omega)] at hQ
  have hG := hB.fg
  have hY84 := hB.y84
  (apply WP_runI (lv := lvK) (F := LK) LK_ok 13 20; simp (disch := first | decide | omega) only [t21_0, t21_1, lift_c, o_aload0, o_getref, o_aload1, o_virt2, rpush_n, rpush_s, o_inl, o_istore, s1_0, s1_s, o_iload2, o_getfield, o_icge, o_iaload, o_lookup, o_virt1, o_goto, o_iload3, o_virt3, o_aaload, o_icne, o_putbool, o_iinc2, o_areturn, z0, z1, z2, z9, z20, z31, runI_0, runI_c, runI_n, liftI_n, liftI_y, run_0, run_c, run_n, fxn, fxi, fxr, fxl, fxl0, ↓swi_n, ↓swi_c, nck0, nck1, nck2, nck3, List.length_cons, List.length_nil, Nat.reduceAdd, Nat.reduceSub, Nat.reduceLeDiff, Nat.reduceEqDiff, Nat.reduceLT, reduceIte, ite_true, ite_false, Nat.sub_zero, Nat.zero_le, true_and, and_true, and_self, true_or, or_true, if_true, if_false, true_implies, implies_true, not_true_eq_false, not_false_eq_true, false_implies, forall_const, ne_eq, or_self, and_false, false_and, Lt, Le, Eq', Cp, In, nI_add, nI_mul, nI_sub, nI_sub1, Neg0, bI_eq0, bI_eq1, bI_01, bft, up2_eq, up2_no, Bool.true_eq_false, Bool.false_eq_true, eq_self, m1_ne, m1_ne2, m1_lt, m1_le, lt_m1, m1_le2, bI_t, bI_f, LK_st, FGu hG, FY84u hY84, hd0])
  refine copy_T hB CF.rf (by omega) fun I1 L1 P1 hT => ?_
  have hG := hT.fg
  have hY84 := hT.y
  have hr44 := FR44 hT.2.1.r44
  have n84 : ¬ neq 84 1 := by show ¬ 84 = 1; decide
  have loop : ∀ l j I2 o3 cc ss, j + l = s → TT sh I L P I2 L1 P1 N (plS F E N j) F E k g r → WP G 21 d Q 13 [some (.ref 83), some (.ref 21), some (.int (nI j)), o3] [] cc ss n sh I2 L1 P1 := by
    intro l
    induction l with
    | zero =>
      intro j I2 o3 cc ss h hT2
      have hj : j = s := by omega
      subst hj
      have e3 : I2 44 3 = nI j := (hR.cf hT2.1.1).2.1.trans hs
      have hQ := hQ I2 L1 P1 hT2
      (apply WP_runI (lv := lvK) (F := LK) LK_ok 13 20; simp (disch := first | decide | omega) only [t21_0, t21_1, lift_c, o_aload0, o_getref, o_aload1, o_virt2, rpush_n, rpush_s, o_inl, o_istore, s1_0, s1_s, o_iload2, o_getfield, o_icge, o_iaload, o_lookup, o_virt1, o_goto, o_iload3, o_virt3, o_aaload, o_icne, o_putbool, o_iinc2, o_areturn, z0, z1, z2, z9, z20, z31, runI_0, runI_c, runI_n, liftI_n, liftI_y, run_0, run_c, run_n, fxn, fxi, fxr, fxl, fxl0, ↓swi_n, ↓swi_c, nck0, nck1, nck2, nck3, List.length_cons, List.length_nil, Nat.reduceAdd, Nat.reduceSub, Nat.reduceLeDiff, Nat.reduceEqDiff, Nat.reduceLT, reduceIte, ite_true, ite_false, Nat.sub_zero, Nat.zero_le, true_and, and_true, and_self, true_or, or_true, if_true, if_false, true_implies, implies_true, not_true_eq_false, not_false_eq_true, false_implies, forall_const, ne_eq, or_self, and_false, false_and, Lt, Le, Eq', Cp, In, nI_add, nI_mul, nI_sub, nI_sub1, Neg0, bI_eq0, bI_eq1, bI_01, bft, up2_eq, up2_no, Bool.true_eq_false, Bool.false_eq_true, eq_self, m1_ne, m1_ne2, m1_lt, m1_le, lt_m1, m1_le2, bI_t, bI_f, LK_st, FGu hG, FY84u hY84, hr44, e3, Nat.le_refl, n84])
      exact hQ
    | succ l ih =>
      intro j I2 o3 cc ss h hT2
      have hj : ¬ s ≤ j := by omega
      have hR2 := hR.cf hT2.1.1
      have e3 : I2 44 3 = nI s := hR2.2.1.trans hs
      obtain ⟨t, ht, et, h1, h2⟩ := hrow j (by omega)
      obtain ⟨r1, r2⟩ := hR2.2.2.2.2.1 s (by omega) hs j (by omega)
      rw [et] at r1
      have hW := hT2.2.2.2
      by_cases t0 : t = 0
      · subst t0
        generalize hv : N (102 + 2 * j) = v at r2
        have ih := fun I3 o3 cc ss => ih (j + 1) I3 o3 cc ss (by omega)
        rw [plS, et, if_pos rfl] at ih
        (apply WP_runI (lv := lvK) (F := LK) LK_ok 13 40; simp (disch := first | decide | omega) only [t21_0, t21_1, lift_c, o_aload0, o_getref, o_aload1, o_virt2, rpush_n, rpush_s, o_inl, o_istore, s1_0, s1_s, o_iload2, o_getfield, o_icge, o_iaload, o_lookup, o_virt1, o_goto, o_iload3, o_virt3, o_aaload, o_icne, o_putbool, o_iinc2, o_areturn, z0, z1, z2, z9, z20, z31, runI_0, runI_c, runI_n, liftI_n, liftI_y, run_0, run_c, run_n, fxn, fxi, fxr, fxl, fxl0, ↓swi_n, ↓swi_c, nck0, nck1, nck2, nck3, List.length_cons, List.length_nil, Nat.reduceAdd, Nat.reduceSub, Nat.reduceLeDiff, Nat.reduceEqDiff, Nat.reduceLT, reduceIte, ite_true, ite_false, Nat.sub_zero, Nat.zero_le, true_and, and_true, and_self, true_or, or_true, if_true, if_false, true_implies, implies_true, not_true_eq_false, not_false_eq_true, false_implies, forall_const, ne_eq, or_self, and_false, false_and, Lt, Le, Eq', Cp, In, nI_add, nI_mul, nI_sub, nI_sub1, Neg0, bI_eq0, bI_eq1, bI_01, bft, up2_eq, up2_no, Bool.true_eq_false, Bool.false_eq_true, eq_self, m1_ne, m1_ne2, m1_lt, m1_le, lt_m1, m1_le2, bI_t, bI_f, LK_st, FGu hG, FY84u hY84, hr44, e3, hj, r1, r2, hd0])
        refine hour_T hT2 (by omega) fun I3 hT3 => ?_
        have ih := fun o3 cc ss => ih I3 o3 cc ss hT3
        (apply WP_runI (lv := lvK) (F := LK) LK_ok 13 20; simp (disch := first | decide | omega) only [t21_0, t21_1, lift_c, o_aload0, o_getref, o_aload1, o_virt2, rpush_n, rpush_s, o_inl, o_istore, s1_0, s1_s, o_iload2, o_getfield, o_icge, o_iaload, o_lookup, o_virt1, o_goto, o_iload3, o_virt3, o_aaload, o_icne, o_putbool, o_iinc2, o_areturn, z0, z1, z2, z9, z20, z31, runI_0, runI_c, runI_n, liftI_n, liftI_y, run_0, run_c, run_n, fxn, fxi, fxr, fxl, fxl0, ↓swi_n, ↓swi_c, nck0, nck1, nck2, nck3, List.length_cons, List.length_nil, Nat.reduceAdd, Nat.reduceSub, Nat.reduceLeDiff, Nat.reduceEqDiff, Nat.reduceLT, reduceIte, ite_true, ite_false, Nat.sub_zero, Nat.zero_le, true_and, and_true, and_self, true_or, or_true, if_true, if_false, true_implies, implies_true, not_true_eq_false, not_false_eq_true, false_implies, forall_const, ne_eq, or_self, and_false, false_and, Lt, Le, Eq', Cp, In, nI_add, nI_mul, nI_sub, nI_sub1, Neg0, bI_eq0, bI_eq1, bI_01, bft, up2_eq, up2_no, Bool.true_eq_false, Bool.false_eq_true, eq_self, m1_ne, m1_ne2, m1_lt, m1_le, lt_m1, m1_le2, bI_t, bI_f, LK_st, FGu hG])
        exact ih _ _ _
      · by_cases t1 : t = 1
        · subst t1
          obtain ⟨c, hc, ec⟩ := h1 rfl
          rw [ec] at r2
          obtain ⟨u, hu, hu2⟩ := hW.grain hc
          have hW2 : WF (upN (plS F E N j) c (mnS (plS F E N j c + nI 9))) k g r := by
            obtain ⟨v, hv, e⟩ := mnS_ok (m := 9) hu (by omega)
            rw [hu2, e]
            exact hW.grain_up hc hv
          have ih := fun I3 o3 cc ss => ih (j + 1) I3 o3 cc ss (by omega)
          rw [plS, et, if_neg (by decide), if_pos rfl, ec, Cp _ (by omega)] at ih
          clear hu2
          (apply WP_runI (lv := lvK) (F := LK) LK_ok 13 40; simp (disch := first | decide | omega) only [t21_0, t21_1, lift_c, o_aload0, o_getref, o_aload1, o_virt2, rpush_n, rpush_s, o_inl, o_istore, s1_0, s1_s, o_iload2, o_getfield, o_icge, o_iaload, o_lookup, o_virt1, o_goto, o_iload3, o_virt3, o_aaload, o_icne, o_putbool, o_iinc2, o_areturn, z0, z1, z2, z9, z20, z31, runI_0, runI_c, runI_n, liftI_n, liftI_y, run_0, run_c, run_n, fxn, fxi, fxr, fxl, fxl0, ↓swi_n, ↓swi_c, nck0, nck1, nck2, nck3, List.length_cons, List.length_nil, Nat.reduceAdd, Nat.reduceSub, Nat.reduceLeDiff, Nat.reduceEqDiff, Nat.reduceLT, reduceIte, ite_true, ite_false, Nat.sub_zero, Nat.zero_le, true_and, and_true, and_self, true_or, or_true, if_true, if_false, true_implies, implies_true, not_true_eq_false, not_false_eq_true, false_implies, forall_const, ne_eq, or_self, and_false, false_and, Lt, Le, Eq', Cp, In, nI_add, nI_mul, nI_sub, nI_sub1, Neg0, bI_eq0, bI_eq1, bI_01, bft, up2_eq, up2_no, Bool.true_eq_false, Bool.false_eq_true, eq_self, m1_ne, m1_ne2, m1_lt, m1_le, lt_m1, m1_le2, bI_t, bI_f, LK_st, FGu hG, FY84u hY84, hr44, e3, hj, r1, r2, hd0])
          refine addG_T hT2 hc (by omega) hW2 fun I3 hT3 => ?_
          have ih := fun o3 cc ss => ih I3 o3 cc ss hT3
          (apply WP_runI (lv := lvK) (F := LK) LK_ok 13 20; simp (disch := first | decide | omega) only [t21_0, t21_1, lift_c, o_aload0, o_getref, o_aload1, o_virt2, rpush_n, rpush_s, o_inl, o_istore, s1_0, s1_s, o_iload2, o_getfield, o_icge, o_iaload, o_lookup, o_virt1, o_goto, o_iload3, o_virt3, o_aaload, o_icne, o_putbool, o_iinc2, o_areturn, z0, z1, z2, z9, z20, z31, runI_0, runI_c, runI_n, liftI_n, liftI_y, run_0, run_c, run_n, fxn, fxi, fxr, fxl, fxl0, ↓swi_n, ↓swi_c, nck0, nck1, nck2, nck3, List.length_cons, List.length_nil, Nat.reduceAdd, Nat.reduceSub, Nat.reduceLeDiff, Nat.reduceEqDiff, Nat.reduceLT, reduceIte, ite_true, ite_false, Nat.sub_zero, Nat.zero_le, true_and, and_true, and_self, true_or, or_true, if_true, if_false, true_implies, implies_true, not_true_eq_false, not_false_eq_true, false_implies, forall_const, ne_eq, or_self, and_false, false_and, Lt, Le, Eq', Cp, In, nI_add, nI_mul, nI_sub, nI_sub1, Neg0, bI_eq0, bI_eq1, bI_01, bft, up2_eq, up2_no, Bool.true_eq_false, Bool.false_eq_true, eq_self, m1_ne, m1_ne2, m1_lt, m1_le, lt_m1, m1_le2, bI_t, bI_f, LK_st, FGu hG])
          exact ih _ _ _
        · obtain ⟨i, hi, ei⟩ := h2 (by omega)
          rw [ei] at r2
          have ih := fun I3 o3 cc ss => ih (j + 1) I3 o3 cc ss (by omega)
          rw [plS, et, if_neg (by rw [nI_eq (by omega) (by omega)]; exact t0), if_neg (by rw [nI_eq (by omega) (by omega)]; exact t1), ei, Cp _ (by omega)] at ih
          by_cases t2 : t = 2
          · rw [if_pos (by rw [t2])] at ih
            have hT3 := goose_T hT2 (i := i) (w := 4) (v := nI 1) hi (by omega) (hW.take_up hi (Or.inr rfl))
            have ih := fun o3 cc ss => ih _ o3 cc ss hT3
            clear hT3
            (apply WP_runI (lv := lvK) (F := LK) LK_ok 13 60; simp (disch := first | decide | omega) only [t21_0, t21_1, lift_c, o_aload0, o_getref, o_aload1, o_virt2, rpush_n, rpush_s, o_inl, o_istore, s1_0, s1_s, o_iload2, o_getfield, o_icge, o_iaload, o_lookup, o_virt1, o_goto, o_iload3, o_virt3, o_aaload, o_icne, o_putbool, o_iinc2, o_areturn, z0, z1, z2, z9, z20, z31, runI_0, runI_c, runI_n, liftI_n, liftI_y, run_0, run_c, run_n, fxn, fxi, fxr, fxl, fxl0, ↓swi_n, ↓swi_c, nck0, nck1, nck2, nck3, List.length_cons, List.length_nil, Nat.reduceAdd, Nat.reduceSub, Nat.reduceLeDiff, Nat.reduceEqDiff, Nat.reduceLT, reduceIte, ite_true, ite_false, Nat.sub_zero, Nat.zero_le, true_and, and_true, and_self, true_or, or_true, if_true, if_false, true_implies, implies_true, not_true_eq_false, not_false_eq_true, false_implies, forall_const, ne_eq, or_self, and_false, false_and, Lt, Le, Eq', Cp, In, nI_add, nI_mul, nI_sub, nI_sub1, Neg0, bI_eq0, bI_eq1, bI_01, bft, up2_eq, up2_no, Bool.true_eq_false, Bool.false_eq_true, eq_self, m1_ne, m1_ne2, m1_lt, m1_le, lt_m1, m1_le2, bI_t, bI_f, LK_st, FGu hG, FY84u hY84, hr44, e3, hj, r1, r2, t0, t1, t2, hd0])
            exact ih _ _ _
          · rw [if_neg (by rw [nI_eq (by omega) (by omega)]; exact t2)] at ih
            have hT3 := goose_T hT2 (i := i) (w := 4) (v := nI 0) hi (by omega) (hW.take_up hi (Or.inl rfl))
            have ih := fun o3 cc ss => ih _ o3 cc ss hT3
            clear hT3
            (apply WP_runI (lv := lvK) (F := LK) LK_ok 13 60; simp (disch := first | decide | omega) only [t21_0, t21_1, lift_c, o_aload0, o_getref, o_aload1, o_virt2, rpush_n, rpush_s, o_inl, o_istore, s1_0, s1_s, o_iload2, o_getfield, o_icge, o_iaload, o_lookup, o_virt1, o_goto, o_iload3, o_virt3, o_aaload, o_icne, o_putbool, o_iinc2, o_areturn, z0, z1, z2, z9, z20, z31, runI_0, runI_c, runI_n, liftI_n, liftI_y, run_0, run_c, run_n, fxn, fxi, fxr, fxl, fxl0, ↓swi_n, ↓swi_c, nck0, nck1, nck2, nck3, List.length_cons, List.length_nil, Nat.reduceAdd, Nat.reduceSub, Nat.reduceLeDiff, Nat.reduceEqDiff, Nat.reduceLT, reduceIte, ite_true, ite_false, Nat.sub_zero, Nat.zero_le, true_and, and_true, and_self, true_or, or_true, if_true, if_false, true_implies, implies_true, not_true_eq_false, not_false_eq_true, false_implies, forall_const, ne_eq, or_self, and_false, false_and, Lt, Le, Eq', Cp, In, nI_add, nI_mul, nI_sub, nI_sub1, Neg0, bI_eq0, bI_eq1, bI_01, bft, up2_eq, up2_no, Bool.true_eq_false, Bool.false_eq_true, eq_self, m1_ne, m1_ne2, m1_lt, m1_le, lt_m1, m1_le2, bI_t, bI_f, LK_st, FGu hG, FY84u hY84, hr44, e3, hj, r1, r2, t0, t1, t2, hd0])
            exact ih _ _ _
  have loop := fun cc ss => loop s 0 I1 none cc ss (by omega) hT
  (apply WP_runI (lv := lvK) (F := LK) LK_ok 13 20; simp (disch := first | decide | omega) only [t21_0, t21_1, lift_c, o_aload0, o_getref, o_aload1, o_virt2, rpush_n, rpush_s, o_inl, o_istore, s1_0, s1_s, o_iload2, o_getfield, o_icge, o_iaload, o_lookup, o_virt1, o_goto, o_iload3, o_virt3, o_aaload, o_icne, o_putbool, o_iinc2, o_areturn, z0, z1, z2, z9, z20, z31, runI_0, runI_c, runI_n, liftI_n, liftI_y, run_0, run_c, run_n, fxn, fxi, fxr, fxl, fxl0, ↓swi_n, ↓swi_c, nck0, nck1, nck2, nck3, List.length_cons, List.length_nil, Nat.reduceAdd, Nat.reduceSub, Nat.reduceLeDiff, Nat.reduceEqDiff, Nat.reduceLT, reduceIte, ite_true, ite_false, Nat.sub_zero, Nat.zero_le, true_and, and_true, and_self, true_or, or_true, if_true, if_false, true_implies, implies_true, not_true_eq_false, not_false_eq_true, false_implies, forall_const, ne_eq, or_self, and_false, false_and, Lt, Le, Eq', Cp, In, nI_add, nI_mul, nI_sub, nI_sub1, Neg0, bI_eq0, bI_eq1, bI_01, bft, up2_eq, up2_no, Bool.true_eq_false, Bool.false_eq_true, eq_self, m1_ne, m1_ne2, m1_lt, m1_le, lt_m1, m1_le2, bI_t, bI_f, LK_st, FGu hG])
  exact loop _ _
end
