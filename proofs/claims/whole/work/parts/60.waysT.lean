/-! ### the class: shut, ways, keys, leading -/
theorem gateL_b (N : TN) (o c : Int32) : ∀ j, gateL N o c j = c ||| bydL N o c j
  | 0 => by rw [gateL, bydL, or0]
  | j + 1 => by rw [gateL, bydL, gateL_b N o c j, Int32.or_assoc, Int32.or_assoc, Int32.or_assoc]
def orS (F : TF) (E : Nat → Int32) (N : TN) : Nat → Int32
  | 0 => nI 0
  | j + 1 => orS F E N j ||| openS (hoursS F E N j)
theorem shutL_or (F : TF) (E : Nat → Int32) (N : TN) : ∀ j, shutL F E N j = (nI 1 <<< (N 81 &&& nI 31) - nI 1) &&& (orS F E N j ^^^ -nI 1)
  | 0 => by
    rw [shutL, orS]
    apply Int32.toBitVec_inj.mp
    apply BitVec.eq_of_getLsbD_eq
    intro i hi
    rw [Int32.toBitVec_and, BitVec.getLsbD_and, Int32.toBitVec_xor, BitVec.getLsbD_xor, n0_bit, m1_bit hi]
    simp
  | j + 1 => by
    rw [shutL, orS, shutL_or F E N j]
    generalize (nI 1 <<< (N 81 &&& nI 31) - nI 1) = a
    generalize orS F E N j = x
    generalize openS (hoursS F E N j) = y
    apply Int32.toBitVec_inj.mp
    apply BitVec.eq_of_getLsbD_eq
    intro i hi
    simp only [Int32.toBitVec_and, BitVec.getLsbD_and, Int32.toBitVec_xor, BitVec.getLsbD_xor, Int32.toBitVec_or, BitVec.getLsbD_or, m1_bit hi]
    cases a.toBitVec.getLsbD i <;> cases x.toBitVec.getLsbD i <;> cases y.toBitVec.getLsbD i <;> rfl
theorem wkS_b (F : TF) (E : Nat → Int32) (N : TN) (x : Int32) (m : Nat) {k g r : Nat} (hW : WF (hoursS F E N m) k g r) : wkS F E N x (m + 1) = wkS F E N x m ||| bydL (hoursS F E N m) (openS (hoursS F E N m)) (wkS F E N x m) g := by
  rw [wkS_s, gateL_b, hW.gn]
theorem wayL_late {F : TF} {E : Nat → Int32} {N : TN} {x y : Int32} {m j : Nat} : lateS (wayL F E N x y (m + 1) j) = if bt (wkS F E N x j) y = true then lateS (nI j) else lateS (wayL F E N x y m (j + 1)) := by
  rw [wayL_s]
  split <;> rfl
section
variable {G : GE} {d n : Nat} {sh : TS} {I0 I : TI} {L0 L : TL} {P0 P : TP} {Q : TQ} {N M : TN} {F : TF} {E : Nat → Int32} {k g r : Nat}
theorem TT.fg (hT : TT sh I0 L0 P0 I L P N M F E k g r) : FG sh P := hT.2.1.1.1
theorem TT.y (hT : TT sh I0 L0 P0 I L P N M F E k g r) : FY sh P 84 := hT.2.1.1.2.2.2.1
theorem TT.y22 (hT : TT sh I0 L0 P0 I L P N M F E k g r) : FY sh P 22 := hT.2.1.1.2.1
theorem shut_T (hB : CB sh I P N F E k g r) (hd : 8 ≤ d) (hQ : ∀ I' L' P', CF I L P I' L' P' → Q (some (.int (shutL F E N 21))) n sh I' L' P') : Cl G d 11 [.ref 83, .ref 22] n sh I L P Q := by
  apply e11
  have hd0 : 0 < d := by omega
  have hG := hB.1.1
  have hY := hB.1.2.2.2.1
  have hg9 := hB.2.2.1.g9
  generalize hv : shutL F E N 21 = v at hQ
  rw [shutL_or, hB.2.2.1.n81] at hv
  (apply WP_runI (lv := lvK) (F := LK) LK_ok 18 20; simp (disch := first | decide | omega) only [t11_0, lift_c, o_aload0, o_getref, o_aload1, o_virt2, rpush_n, rpush_s, o_virt1, o_istore, s1_0, s1_s, o_inl, o_iload3, o_icge, o_iload2, o_ior, o_iinc3, o_goto, o_getfield, o_ishl, o_isub, o_ixor, o_iand, o_ireturn, z0, z1, z2, z20, z31, runI_0, runI_c, runI_n, liftI_n, liftI_y, run_0, run_c, run_n, fxn, fxi, fxr, fxl, fxl0, ↓swi_n, ↓swi_c, nck0, nck1, nck2, nck3, List.length_cons, List.length_nil, Nat.reduceAdd, Nat.reduceSub, Nat.reduceLeDiff, Nat.reduceEqDiff, Nat.reduceLT, reduceIte, ite_true, ite_false, Nat.sub_zero, Nat.zero_le, true_and, and_true, and_self, true_or, or_true, if_true, if_false, true_implies, implies_true, not_true_eq_false, not_false_eq_true, false_implies, forall_const, ne_eq, or_self, and_false, false_and, Lt, Le, Eq', Cp, In, nI_add, nI_mul, nI_sub, nI_sub1, Neg0, bI_eq0, bI_eq1, bI_01, bft, up2_eq, up2_no, Bool.true_eq_false, Bool.false_eq_true, eq_self, m1_ne, m1_ne2, m1_lt, m1_le, lt_m1, m1_le2, bI_t, bI_f, LK_st, FYu hY, FGu hG, hd0])
  refine copy_T hB CF.rf (by omega) fun I1 L1 P1 hT => ?_
  have hG := hT.fg
  have hY := hT.y
  have hY22 := hT.y22
  have loop : ∀ m j I2 cc ss, j + m = 20 → TT sh I L P I2 L1 P1 N (hoursS F E N j) F E k g r → WP G 11 d Q 18 [some (.ref 83), some (.ref 22), some (.int (orS F E N (j + 1))), some (.int (nI j))] [] cc ss n sh I2 L1 P1 := by
    intro m
    induction m with
    | zero =>
      intro j I2 cc ss h hT2
      have hj : 20 ≤ j := by omega
      have h3 := hT2.2.1.2.1.gates
      have hQ := hQ I2 L1 P1 hT2.1
      rw [show j + 1 = 21 by omega]
      generalize orS F E N 21 = o at hv
      rw [← hv] at hQ
      (apply WP_runI (lv := lvK) (F := LK) LK_ok 18 30; simp (disch := first | decide | omega) only [t11_0, lift_c, o_aload0, o_getref, o_aload1, o_virt2, rpush_n, rpush_s, o_virt1, o_istore, s1_0, s1_s, o_inl, o_iload3, o_icge, o_iload2, o_ior, o_iinc3, o_goto, o_getfield, o_ishl, o_isub, o_ixor, o_iand, o_ireturn, z0, z1, z2, z20, z31, runI_0, runI_c, runI_n, liftI_n, liftI_y, run_0, run_c, run_n, fxn, fxi, fxr, fxl, fxl0, ↓swi_n, ↓swi_c, nck0, nck1, nck2, nck3, List.length_cons, List.length_nil, Nat.reduceAdd, Nat.reduceSub, Nat.reduceLeDiff, Nat.reduceEqDiff, Nat.reduceLT, reduceIte, ite_true, ite_false, Nat.sub_zero, Nat.zero_le, true_and, and_true, and_self, true_or, or_true, if_true, if_false, true_implies, implies_true, not_true_eq_false, not_false_eq_true, false_implies, forall_const, ne_eq, or_self, and_false, false_and, Lt, Le, Eq', Cp, In, nI_add, nI_mul, nI_sub, nI_sub1, Neg0, bI_eq0, bI_eq1, bI_01, bft, up2_eq, up2_no, Bool.true_eq_false, Bool.false_eq_true, eq_self, m1_ne, m1_ne2, m1_lt, m1_le, lt_m1, m1_le2, bI_t, bI_f, LK_st, FYu hY22, FGu hG, hj, h3])
      exact hQ
    | succ m ih =>
      intro j I2 cc ss h hT2
      have hj : ¬ 20 ≤ j := by omega
      (apply WP_runI (lv := lvK) (F := LK) LK_ok 18 30; simp (disch := first | decide | omega) only [t11_0, lift_c, o_aload0, o_getref, o_aload1, o_virt2, rpush_n, rpush_s, o_virt1, o_istore, s1_0, s1_s, o_inl, o_iload3, o_icge, o_iload2, o_ior, o_iinc3, o_goto, o_getfield, o_ishl, o_isub, o_ixor, o_iand, o_ireturn, z0, z1, z2, z20, z31, runI_0, runI_c, runI_n, liftI_n, liftI_y, run_0, run_c, run_n, fxn, fxi, fxr, fxl, fxl0, ↓swi_n, ↓swi_c, nck0, nck1, nck2, nck3, List.length_cons, List.length_nil, Nat.reduceAdd, Nat.reduceSub, Nat.reduceLeDiff, Nat.reduceEqDiff, Nat.reduceLT, reduceIte, ite_true, ite_false, Nat.sub_zero, Nat.zero_le, true_and, and_true, and_self, true_or, or_true, if_true, if_false, true_implies, implies_true, not_true_eq_false, not_false_eq_true, false_implies, forall_const, ne_eq, or_self, and_false, false_and, Lt, Le, Eq', Cp, In, nI_add, nI_mul, nI_sub, nI_sub1, Neg0, bI_eq0, bI_eq1, bI_01, bft, up2_eq, up2_no, Bool.true_eq_false, Bool.false_eq_true, eq_self, m1_ne, m1_ne2, m1_lt, m1_le, lt_m1, m1_le2, bI_t, bI_f, LK_st, FYu hY, FGu hG, hj, hd0])
      refine hour_T hT2 (by omega) fun I3 hT3 => ?_
      have ih := fun cc ss => ih (j + 1) I3 cc ss (by omega) hT3
      rw [orS] at ih
      (apply WP_runI (lv := lvK) (F := LK) LK_ok 18 30; simp (disch := first | decide | omega) only [t11_0, lift_c, o_aload0, o_getref, o_aload1, o_virt2, rpush_n, rpush_s, o_virt1, o_istore, s1_0, s1_s, o_inl, o_iload3, o_icge, o_iload2, o_ior, o_iinc3, o_goto, o_getfield, o_ishl, o_isub, o_ixor, o_iand, o_ireturn, z0, z1, z2, z20, z31, runI_0, runI_c, runI_n, liftI_n, liftI_y, run_0, run_c, run_n, fxn, fxi, fxr, fxl, fxl0, ↓swi_n, ↓swi_c, nck0, nck1, nck2, nck3, List.length_cons, List.length_nil, Nat.reduceAdd, Nat.reduceSub, Nat.reduceLeDiff, Nat.reduceEqDiff, Nat.reduceLT, reduceIte, ite_true, ite_false, Nat.sub_zero, Nat.zero_le, true_and, and_true, and_self, true_or, or_true, if_true, if_false, true_implies, implies_true, not_true_eq_false, not_false_eq_true, false_implies, forall_const, ne_eq, or_self, and_false, false_and, Lt, Le, Eq', Cp, In, nI_add, nI_mul, nI_sub, nI_sub1, Neg0, bI_eq0, bI_eq1, bI_01, bft, up2_eq, up2_no, Bool.true_eq_false, Bool.false_eq_true, eq_self, m1_ne, m1_ne2, m1_lt, m1_le, lt_m1, m1_le2, bI_t, bI_f, LK_st, FYu hY, FGu hG, hd0])
      refine open_T hT3 (by omega) ?_
      (apply WP_runI (lv := lvK) (F := LK) LK_ok 18 30; simp (disch := first | decide | omega) only [t11_0, lift_c, o_aload0, o_getref, o_aload1, o_virt2, rpush_n, rpush_s, o_virt1, o_istore, s1_0, s1_s, o_inl, o_iload3, o_icge, o_iload2, o_ior, o_iinc3, o_goto, o_getfield, o_ishl, o_isub, o_ixor, o_iand, o_ireturn, z0, z1, z2, z20, z31, runI_0, runI_c, runI_n, liftI_n, liftI_y, run_0, run_c, run_n, fxn, fxi, fxr, fxl, fxl0, ↓swi_n, ↓swi_c, nck0, nck1, nck2, nck3, List.length_cons, List.length_nil, Nat.reduceAdd, Nat.reduceSub, Nat.reduceLeDiff, Nat.reduceEqDiff, Nat.reduceLT, reduceIte, ite_true, ite_false, Nat.sub_zero, Nat.zero_le, true_and, and_true, and_self, true_or, or_true, if_true, if_false, true_implies, implies_true, not_true_eq_false, not_false_eq_true, false_implies, forall_const, ne_eq, or_self, and_false, false_and, Lt, Le, Eq', Cp, In, nI_add, nI_mul, nI_sub, nI_sub1, Neg0, bI_eq0, bI_eq1, bI_01, bft, up2_eq, up2_no, Bool.true_eq_false, Bool.false_eq_true, eq_self, m1_ne, m1_ne2, m1_lt, m1_le, lt_m1, m1_le2, bI_t, bI_f, LK_st, FYu hY, FGu hG, hd0])
      exact ih _ _
  have loop := fun cc ss => loop 20 0 I1 cc ss (by omega) hT
  rw [orS, orS, show ∀ v : Int32, nI 0 ||| v = v from fun v => Int32.zero_or] at loop
  (apply WP_runI (lv := lvK) (F := LK) LK_ok 18 20; simp (disch := first | decide | omega) only [t11_0, lift_c, o_aload0, o_getref, o_aload1, o_virt2, rpush_n, rpush_s, o_virt1, o_istore, s1_0, s1_s, o_inl, o_iload3, o_icge, o_iload2, o_ior, o_iinc3, o_goto, o_getfield, o_ishl, o_isub, o_ixor, o_iand, o_ireturn, z0, z1, z2, z20, z31, runI_0, runI_c, runI_n, liftI_n, liftI_y, run_0, run_c, run_n, fxn, fxi, fxr, fxl, fxl0, ↓swi_n, ↓swi_c, nck0, nck1, nck2, nck3, List.length_cons, List.length_nil, Nat.reduceAdd, Nat.reduceSub, Nat.reduceLeDiff, Nat.reduceEqDiff, Nat.reduceLT, reduceIte, ite_true, ite_false, Nat.sub_zero, Nat.zero_le, true_and, and_true, and_self, true_or, or_true, if_true, if_false, true_implies, implies_true, not_true_eq_false, not_false_eq_true, false_implies, forall_const, ne_eq, or_self, and_false, false_and, Lt, Le, Eq', Cp, In, nI_add, nI_mul, nI_sub, nI_sub1, Neg0, bI_eq0, bI_eq1, bI_01, bft, up2_eq, up2_no, Bool.true_eq_false, Bool.false_eq_true, eq_self, m1_ne, m1_ne2, m1_lt, m1_le, lt_m1, m1_le2, bI_t, bI_f, LK_st, FYu hY, FGu hG, hd0])
  refine open_T hT (by omega) ?_
  (apply WP_runI (lv := lvK) (F := LK) LK_ok 18 20; simp (disch := first | decide | omega) only [t11_0, lift_c, o_aload0, o_getref, o_aload1, o_virt2, rpush_n, rpush_s, o_virt1, o_istore, s1_0, s1_s, o_inl, o_iload3, o_icge, o_iload2, o_ior, o_iinc3, o_goto, o_getfield, o_ishl, o_isub, o_ixor, o_iand, o_ireturn, z0, z1, z2, z20, z31, runI_0, runI_c, runI_n, liftI_n, liftI_y, run_0, run_c, run_n, fxn, fxi, fxr, fxl, fxl0, ↓swi_n, ↓swi_c, nck0, nck1, nck2, nck3, List.length_cons, List.length_nil, Nat.reduceAdd, Nat.reduceSub, Nat.reduceLeDiff, Nat.reduceEqDiff, Nat.reduceLT, reduceIte, ite_true, ite_false, Nat.sub_zero, Nat.zero_le, true_and, and_true, and_self, true_or, or_true, if_true, if_false, true_implies, implies_true, not_true_eq_false, not_false_eq_true, false_implies, forall_const, ne_eq, or_self, and_false, false_and, Lt, Le, Eq', Cp, In, nI_add, nI_mul, nI_sub, nI_sub1, Neg0, bI_eq0, bI_eq1, bI_01, bft, up2_eq, up2_no, Bool.true_eq_false, Bool.false_eq_true, eq_self, m1_ne, m1_ne2, m1_lt, m1_le, lt_m1, m1_le2, bI_t, bI_f, LK_st, FYu hY, FGu hG, hd0])
  exact loop _ _
theorem there_T (hT : TT sh I0 L0 P0 I L P N M F E k g r) {x y : Int32} (hd : 6 ≤ d) (hQ : ∀ I' L' P', CF I0 L0 P0 I' L' P' → CB sh I' P' N F E k g r → Q (some (.int (lateS (wayL F E M x y 16 0)))) n sh I' L' P') : Cl G d 13 [.ref 83, .int x, .int y] n sh I L P Q := by
  apply e13
  have hd0 : 0 < d := by omega
  generalize hv : lateS (wayL F E M x y 16 0) = v at hQ
  have hG := hT.fg
  have hY := hT.y
  have loop : ∀ m j I1 cc ss, j + m = 15 → TT sh I0 L0 P0 I1 L P N (hoursS F E M j) F E k g r → lateS (wayL F E M x y (m + 1) j) = v → WP G 13 d Q 7 [some (.ref 83), some (.int x), some (.int y), some (.int (wkS F E M x j)), some (.int (nI j))] [] cc ss n sh I1 L P := by
    intro m
    induction m with
    | zero =>
      intro j I1 cc ss h hT1 hs
      have hj : 15 ≤ j := by omega
      have hQ := hQ I1 L P hT1.1 hT1.2.1
      rw [wayL_late, show lateS (wayL F E M x y 0 (j + 1)) = nI 1000 from rfl, late_n (by omega)] at hs
      have e15 : nI j = nI 15 := by rw [show j = 15 by omega]
      rw [e15] at hs
      generalize wkS F E M x j = o at hs ⊢
      cases hb : bt o y with
      | true =>
        rw [if_pos hb] at hs
        rw [← hs] at hQ
        (apply WP_runI (lv := lvK) (F := LK) LK_ok 7 20; simp (disch := first | decide | omega) only [t13_0, lift_c, o_inl, o_iload1, o_ishl, o_istore, s1_0, s1_s, o_iload4, o_icge, o_iload3, o_iload2, o_stat2, rpush_n, rpush_s, o_ifeq, o_ireturn, o_aload0, o_getref, o_virt1, o_virt3, o_ior, o_iinc4, o_goto, z0, z1, z2, z15, z20, z31, z1000, runI_0, runI_c, runI_n, liftI_n, liftI_y, run_0, run_c, run_n, fxn, fxi, fxr, fxl, fxl0, ↓swi_n, ↓swi_c, nck0, nck1, nck2, nck3, List.length_cons, List.length_nil, Nat.reduceAdd, Nat.reduceSub, Nat.reduceLeDiff, Nat.reduceEqDiff, Nat.reduceLT, reduceIte, ite_true, ite_false, Nat.sub_zero, Nat.zero_le, true_and, and_true, and_self, true_or, or_true, if_true, if_false, true_implies, implies_true, not_true_eq_false, not_false_eq_true, false_implies, forall_const, ne_eq, or_self, and_false, false_and, Lt, Le, Eq', Cp, In, nI_add, nI_mul, nI_sub, nI_sub1, Neg0, bI_eq0, bI_eq1, bI_01, bft, up2_eq, up2_no, Bool.true_eq_false, Bool.false_eq_true, eq_self, m1_ne, m1_ne2, m1_lt, m1_le, lt_m1, m1_le2, bI_t, bI_f, LK_st, FYu hY, FGu hG, hb, hd0, hj])
        exact hQ
      | false =>
        rw [if_neg (by rw [hb]; decide)] at hs
        rw [← hs] at hQ
        (apply WP_runI (lv := lvK) (F := LK) LK_ok 7 20; simp (disch := first | decide | omega) only [t13_0, lift_c, o_inl, o_iload1, o_ishl, o_istore, s1_0, s1_s, o_iload4, o_icge, o_iload3, o_iload2, o_stat2, rpush_n, rpush_s, o_ifeq, o_ireturn, o_aload0, o_getref, o_virt1, o_virt3, o_ior, o_iinc4, o_goto, z0, z1, z2, z15, z20, z31, z1000, runI_0, runI_c, runI_n, liftI_n, liftI_y, run_0, run_c, run_n, fxn, fxi, fxr, fxl, fxl0, ↓swi_n, ↓swi_c, nck0, nck1, nck2, nck3, List.length_cons, List.length_nil, Nat.reduceAdd, Nat.reduceSub, Nat.reduceLeDiff, Nat.reduceEqDiff, Nat.reduceLT, reduceIte, ite_true, ite_false, Nat.sub_zero, Nat.zero_le, true_and, and_true, and_self, true_or, or_true, if_true, if_false, true_implies, implies_true, not_true_eq_false, not_false_eq_true, false_implies, forall_const, ne_eq, or_self, and_false, false_and, Lt, Le, Eq', Cp, In, nI_add, nI_mul, nI_sub, nI_sub1, Neg0, bI_eq0, bI_eq1, bI_01, bft, up2_eq, up2_no, Bool.true_eq_false, Bool.false_eq_true, eq_self, m1_ne, m1_ne2, m1_lt, m1_le, lt_m1, m1_le2, bI_t, bI_f, LK_st, FYu hY, FGu hG, hb, hd0, hj])
        exact hQ
    | succ m ih =>
      intro j I1 cc ss h hT1 hs
      have hj : ¬ 15 ≤ j := by omega
      have hQ := hQ I1 L P hT1.1 hT1.2.1
      rw [wayL_late, late_n (by omega)] at hs
      have hwk := wkS_b F E M x j hT1.2.2.2
      generalize wkS F E M x j = o at hs hwk ⊢
      cases hb : bt o y with
      | true =>
        rw [if_pos hb] at hs
        rw [← hs] at hQ
        (apply WP_runI (lv := lvK) (F := LK) LK_ok 7 30; simp (disch := first | decide | omega) only [t13_0, lift_c, o_inl, o_iload1, o_ishl, o_istore, s1_0, s1_s, o_iload4, o_icge, o_iload3, o_iload2, o_stat2, rpush_n, rpush_s, o_ifeq, o_ireturn, o_aload0, o_getref, o_virt1, o_virt3, o_ior, o_iinc4, o_goto, z0, z1, z2, z15, z20, z31, z1000, runI_0, runI_c, runI_n, liftI_n, liftI_y, run_0, run_c, run_n, fxn, fxi, fxr, fxl, fxl0, ↓swi_n, ↓swi_c, nck0, nck1, nck2, nck3, List.length_cons, List.length_nil, Nat.reduceAdd, Nat.reduceSub, Nat.reduceLeDiff, Nat.reduceEqDiff, Nat.reduceLT, reduceIte, ite_true, ite_false, Nat.sub_zero, Nat.zero_le, true_and, and_true, and_self, true_or, or_true, if_true, if_false, true_implies, implies_true, not_true_eq_false, not_false_eq_true, false_implies, forall_const, ne_eq, or_self, and_false, false_and, Lt, Le, Eq', Cp, In, nI_add, nI_mul, nI_sub, nI_sub1, Neg0, bI_eq0, bI_eq1, bI_01, bft, up2_eq, up2_no, Bool.true_eq_false, Bool.false_eq_true, eq_self, m1_ne, m1_ne2, m1_lt, m1_le, lt_m1, m1_le2, bI_t, bI_f, LK_st, FYu hY, FGu hG, hb, hd0, hj])
        exact hQ
      | false =>
        rw [if_neg (by rw [hb]; decide)] at hs
        (apply WP_runI (lv := lvK) (F := LK) LK_ok 7 30; simp (disch := first | decide | omega) only [t13_0, lift_c, o_inl, o_iload1, o_ishl, o_istore, s1_0, s1_s, o_iload4, o_icge, o_iload3, o_iload2, o_stat2, rpush_n, rpush_s, o_ifeq, o_ireturn, o_aload0, o_getref, o_virt1, o_virt3, o_ior, o_iinc4, o_goto, z0, z1, z2, z15, z20, z31, z1000, runI_0, runI_c, runI_n, liftI_n, liftI_y, run_0, run_c, run_n, fxn, fxi, fxr, fxl, fxl0, ↓swi_n, ↓swi_c, nck0, nck1, nck2, nck3, List.length_cons, List.length_nil, Nat.reduceAdd, Nat.reduceSub, Nat.reduceLeDiff, Nat.reduceEqDiff, Nat.reduceLT, reduceIte, ite_true, ite_false, Nat.sub_zero, Nat.zero_le, true_and, and_true, and_self, true_or, or_true, if_true, if_false, true_implies, implies_true, not_true_eq_false, not_false_eq_true, false_implies, forall_const, ne_eq, or_self, and_false, false_and, Lt, Le, Eq', Cp, In, nI_add, nI_mul, nI_sub, nI_sub1, Neg0, bI_eq0, bI_eq1, bI_01, bft, up2_eq, up2_no, Bool.true_eq_false, Bool.false_eq_true, eq_self, m1_ne, m1_ne2, m1_lt, m1_le, lt_m1, m1_le2, bI_t, bI_f, LK_st, FYu hY, FGu hG, hb, hd0, hj])
        refine open_T hT1 (by omega) ?_
        (apply WP_runI (lv := lvK) (F := LK) LK_ok 7 30; simp (disch := first | decide | omega) only [t13_0, lift_c, o_inl, o_iload1, o_ishl, o_istore, s1_0, s1_s, o_iload4, o_icge, o_iload3, o_iload2, o_stat2, rpush_n, rpush_s, o_ifeq, o_ireturn, o_aload0, o_getref, o_virt1, o_virt3, o_ior, o_iinc4, o_goto, z0, z1, z2, z15, z20, z31, z1000, runI_0, runI_c, runI_n, liftI_n, liftI_y, run_0, run_c, run_n, fxn, fxi, fxr, fxl, fxl0, ↓swi_n, ↓swi_c, nck0, nck1, nck2, nck3, List.length_cons, List.length_nil, Nat.reduceAdd, Nat.reduceSub, Nat.reduceLeDiff, Nat.reduceEqDiff, Nat.reduceLT, reduceIte, ite_true, ite_false, Nat.sub_zero, Nat.zero_le, true_and, and_true, and_self, true_or, or_true, if_true, if_false, true_implies, implies_true, not_true_eq_false, not_false_eq_true, false_implies, forall_const, ne_eq, or_self, and_false, false_and, Lt, Le, Eq', Cp, In, nI_add, nI_mul, nI_sub, nI_sub1, Neg0, bI_eq0, bI_eq1, bI_01, bft, up2_eq, up2_no, Bool.true_eq_false, Bool.false_eq_true, eq_self, m1_ne, m1_ne2, m1_lt, m1_le, lt_m1, m1_le2, bI_t, bI_f, LK_st, FYu hY, FGu hG, hb, hd0, hj])
        refine beyond_Y hT1.2.2.1 hT1.2.2.2 (by omega) ?_
        generalize bydL (hoursS F E M j) (openS (hoursS F E M j)) o g = w at hwk ⊢
        (apply WP_runI (lv := lvK) (F := LK) LK_ok 7 30; simp (disch := first | decide | omega) only [t13_0, lift_c, o_inl, o_iload1, o_ishl, o_istore, s1_0, s1_s, o_iload4, o_icge, o_iload3, o_iload2, o_stat2, rpush_n, rpush_s, o_ifeq, o_ireturn, o_aload0, o_getref, o_virt1, o_virt3, o_ior, o_iinc4, o_goto, z0, z1, z2, z15, z20, z31, z1000, runI_0, runI_c, runI_n, liftI_n, liftI_y, run_0, run_c, run_n, fxn, fxi, fxr, fxl, fxl0, ↓swi_n, ↓swi_c, nck0, nck1, nck2, nck3, List.length_cons, List.length_nil, Nat.reduceAdd, Nat.reduceSub, Nat.reduceLeDiff, Nat.reduceEqDiff, Nat.reduceLT, reduceIte, ite_true, ite_false, Nat.sub_zero, Nat.zero_le, true_and, and_true, and_self, true_or, or_true, if_true, if_false, true_implies, implies_true, not_true_eq_false, not_false_eq_true, false_implies, forall_const, ne_eq, or_self, and_false, false_and, Lt, Le, Eq', Cp, In, nI_add, nI_mul, nI_sub, nI_sub1, Neg0, bI_eq0, bI_eq1, bI_01, bft, up2_eq, up2_no, Bool.true_eq_false, Bool.false_eq_true, eq_self, m1_ne, m1_ne2, m1_lt, m1_le, lt_m1, m1_le2, bI_t, bI_f, LK_st, FYu hY, FGu hG, hb, hd0, hj])
        refine hour_T hT1 (by omega) fun I2 hT2 => ?_
        have ih := fun cc ss => ih (j + 1) I2 cc ss (by omega) hT2 hs
        rw [hwk] at ih
        (apply WP_runI (lv := lvK) (F := LK) LK_ok 7 30; simp (disch := first | decide | omega) only [t13_0, lift_c, o_inl, o_iload1, o_ishl, o_istore, s1_0, s1_s, o_iload4, o_icge, o_iload3, o_iload2, o_stat2, rpush_n, rpush_s, o_ifeq, o_ireturn, o_aload0, o_getref, o_virt1, o_virt3, o_ior, o_iinc4, o_goto, z0, z1, z2, z15, z20, z31, z1000, runI_0, runI_c, runI_n, liftI_n, liftI_y, run_0, run_c, run_n, fxn, fxi, fxr, fxl, fxl0, ↓swi_n, ↓swi_c, nck0, nck1, nck2, nck3, List.length_cons, List.length_nil, Nat.reduceAdd, Nat.reduceSub, Nat.reduceLeDiff, Nat.reduceEqDiff, Nat.reduceLT, reduceIte, ite_true, ite_false, Nat.sub_zero, Nat.zero_le, true_and, and_true, and_self, true_or, or_true, if_true, if_false, true_implies, implies_true, not_true_eq_false, not_false_eq_true, false_implies, forall_const, ne_eq, or_self, and_false, false_and, Lt, Le, Eq', Cp, In, nI_add, nI_mul, nI_sub, nI_sub1, Neg0, bI_eq0, bI_eq1, bI_01, bft, up2_eq, up2_no, Bool.true_eq_false, Bool.false_eq_true, eq_self, m1_ne, m1_ne2, m1_lt, m1_le, lt_m1, m1_le2, bI_t, bI_f, LK_st, FYu hY, FGu hG])
        exact ih _ _
  have loop := fun cc ss => loop 15 0 I cc ss (by omega) hT hv
  rw [wkS] at loop
  unfold p2 at loop
  (apply WP_runI (lv := lvK) (F := LK) LK_ok 7 20; simp (disch := first | decide | omega) only [t13_0, lift_c, o_inl, o_iload1, o_ishl, o_istore, s1_0, s1_s, o_iload4, o_icge, o_iload3, o_iload2, o_stat2, rpush_n, rpush_s, o_ifeq, o_ireturn, o_aload0, o_getref, o_virt1, o_virt3, o_ior, o_iinc4, o_goto, z0, z1, z2, z15, z20, z31, z1000, runI_0, runI_c, runI_n, liftI_n, liftI_y, run_0, run_c, run_n, fxn, fxi, fxr, fxl, fxl0, ↓swi_n, ↓swi_c, nck0, nck1, nck2, nck3, List.length_cons, List.length_nil, Nat.reduceAdd, Nat.reduceSub, Nat.reduceLeDiff, Nat.reduceEqDiff, Nat.reduceLT, reduceIte, ite_true, ite_false, Nat.sub_zero, Nat.zero_le, true_and, and_true, and_self, true_or, or_true, if_true, if_false, true_implies, implies_true, not_true_eq_false, not_false_eq_true, false_implies, forall_const, ne_eq, or_self, and_false, false_and, Lt, Le, Eq', Cp, In, nI_add, nI_mul, nI_sub, nI_sub1, Neg0, bI_eq0, bI_eq1, bI_01, bft, up2_eq, up2_no, Bool.true_eq_false, Bool.false_eq_true, eq_self, m1_ne, m1_ne2, m1_lt, m1_le, lt_m1, m1_le2, bI_t, bI_f, LK_st, FYu hY])
  exact loop _ _
end
