/-! ### the class's reader: its small methods, its texts -/
def RA (I : TI) (t : TN) (z p : Nat) : Prop := z ≤ 100 ∧ I 102 1 = nI z ∧ (∀ j, j < z → I 103 j = t j) ∧ p ≤ z ∧ I 102 2 = nI p
theorem RA.z100 {I : TI} {t : TN} {z p : Nat} (h : RA I t z p) : z ≤ 100 := h.1
theorem RA.sz {I : TI} {t : TN} {z p : Nat} (h : RA I t z p) : I 102 1 = nI z := h.2.1
theorem RA.txt {I : TI} {t : TN} {z p : Nat} (h : RA I t z p) {j : Nat} (hj : j < z) : I 103 j = t j := h.2.2.1 j hj
theorem RA.le {I : TI} {t : TN} {z p : Nat} (h : RA I t z p) : p ≤ z := h.2.2.2.1
theorem RA.a {I : TI} {t : TN} {z p : Nat} (h : RA I t z p) : I 102 2 = nI p := h.2.2.2.2
theorem RA.inc {I : TI} {t : TN} {z p : Nat} (h : RA I t z p) (hl : p < z) : RA (up2 I 102 2 (nI (p + 1))) t z (p + 1) :=
  ⟨h.1, by rw [up2_no _ _ _ _ _ _ (by omega)]; exact h.sz, fun j hj => by rw [up2_no _ _ _ _ _ _ (by omega)]; exact h.txt hj, hl, up2_eq _ _ _ _⟩
theorem RA.up3 {I : TI} {t : TN} {z p : Nat} (h : RA I t z p) (v : Int32) : RA (up2 I 102 3 v) t z p :=
  ⟨h.1, by rw [up2_no _ _ _ _ _ _ (by omega)]; exact h.sz, fun j hj => by rw [up2_no _ _ _ _ _ _ (by omega)]; exact h.txt hj, h.le, by rw [up2_no _ _ _ _ _ _ (by omega)]; exact h.a⟩
def TX (t : TN) (z : Nat) : Prop := ∀ j, j < z → ∃ u, u ≤ 127 ∧ t j = nI u
def rdN (a j : Nat) : Prop := a = 102 ∧ (j = 2 ∨ j = 3)
theorem atS_c {t : TN} {z p : Nat} (hp : p < z) (c : Int32) : atS t z (p, true) c = decide (t p = c) := by
  unfold atS
  rw [decide_eq_true hp, Bool.true_and, Bool.true_and]
theorem atS_n {t : TN} {z p : Nat} (hp : ¬ p < z) (c : Int32) : atS t z (p, true) c = false := by
  unfold atS
  rw [decide_eq_false hp, Bool.false_and, Bool.and_false]
section
variable {G : GE} {d n : Nat} {sh : TS} {I : TI} {L : TL} {P : TP} {Q : TQ} {t : TN} {z p : Nat}
theorem isNext_K (hG : FG sh P) (hA : RA I t z p) {c : Int32} (hQ : Q (some (.int (bI (atS t z (p, true) c)))) n sh I L P) : Cl G d 39 [.ref 102, .int c] n sh I L P Q := by
  apply e39
  have h1 := hA.z100
  have hle := hA.le
  have h2 := hA.sz
  have h4 := hA.a
  by_cases hp : p < z
  · have h3 := hA.txt hp
    have hz : ¬ z ≤ p := by omega
    rw [atS_c hp] at hQ
    by_cases hc : t p = c
    · rw [decide_eq_true hc] at hQ
      (apply WP_runI (lv := lvK) (F := LK) LK_ok 999 20; simp (disch := first | decide | omega) only [t39_0, lift_c, o_aload0, o_getfield, o_icge, o_getref, o_iaload, o_iload1, o_icne, o_inl, o_goto, o_ireturn, z0, z1, z2, z20, z31, runI_0, runI_c, runI_n, liftI_n, liftI_y, run_0, run_c, run_n, fxn, fxi, fxr, fxl, fxl0, ↓swi_n, ↓swi_c, nck0, nck1, nck2, nck3, List.length_cons, List.length_nil, Nat.reduceAdd, Nat.reduceSub, Nat.reduceLeDiff, Nat.reduceEqDiff, Nat.reduceLT, reduceIte, ite_true, ite_false, Nat.sub_zero, Nat.zero_le, true_and, and_true, and_self, true_or, or_true, if_true, if_false, true_implies, implies_true, not_true_eq_false, not_false_eq_true, false_implies, forall_const, ne_eq, or_self, and_false, false_and, Lt, Le, Eq', Cp, In, nI_add, nI_mul, nI_sub, nI_sub1, Neg0, bI_eq0, bI_eq1, bI_01, bft, up2_eq, up2_no, Bool.true_eq_false, Bool.false_eq_true, eq_self, m1_ne, m1_ne2, m1_lt, m1_le, lt_m1, m1_le2, bI_t, bI_f, LK_st, FGu hG, h2, h4, h3, hz, hc])
      exact hQ
    · rw [decide_eq_false hc] at hQ
      (apply WP_runI (lv := lvK) (F := LK) LK_ok 999 20; simp (disch := first | decide | omega) only [t39_0, lift_c, o_aload0, o_getfield, o_icge, o_getref, o_iaload, o_iload1, o_icne, o_inl, o_goto, o_ireturn, z0, z1, z2, z20, z31, runI_0, runI_c, runI_n, liftI_n, liftI_y, run_0, run_c, run_n, fxn, fxi, fxr, fxl, fxl0, ↓swi_n, ↓swi_c, nck0, nck1, nck2, nck3, List.length_cons, List.length_nil, Nat.reduceAdd, Nat.reduceSub, Nat.reduceLeDiff, Nat.reduceEqDiff, Nat.reduceLT, reduceIte, ite_true, ite_false, Nat.sub_zero, Nat.zero_le, true_and, and_true, and_self, true_or, or_true, if_true, if_false, true_implies, implies_true, not_true_eq_false, not_false_eq_true, false_implies, forall_const, ne_eq, or_self, and_false, false_and, Lt, Le, Eq', Cp, In, nI_add, nI_mul, nI_sub, nI_sub1, Neg0, bI_eq0, bI_eq1, bI_01, bft, up2_eq, up2_no, Bool.true_eq_false, Bool.false_eq_true, eq_self, m1_ne, m1_ne2, m1_lt, m1_le, lt_m1, m1_le2, bI_t, bI_f, LK_st, FGu hG, h2, h4, h3, hz, hc])
      exact hQ
  · have hz : z ≤ p := by omega
    rw [atS_n hp] at hQ
    (apply WP_runI (lv := lvK) (F := LK) LK_ok 999 20; simp (disch := first | decide | omega) only [t39_0, lift_c, o_aload0, o_getfield, o_icge, o_getref, o_iaload, o_iload1, o_icne, o_inl, o_goto, o_ireturn, z0, z1, z2, z20, z31, runI_0, runI_c, runI_n, liftI_n, liftI_y, run_0, run_c, run_n, fxn, fxi, fxr, fxl, fxl0, ↓swi_n, ↓swi_c, nck0, nck1, nck2, nck3, List.length_cons, List.length_nil, Nat.reduceAdd, Nat.reduceSub, Nat.reduceLeDiff, Nat.reduceEqDiff, Nat.reduceLT, reduceIte, ite_true, ite_false, Nat.sub_zero, Nat.zero_le, true_and, and_true, and_self, true_or, or_true, if_true, if_false, true_implies, implies_true, not_true_eq_false, not_false_eq_true, false_implies, forall_const, ne_eq, or_self, and_false, false_and, Lt, Le, Eq', Cp, In, nI_add, nI_mul, nI_sub, nI_sub1, Neg0, bI_eq0, bI_eq1, bI_01, bft, up2_eq, up2_no, Bool.true_eq_false, Bool.false_eq_true, eq_self, m1_ne, m1_ne2, m1_lt, m1_le, lt_m1, m1_le2, bI_t, bI_f, LK_st, FGu hG, h2, h4, hz])
    exact hQ
theorem readSign_K (hG : FG sh P) (hA : RA I t z p) {c : Int32} (hd : 1 ≤ d) (hQ1 : atS t z (p, true) c = true → RA (up2 I 102 2 (nI (p + 1))) t z (p + 1) → Q (some (.int (nI 1))) n sh (up2 I 102 2 (nI (p + 1))) L P) (hQ0 : atS t z (p, true) c = false → Q (some (.int (nI 0))) n sh I L P) : Cl G d 37 [.ref 102, .int c] n sh I L P Q := by
  apply e37
  have hd0 : 0 < d := by omega
  have h4 := hA.a
  have h1 := hA.z100
  have h3 := hA.le
  have n102 : nle 20 102 := by show 20 ≤ 102; decide
  (apply WP_runI (lv := lvK) (F := LK) LK_ok 999 20; simp (disch := first | decide | omega) only [t37_0, lift_c, o_aload0, o_iload1, o_virt2, rpush_n, rpush_s, o_ifne, o_inl, o_ireturn, o_dupi, o_dupr, o_getfield, o_iadd, o_putfield, z0, z1, z2, z20, z31, runI_0, runI_c, runI_n, liftI_n, liftI_y, run_0, run_c, run_n, fxn, fxi, fxr, fxl, fxl0, ↓swi_n, ↓swi_c, nck0, nck1, nck2, nck3, List.length_cons, List.length_nil, Nat.reduceAdd, Nat.reduceSub, Nat.reduceLeDiff, Nat.reduceEqDiff, Nat.reduceLT, reduceIte, ite_true, ite_false, Nat.sub_zero, Nat.zero_le, true_and, and_true, and_self, true_or, or_true, if_true, if_false, true_implies, implies_true, not_true_eq_false, not_false_eq_true, false_implies, forall_const, ne_eq, or_self, and_false, false_and, Lt, Le, Eq', Cp, In, nI_add, nI_mul, nI_sub, nI_sub1, Neg0, bI_eq0, bI_eq1, bI_01, bft, up2_eq, up2_no, Bool.true_eq_false, Bool.false_eq_true, eq_self, m1_ne, m1_ne2, m1_lt, m1_le, lt_m1, m1_le2, bI_t, bI_f, LK_st, FGu hG, hd0])
  refine isNext_K hG hA ?_
  cases hb : atS t z (p, true) c with
  | true =>
    have hQ1 := hQ1 hb (hA.inc (atS_lt hb))
    (apply WP_runI (lv := lvK) (F := LK) LK_ok 999 20; simp (disch := first | decide | omega) only [t37_0, lift_c, o_aload0, o_iload1, o_virt2, rpush_n, rpush_s, o_ifne, o_inl, o_ireturn, o_dupi, o_dupr, o_getfield, o_iadd, o_putfield, z0, z1, z2, z20, z31, runI_0, runI_c, runI_n, liftI_n, liftI_y, run_0, run_c, run_n, fxn, fxi, fxr, fxl, fxl0, ↓swi_n, ↓swi_c, nck0, nck1, nck2, nck3, List.length_cons, List.length_nil, Nat.reduceAdd, Nat.reduceSub, Nat.reduceLeDiff, Nat.reduceEqDiff, Nat.reduceLT, reduceIte, ite_true, ite_false, Nat.sub_zero, Nat.zero_le, true_and, and_true, and_self, true_or, or_true, if_true, if_false, true_implies, implies_true, not_true_eq_false, not_false_eq_true, false_implies, forall_const, ne_eq, or_self, and_false, false_and, Lt, Le, Eq', Cp, In, nI_add, nI_mul, nI_sub, nI_sub1, Neg0, bI_eq0, bI_eq1, bI_01, bft, up2_eq, up2_no, Bool.true_eq_false, Bool.false_eq_true, eq_self, m1_ne, m1_ne2, m1_lt, m1_le, lt_m1, m1_le2, bI_t, bI_f, LK_st, FGu hG, h4, n102, hd0])
    exact hQ1
  | false =>
    have hQ0 := hQ0 hb
    (apply WP_runI (lv := lvK) (F := LK) LK_ok 999 20; simp (disch := first | decide | omega) only [t37_0, lift_c, o_aload0, o_iload1, o_virt2, rpush_n, rpush_s, o_ifne, o_inl, o_ireturn, o_dupi, o_dupr, o_getfield, o_iadd, o_putfield, z0, z1, z2, z20, z31, runI_0, runI_c, runI_n, liftI_n, liftI_y, run_0, run_c, run_n, fxn, fxi, fxr, fxl, fxl0, ↓swi_n, ↓swi_c, nck0, nck1, nck2, nck3, List.length_cons, List.length_nil, Nat.reduceAdd, Nat.reduceSub, Nat.reduceLeDiff, Nat.reduceEqDiff, Nat.reduceLT, reduceIte, ite_true, ite_false, Nat.sub_zero, Nat.zero_le, true_and, and_true, and_self, true_or, or_true, if_true, if_false, true_implies, implies_true, not_true_eq_false, not_false_eq_true, false_implies, forall_const, ne_eq, or_self, and_false, false_and, Lt, Le, Eq', Cp, In, nI_add, nI_mul, nI_sub, nI_sub1, Neg0, bI_eq0, bI_eq1, bI_01, bft, up2_eq, up2_no, Bool.true_eq_false, Bool.false_eq_true, eq_self, m1_ne, m1_ne2, m1_lt, m1_le, lt_m1, m1_le2, bI_t, bI_f, LK_st, FGu hG, h4, n102, hd0])
    exact hQ0
theorem isDigit_K (hG : FG sh P) (hA : RA I t z p) (hQ : Q (some (.int (bI (digS t z (p, true))))) n sh I L P) : Cl G d 40 [.ref 102] n sh I L P Q := by
  apply e40
  have h1 := hA.z100
  have hle := hA.le
  have h2 := hA.sz
  have h4 := hA.a
  by_cases hp : p < z
  · have h3 := hA.txt hp
    have hz : ¬ z ≤ p := by omega
    have e : digS t z (p, true) = (decide (nI 48 ≤ t p) && decide (t p ≤ nI 57)) := by
      unfold digS
      rw [decide_eq_true hp, Bool.true_and, Bool.true_and]
    rw [e] at hQ
    by_cases c1 : t p < nI 48
    · rw [decide_eq_false (Int32.not_le.mpr c1), Bool.false_and] at hQ
      (apply WP_runI (lv := lvK) (F := LK) LK_ok 999 20; simp (disch := first | decide | omega) only [t40_0, lift_c, o_aload0, o_getfield, o_icge, o_getref, o_iaload, o_inl, o_iclt, o_icgt, o_goto, o_ireturn, z0, z1, z2, z20, z31, z48, z57, runI_0, runI_c, runI_n, liftI_n, liftI_y, run_0, run_c, run_n, fxn, fxi, fxr, fxl, fxl0, ↓swi_n, ↓swi_c, nck0, nck1, nck2, nck3, List.length_cons, List.length_nil, Nat.reduceAdd, Nat.reduceSub, Nat.reduceLeDiff, Nat.reduceEqDiff, Nat.reduceLT, reduceIte, ite_true, ite_false, Nat.sub_zero, Nat.zero_le, true_and, and_true, and_self, true_or, or_true, if_true, if_false, true_implies, implies_true, not_true_eq_false, not_false_eq_true, false_implies, forall_const, ne_eq, or_self, and_false, false_and, Lt, Le, Eq', Cp, In, nI_add, nI_mul, nI_sub, nI_sub1, Neg0, bI_eq0, bI_eq1, bI_01, bft, up2_eq, up2_no, Bool.true_eq_false, Bool.false_eq_true, eq_self, m1_ne, m1_ne2, m1_lt, m1_le, lt_m1, m1_le2, bI_t, bI_f, LK_st, FGu hG, h2, h4, h3, hz, c1])
      exact hQ
    · by_cases c2 : t p ≤ nI 57
      · have c3 : ¬ nI 57 < t p := Int32.not_lt.mpr c2
        rw [decide_eq_true (Int32.not_lt.mp c1), decide_eq_true c2, Bool.true_and] at hQ
        (apply WP_runI (lv := lvK) (F := LK) LK_ok 999 25; simp (disch := first | decide | omega) only [t40_0, lift_c, o_aload0, o_getfield, o_icge, o_getref, o_iaload, o_inl, o_iclt, o_icgt, o_goto, o_ireturn, z0, z1, z2, z20, z31, z48, z57, runI_0, runI_c, runI_n, liftI_n, liftI_y, run_0, run_c, run_n, fxn, fxi, fxr, fxl, fxl0, ↓swi_n, ↓swi_c, nck0, nck1, nck2, nck3, List.length_cons, List.length_nil, Nat.reduceAdd, Nat.reduceSub, Nat.reduceLeDiff, Nat.reduceEqDiff, Nat.reduceLT, reduceIte, ite_true, ite_false, Nat.sub_zero, Nat.zero_le, true_and, and_true, and_self, true_or, or_true, if_true, if_false, true_implies, implies_true, not_true_eq_false, not_false_eq_true, false_implies, forall_const, ne_eq, or_self, and_false, false_and, Lt, Le, Eq', Cp, In, nI_add, nI_mul, nI_sub, nI_sub1, Neg0, bI_eq0, bI_eq1, bI_01, bft, up2_eq, up2_no, Bool.true_eq_false, Bool.false_eq_true, eq_self, m1_ne, m1_ne2, m1_lt, m1_le, lt_m1, m1_le2, bI_t, bI_f, LK_st, FGu hG, h2, h4, h3, hz, c1, c3])
        exact hQ
      · have c3 : nI 57 < t p := Int32.not_le.mp c2
        rw [decide_eq_true (Int32.not_lt.mp c1), decide_eq_false c2, Bool.true_and] at hQ
        (apply WP_runI (lv := lvK) (F := LK) LK_ok 999 25; simp (disch := first | decide | omega) only [t40_0, lift_c, o_aload0, o_getfield, o_icge, o_getref, o_iaload, o_inl, o_iclt, o_icgt, o_goto, o_ireturn, z0, z1, z2, z20, z31, z48, z57, runI_0, runI_c, runI_n, liftI_n, liftI_y, run_0, run_c, run_n, fxn, fxi, fxr, fxl, fxl0, ↓swi_n, ↓swi_c, nck0, nck1, nck2, nck3, List.length_cons, List.length_nil, Nat.reduceAdd, Nat.reduceSub, Nat.reduceLeDiff, Nat.reduceEqDiff, Nat.reduceLT, reduceIte, ite_true, ite_false, Nat.sub_zero, Nat.zero_le, true_and, and_true, and_self, true_or, or_true, if_true, if_false, true_implies, implies_true, not_true_eq_false, not_false_eq_true, false_implies, forall_const, ne_eq, or_self, and_false, false_and, Lt, Le, Eq', Cp, In, nI_add, nI_mul, nI_sub, nI_sub1, Neg0, bI_eq0, bI_eq1, bI_01, bft, up2_eq, up2_no, Bool.true_eq_false, Bool.false_eq_true, eq_self, m1_ne, m1_ne2, m1_lt, m1_le, lt_m1, m1_le2, bI_t, bI_f, LK_st, FGu hG, h2, h4, h3, hz, c1, c3])
        exact hQ
  · have hz : z ≤ p := by omega
    have e : digS t z (p, true) = false := by
      unfold digS
      rw [decide_eq_false hp, Bool.false_and, Bool.and_false]
    rw [e] at hQ
    (apply WP_runI (lv := lvK) (F := LK) LK_ok 999 20; simp (disch := first | decide | omega) only [t40_0, lift_c, o_aload0, o_getfield, o_icge, o_getref, o_iaload, o_inl, o_iclt, o_icgt, o_goto, o_ireturn, z0, z1, z2, z20, z31, z48, z57, runI_0, runI_c, runI_n, liftI_n, liftI_y, run_0, run_c, run_n, fxn, fxi, fxr, fxl, fxl0, ↓swi_n, ↓swi_c, nck0, nck1, nck2, nck3, List.length_cons, List.length_nil, Nat.reduceAdd, Nat.reduceSub, Nat.reduceLeDiff, Nat.reduceEqDiff, Nat.reduceLT, reduceIte, ite_true, ite_false, Nat.sub_zero, Nat.zero_le, true_and, and_true, and_self, true_or, or_true, if_true, if_false, true_implies, implies_true, not_true_eq_false, not_false_eq_true, false_implies, forall_const, ne_eq, or_self, and_false, false_and, Lt, Le, Eq', Cp, In, nI_add, nI_mul, nI_sub, nI_sub1, Neg0, bI_eq0, bI_eq1, bI_01, bft, up2_eq, up2_no, Bool.true_eq_false, Bool.false_eq_true, eq_self, m1_ne, m1_ne2, m1_lt, m1_le, lt_m1, m1_le2, bI_t, bI_f, LK_st, FGu hG, h2, h4, hz])
    exact hQ
theorem readNumber_K (hG : FG sh P) (hA : RA I t z p) (hd : 1 ≤ d) (hQ : ∀ I', Eo rdN I I' → RA I' t z (numS t z (p, true)).1.1 → ((numS t z (p, true)).1.2 = true → I' 102 3 = (numS t z (p, true)).2) → Q (some (.int (bI (numS t z (p, true)).1.2))) n sh I' L P) : Cl G d 35 [.ref 102] n sh I L P Q := by
  apply e35
  have hd0 : 0 < d := by omega
  have h4 := hA.a
  have h1 := hA.z100
  have n102 : nle 20 102 := by show 20 ≤ 102; decide
  (apply WP_runI (lv := lvK) (F := LK) LK_ok 999 20; simp (disch := first | decide | omega) only [t35_0, t35_1, lift_c, o_aload0, o_virt1, rpush_n, rpush_s, o_ifne, o_inl, o_ireturn, o_getref, o_getfield, o_iaload, o_isub, o_putfield, o_dupi, o_dupr, o_iadd, o_ifeq, o_imul, z0, z1, z2, z10, z20, z31, z48, runI_0, runI_c, runI_n, liftI_n, liftI_y, run_0, run_c, run_n, fxn, fxi, fxr, fxl, fxl0, ↓swi_n, ↓swi_c, nck0, nck1, nck2, nck3, List.length_cons, List.length_nil, Nat.reduceAdd, Nat.reduceSub, Nat.reduceLeDiff, Nat.reduceEqDiff, Nat.reduceLT, reduceIte, ite_true, ite_false, Nat.sub_zero, Nat.zero_le, true_and, and_true, and_self, true_or, or_true, if_true, if_false, true_implies, implies_true, not_true_eq_false, not_false_eq_true, false_implies, forall_const, ne_eq, or_self, and_false, false_and, Lt, Le, Eq', Cp, In, nI_add, nI_mul, nI_sub, nI_sub1, Neg0, bI_eq0, bI_eq1, bI_01, bft, up2_eq, up2_no, Bool.true_eq_false, Bool.false_eq_true, eq_self, m1_ne, m1_ne2, m1_lt, m1_le, lt_m1, m1_le2, bI_t, bI_f, LK_st, FGu hG, hd0])
  refine isDigit_K hG hA ?_
  cases hb : digS t z (p, true) with
  | false =>
    have e : numS t z (p, true) = ((p, false), nI 0) := by unfold numS; rw [hb, if_neg (by decide)]
    rw [e] at hQ
    have hQ := hQ I Eo.rf hA (fun q => by cases q)
    (apply WP_runI (lv := lvK) (F := LK) LK_ok 999 20; simp (disch := first | decide | omega) only [t35_0, t35_1, lift_c, o_aload0, o_virt1, rpush_n, rpush_s, o_ifne, o_inl, o_ireturn, o_getref, o_getfield, o_iaload, o_isub, o_putfield, o_dupi, o_dupr, o_iadd, o_ifeq, o_imul, z0, z1, z2, z10, z20, z31, z48, runI_0, runI_c, runI_n, liftI_n, liftI_y, run_0, run_c, run_n, fxn, fxi, fxr, fxl, fxl0, ↓swi_n, ↓swi_c, nck0, nck1, nck2, nck3, List.length_cons, List.length_nil, Nat.reduceAdd, Nat.reduceSub, Nat.reduceLeDiff, Nat.reduceEqDiff, Nat.reduceLT, reduceIte, ite_true, ite_false, Nat.sub_zero, Nat.zero_le, true_and, and_true, and_self, true_or, or_true, if_true, if_false, true_implies, implies_true, not_true_eq_false, not_false_eq_true, false_implies, forall_const, ne_eq, or_self, and_false, false_and, Lt, Le, Eq', Cp, In, nI_add, nI_mul, nI_sub, nI_sub1, Neg0, bI_eq0, bI_eq1, bI_01, bft, up2_eq, up2_no, Bool.true_eq_false, Bool.false_eq_true, eq_self, m1_ne, m1_ne2, m1_lt, m1_le, lt_m1, m1_le2, bI_t, bI_f, LK_st, hd0])
    exact hQ
  | true =>
    have hp : p < z := digS_lt hb
    have h3 := hA.txt hp
    have hA2 : RA (up2 (up2 I 102 3 (t p - nI 48)) 102 2 (nI (p + 1))) t z (p + 1) := (hA.up3 _).inc hp
    have he2 : Eo rdN I (up2 (up2 I 102 3 (t p - nI 48)) 102 2 (nI (p + 1))) := (Eo.rf.up ⟨rfl, Or.inr rfl⟩ _).up ⟨rfl, Or.inl rfl⟩ _
    have g3 : (up2 (up2 I 102 3 (t p - nI 48)) 102 2 (nI (p + 1))) 102 3 = t p - nI 48 := by rw [up2_no _ _ _ _ _ _ (by omega), up2_eq]
    (apply WP_runI (lv := lvK) (F := LK) LK_ok 39 40; simp (disch := first | decide | omega) only [t35_0, t35_1, lift_c, o_aload0, o_virt1, rpush_n, rpush_s, o_ifne, o_inl, o_ireturn, o_getref, o_getfield, o_iaload, o_isub, o_putfield, o_dupi, o_dupr, o_iadd, o_ifeq, o_imul, z0, z1, z2, z10, z20, z31, z48, runI_0, runI_c, runI_n, liftI_n, liftI_y, run_0, run_c, run_n, fxn, fxi, fxr, fxl, fxl0, ↓swi_n, ↓swi_c, nck0, nck1, nck2, nck3, List.length_cons, List.length_nil, Nat.reduceAdd, Nat.reduceSub, Nat.reduceLeDiff, Nat.reduceEqDiff, Nat.reduceLT, reduceIte, ite_true, ite_false, Nat.sub_zero, Nat.zero_le, true_and, and_true, and_self, true_or, or_true, if_true, if_false, true_implies, implies_true, not_true_eq_false, not_false_eq_true, false_implies, forall_const, ne_eq, or_self, and_false, false_and, Lt, Le, Eq', Cp, In, nI_add, nI_mul, nI_sub, nI_sub1, Neg0, bI_eq0, bI_eq1, bI_01, bft, up2_eq, up2_no, Bool.true_eq_false, Bool.false_eq_true, eq_self, m1_ne, m1_ne2, m1_lt, m1_le, lt_m1, m1_le2, bI_t, bI_f, LK_st, FGu hG, h4, h3, n102, hd0])
    generalize up2 (up2 I 102 3 (t p - nI 48)) 102 2 (nI (p + 1)) = I2 at hA2 he2 g3 ⊢
    refine isDigit_K hG hA2 ?_
    cases hb2 : digS t z (p + 1, true) with
    | false =>
      have e : numS t z (p, true) = ((p + 1, true), t p - nI 48) := by unfold numS; rw [hb, if_pos rfl, hb2, if_neg (by decide)]
      rw [e] at hQ
      have hQ := hQ I2 he2 hA2 (fun _ => g3)
      (apply WP_runI (lv := lvK) (F := LK) LK_ok 999 20; simp (disch := first | decide | omega) only [t35_0, t35_1, lift_c, o_aload0, o_virt1, rpush_n, rpush_s, o_ifne, o_inl, o_ireturn, o_getref, o_getfield, o_iaload, o_isub, o_putfield, o_dupi, o_dupr, o_iadd, o_ifeq, o_imul, z0, z1, z2, z10, z20, z31, z48, runI_0, runI_c, runI_n, liftI_n, liftI_y, run_0, run_c, run_n, fxn, fxi, fxr, fxl, fxl0, ↓swi_n, ↓swi_c, nck0, nck1, nck2, nck3, List.length_cons, List.length_nil, Nat.reduceAdd, Nat.reduceSub, Nat.reduceLeDiff, Nat.reduceEqDiff, Nat.reduceLT, reduceIte, ite_true, ite_false, Nat.sub_zero, Nat.zero_le, true_and, and_true, and_self, true_or, or_true, if_true, if_false, true_implies, implies_true, not_true_eq_false, not_false_eq_true, false_implies, forall_const, ne_eq, or_self, and_false, false_and, Lt, Le, Eq', Cp, In, nI_add, nI_mul, nI_sub, nI_sub1, Neg0, bI_eq0, bI_eq1, bI_01, bft, up2_eq, up2_no, Bool.true_eq_false, Bool.false_eq_true, eq_self, m1_ne, m1_ne2, m1_lt, m1_le, lt_m1, m1_le2, bI_t, bI_f, LK_st, hd0])
      exact hQ
    | true =>
      have hp2 : p + 1 < z := digS_lt hb2
      have h32 := hA2.txt hp2
      have h42 := hA2.a
      have e : numS t z (p, true) = ((p + 2, true), nI 10 * (t p - nI 48) + t (p + 1) - nI 48) := by unfold numS; rw [hb, if_pos rfl, hb2, if_pos rfl]
      rw [e] at hQ
      have hQ := hQ (up2 (up2 I2 102 3 (nI 10 * (t p - nI 48) + t (p + 1) - nI 48)) 102 2 (nI (p + 2))) ((he2.up ⟨rfl, Or.inr rfl⟩ _).up ⟨rfl, Or.inl rfl⟩ _) ((hA2.up3 _).inc hp2) (fun _ => by rw [up2_no _ _ _ _ _ _ (by omega), up2_eq])
      (apply WP_runI (lv := lvK) (F := LK) LK_ok 999 40; simp (disch := first | decide | omega) only [t35_0, t35_1, lift_c, o_aload0, o_virt1, rpush_n, rpush_s, o_ifne, o_inl, o_ireturn, o_getref, o_getfield, o_iaload, o_isub, o_putfield, o_dupi, o_dupr, o_iadd, o_ifeq, o_imul, z0, z1, z2, z10, z20, z31, z48, runI_0, runI_c, runI_n, liftI_n, liftI_y, run_0, run_c, run_n, fxn, fxi, fxr, fxl, fxl0, ↓swi_n, ↓swi_c, nck0, nck1, nck2, nck3, List.length_cons, List.length_nil, Nat.reduceAdd, Nat.reduceSub, Nat.reduceLeDiff, Nat.reduceEqDiff, Nat.reduceLT, reduceIte, ite_true, ite_false, Nat.sub_zero, Nat.zero_le, true_and, and_true, and_self, true_or, or_true, if_true, if_false, true_implies, implies_true, not_true_eq_false, not_false_eq_true, false_implies, forall_const, ne_eq, or_self, and_false, false_and, Lt, Le, Eq', Cp, In, nI_add, nI_mul, nI_sub, nI_sub1, Neg0, bI_eq0, bI_eq1, bI_01, bft, up2_eq, up2_no, Bool.true_eq_false, Bool.false_eq_true, eq_self, m1_ne, m1_ne2, m1_lt, m1_le, lt_m1, m1_le2, bI_t, bI_f, LK_st, FGu hG, h42, h32, g3, n102, hd0, Nat.add_assoc])
      exact hQ
end
/-! the texts that stand in the class -/
def wB (i j : Nat) : Int32 := (strB.getD i []).getD j 0
def SI (sh : TS) (I : TI) (P : TP) (i m : Nat) : Prop := sh (4 + i) = (11, 2) ∧ sh (9 + i) = (103, m) ∧ P (4 + i) 0 = 9 + i ∧ I (4 + i) 1 = nI 0 ∧ ∀ j, j < m → I (9 + i) j = wB i j
theorem SI_of {G : GE} {sh : TS} {I : TI} {P : TP} (h : SF G sh I P) {i : Nat} (hi : i < 5) : SI sh I P i (strN.getD i 0) :=
  ⟨h.2.2.2.2.1 i hi, h.2.2.2.2.2.1 i hi, (h.2.2.2.2.2.2.2.2.2.1 i hi).1, (h.2.2.2.2.2.2.2.2.2.1 i hi).2, h.2.2.2.2.2.2.2.2.2.2 i hi⟩
theorem sh0r (k : Nat) : nI k >>> (nI 0 &&& nI 31) = nI k := by
  rw [show nI 0 &&& nI 31 = (0 : Int32) by decide]
  exact Int32.shiftRight_zero
theorem wB_all : ∀ i, i < 5 → ∀ j, j < strN.getD i 0 → ((wB i j &&& nI 255).toUInt32 % 65536).toInt32 = wB i j ∧ narrow .char (.int (wB i j)) = .int (wB i j) := by decide +kernel
theorem c127 : ∀ u, u ≤ 127 → ((nI u).toUInt32 % 65536).toInt32 = nI u ∧ (nI u).toInt8.toInt32 = nI u := by
  have h : ∀ u, u < 128 → ((nI u).toUInt32 % 65536).toInt32 = nI u ∧ (nI u).toInt8.toInt32 = nI u := by decide +kernel
  exact fun u hu => h u (by omega)
section
variable {G : GE} {d n : Nat} {sh : TS} {I : TI} {L : TL} {P : TP} {Q : TQ} {i m : Nat}
theorem coder_K (hS : SI sh I P i m) (hQ : Q (some (.int (nI 0))) n sh I L P) : Cl G d 204 [.ref (4 + i)] n sh I L P Q := by
  apply e204
  have h1 := hS.1
  have h4 := hS.2.2.2.1
  have nb : narrow .byte (.int (nI 0)) = .int (nI 0) := by decide
  (apply WP_run 999 80; simp (disch := first | decide | omega) only [t204_0, lift_c, o_inl, o_ifeq, o_aload0, o_getfield, o_goto, o_ireturn, z0, z1, z2, z20, z31, run_0, run_c, run_n, fxn, fxi, fxr, fxl, fxl0, ↓swi_n, ↓swi_c, nck0, nck1, nck2, nck3, List.length_cons, List.length_nil, Nat.reduceAdd, Nat.reduceSub, Nat.reduceLeDiff, Nat.reduceEqDiff, Nat.reduceLT, reduceIte, ite_true, ite_false, Nat.sub_zero, Nat.zero_le, true_and, and_true, and_self, true_or, or_true, if_true, if_false, true_implies, implies_true, not_true_eq_false, not_false_eq_true, false_implies, forall_const, ne_eq, or_self, and_false, false_and, Lt, Le, Eq', Cp, In, nI_add, nI_mul, nI_sub, nI_sub1, Neg0, bI_eq0, bI_eq1, bI_01, bft, up2_eq, up2_no, Bool.true_eq_false, Bool.false_eq_true, eq_self, m1_ne, m1_ne2, m1_lt, m1_le, lt_m1, m1_le2, bI_t, bI_f, h1, h4, nb])
  exact hQ
theorem length_K (hS : SI sh I P i m) (hd : 1 ≤ d) (hQ : Q (some (.int (nI m))) n sh I L P) : Cl G d 200 [.ref (4 + i)] n sh I L P Q := by
  apply e200
  have hd0 : 0 < d := by omega
  have hS0 := hS
  obtain ⟨h1, h2, h3, -⟩ := hS0
  have nz : nle 2 (4 + i) := by show 2 ≤ 4 + i; omega
  (apply WP_run 999 80; simp (disch := first | decide | omega) only [t200_0, lift_c, o_aload0, o_getref, o_arraylength, o_virt1, rpush_n, rpush_s, o_ishr, o_ireturn, z0, z1, z2, z20, z31, run_0, run_c, run_n, fxn, fxi, fxr, fxl, fxl0, ↓swi_n, ↓swi_c, nck0, nck1, nck2, nck3, List.length_cons, List.length_nil, Nat.reduceAdd, Nat.reduceSub, Nat.reduceLeDiff, Nat.reduceEqDiff, Nat.reduceLT, reduceIte, ite_true, ite_false, Nat.sub_zero, Nat.zero_le, true_and, and_true, and_self, true_or, or_true, if_true, if_false, true_implies, implies_true, not_true_eq_false, not_false_eq_true, false_implies, forall_const, ne_eq, or_self, and_false, false_and, Lt, Le, Eq', Cp, In, nI_add, nI_mul, nI_sub, nI_sub1, Neg0, bI_eq0, bI_eq1, bI_01, bft, up2_eq, up2_no, Bool.true_eq_false, Bool.false_eq_true, eq_self, m1_ne, m1_ne2, m1_lt, m1_le, lt_m1, m1_le2, bI_t, bI_f, h1, h2, h3, hd0, nz])
  refine coder_K hS ?_
  (apply WP_run 999 80; simp (disch := first | decide | omega) only [t200_0, lift_c, o_aload0, o_getref, o_arraylength, o_virt1, rpush_n, rpush_s, o_ishr, o_ireturn, z0, z1, z2, z20, z31, run_0, run_c, run_n, fxn, fxi, fxr, fxl, fxl0, ↓swi_n, ↓swi_c, nck0, nck1, nck2, nck3, List.length_cons, List.length_nil, Nat.reduceAdd, Nat.reduceSub, Nat.reduceLeDiff, Nat.reduceEqDiff, Nat.reduceLT, reduceIte, ite_true, ite_false, Nat.sub_zero, Nat.zero_le, true_and, and_true, and_self, true_or, or_true, if_true, if_false, true_implies, implies_true, not_true_eq_false, not_false_eq_true, false_implies, forall_const, ne_eq, or_self, and_false, false_and, Lt, Le, Eq', Cp, In, nI_add, nI_mul, nI_sub, nI_sub1, Neg0, bI_eq0, bI_eq1, bI_01, bft, up2_eq, up2_no, Bool.true_eq_false, Bool.false_eq_true, eq_self, m1_ne, m1_ne2, m1_lt, m1_le, lt_m1, m1_le2, bI_t, bI_f, hd0, sh0r])
  exact hQ
theorem isLatin_K (hS : SI sh I P i m) (hQ : Q (some (.int (nI 1))) n sh I L P) : Cl G d 205 [.ref (4 + i)] n sh I L P Q := by
  apply e205
  have h1 := hS.1
  have h4 := hS.2.2.2.1
  (apply WP_run 999 80; simp (disch := first | decide | omega) only [t205_0, lift_c, o_inl, o_ifeq, o_aload0, o_getfield, o_ifne, o_goto, o_ireturn, z0, z1, z2, z20, z31, run_0, run_c, run_n, fxn, fxi, fxr, fxl, fxl0, ↓swi_n, ↓swi_c, nck0, nck1, nck2, nck3, List.length_cons, List.length_nil, Nat.reduceAdd, Nat.reduceSub, Nat.reduceLeDiff, Nat.reduceEqDiff, Nat.reduceLT, reduceIte, ite_true, ite_false, Nat.sub_zero, Nat.zero_le, true_and, and_true, and_self, true_or, or_true, if_true, if_false, true_implies, implies_true, not_true_eq_false, not_false_eq_true, false_implies, forall_const, ne_eq, or_self, and_false, false_and, Lt, Le, Eq', Cp, In, nI_add, nI_mul, nI_sub, nI_sub1, Neg0, bI_eq0, bI_eq1, bI_01, bft, up2_eq, up2_no, Bool.true_eq_false, Bool.false_eq_true, eq_self, m1_ne, m1_ne2, m1_lt, m1_le, lt_m1, m1_le2, bI_t, bI_f, h1, h4])
  exact hQ
theorem preCheck_K {j : Nat} (hj : j < m) (hm : m < 100) {q : Nat} (hQ : Q (some (.int (nI j))) n sh I L P) : Cl G d 211 [.int (nI j), .int (nI m), .ref q] n sh I L P Q := by
  apply e211
  (apply WP_run 999 80; simp (disch := first | decide | omega) only [t211_0, lift_c, o_iload0, o_iflt, o_iload1, o_iclt, o_aload2, o_ireturn, z0, z1, z2, z20, z31, run_0, run_c, run_n, fxn, fxi, fxr, fxl, fxl0, ↓swi_n, ↓swi_c, nck0, nck1, nck2, nck3, List.length_cons, List.length_nil, Nat.reduceAdd, Nat.reduceSub, Nat.reduceLeDiff, Nat.reduceEqDiff, Nat.reduceLT, reduceIte, ite_true, ite_false, Nat.sub_zero, Nat.zero_le, true_and, and_true, and_self, true_or, or_true, if_true, if_false, true_implies, implies_true, not_true_eq_false, not_false_eq_true, false_implies, forall_const, ne_eq, or_self, and_false, false_and, Lt, Le, Eq', Cp, In, nI_add, nI_mul, nI_sub, nI_sub1, Neg0, bI_eq0, bI_eq1, bI_01, bft, up2_eq, up2_no, Bool.true_eq_false, Bool.false_eq_true, eq_self, m1_ne, m1_ne2, m1_lt, m1_le, lt_m1, m1_le2, bI_t, bI_f, hj, Nat.not_lt_zero])
  exact hQ
theorem strCheck_K {j : Nat} (hj : j < m) (hm : m < 100) (hd : 1 ≤ d) (hQ : Q none n sh I L P) : Cl G d 206 [.int (nI j), .int (nI m)] n sh I L P Q := by
  apply e206
  have hd0 : 0 < d := by omega
  (apply WP_run 999 80; simp (disch := first | decide | omega) only [t206_0, lift_c, o_iload0, o_iload1, o_inl, o_stat3, rpush_n, rpush_s, o_popi, o_popr, o_return, z0, z1, z2, z20, z31, run_0, run_c, run_n, fxn, fxi, fxr, fxl, fxl0, ↓swi_n, ↓swi_c, nck0, nck1, nck2, nck3, List.length_cons, List.length_nil, Nat.reduceAdd, Nat.reduceSub, Nat.reduceLeDiff, Nat.reduceEqDiff, Nat.reduceLT, reduceIte, ite_true, ite_false, Nat.sub_zero, Nat.zero_le, true_and, and_true, and_self, true_or, or_true, if_true, if_false, true_implies, implies_true, not_true_eq_false, not_false_eq_true, false_implies, forall_const, ne_eq, or_self, and_false, false_and, Lt, Le, Eq', Cp, In, nI_add, nI_mul, nI_sub, nI_sub1, Neg0, bI_eq0, bI_eq1, bI_01, bft, up2_eq, up2_no, Bool.true_eq_false, Bool.false_eq_true, eq_self, m1_ne, m1_ne2, m1_lt, m1_le, lt_m1, m1_le2, bI_t, bI_f, hd0])
  refine preCheck_K hj hm ?_
  (apply WP_run 999 80; simp (disch := first | decide | omega) only [t206_0, lift_c, o_iload0, o_iload1, o_inl, o_stat3, rpush_n, rpush_s, o_popi, o_popr, o_return, z0, z1, z2, z20, z31, run_0, run_c, run_n, fxn, fxi, fxr, fxl, fxl0, ↓swi_n, ↓swi_c, nck0, nck1, nck2, nck3, List.length_cons, List.length_nil, Nat.reduceAdd, Nat.reduceSub, Nat.reduceLeDiff, Nat.reduceEqDiff, Nat.reduceLT, reduceIte, ite_true, ite_false, Nat.sub_zero, Nat.zero_le, true_and, and_true, and_self, true_or, or_true, if_true, if_false, true_implies, implies_true, not_true_eq_false, not_false_eq_true, false_implies, forall_const, ne_eq, or_self, and_false, false_and, Lt, Le, Eq', Cp, In, nI_add, nI_mul, nI_sub, nI_sub1, Neg0, bI_eq0, bI_eq1, bI_01, bft, up2_eq, up2_no, Bool.true_eq_false, Bool.false_eq_true, eq_self, m1_ne, m1_ne2, m1_lt, m1_le, lt_m1, m1_le2, bI_t, bI_f, hd0])
  exact hQ
theorem latCharAt_K {j : Nat} (h2 : sh (9 + i) = (103, m)) (hj : j < m) (hm : m < 100) (hd : 2 ≤ d) {w : Int32} (hw : I (9 + i) j = w) (c1 : ((w &&& nI 255).toUInt32 % 65536).toInt32 = w) (c2 : narrow .char (.int w) = .int w) (hQ : Q (some (.int w)) n sh I L P) : Cl G d 207 [.ref (9 + i), .int (nI j)] n sh I L P Q := by
  apply e207
  have hd0 : 0 < d := by omega
  (apply WP_run 999 80; simp (disch := first | decide | omega) only [t207_0, lift_c, o_iload1, o_aload0, o_arraylength, o_stat2, rpush_n, rpush_s, o_baload, o_inl, o_iand, o_i2c, o_ireturn, z0, z1, z2, z20, z31, z255, run_0, run_c, run_n, fxn, fxi, fxr, fxl, fxl0, ↓swi_n, ↓swi_c, nck0, nck1, nck2, nck3, List.length_cons, List.length_nil, Nat.reduceAdd, Nat.reduceSub, Nat.reduceLeDiff, Nat.reduceEqDiff, Nat.reduceLT, reduceIte, ite_true, ite_false, Nat.sub_zero, Nat.zero_le, true_and, and_true, and_self, true_or, or_true, if_true, if_false, true_implies, implies_true, not_true_eq_false, not_false_eq_true, false_implies, forall_const, ne_eq, or_self, and_false, false_and, Lt, Le, Eq', Cp, In, nI_add, nI_mul, nI_sub, nI_sub1, Neg0, bI_eq0, bI_eq1, bI_01, bft, up2_eq, up2_no, Bool.true_eq_false, Bool.false_eq_true, eq_self, m1_ne, m1_ne2, m1_lt, m1_le, lt_m1, m1_le2, bI_t, bI_f, h2, hd0])
  refine strCheck_K hj hm (by omega) ?_
  (apply WP_run 999 80; simp (disch := first | decide | omega) only [t207_0, lift_c, o_iload1, o_aload0, o_arraylength, o_stat2, rpush_n, rpush_s, o_baload, o_inl, o_iand, o_i2c, o_ireturn, z0, z1, z2, z20, z31, z255, run_0, run_c, run_n, fxn, fxi, fxr, fxl, fxl0, ↓swi_n, ↓swi_c, nck0, nck1, nck2, nck3, List.length_cons, List.length_nil, Nat.reduceAdd, Nat.reduceSub, Nat.reduceLeDiff, Nat.reduceEqDiff, Nat.reduceLT, reduceIte, ite_true, ite_false, Nat.sub_zero, Nat.zero_le, true_and, and_true, and_self, true_or, or_true, if_true, if_false, true_implies, implies_true, not_true_eq_false, not_false_eq_true, false_implies, forall_const, ne_eq, or_self, and_false, false_and, Lt, Le, Eq', Cp, In, nI_add, nI_mul, nI_sub, nI_sub1, Neg0, bI_eq0, bI_eq1, bI_01, bft, up2_eq, up2_no, Bool.true_eq_false, Bool.false_eq_true, eq_self, m1_ne, m1_ne2, m1_lt, m1_le, lt_m1, m1_le2, bI_t, bI_f, h2, hw, c1, c2, hd0])
  exact hQ
theorem charAt_K (hS : SI sh I P i m) {j : Nat} (hj : j < m) (hm : m < 100) (hd : 3 ≤ d) {w : Int32} (hw : wB i j = w) (c1 : ((w &&& nI 255).toUInt32 % 65536).toInt32 = w) (c2 : narrow .char (.int w) = .int w) (hQ : Q (some (.int w)) n sh I L P) : Cl G d 201 [.ref (4 + i), .int (nI j)] n sh I L P Q := by
  apply e201
  have hd0 : 0 < d := by omega
  have hS0 := hS
  obtain ⟨h1, h2, h3, h4, h5⟩ := hS0
  have nz : nle 2 (4 + i) := by show 2 ≤ 4 + i; omega
  (apply WP_run 999 80; simp (disch := first | decide | omega) only [t201_0, lift_c, o_aload0, o_virt1, rpush_n, rpush_s, o_ifeq, o_getref, o_iload1, o_stat2, o_ireturn, z0, z1, z2, z20, z31, run_0, run_c, run_n, fxn, fxi, fxr, fxl, fxl0, ↓swi_n, ↓swi_c, nck0, nck1, nck2, nck3, List.length_cons, List.length_nil, Nat.reduceAdd, Nat.reduceSub, Nat.reduceLeDiff, Nat.reduceEqDiff, Nat.reduceLT, reduceIte, ite_true, ite_false, Nat.sub_zero, Nat.zero_le, true_and, and_true, and_self, true_or, or_true, if_true, if_false, true_implies, implies_true, not_true_eq_false, not_false_eq_true, false_implies, forall_const, ne_eq, or_self, and_false, false_and, Lt, Le, Eq', Cp, In, nI_add, nI_mul, nI_sub, nI_sub1, Neg0, bI_eq0, bI_eq1, bI_01, bft, up2_eq, up2_no, Bool.true_eq_false, Bool.false_eq_true, eq_self, m1_ne, m1_ne2, m1_lt, m1_le, lt_m1, m1_le2, bI_t, bI_f, h1, hd0, nz])
  refine isLatin_K hS ?_
  (apply WP_run 15 80; simp (disch := first | decide | omega) only [t201_0, lift_c, o_aload0, o_virt1, rpush_n, rpush_s, o_ifeq, o_getref, o_iload1, o_stat2, o_ireturn, z0, z1, z2, z20, z31, run_0, run_c, run_n, fxn, fxi, fxr, fxl, fxl0, ↓swi_n, ↓swi_c, nck0, nck1, nck2, nck3, List.length_cons, List.length_nil, Nat.reduceAdd, Nat.reduceSub, Nat.reduceLeDiff, Nat.reduceEqDiff, Nat.reduceLT, reduceIte, ite_true, ite_false, Nat.sub_zero, Nat.zero_le, true_and, and_true, and_self, true_or, or_true, if_true, if_false, true_implies, implies_true, not_true_eq_false, not_false_eq_true, false_implies, forall_const, ne_eq, or_self, and_false, false_and, Lt, Le, Eq', Cp, In, nI_add, nI_mul, nI_sub, nI_sub1, Neg0, bI_eq0, bI_eq1, bI_01, bft, up2_eq, up2_no, Bool.true_eq_false, Bool.false_eq_true, eq_self, m1_ne, m1_ne2, m1_lt, m1_le, lt_m1, m1_le2, bI_t, bI_f, h1, h3, hd0, nz])
  refine latCharAt_K h2 hj hm (by omega) ((h5 j hj).trans hw) c1 c2 ?_
  (apply WP_run 999 80; simp (disch := first | decide | omega) only [t201_0, lift_c, o_aload0, o_virt1, rpush_n, rpush_s, o_ifeq, o_getref, o_iload1, o_stat2, o_ireturn, z0, z1, z2, z20, z31, run_0, run_c, run_n, fxn, fxi, fxr, fxl, fxl0, ↓swi_n, ↓swi_c, nck0, nck1, nck2, nck3, List.length_cons, List.length_nil, Nat.reduceAdd, Nat.reduceSub, Nat.reduceLeDiff, Nat.reduceEqDiff, Nat.reduceLT, reduceIte, ite_true, ite_false, Nat.sub_zero, Nat.zero_le, true_and, and_true, and_self, true_or, or_true, if_true, if_false, true_implies, implies_true, not_true_eq_false, not_false_eq_true, false_implies, forall_const, ne_eq, or_self, and_false, false_and, Lt, Le, Eq', Cp, In, nI_add, nI_mul, nI_sub, nI_sub1, Neg0, bI_eq0, bI_eq1, bI_01, bft, up2_eq, up2_no, Bool.true_eq_false, Bool.false_eq_true, eq_self, m1_ne, m1_ne2, m1_lt, m1_le, lt_m1, m1_le2, bI_t, bI_f, c2])
  exact hQ
end
