/-! ### the class: its cells -/
def FY (sh : TS) (P : TP) (b : Nat) : Prop := sh b = (8, 9) ∧ sh (b + 1) = (100, 8) ∧ sh (b + 2) = (100, 9) ∧ sh (b + 3) = (100, 9) ∧ sh (b + 4) = (104, 6) ∧ sh (b + 5) = (100, 6) ∧
  P b 0 = b + 1 ∧ P b 1 = b + 2 ∧ P b 2 = b + 3 ∧ P b 4 = b + 4 ∧ P b 8 = b + 5 ∧
  (∀ i, i < 6 → P (b + 4) i = b + 6 + 2 * i) ∧ (∀ i, i < 6 → sh (b + 6 + 2 * i) = (3, 6)) ∧ (∀ i, i < 6 → sh (b + 7 + 2 * i) = (100, 4)) ∧ (∀ i, i < 6 → P (b + 6 + 2 * i) 5 = b + 7 + 2 * i)
theorem FYu {sh : TS} {P : TP} {b : Nat} (h : FY sh P b) : sh b = (8, 9) ∧ sh (b + 1) = (100, 8) ∧ sh (b + 2) = (100, 9) ∧ sh (b + 3) = (100, 9) ∧ sh (b + 4) = (104, 6) ∧ sh (b + 5) = (100, 6) ∧
  P b 0 = b + 1 ∧ P b 1 = b + 2 ∧ P b 2 = b + 3 ∧ P b 4 = b + 4 ∧ P b 8 = b + 5 ∧
  (∀ i, i < 6 → P (b + 4) i = b + 6 + 2 * i) ∧ (∀ i, i < 6 → sh (b + 6 + 2 * i) = (3, 6)) ∧ (∀ i, i < 6 → sh (b + 7 + 2 * i) = (100, 4)) ∧ (∀ i, i < 6 → P (b + 6 + 2 * i) 5 = b + 7 + 2 * i) := h
/-- a row of rows -/
def FR (sh : TS) (P : TP) (a z : Nat) : Prop := sh a = (5, 4) ∧ sh (a + 1) = (100, z) ∧ sh (a + 2) = (100, z) ∧ sh (a + 3) = (100, z) ∧ P a 0 = a + 1 ∧ P a 1 = a + 2 ∧ P a 2 = a + 3
theorem FRu {sh : TS} {P : TP} {a z : Nat} (h : FR sh P a z) : sh a = (5, 4) ∧ sh (a + 1) = (100, z) ∧ sh (a + 2) = (100, z) ∧ sh (a + 3) = (100, z) ∧ P a 0 = a + 1 ∧ P a 1 = a + 2 ∧ P a 2 = a + 3 := h
def FG (sh : TS) (P : TP) : Prop := sh 20 = (9, 8) ∧ P 20 0 = 21 ∧ P 20 1 = 52 ∧ P 20 3 = 83 ∧ P 20 4 = 102 ∧ P 20 6 = 108 ∧ P 20 7 = 110 ∧
  sh 21 = (7, 4) ∧ P 21 0 = 22 ∧ P 21 1 = 40 ∧ P 21 2 = 44 ∧ P 21 3 = 48 ∧ sh 52 = (7, 4) ∧ P 52 0 = 53 ∧ P 52 1 = 71 ∧ P 52 2 = 75 ∧ P 52 3 = 79 ∧
  sh 83 = (1, 1) ∧ P 83 0 = 84 ∧ sh 102 = (4, 5) ∧ P 102 0 = 103 ∧ sh 103 = (100, 100) ∧ sh 108 = (0, 5) ∧ P 108 0 = 109 ∧ sh 109 = (100, 20) ∧ sh 110 = (105, 6) ∧
  (∀ i, i < 6 → P 110 i = 111 + 2 * i) ∧ (∀ i, i < 6 → sh (111 + 2 * i) = (6, 3)) ∧ (∀ i, i < 6 → sh (112 + 2 * i) = (101, 60)) ∧ (∀ i, i < 6 → P (111 + 2 * i) 2 = 112 + 2 * i)
theorem FGu {sh : TS} {P : TP} (h : FG sh P) : sh 20 = (9, 8) ∧ P 20 0 = 21 ∧ P 20 1 = 52 ∧ P 20 3 = 83 ∧ P 20 4 = 102 ∧ P 20 6 = 108 ∧ P 20 7 = 110 ∧
  sh 21 = (7, 4) ∧ P 21 0 = 22 ∧ P 21 1 = 40 ∧ P 21 2 = 44 ∧ P 21 3 = 48 ∧ sh 52 = (7, 4) ∧ P 52 0 = 53 ∧ P 52 1 = 71 ∧ P 52 2 = 75 ∧ P 52 3 = 79 ∧
  sh 83 = (1, 1) ∧ P 83 0 = 84 ∧ sh 102 = (4, 5) ∧ P 102 0 = 103 ∧ sh 103 = (100, 100) ∧ sh 108 = (0, 5) ∧ P 108 0 = 109 ∧ sh 109 = (100, 20) ∧ sh 110 = (105, 6) ∧
  (∀ i, i < 6 → P 110 i = 111 + 2 * i) ∧ (∀ i, i < 6 → sh (111 + 2 * i) = (6, 3)) ∧ (∀ i, i < 6 → sh (112 + 2 * i) = (101, 60)) ∧ (∀ i, i < 6 → P (111 + 2 * i) 2 = 112 + 2 * i) := h
/-- all cells of the class that stay as they are -/
def FA (sh : TS) (P : TP) : Prop := FG sh P ∧ FY sh P 22 ∧ FY sh P 53 ∧ FY sh P 84 ∧ FR sh P 40 5 ∧ FR sh P 44 10 ∧ FR sh P 48 8 ∧ FR sh P 71 5 ∧ FR sh P 75 10 ∧ FR sh P 79 8
/-! ### the class: its small methods, told by formulas -/
def hnS (x : Int32) : Int32 := if x = nI 1000 then -nI 5 else x
def keyB (x : Int32) : Bool := decide (-nI 1 ≤ x ∧ x < nI 9)
section
variable {G : GE} {d n : Nat} {sh : TS} {I : TI} {L : TL} {P : TP} {Q : TQ}
theorem isCourt_K {x : Int32} (hQ : Q (some (.int (bI (isC x)))) n sh I L P) : Cl G d 102 [.int x] n sh I L P Q := by
  apply e102
  (apply WP_run 999 80; simp (disch := first | decide | omega) only [t102_0, lift_c, o_iload0, o_iflt, o_inl, o_icge, o_goto, o_ireturn, z0, z1, z2, z8, z20, z31, run_0, run_c, run_n, fxn, fxi, fxr, fxl, fxl0, ↓swi_n, ↓swi_c, nck0, nck1, nck2, nck3, List.length_cons, List.length_nil, Nat.reduceAdd, Nat.reduceSub, Nat.reduceLeDiff, Nat.reduceEqDiff, Nat.reduceLT, reduceIte, ite_true, ite_false, Nat.sub_zero, Nat.zero_le, true_and, and_true, and_self, true_or, or_true, if_true, if_false, true_implies, implies_true, not_true_eq_false, not_false_eq_true, false_implies, forall_const, ne_eq, or_self, and_false, false_and, Lt, Le, Eq', Cp, In, nI_add, nI_mul, nI_sub, nI_sub1, Neg0, bI_eq0, bI_eq1, bI_01, bft, up2_eq, up2_no, Bool.true_eq_false, Bool.false_eq_true, eq_self, m1_ne, m1_ne2, m1_lt, m1_le, lt_m1, m1_le2, bI_t, bI_f, z8])
  refine ⟨fun h => ?_, fun h => ⟨fun h2 => ?_, fun h2 => ?_⟩⟩
  · rw [show isC x = false by unfold isC; apply decide_eq_false; rw [i_le]; rw [i_lt] at h; omega] at hQ
    exact hQ
  · rw [show isC x = false by unfold isC; apply decide_eq_false; rw [i_le, i_le]; rw [i_le] at h2; rw [nIi _ (by omega)] at h2 ⊢; rw [nIi _ (by omega)]; omega] at hQ
    exact hQ
  · rw [show isC x = true by unfold isC; apply decide_eq_true; rw [i_le, i_le]; rw [i_le] at h2; rw [i_lt] at h; rw [nIi _ (by omega)] at h h2 ⊢; rw [nIi _ (by omega)]; omega] at hQ
    exact hQ
theorem isKind_K {x : Int32} (hsh : sh 2 = (100, 7)) (hQ : Q (some (.int (bI (inR x 0 6)))) n sh I L P) : Cl G d 103 [.int x] n sh I L P Q := by
  apply e103
  (apply WP_run 999 80; simp (disch := first | decide | omega) only [t103_0, lift_c, o_iload0, o_iflt, o_inl, o_arraylength, o_icge, o_goto, o_ireturn, z0, z1, z2, z20, z31, run_0, run_c, run_n, fxn, fxi, fxr, fxl, fxl0, ↓swi_n, ↓swi_c, nck0, nck1, nck2, nck3, List.length_cons, List.length_nil, Nat.reduceAdd, Nat.reduceSub, Nat.reduceLeDiff, Nat.reduceEqDiff, Nat.reduceLT, reduceIte, ite_true, ite_false, Nat.sub_zero, Nat.zero_le, true_and, and_true, and_self, true_or, or_true, if_true, if_false, true_implies, implies_true, not_true_eq_false, not_false_eq_true, false_implies, forall_const, ne_eq, or_self, and_false, false_and, Lt, Le, Eq', Cp, In, nI_add, nI_mul, nI_sub, nI_sub1, Neg0, bI_eq0, bI_eq1, bI_01, bft, up2_eq, up2_no, Bool.true_eq_false, Bool.false_eq_true, eq_self, m1_ne, m1_ne2, m1_lt, m1_le, lt_m1, m1_le2, bI_t, bI_f, hsh])
  refine ⟨fun h => ?_, fun h => ⟨fun h2 => ?_, fun h2 => ?_⟩⟩
  · rw [show inR x 0 6 = false by unfold inR; apply decide_eq_false; rw [i_le]; rw [i_lt] at h; omega] at hQ
    exact hQ
  · rw [show inR x 0 6 = false by unfold inR; apply decide_eq_false; rw [i_le, i_le]; rw [i_le] at h2; rw [nIi _ (by omega)] at h2 ⊢; rw [nIi _ (by omega)]; omega] at hQ
    exact hQ
  · rw [show inR x 0 6 = true by unfold inR; apply decide_eq_true; rw [i_le, i_le]; rw [i_le] at h2; rw [i_lt] at h; rw [nIi _ (by omega)] at h h2 ⊢; rw [nIi _ (by omega)]; omega] at hQ
    exact hQ
theorem isKey_K {x : Int32} (hQ : Q (some (.int (bI (keyB x)))) n sh I L P) : Cl G d 104 [.int x] n sh I L P Q := by
  apply e104
  (apply WP_run 999 80; simp (disch := first | decide | omega) only [t104_0, lift_c, o_iload0, o_inl, o_iclt, o_icge, o_goto, o_ireturn, z0, z1, z2, z9, z20, z31, run_0, run_c, run_n, fxn, fxi, fxr, fxl, fxl0, ↓swi_n, ↓swi_c, nck0, nck1, nck2, nck3, List.length_cons, List.length_nil, Nat.reduceAdd, Nat.reduceSub, Nat.reduceLeDiff, Nat.reduceEqDiff, Nat.reduceLT, reduceIte, ite_true, ite_false, Nat.sub_zero, Nat.zero_le, true_and, and_true, and_self, true_or, or_true, if_true, if_false, true_implies, implies_true, not_true_eq_false, not_false_eq_true, false_implies, forall_const, ne_eq, or_self, and_false, false_and, Lt, Le, Eq', Cp, In, nI_add, nI_mul, nI_sub, nI_sub1, Neg0, bI_eq0, bI_eq1, bI_01, bft, up2_eq, up2_no, Bool.true_eq_false, Bool.false_eq_true, eq_self, m1_ne, m1_ne2, m1_lt, m1_le, lt_m1, m1_le2, bI_t, bI_f, z9])
  refine ⟨fun h => ?_, fun h => ⟨fun h2 => ?_, fun h2 => ?_⟩⟩
  · rw [show keyB x = false by unfold keyB; apply decide_eq_false; intro q; exact absurd q.1 (Int32.not_le.mpr h)] at hQ
    exact hQ
  · rw [show keyB x = false by unfold keyB; apply decide_eq_false; intro q; exact absurd q.2 (Int32.not_lt.mpr h2)] at hQ
    exact hQ
  · rw [show keyB x = true by unfold keyB; apply decide_eq_true; exact ⟨Int32.not_lt.mp h, Int32.not_le.mp h2⟩] at hQ
    exact hQ
theorem isGrain_K {x : Int32} (hQ : Q (some (.int (bI (inR x 0 99)))) n sh I L P) : Cl G d 105 [.int x] n sh I L P Q := by
  apply e105
  unfold inR at hQ
  (apply WP_run 999 80; simp (disch := first | decide | omega) only [t105_0, lift_c, o_iload0, o_iflt, o_inl, o_icgt, o_goto, o_ireturn, z0, z1, z2, z20, z31, z99, run_0, run_c, run_n, fxn, fxi, fxr, fxl, fxl0, ↓swi_n, ↓swi_c, nck0, nck1, nck2, nck3, List.length_cons, List.length_nil, Nat.reduceAdd, Nat.reduceSub, Nat.reduceLeDiff, Nat.reduceEqDiff, Nat.reduceLT, reduceIte, ite_true, ite_false, Nat.sub_zero, Nat.zero_le, true_and, and_true, and_self, true_or, or_true, if_true, if_false, true_implies, implies_true, not_true_eq_false, not_false_eq_true, false_implies, forall_const, ne_eq, or_self, and_false, false_and, Lt, Le, Eq', Cp, In, nI_add, nI_mul, nI_sub, nI_sub1, Neg0, bI_eq0, bI_eq1, bI_01, bft, up2_eq, up2_no, Bool.true_eq_false, Bool.false_eq_true, eq_self, m1_ne, m1_ne2, m1_lt, m1_le, lt_m1, m1_le2, bI_t, bI_f, z99])
  refine ⟨fun h => ?_, fun h => ⟨fun h2 => ?_, fun h2 => ?_⟩⟩
  · rw [decide_eq_false (fun q => absurd q.1 (Int32.not_le.mpr h))] at hQ
    exact hQ
  · rw [decide_eq_false (fun q => absurd q.2 (Int32.not_le.mpr h2))] at hQ
    exact hQ
  · rw [decide_eq_true ⟨Int32.not_lt.mp h, Int32.not_lt.mp h2⟩] at hQ
    exact hQ
theorem isHours_K {x y : Int32} (hQ : Q (some (.int (bI (decide (nI 0 ≤ x ∧ x ≤ y))))) n sh I L P) : Cl G d 106 [.int x, .int y] n sh I L P Q := by
  apply e106
  (apply WP_run 999 80; simp (disch := first | decide | omega) only [t106_0, lift_c, o_iload0, o_iflt, o_iload1, o_icgt, o_inl, o_goto, o_ireturn, z0, z1, z2, z20, z31, run_0, run_c, run_n, fxn, fxi, fxr, fxl, fxl0, ↓swi_n, ↓swi_c, nck0, nck1, nck2, nck3, List.length_cons, List.length_nil, Nat.reduceAdd, Nat.reduceSub, Nat.reduceLeDiff, Nat.reduceEqDiff, Nat.reduceLT, reduceIte, ite_true, ite_false, Nat.sub_zero, Nat.zero_le, true_and, and_true, and_self, true_or, or_true, if_true, if_false, true_implies, implies_true, not_true_eq_false, not_false_eq_true, false_implies, forall_const, ne_eq, or_self, and_false, false_and, Lt, Le, Eq', Cp, In, nI_add, nI_mul, nI_sub, nI_sub1, Neg0, bI_eq0, bI_eq1, bI_01, bft, up2_eq, up2_no, Bool.true_eq_false, Bool.false_eq_true, eq_self, m1_ne, m1_ne2, m1_lt, m1_le, lt_m1, m1_le2, bI_t, bI_f])
  refine ⟨fun h => ?_, fun h => ⟨fun h2 => ?_, fun h2 => ?_⟩⟩
  · rw [decide_eq_false (fun q => absurd q.1 (Int32.not_le.mpr h))] at hQ
    exact hQ
  · rw [decide_eq_false (fun q => absurd q.2 (Int32.not_le.mpr h2))] at hQ
    exact hQ
  · rw [decide_eq_true ⟨Int32.not_lt.mp h, Int32.not_lt.mp h2⟩] at hQ
    exact hQ
theorem inR01 {x : Int32} : inR x 0 1 = (decide (x = nI 0) || decide (x = nI 1)) := by
  cases h : inR x 0 1 with
  | true =>
    obtain ⟨m, -, hm, rfl⟩ := inR_of (by omega) (by omega) h
    have : m = 0 ∨ m = 1 := by omega
    rcases this with rfl | rfl <;> decide
  | false =>
    symm
    apply Bool.eq_false_iff.mpr
    intro q
    simp only [Bool.or_eq_true, decide_eq_true_eq] at q
    rcases q with rfl | rfl <;> revert h <;> decide
theorem isPart_K {x : Int32} (hQ : Q (some (.int (bI (inR x 0 1)))) n sh I L P) : Cl G d 107 [.int x] n sh I L P Q := by
  apply e107
  rw [inR01] at hQ
  (apply WP_run 999 80; simp (disch := first | decide | omega) only [t107_0, lift_c, o_iload0, o_ifeq, o_inl, o_icne, o_goto, o_ireturn, z0, z1, z2, z20, z31, run_0, run_c, run_n, fxn, fxi, fxr, fxl, fxl0, ↓swi_n, ↓swi_c, nck0, nck1, nck2, nck3, List.length_cons, List.length_nil, Nat.reduceAdd, Nat.reduceSub, Nat.reduceLeDiff, Nat.reduceEqDiff, Nat.reduceLT, reduceIte, ite_true, ite_false, Nat.sub_zero, Nat.zero_le, true_and, and_true, and_self, true_or, or_true, if_true, if_false, true_implies, implies_true, not_true_eq_false, not_false_eq_true, false_implies, forall_const, ne_eq, or_self, and_false, false_and, Lt, Le, Eq', Cp, In, nI_add, nI_mul, nI_sub, nI_sub1, Neg0, bI_eq0, bI_eq1, bI_01, bft, up2_eq, up2_no, Bool.true_eq_false, Bool.false_eq_true, eq_self, m1_ne, m1_ne2, m1_lt, m1_le, lt_m1, m1_le2, bI_t, bI_f])
  refine ⟨fun h => ?_, fun h => ⟨fun h2 => ?_, fun h2 => ?_⟩⟩
  · rw [decide_eq_true h] at hQ
    exact hQ
  · rw [decide_eq_false h, decide_eq_true h2] at hQ
    exact hQ
  · rw [decide_eq_false h, decide_eq_false h2] at hQ
    exact hQ
theorem isTape_K {x : Int32} (hQ : Q (some (.int (bI (isT x)))) n sh I L P) : Cl G d 108 [.int x] n sh I L P Q := by
  apply e108
  (apply WP_run 999 80; simp (disch := first | decide | omega) only [t108_0, lift_c, o_iload0, o_iflt, o_inl, o_icge, o_goto, o_ireturn, z0, z1, z2, z6, z20, z31, run_0, run_c, run_n, fxn, fxi, fxr, fxl, fxl0, ↓swi_n, ↓swi_c, nck0, nck1, nck2, nck3, List.length_cons, List.length_nil, Nat.reduceAdd, Nat.reduceSub, Nat.reduceLeDiff, Nat.reduceEqDiff, Nat.reduceLT, reduceIte, ite_true, ite_false, Nat.sub_zero, Nat.zero_le, true_and, and_true, and_self, true_or, or_true, if_true, if_false, true_implies, implies_true, not_true_eq_false, not_false_eq_true, false_implies, forall_const, ne_eq, or_self, and_false, false_and, Lt, Le, Eq', Cp, In, nI_add, nI_mul, nI_sub, nI_sub1, Neg0, bI_eq0, bI_eq1, bI_01, bft, up2_eq, up2_no, Bool.true_eq_false, Bool.false_eq_true, eq_self, m1_ne, m1_ne2, m1_lt, m1_le, lt_m1, m1_le2, bI_t, bI_f, z6])
  refine ⟨fun h => ?_, fun h => ⟨fun h2 => ?_, fun h2 => ?_⟩⟩
  · rw [show isT x = false by unfold isT; apply decide_eq_false; rw [i_le]; rw [i_lt] at h; omega] at hQ
    exact hQ
  · rw [show isT x = false by unfold isT; apply decide_eq_false; rw [i_le, i_le]; rw [i_le] at h2; rw [nIi _ (by omega)] at h2 ⊢; rw [nIi _ (by omega)]; omega] at hQ
    exact hQ
  · rw [show isT x = true by unfold isT; apply decide_eq_true; rw [i_le, i_le]; rw [i_le] at h2; rw [i_lt] at h; rw [nIi _ (by omega)] at h h2 ⊢; rw [nIi _ (by omega)]; omega] at hQ
    exact hQ
theorem orNever_K {x : Int32} (hQ : Q (some (.int (orN x))) n sh I L P) : Cl G d 112 [.int x] n sh I L P Q := by
  apply e112
  unfold orN at hQ
  (apply WP_run 999 80; simp (disch := first | decide | omega) only [t112_0, lift_c, o_iload0, o_inl, o_icne, o_goto, o_ireturn, z0, z1, z2, z5, z20, z31, run_0, run_c, run_n, fxn, fxi, fxr, fxl, fxl0, ↓swi_n, ↓swi_c, nck0, nck1, nck2, nck3, List.length_cons, List.length_nil, Nat.reduceAdd, Nat.reduceSub, Nat.reduceLeDiff, Nat.reduceEqDiff, Nat.reduceLT, reduceIte, ite_true, ite_false, Nat.sub_zero, Nat.zero_le, true_and, and_true, and_self, true_or, or_true, if_true, if_false, true_implies, implies_true, not_true_eq_false, not_false_eq_true, false_implies, forall_const, ne_eq, or_self, and_false, false_and, Lt, Le, Eq', Cp, In, nI_add, nI_mul, nI_sub, nI_sub1, Neg0, bI_eq0, bI_eq1, bI_01, bft, up2_eq, up2_no, Bool.true_eq_false, Bool.false_eq_true, eq_self, m1_ne, m1_ne2, m1_lt, m1_le, lt_m1, m1_le2, bI_t, bI_f, z5])
  refine ⟨fun h => ?_, fun h => ?_⟩
  · rw [if_pos h] at hQ
    exact hQ
  · rw [if_neg h] at hQ
    exact hQ
theorem hoursOrNever_K {x : Int32} (hQ : Q (some (.int (hnS x))) n sh I L P) : Cl G d 113 [.int x] n sh I L P Q := by
  apply e113
  unfold hnS at hQ
  (apply WP_run 999 80; simp (disch := first | decide | omega) only [t113_0, lift_c, o_iload0, o_inl, o_icne, o_goto, o_ireturn, z0, z1, z2, z5, z20, z31, z1000, run_0, run_c, run_n, fxn, fxi, fxr, fxl, fxl0, ↓swi_n, ↓swi_c, nck0, nck1, nck2, nck3, List.length_cons, List.length_nil, Nat.reduceAdd, Nat.reduceSub, Nat.reduceLeDiff, Nat.reduceEqDiff, Nat.reduceLT, reduceIte, ite_true, ite_false, Nat.sub_zero, Nat.zero_le, true_and, and_true, and_self, true_or, or_true, if_true, if_false, true_implies, implies_true, not_true_eq_false, not_false_eq_true, false_implies, forall_const, ne_eq, or_self, and_false, false_and, Lt, Le, Eq', Cp, In, nI_add, nI_mul, nI_sub, nI_sub1, Neg0, bI_eq0, bI_eq1, bI_01, bft, up2_eq, up2_no, Bool.true_eq_false, Bool.false_eq_true, eq_self, m1_ne, m1_ne2, m1_lt, m1_le, lt_m1, m1_le2, bI_t, bI_f, z5])
  refine ⟨fun h => ?_, fun h => ?_⟩
  · rw [if_pos h] at hQ
    exact hQ
  · rw [if_neg h] at hQ
    exact hQ
theorem hasBit_K {x y : Int32} (hQ : Q (some (.int (bI (bt x y)))) n sh I L P) : Cl G d 115 [.int x, .int y] n sh I L P Q := by
  apply e115
  unfold bt at hQ
  (apply WP_run 999 80; simp (disch := first | decide | omega) only [t115_0, lift_c, o_iload0, o_iload1, o_ishr, o_inl, o_iand, o_icne, o_goto, o_ireturn, z0, z1, z2, z20, z31, run_0, run_c, run_n, fxn, fxi, fxr, fxl, fxl0, ↓swi_n, ↓swi_c, nck0, nck1, nck2, nck3, List.length_cons, List.length_nil, Nat.reduceAdd, Nat.reduceSub, Nat.reduceLeDiff, Nat.reduceEqDiff, Nat.reduceLT, reduceIte, ite_true, ite_false, Nat.sub_zero, Nat.zero_le, true_and, and_true, and_self, true_or, or_true, if_true, if_false, true_implies, implies_true, not_true_eq_false, not_false_eq_true, false_implies, forall_const, ne_eq, or_self, and_false, false_and, Lt, Le, Eq', Cp, In, nI_add, nI_mul, nI_sub, nI_sub1, Neg0, bI_eq0, bI_eq1, bI_01, bft, up2_eq, up2_no, Bool.true_eq_false, Bool.false_eq_true, eq_self, m1_ne, m1_ne2, m1_lt, m1_le, lt_m1, m1_le2, bI_t, bI_f])
  refine ⟨fun h => ?_, fun h => ?_⟩
  · rw [decide_eq_true h] at hQ
    exact hQ
  · rw [decide_eq_false h] at hQ
    exact hQ
theorem isGoose_K (hG : FG sh P) {x : Int32} (hQ : Q (some (.int (bI (decide (nI 0 ≤ x ∧ x < I 22 5))))) n sh I L P) (h22 : sh 22 = (8, 9)) : Cl G d 109 [.ref 20, .int x] n sh I L P Q := by
  apply e109
  (apply WP_run 999 80; simp (disch := first | decide | omega) only [t109_0, lift_c, o_iload1, o_iflt, o_aload0, o_getref, o_getfield, o_icge, o_inl, o_goto, o_ireturn, z0, z1, z2, z20, z31, run_0, run_c, run_n, fxn, fxi, fxr, fxl, fxl0, ↓swi_n, ↓swi_c, nck0, nck1, nck2, nck3, List.length_cons, List.length_nil, Nat.reduceAdd, Nat.reduceSub, Nat.reduceLeDiff, Nat.reduceEqDiff, Nat.reduceLT, reduceIte, ite_true, ite_false, Nat.sub_zero, Nat.zero_le, true_and, and_true, and_self, true_or, or_true, if_true, if_false, true_implies, implies_true, not_true_eq_false, not_false_eq_true, false_implies, forall_const, ne_eq, or_self, and_false, false_and, Lt, Le, Eq', Cp, In, nI_add, nI_mul, nI_sub, nI_sub1, Neg0, bI_eq0, bI_eq1, bI_01, bft, up2_eq, up2_no, Bool.true_eq_false, Bool.false_eq_true, eq_self, m1_ne, m1_ne2, m1_lt, m1_le, lt_m1, m1_le2, bI_t, bI_f, FGu hG, h22])
  refine ⟨fun h => ?_, fun h => ⟨fun h2 => ?_, fun h2 => ?_⟩⟩
  · rw [decide_eq_false (fun q => absurd q.1 (Int32.not_le.mpr h))] at hQ
    exact hQ
  · rw [decide_eq_false (fun q => absurd q.2 (Int32.not_lt.mpr h2))] at hQ
    exact hQ
  · rw [decide_eq_true ⟨Int32.not_lt.mp h, Int32.not_le.mp h2⟩] at hQ
    exact hQ
theorem isGate_K (hG : FG sh P) {x : Int32} (hQ : Q (some (.int (bI (decide (nI 0 ≤ x ∧ x < I 22 3))))) n sh I L P) (h22 : sh 22 = (8, 9)) : Cl G d 110 [.ref 20, .int x] n sh I L P Q := by
  apply e110
  (apply WP_run 999 80; simp (disch := first | decide | omega) only [t110_0, lift_c, o_iload1, o_iflt, o_aload0, o_getref, o_getfield, o_icge, o_inl, o_goto, o_ireturn, z0, z1, z2, z20, z31, run_0, run_c, run_n, fxn, fxi, fxr, fxl, fxl0, ↓swi_n, ↓swi_c, nck0, nck1, nck2, nck3, List.length_cons, List.length_nil, Nat.reduceAdd, Nat.reduceSub, Nat.reduceLeDiff, Nat.reduceEqDiff, Nat.reduceLT, reduceIte, ite_true, ite_false, Nat.sub_zero, Nat.zero_le, true_and, and_true, and_self, true_or, or_true, if_true, if_false, true_implies, implies_true, not_true_eq_false, not_false_eq_true, false_implies, forall_const, ne_eq, or_self, and_false, false_and, Lt, Le, Eq', Cp, In, nI_add, nI_mul, nI_sub, nI_sub1, Neg0, bI_eq0, bI_eq1, bI_01, bft, up2_eq, up2_no, Bool.true_eq_false, Bool.false_eq_true, eq_self, m1_ne, m1_ne2, m1_lt, m1_le, lt_m1, m1_le2, bI_t, bI_f, FGu hG, h22])
  refine ⟨fun h => ?_, fun h => ⟨fun h2 => ?_, fun h2 => ?_⟩⟩
  · rw [decide_eq_false (fun q => absurd q.1 (Int32.not_le.mpr h))] at hQ
    exact hQ
  · rw [decide_eq_false (fun q => absurd q.2 (Int32.not_lt.mpr h2))] at hQ
    exact hQ
  · rw [decide_eq_true ⟨Int32.not_lt.mp h, Int32.not_le.mp h2⟩] at hQ
    exact hQ
theorem isThere_K {q : Nat} (hq : sh q = (6, 3)) (hQ : Q (some (.int (bI (!decide (I q 0 = -nI 1))))) n sh I L P) : Cl G d 45 [.ref q] n sh I L P Q := by
  apply e45
  (apply WP_run 999 80; simp (disch := first | decide | omega) only [t45_0, lift_c, o_aload0, o_getfield, o_inl, o_iceq, o_goto, o_ireturn, z0, z1, z2, z20, z31, run_0, run_c, run_n, fxn, fxi, fxr, fxl, fxl0, ↓swi_n, ↓swi_c, nck0, nck1, nck2, nck3, List.length_cons, List.length_nil, Nat.reduceAdd, Nat.reduceSub, Nat.reduceLeDiff, Nat.reduceEqDiff, Nat.reduceLT, reduceIte, ite_true, ite_false, Nat.sub_zero, Nat.zero_le, true_and, and_true, and_self, true_or, or_true, if_true, if_false, true_implies, implies_true, not_true_eq_false, not_false_eq_true, false_implies, forall_const, ne_eq, or_self, and_false, false_and, Lt, Le, Eq', Cp, In, nI_add, nI_mul, nI_sub, nI_sub1, Neg0, bI_eq0, bI_eq1, bI_01, bft, up2_eq, up2_no, Bool.true_eq_false, Bool.false_eq_true, eq_self, m1_ne, m1_ne2, m1_lt, m1_le, lt_m1, m1_le2, bI_t, bI_f, hq])
  refine ⟨fun h => ?_, fun h => ?_⟩
  · rw [decide_eq_true h] at hQ
    exact hQ
  · rw [decide_eq_false h] at hQ
    exact hQ
end
