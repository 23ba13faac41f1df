/-! ### a new object of the class -/
/-- the cells of a new GeeseKeys -/
def GKI (sh : TS) (I : TI) (L : TL) (P : TP) : Prop := FA sh P ∧ YV I 22 ∧ I 40 3 = nI 0 ∧ I 44 3 = nI 0 ∧ I 48 3 = nI 0 ∧ P 22 7 = 0 ∧ P 53 7 = 0 ∧ I 20 2 = nI 0 ∧ I 20 5 = nI 0 ∧ I 102 1 = nI 0 ∧ I 108 1 = nI 0 ∧
  P 102 4 = 104 ∧ sh 104 = (2, 5) ∧ P 104 1 = 105 ∧ P 104 2 = 106 ∧ P 104 3 = 107 ∧ sh 105 = (100, 100) ∧ sh 106 = (100, 100) ∧ sh 107 = (100, 100) ∧
  ∀ t, t < 6 → I (111 + 2 * t) 0 = -nI 1 ∧ I (111 + 2 * t) 1 = nI 0 ∧ ∀ j, L (112 + 2 * t) j = 0
def TPI (sh : TS) (I : TI) (L : TL) (P : TP) (i : Nat) : Prop := ∀ t, t < i → P 110 t = 111 + 2 * t ∧ sh (111 + 2 * t) = (6, 3) ∧ sh (112 + 2 * t) = (101, 60) ∧ P (111 + 2 * t) 2 = 112 + 2 * t ∧ I (111 + 2 * t) 0 = -nI 1 ∧ I (111 + 2 * t) 1 = nI 0 ∧ ∀ j, L (112 + 2 * t) j = 0
section
variable {G : GE} {d n : Nat} {sh : TS} {I : TI} {L : TL} {P : TP} {Q : TQ}
theorem tapes_L (hd : 2 ≤ d) (h20 : sh 20 = (9, 8)) (h110 : sh 110 = (105, 6)) (p7 : P 20 7 = 110) (hQ : ∀ sh' I' L' P', NW 111 110 sh I L P sh' I' L' P' → TPI sh' I' L' P' 6 → Q none 123 sh' I' L' P') : ∀ m i c s sh1 I1 L1 P1, i + m = 6 → 2 * m ≤ c → 63 * m ≤ s → NW 111 110 sh I L P sh1 I1 L1 P1 → TPI sh1 I1 L1 P1 i →
    WP G 65 d Q 80 [some (.ref 20), some (.int (nI i))] [] c s (111 + 2 * i) sh1 I1 L1 P1 := by
  have hd0 : 0 < d := by omega
  have n110 : nle 20 110 := by show 20 ≤ 110; decide
  intro m
  induction m with
  | zero =>
    intro i c s sh1 I1 L1 P1 h hc hs hN hT
    have hi : i = 6 := by omega
    subst hi
    have hQ := hQ sh1 I1 L1 P1 hN hT
    (apply WP_runI (lv := lvK) (F := LK) LK_ok 999 8; simp (disch := first | decide | omega) only [t65_0, t65_1, lift_c, o_aload0, o_dsub, o_new, o_dupi, o_dupr, o_spec1, rpush_n, rpush_s, o_putref, o_inl, o_putbool, o_putfield, o_anewarray, o_istore, s1_0, s1_s, o_iload1, o_icge, o_getref, o_aastore, o_iinc1, o_goto, o_return, z0, z1, z2, z6, z20, z31, runI_0, runI_c, runI_n, liftI_n, liftI_y, run_0, run_c, run_n, fxn, fxi, fxr, fxl, fxl0, ↓swi_n, ↓swi_c, nck0, nck1, nck2, nck3, List.length_cons, List.length_nil, Nat.reduceAdd, Nat.reduceSub, Nat.reduceLeDiff, Nat.reduceEqDiff, Nat.reduceLT, reduceIte, ite_true, ite_false, Nat.sub_zero, Nat.zero_le, true_and, and_true, and_self, true_or, or_true, if_true, if_false, true_implies, implies_true, not_true_eq_false, not_false_eq_true, false_implies, forall_const, ne_eq, or_self, and_false, false_and, Lt, Le, Eq', Cp, In, nI_add, nI_mul, nI_sub, nI_sub1, Neg0, bI_eq0, bI_eq1, bI_01, bft, up2_eq, up2_no, Bool.true_eq_false, Bool.false_eq_true, eq_self, m1_ne, m1_ne2, m1_lt, m1_le, lt_m1, m1_le2, bI_t, bI_f, LK_st])
    exact hQ
  | succ m ih =>
    intro i c s sh1 I1 L1 P1 h hc hs hN hT
    have hi : ¬ 6 ≤ i := by omega
    have c1 : 1 ≤ c := by omega
    have c2 : 1 ≤ c - 1 := by omega
    have c3 : 3 ≤ s := by omega
    have c4 : 60 ≤ s - 3 := by omega
    have nq : nle 2 (111 + 2 * i) := by show 2 ≤ 111 + 2 * i; omega
    have s20 : sh1 20 = (9, 8) := (hN.1 20 (by omega)).trans h20
    have s110 : sh1 110 = (105, 6) := (hN.1 110 (by omega)).trans h110
    have p207 : P1 20 7 = 110 := (hN.2.2.2 20 7 (by omega) (by omega)).trans p7
    (apply WP_runI (lv := lvK) (F := LK) LK_ok 999 14; simp (disch := first | decide | omega) only [t65_0, t65_1, lift_c, o_aload0, o_dsub, o_new, o_dupi, o_dupr, o_spec1, rpush_n, rpush_s, o_putref, o_inl, o_putbool, o_putfield, o_anewarray, o_istore, s1_0, s1_s, o_iload1, o_icge, o_getref, o_aastore, o_iinc1, o_goto, o_return, z0, z1, z2, z6, z20, z31, runI_0, runI_c, runI_n, liftI_n, liftI_y, run_0, run_c, run_n, fxn, fxi, fxr, fxl, fxl0, ↓swi_n, ↓swi_c, nck0, nck1, nck2, nck3, List.length_cons, List.length_nil, Nat.reduceAdd, Nat.reduceSub, Nat.reduceLeDiff, Nat.reduceEqDiff, Nat.reduceLT, reduceIte, ite_true, ite_false, Nat.sub_zero, Nat.zero_le, true_and, and_true, and_self, true_or, or_true, if_true, if_false, true_implies, implies_true, not_true_eq_false, not_false_eq_true, false_implies, forall_const, ne_eq, or_self, and_false, false_and, Lt, Le, Eq', Cp, In, nI_add, nI_mul, nI_sub, nI_sub1, Neg0, bI_eq0, bI_eq1, bI_01, bft, up2_eq, up2_no, Bool.true_eq_false, Bool.false_eq_true, eq_self, m1_ne, m1_ne2, m1_lt, m1_le, lt_m1, m1_le2, bI_t, bI_f, LK_st, s20, p207, hi, c1, c2, c3, c4, nq, hd0, upS_no, clr_no])
    refine tapeI_K (upS_eq _ _ _) (by omega) (Nat.lt_succ_self _) (by omega) fun sh2 I2 L2 P2 hN2 g1 g2 g3 g4 g5 => ?_
    obtain ⟨f1, f2, f3, f4⟩ := hN2
    have e1 : ∀ a, a < 111 + 2 * i → sh2 a = sh1 a := fun a ha => (f1 a (by omega)).trans (upS_no _ _ _ _ (by omega))
    have e2 : ∀ a j, a < 111 + 2 * i → I2 a j = I1 a j := fun a j ha => (f2 a j (by omega) (by omega)).trans (clr_no _ _ _ _ _ (by omega))
    have e3 : ∀ a j, a < 111 + 2 * i → L2 a j = L1 a j := fun a j ha => (f3 a j (by omega) (by omega)).trans (clr_no _ _ _ _ _ (by omega))
    have e4 : ∀ a j, a < 111 + 2 * i → P2 a j = P1 a j := fun a j ha => (f4 a j (by omega) (by omega)).trans (clr_no _ _ _ _ _ (by omega))
    have eg : sh2 (111 + 2 * i) = (6, 3) := (f1 _ (by omega)).trans (upS_eq _ _ _)
    have k4 : sh2 110 = (105, 6) := (e1 _ (by omega)).trans s110
    have u : ∀ a j, ¬ (a = 110 ∧ j = i) → (up2 P2 110 i (111 + 2 * i)) a j = P2 a j := fun a j w => up2_no _ _ _ _ _ _ w
    obtain ⟨N1, N2, N3, N4⟩ := hN
    have ih := ih (i + 1) (c - 1 - 1) (s - 3 - 60) sh2 I2 L2 (up2 P2 110 i (111 + 2 * i)) (by omega) (by omega) (by omega)
      ⟨fun a ha => (e1 a (by omega)).trans (N1 a ha), fun a j ha w => (e2 a j (by omega)).trans (N2 a j ha w), fun a j ha w => (e3 a j (by omega)).trans (N3 a j ha w), fun a j ha w => ((u a j (by omega)).trans (e4 a j (by omega))).trans (N4 a j ha w)⟩
      (fun t ht => by
        by_cases et : t = i
        · rw [et, show 112 + 2 * i = 111 + 2 * i + 1 by omega]
          exact ⟨up2_eq _ _ _ _, eg, g4, (u _ _ (by omega)).trans g3, g1, g2, g5⟩
        · obtain ⟨t1, t2, t3, t4, t5, t6, t7⟩ := hT t (by omega)
          exact ⟨((u _ _ (by omega)).trans (e4 _ _ (by omega))).trans t1, (e1 _ (by omega)).trans t2, (e1 _ (by omega)).trans t3, ((u _ _ (by omega)).trans (e4 _ _ (by omega))).trans t4, (e2 _ _ (by omega)).trans t5, (e2 _ _ (by omega)).trans t6, fun j => (e3 _ _ (by omega)).trans (t7 j)⟩)
    rw [show 111 + 2 * (i + 1) = 111 + 2 * i + 1 + 1 by omega] at ih
    (apply WP_runI (lv := lvK) (F := LK) LK_ok 80 8; simp (disch := first | decide | omega) only [t65_0, t65_1, lift_c, o_aload0, o_dsub, o_new, o_dupi, o_dupr, o_spec1, rpush_n, rpush_s, o_putref, o_inl, o_putbool, o_putfield, o_anewarray, o_istore, s1_0, s1_s, o_iload1, o_icge, o_getref, o_aastore, o_iinc1, o_goto, o_return, z0, z1, z2, z6, z20, z31, runI_0, runI_c, runI_n, liftI_n, liftI_y, run_0, run_c, run_n, fxn, fxi, fxr, fxl, fxl0, ↓swi_n, ↓swi_c, nck0, nck1, nck2, nck3, List.length_cons, List.length_nil, Nat.reduceAdd, Nat.reduceSub, Nat.reduceLeDiff, Nat.reduceEqDiff, Nat.reduceLT, reduceIte, ite_true, ite_false, Nat.sub_zero, Nat.zero_le, true_and, and_true, and_self, true_or, or_true, if_true, if_false, true_implies, implies_true, not_true_eq_false, not_false_eq_true, false_implies, forall_const, ne_eq, or_self, and_false, false_and, Lt, Le, Eq', Cp, In, nI_add, nI_mul, nI_sub, nI_sub1, Neg0, bI_eq0, bI_eq1, bI_01, bft, up2_eq, up2_no, Bool.true_eq_false, Bool.false_eq_true, eq_self, m1_ne, m1_ne2, m1_lt, m1_le, lt_m1, m1_le2, bI_t, bI_f, LK_st, k4, eg, n110, hi, hd0])
    exact ih
theorem gkI_K (hs : sh 20 = (9, 8)) (hd : 6 ≤ d) (hQ : ∀ sh' I' L' P', NW 21 20 sh I L P sh' I' L' P' → GKI sh' I' L' P' → Q none 123 sh' I' L' P') : Cl G d 65 [.ref 20] 21 sh I L P Q := by
  apply e65
  have hd0 : 0 < d := by omega
  have n20 : nle 2 20 := by show 2 ≤ 20; decide
  have k1 : nle 2 21 := by show 2 ≤ 21; decide
  have m1 : ¬ neq 21 1 := by show ¬ 21 = 1; decide
  (apply WP_runI (lv := lvK) (F := LK) LK_ok 999 14; simp (disch := first | decide | omega) only [t65_0, t65_1, lift_c, o_aload0, o_dsub, o_new, o_dupi, o_dupr, o_spec1, rpush_n, rpush_s, o_putref, o_inl, o_putbool, o_putfield, o_anewarray, o_istore, s1_0, s1_s, o_iload1, o_icge, o_getref, o_aastore, o_iinc1, o_goto, o_return, z0, z1, z2, z6, z20, z31, runI_0, runI_c, runI_n, liftI_n, liftI_y, run_0, run_c, run_n, fxn, fxi, fxr, fxl, fxl0, ↓swi_n, ↓swi_c, nck0, nck1, nck2, nck3, List.length_cons, List.length_nil, Nat.reduceAdd, Nat.reduceSub, Nat.reduceLeDiff, Nat.reduceEqDiff, Nat.reduceLT, reduceIte, ite_true, ite_false, Nat.sub_zero, Nat.zero_le, true_and, and_true, and_self, true_or, or_true, if_true, if_false, true_implies, implies_true, not_true_eq_false, not_false_eq_true, false_implies, forall_const, ne_eq, or_self, and_false, false_and, Lt, Le, Eq', Cp, In, nI_add, nI_mul, nI_sub, nI_sub1, Neg0, bI_eq0, bI_eq1, bI_01, bft, up2_eq, up2_no, Bool.true_eq_false, Bool.false_eq_true, eq_self, m1_ne, m1_ne2, m1_lt, m1_le, lt_m1, m1_le2, bI_t, bI_f, LK_st, n20, k1, hd0])
  refine wholeI_K (q := 21) (upS_eq _ _ _) (by omega) (by omega) fun sh1 I1 L1 P1 N1 h1 => ?_
  obtain ⟨M1, r1, i1, s1, w1⟩ := N1.put (q := 20) (by omega) 0
  have sq1 : sh1 20 = (9, 8) := s1.trans hs
  have p1 : (up2 P1 20 0 21) 20 0 = 21 := up2_eq _ _ _ _
  obtain ⟨a1, a2, a3, a4, a5, a6, a7, a8, a9, a10, a11, a12, a13⟩ := h1
  have b1 : (up2 P1 20 0 21) 21 0 = 22 := (w1 _ _ (by omega)).trans a1
  have b2 : (up2 P1 20 0 21) 21 1 = 40 := (w1 _ _ (by omega)).trans a2
  have b3 : (up2 P1 20 0 21) 21 2 = 44 := (w1 _ _ (by omega)).trans a3
  have b4 : (up2 P1 20 0 21) 21 3 = 48 := (w1 _ _ (by omega)).trans a4
  have b5 : FY sh1 (up2 P1 20 0 21) 22 := a5.up (by omega)
  have b6 : (up2 P1 20 0 21) 22 7 = 0 := (w1 _ _ (by omega)).trans a6
  have b8 : FR sh1 (up2 P1 20 0 21) 40 5 := a8.up (by omega)
  have b9 : FR sh1 (up2 P1 20 0 21) 44 10 := a9.up (by omega)
  have b10 : FR sh1 (up2 P1 20 0 21) 48 8 := a10.up (by omega)
  have s21 : sh1 21 = (7, 4) := (N1.1 21 (by omega)).trans (upS_eq _ _ _)
  (apply WP_runI (lv := lvK) (F := LK) LK_ok 15 5; simp (disch := first | decide | omega) only [t65_0, t65_1, lift_c, o_aload0, o_dsub, o_new, o_dupi, o_dupr, o_spec1, rpush_n, rpush_s, o_putref, o_inl, o_putbool, o_putfield, o_anewarray, o_istore, s1_0, s1_s, o_iload1, o_icge, o_getref, o_aastore, o_iinc1, o_goto, o_return, z0, z1, z2, z6, z20, z31, runI_0, runI_c, runI_n, liftI_n, liftI_y, run_0, run_c, run_n, fxn, fxi, fxr, fxl, fxl0, ↓swi_n, ↓swi_c, nck0, nck1, nck2, nck3, List.length_cons, List.length_nil, Nat.reduceAdd, Nat.reduceSub, Nat.reduceLeDiff, Nat.reduceEqDiff, Nat.reduceLT, reduceIte, ite_true, ite_false, Nat.sub_zero, Nat.zero_le, true_and, and_true, and_self, true_or, or_true, if_true, if_false, true_implies, implies_true, not_true_eq_false, not_false_eq_true, false_implies, forall_const, ne_eq, or_self, and_false, false_and, Lt, Le, Eq', Cp, In, nI_add, nI_mul, nI_sub, nI_sub1, Neg0, bI_eq0, bI_eq1, bI_01, bft, up2_eq, up2_no, Bool.true_eq_false, Bool.false_eq_true, eq_self, m1_ne, m1_ne2, m1_lt, m1_le, lt_m1, m1_le2, bI_t, bI_f, LK_st, sq1, m1, hd0])
  generalize up2 P1 20 0 21 = Q1 at M1 r1 p1 b1 b2 b3 b4 b5 b6 b8 b9 b10 ⊢
  have k2 : nle 2 52 := by show 2 ≤ 52; decide
  have m2 : ¬ neq 52 1 := by show ¬ 52 = 1; decide
  (apply WP_runI (lv := lvK) (F := LK) LK_ok 999 14; simp (disch := first | decide | omega) only [t65_0, t65_1, lift_c, o_aload0, o_dsub, o_new, o_dupi, o_dupr, o_spec1, rpush_n, rpush_s, o_putref, o_inl, o_putbool, o_putfield, o_anewarray, o_istore, s1_0, s1_s, o_iload1, o_icge, o_getref, o_aastore, o_iinc1, o_goto, o_return, z0, z1, z2, z6, z20, z31, runI_0, runI_c, runI_n, liftI_n, liftI_y, run_0, run_c, run_n, fxn, fxi, fxr, fxl, fxl0, ↓swi_n, ↓swi_c, nck0, nck1, nck2, nck3, List.length_cons, List.length_nil, Nat.reduceAdd, Nat.reduceSub, Nat.reduceLeDiff, Nat.reduceEqDiff, Nat.reduceLT, reduceIte, ite_true, ite_false, Nat.sub_zero, Nat.zero_le, true_and, and_true, and_self, true_or, or_true, if_true, if_false, true_implies, implies_true, not_true_eq_false, not_false_eq_true, false_implies, forall_const, ne_eq, or_self, and_false, false_and, Lt, Le, Eq', Cp, In, nI_add, nI_mul, nI_sub, nI_sub1, Neg0, bI_eq0, bI_eq1, bI_01, bft, up2_eq, up2_no, Bool.true_eq_false, Bool.false_eq_true, eq_self, m1_ne, m1_ne2, m1_lt, m1_le, lt_m1, m1_le2, bI_t, bI_f, LK_st, n20, k2, hd0])
  refine wholeI_K (q := 52) (upS_eq _ _ _) (by omega) (by omega) fun sh2 I2 L2 P2 N2 h2 => ?_
  obtain ⟨M2, r2, i2, s2, w2⟩ := N2.put (q := 20) (by omega) 1
  have sq2 : sh2 20 = (9, 8) := s2.trans sq1
  have p2 : (up2 P2 20 1 52) 20 1 = 52 := up2_eq _ _ _ _
  obtain ⟨c1, c2, c3, c4, c5, c6, c7, c8, c9, c10, c11, c12, c13⟩ := h2
  have d1 : (up2 P2 20 1 52) 52 0 = 53 := (w2 _ _ (by omega)).trans c1
  have d2 : (up2 P2 20 1 52) 52 1 = 71 := (w2 _ _ (by omega)).trans c2
  have d3 : (up2 P2 20 1 52) 52 2 = 75 := (w2 _ _ (by omega)).trans c3
  have d4 : (up2 P2 20 1 52) 52 3 = 79 := (w2 _ _ (by omega)).trans c4
  have d5 : FY sh2 (up2 P2 20 1 52) 53 := c5.up (by omega)
  have d6 : (up2 P2 20 1 52) 53 7 = 0 := (w2 _ _ (by omega)).trans c6
  have d8 : FR sh2 (up2 P2 20 1 52) 71 5 := c8.up (by omega)
  have d9 : FR sh2 (up2 P2 20 1 52) 75 10 := c9.up (by omega)
  have d10 : FR sh2 (up2 P2 20 1 52) 79 8 := c10.up (by omega)
  have s52 : sh2 52 = (7, 4) := (N2.1 52 (by omega)).trans (upS_eq _ _ _)
  (apply WP_runI (lv := lvK) (F := LK) LK_ok 31 8; simp (disch := first | decide | omega) only [t65_0, t65_1, lift_c, o_aload0, o_dsub, o_new, o_dupi, o_dupr, o_spec1, rpush_n, rpush_s, o_putref, o_inl, o_putbool, o_putfield, o_anewarray, o_istore, s1_0, s1_s, o_iload1, o_icge, o_getref, o_aastore, o_iinc1, o_goto, o_return, z0, z1, z2, z6, z20, z31, runI_0, runI_c, runI_n, liftI_n, liftI_y, run_0, run_c, run_n, fxn, fxi, fxr, fxl, fxl0, ↓swi_n, ↓swi_c, nck0, nck1, nck2, nck3, List.length_cons, List.length_nil, Nat.reduceAdd, Nat.reduceSub, Nat.reduceLeDiff, Nat.reduceEqDiff, Nat.reduceLT, reduceIte, ite_true, ite_false, Nat.sub_zero, Nat.zero_le, true_and, and_true, and_self, true_or, or_true, if_true, if_false, true_implies, implies_true, not_true_eq_false, not_false_eq_true, false_implies, forall_const, ne_eq, or_self, and_false, false_and, Lt, Le, Eq', Cp, In, nI_add, nI_mul, nI_sub, nI_sub1, Neg0, bI_eq0, bI_eq1, bI_01, bft, up2_eq, up2_no, Bool.true_eq_false, Bool.false_eq_true, eq_self, m1_ne, m1_ne2, m1_lt, m1_le, lt_m1, m1_le2, bI_t, bI_f, LK_st, sq2, m2, hd0])
  generalize up2 P2 20 1 52 = Q2 at M2 r2 p2 d1 d2 d3 d4 d5 d6 d8 d9 d10 ⊢
  have M2 : NW 52 20 sh1 I1 L1 Q1 sh2 (up2 I2 20 2 (nI 0)) L2 Q2 := ⟨M2.1, fun a j ha w => (up2_no _ _ _ _ _ _ (by omega)).trans (M2.2.1 a j ha w), M2.2.2.1, M2.2.2.2⟩
  have j2 : (up2 I2 20 2 (nI 0)) 20 2 = nI 0 := up2_eq _ _ _ _
  generalize up2 I2 20 2 (nI 0) = J2 at M2 j2 ⊢
  have k3 : nle 2 83 := by show 2 ≤ 83; decide
  have m3 : ¬ neq 83 1 := by show ¬ 83 = 1; decide
  (apply WP_runI (lv := lvK) (F := LK) LK_ok 999 14; simp (disch := first | decide | omega) only [t65_0, t65_1, lift_c, o_aload0, o_dsub, o_new, o_dupi, o_dupr, o_spec1, rpush_n, rpush_s, o_putref, o_inl, o_putbool, o_putfield, o_anewarray, o_istore, s1_0, s1_s, o_iload1, o_icge, o_getref, o_aastore, o_iinc1, o_goto, o_return, z0, z1, z2, z6, z20, z31, runI_0, runI_c, runI_n, liftI_n, liftI_y, run_0, run_c, run_n, fxn, fxi, fxr, fxl, fxl0, ↓swi_n, ↓swi_c, nck0, nck1, nck2, nck3, List.length_cons, List.length_nil, Nat.reduceAdd, Nat.reduceSub, Nat.reduceLeDiff, Nat.reduceEqDiff, Nat.reduceLT, reduceIte, ite_true, ite_false, Nat.sub_zero, Nat.zero_le, true_and, and_true, and_self, true_or, or_true, if_true, if_false, true_implies, implies_true, not_true_eq_false, not_false_eq_true, false_implies, forall_const, ne_eq, or_self, and_false, false_and, Lt, Le, Eq', Cp, In, nI_add, nI_mul, nI_sub, nI_sub1, Neg0, bI_eq0, bI_eq1, bI_01, bft, up2_eq, up2_no, Bool.true_eq_false, Bool.false_eq_true, eq_self, m1_ne, m1_ne2, m1_lt, m1_le, lt_m1, m1_le2, bI_t, bI_f, LK_st, n20, k3, hd0])
  refine aheadI_K (q := 83) (upS_eq _ _ _) (by omega) (by omega) fun sh3 I3 L3 P3 N3 h3 h3y => ?_
  obtain ⟨M3, r3, i3, s3, w3⟩ := N3.put (q := 20) (by omega) 3
  have sq3 : sh3 20 = (9, 8) := s3.trans sq2
  have p3 : (up2 P3 20 3 83) 20 3 = 83 := up2_eq _ _ _ _
  have f1 : (up2 P3 20 3 83) 83 0 = 84 := (w3 _ _ (by omega)).trans h3
  have f2 : FY sh3 (up2 P3 20 3 83) 84 := h3y.up (by omega)
  have s83 : sh3 83 = (1, 1) := (N3.1 83 (by omega)).trans (upS_eq _ _ _)
  (apply WP_runI (lv := lvK) (F := LK) LK_ok 42 5; simp (disch := first | decide | omega) only [t65_0, t65_1, lift_c, o_aload0, o_dsub, o_new, o_dupi, o_dupr, o_spec1, rpush_n, rpush_s, o_putref, o_inl, o_putbool, o_putfield, o_anewarray, o_istore, s1_0, s1_s, o_iload1, o_icge, o_getref, o_aastore, o_iinc1, o_goto, o_return, z0, z1, z2, z6, z20, z31, runI_0, runI_c, runI_n, liftI_n, liftI_y, run_0, run_c, run_n, fxn, fxi, fxr, fxl, fxl0, ↓swi_n, ↓swi_c, nck0, nck1, nck2, nck3, List.length_cons, List.length_nil, Nat.reduceAdd, Nat.reduceSub, Nat.reduceLeDiff, Nat.reduceEqDiff, Nat.reduceLT, reduceIte, ite_true, ite_false, Nat.sub_zero, Nat.zero_le, true_and, and_true, and_self, true_or, or_true, if_true, if_false, true_implies, implies_true, not_true_eq_false, not_false_eq_true, false_implies, forall_const, ne_eq, or_self, and_false, false_and, Lt, Le, Eq', Cp, In, nI_add, nI_mul, nI_sub, nI_sub1, Neg0, bI_eq0, bI_eq1, bI_01, bft, up2_eq, up2_no, Bool.true_eq_false, Bool.false_eq_true, eq_self, m1_ne, m1_ne2, m1_lt, m1_le, lt_m1, m1_le2, bI_t, bI_f, LK_st, sq3, m3, hd0])
  generalize up2 P3 20 3 83 = Q3 at M3 r3 p3 f1 f2 ⊢
  have k4 : nle 2 102 := by show 2 ≤ 102; decide
  have m4 : ¬ neq 102 1 := by show ¬ 102 = 1; decide
  (apply WP_runI (lv := lvK) (F := LK) LK_ok 999 14; simp (disch := first | decide | omega) only [t65_0, t65_1, lift_c, o_aload0, o_dsub, o_new, o_dupi, o_dupr, o_spec1, rpush_n, rpush_s, o_putref, o_inl, o_putbool, o_putfield, o_anewarray, o_istore, s1_0, s1_s, o_iload1, o_icge, o_getref, o_aastore, o_iinc1, o_goto, o_return, z0, z1, z2, z6, z20, z31, runI_0, runI_c, runI_n, liftI_n, liftI_y, run_0, run_c, run_n, fxn, fxi, fxr, fxl, fxl0, ↓swi_n, ↓swi_c, nck0, nck1, nck2, nck3, List.length_cons, List.length_nil, Nat.reduceAdd, Nat.reduceSub, Nat.reduceLeDiff, Nat.reduceEqDiff, Nat.reduceLT, reduceIte, ite_true, ite_false, Nat.sub_zero, Nat.zero_le, true_and, and_true, and_self, true_or, or_true, if_true, if_false, true_implies, implies_true, not_true_eq_false, not_false_eq_true, false_implies, forall_const, ne_eq, or_self, and_false, false_and, Lt, Le, Eq', Cp, In, nI_add, nI_mul, nI_sub, nI_sub1, Neg0, bI_eq0, bI_eq1, bI_01, bft, up2_eq, up2_no, Bool.true_eq_false, Bool.false_eq_true, eq_self, m1_ne, m1_ne2, m1_lt, m1_le, lt_m1, m1_le2, bI_t, bI_f, LK_st, n20, k4, hd0])
  refine readerI_K (q := 102) (upS_eq _ _ _) (by omega) (by omega) fun sh4 I4 L4 P4 N4 h4 => ?_
  obtain ⟨M4, r4, i4, s4, w4⟩ := N4.put (q := 20) (by omega) 4
  have sq4 : sh4 20 = (9, 8) := s4.trans sq3
  have p4 : (up2 P4 20 4 102) 20 4 = 102 := up2_eq _ _ _ _
  obtain ⟨g1, g2, g3, g4, g5, g6, g7, g8, g9, g10, g11⟩ := h4
  have q1 : (up2 P4 20 4 102) 102 0 = 103 := (w4 _ _ (by omega)).trans g1
  have q4 : (up2 P4 20 4 102) 102 4 = 104 := (w4 _ _ (by omega)).trans g4
  have q6 : (up2 P4 20 4 102) 104 1 = 105 := (w4 _ _ (by omega)).trans g6
  have q7 : (up2 P4 20 4 102) 104 2 = 106 := (w4 _ _ (by omega)).trans g7
  have q8 : (up2 P4 20 4 102) 104 3 = 107 := (w4 _ _ (by omega)).trans g8
  have s102 : sh4 102 = (4, 5) := (N4.1 102 (by omega)).trans (upS_eq _ _ _)
  (apply WP_runI (lv := lvK) (F := LK) LK_ok 58 8; simp (disch := first | decide | omega) only [t65_0, t65_1, lift_c, o_aload0, o_dsub, o_new, o_dupi, o_dupr, o_spec1, rpush_n, rpush_s, o_putref, o_inl, o_putbool, o_putfield, o_anewarray, o_istore, s1_0, s1_s, o_iload1, o_icge, o_getref, o_aastore, o_iinc1, o_goto, o_return, z0, z1, z2, z6, z20, z31, runI_0, runI_c, runI_n, liftI_n, liftI_y, run_0, run_c, run_n, fxn, fxi, fxr, fxl, fxl0, ↓swi_n, ↓swi_c, nck0, nck1, nck2, nck3, List.length_cons, List.length_nil, Nat.reduceAdd, Nat.reduceSub, Nat.reduceLeDiff, Nat.reduceEqDiff, Nat.reduceLT, reduceIte, ite_true, ite_false, Nat.sub_zero, Nat.zero_le, true_and, and_true, and_self, true_or, or_true, if_true, if_false, true_implies, implies_true, not_true_eq_false, not_false_eq_true, false_implies, forall_const, ne_eq, or_self, and_false, false_and, Lt, Le, Eq', Cp, In, nI_add, nI_mul, nI_sub, nI_sub1, Neg0, bI_eq0, bI_eq1, bI_01, bft, up2_eq, up2_no, Bool.true_eq_false, Bool.false_eq_true, eq_self, m1_ne, m1_ne2, m1_lt, m1_le, lt_m1, m1_le2, bI_t, bI_f, LK_st, sq4, m4, hd0])
  generalize up2 P4 20 4 102 = Q4 at M4 r4 p4 q1 q4 q6 q7 q8 ⊢
  have M4 : NW 102 20 sh3 I3 L3 Q3 sh4 (up2 I4 20 5 (nI 0)) L4 Q4 := ⟨M4.1, fun a j ha w => (up2_no _ _ _ _ _ _ (by omega)).trans (M4.2.1 a j ha w), M4.2.2.1, M4.2.2.2⟩
  have j4 : (up2 I4 20 5 (nI 0)) 20 5 = nI 0 := up2_eq _ _ _ _
  have j4b : (up2 I4 20 5 (nI 0)) 20 2 = I4 20 2 := up2_no _ _ _ _ _ _ (by omega)
  have g3 : (up2 I4 20 5 (nI 0)) 102 1 = nI 0 := (up2_no _ _ _ _ _ _ (by omega)).trans g3
  generalize up2 I4 20 5 (nI 0) = J4 at M4 j4 j4b g3 ⊢
  have k5 : nle 2 108 := by show 2 ≤ 108; decide
  have m5 : ¬ neq 108 1 := by show ¬ 108 = 1; decide
  (apply WP_runI (lv := lvK) (F := LK) LK_ok 999 14; simp (disch := first | decide | omega) only [t65_0, t65_1, lift_c, o_aload0, o_dsub, o_new, o_dupi, o_dupr, o_spec1, rpush_n, rpush_s, o_putref, o_inl, o_putbool, o_putfield, o_anewarray, o_istore, s1_0, s1_s, o_iload1, o_icge, o_getref, o_aastore, o_iinc1, o_goto, o_return, z0, z1, z2, z6, z20, z31, runI_0, runI_c, runI_n, liftI_n, liftI_y, run_0, run_c, run_n, fxn, fxi, fxr, fxl, fxl0, ↓swi_n, ↓swi_c, nck0, nck1, nck2, nck3, List.length_cons, List.length_nil, Nat.reduceAdd, Nat.reduceSub, Nat.reduceLeDiff, Nat.reduceEqDiff, Nat.reduceLT, reduceIte, ite_true, ite_false, Nat.sub_zero, Nat.zero_le, true_and, and_true, and_self, true_or, or_true, if_true, if_false, true_implies, implies_true, not_true_eq_false, not_false_eq_true, false_implies, forall_const, ne_eq, or_self, and_false, false_and, Lt, Le, Eq', Cp, In, nI_add, nI_mul, nI_sub, nI_sub1, Neg0, bI_eq0, bI_eq1, bI_01, bft, up2_eq, up2_no, Bool.true_eq_false, Bool.false_eq_true, eq_self, m1_ne, m1_ne2, m1_lt, m1_le, lt_m1, m1_le2, bI_t, bI_f, LK_st, n20, k5, hd0])
  refine actsI_K (q := 108) (upS_eq _ _ _) (by omega) (by omega) fun sh5 I5 L5 P5 N5 h5 h5p h5s => ?_
  obtain ⟨M5, r5, i5, s5, w5⟩ := N5.put (q := 20) (by omega) 6
  have sq5 : sh5 20 = (9, 8) := s5.trans sq4
  have p5 : (up2 P5 20 6 108) 20 6 = 108 := up2_eq _ _ _ _
  have u1 : (up2 P5 20 6 108) 108 0 = 109 := (w5 _ _ (by omega)).trans h5p
  have s108 : sh5 108 = (0, 5) := (N5.1 108 (by omega)).trans (upS_eq _ _ _)
  (apply WP_runI (lv := lvK) (F := LK) LK_ok 69 5; simp (disch := first | decide | omega) only [t65_0, t65_1, lift_c, o_aload0, o_dsub, o_new, o_dupi, o_dupr, o_spec1, rpush_n, rpush_s, o_putref, o_inl, o_putbool, o_putfield, o_anewarray, o_istore, s1_0, s1_s, o_iload1, o_icge, o_getref, o_aastore, o_iinc1, o_goto, o_return, z0, z1, z2, z6, z20, z31, runI_0, runI_c, runI_n, liftI_n, liftI_y, run_0, run_c, run_n, fxn, fxi, fxr, fxl, fxl0, ↓swi_n, ↓swi_c, nck0, nck1, nck2, nck3, List.length_cons, List.length_nil, Nat.reduceAdd, Nat.reduceSub, Nat.reduceLeDiff, Nat.reduceEqDiff, Nat.reduceLT, reduceIte, ite_true, ite_false, Nat.sub_zero, Nat.zero_le, true_and, and_true, and_self, true_or, or_true, if_true, if_false, true_implies, implies_true, not_true_eq_false, not_false_eq_true, false_implies, forall_const, ne_eq, or_self, and_false, false_and, Lt, Le, Eq', Cp, In, nI_add, nI_mul, nI_sub, nI_sub1, Neg0, bI_eq0, bI_eq1, bI_01, bft, up2_eq, up2_no, Bool.true_eq_false, Bool.false_eq_true, eq_self, m1_ne, m1_ne2, m1_lt, m1_le, lt_m1, m1_le2, bI_t, bI_f, LK_st, sq5, m5, hd0])
  generalize up2 P5 20 6 108 = Q5 at M5 r5 p5 u1 ⊢
  have m6 : ¬ neq 110 1 := by show ¬ 110 = 1; decide
  have M6 : NW 110 20 sh5 I5 L5 Q5 (upS sh5 110 (105, 6)) (clr I5 110 (nI 0)) (clr L5 110 0) (up2 (clr Q5 110 0) 20 7 110) := ⟨fun a ha => upS_no _ _ _ _ (by omega), fun a j ha w => clr_no _ _ _ _ _ (by omega), fun a j ha w => clr_no _ _ _ _ _ (by omega), fun a j ha w => (up2_no _ _ _ _ _ _ (by omega)).trans (clr_no _ _ _ _ _ (by omega))⟩
  have r6 : ∀ j, ¬ j = 7 → (up2 (clr Q5 110 0) 20 7 110) 20 j = Q5 20 j := fun j hj => (up2_no _ _ _ _ _ _ (by omega)).trans (clr_no _ _ _ _ _ (by omega))
  have i6 : ∀ j, (clr I5 110 (nI 0)) 20 j = I5 20 j := fun j => clr_no _ _ _ _ _ (by omega)
  have p6 : (up2 (clr Q5 110 0) 20 7 110) 20 7 = 110 := up2_eq _ _ _ _
  have s110 : (upS sh5 110 (105, 6)) 110 = (105, 6) := upS_eq _ _ _
  have sq6 : (upS sh5 110 (105, 6)) 20 = (9, 8) := (upS_no _ _ _ _ (by omega)).trans sq5
  (apply WP_runI (lv := lvK) (F := LK) LK_ok 78 12; simp (disch := first | decide | omega) only [t65_0, t65_1, lift_c, o_aload0, o_dsub, o_new, o_dupi, o_dupr, o_spec1, rpush_n, rpush_s, o_putref, o_inl, o_putbool, o_putfield, o_anewarray, o_istore, s1_0, s1_s, o_iload1, o_icge, o_getref, o_aastore, o_iinc1, o_goto, o_return, z0, z1, z2, z6, z20, z31, runI_0, runI_c, runI_n, liftI_n, liftI_y, run_0, run_c, run_n, fxn, fxi, fxr, fxl, fxl0, ↓swi_n, ↓swi_c, nck0, nck1, nck2, nck3, List.length_cons, List.length_nil, Nat.reduceAdd, Nat.reduceSub, Nat.reduceLeDiff, Nat.reduceEqDiff, Nat.reduceLT, reduceIte, ite_true, ite_false, Nat.sub_zero, Nat.zero_le, true_and, and_true, and_self, true_or, or_true, if_true, if_false, true_implies, implies_true, not_true_eq_false, not_false_eq_true, false_implies, forall_const, ne_eq, or_self, and_false, false_and, Lt, Le, Eq', Cp, In, nI_add, nI_mul, nI_sub, nI_sub1, Neg0, bI_eq0, bI_eq1, bI_01, bft, up2_eq, up2_no, Bool.true_eq_false, Bool.false_eq_true, eq_self, m1_ne, m1_ne2, m1_lt, m1_le, lt_m1, m1_le2, bI_t, bI_f, LK_st, sq5, m6, hd0, upS_no, Nat.not_lt_zero])
  generalize upS sh5 110 (105, 6) = sh6 at M6 s110 sq6 ⊢
  generalize clr I5 110 (nI 0) = I6 at M6 i6 ⊢
  generalize clr L5 110 0 = L6 at M6 ⊢
  generalize up2 (clr Q5 110 0) 20 7 110 = Q6 at M6 r6 p6 ⊢
  have fin := tapes_L (G := G) (d := d) (Q := Q) (by omega) sq6 s110 p6 (fun sh7 I7 L7 P7 N7 hT => ?_) 6 0 12 378 sh6 I6 L6 Q6 (by omega) (by omega) (by omega) ⟨fun _ _ => rfl, fun _ _ _ _ => rfl, fun _ _ _ _ => rfl, fun _ _ _ _ => rfl⟩ (fun t ht => by omega)
  · (apply WP_runI (lv := lvK) (F := LK) LK_ok 80 6; simp (disch := first | decide | omega) only [t65_0, t65_1, lift_c, o_aload0, o_dsub, o_new, o_dupi, o_dupr, o_spec1, rpush_n, rpush_s, o_putref, o_inl, o_putbool, o_putfield, o_anewarray, o_istore, s1_0, s1_s, o_iload1, o_icge, o_getref, o_aastore, o_iinc1, o_goto, o_return, z0, z1, z2, z6, z20, z31, runI_0, runI_c, runI_n, liftI_n, liftI_y, run_0, run_c, run_n, fxn, fxi, fxr, fxl, fxl0, ↓swi_n, ↓swi_c, nck0, nck1, nck2, nck3, List.length_cons, List.length_nil, Nat.reduceAdd, Nat.reduceSub, Nat.reduceLeDiff, Nat.reduceEqDiff, Nat.reduceLT, reduceIte, ite_true, ite_false, Nat.sub_zero, Nat.zero_le, true_and, and_true, and_self, true_or, or_true, if_true, if_false, true_implies, implies_true, not_true_eq_false, not_false_eq_true, false_implies, forall_const, ne_eq, or_self, and_false, false_and, Lt, Le, Eq', Cp, In, nI_add, nI_mul, nI_sub, nI_sub1, Neg0, bI_eq0, bI_eq1, bI_01, bft, up2_eq, up2_no, Bool.true_eq_false, Bool.false_eq_true, eq_self, m1_ne, m1_ne2, m1_lt, m1_le, lt_m1, m1_le2, bI_t, bI_f, LK_st, hd0])
    exact fin
  · skip
    have K67 : ∀ a, a < 110 → sh7 a = sh6 a := fun a ha => N7.1 a (by omega)
    have E67 : NW 110 20 sh6 I6 L6 Q6 sh7 I7 L7 P7 := ⟨fun a ha => N7.1 a (by omega), fun a j ha w => N7.2.1 a j (by omega) (by omega), fun a j ha w => N7.2.2.1 a j (by omega) (by omega), fun a j ha w => N7.2.2.2 a j (by omega) (by omega)⟩
    have e20 : ∀ j, P7 20 j = Q6 20 j := fun j => N7.2.2.2 20 j (by omega) (by omega)
    have f20 : ∀ j, I7 20 j = I6 20 j := fun j => N7.2.1 20 j (by omega) (by omega)
    have E57 := M6.tr E67 (by omega)
    have E47 := M5.tr E57 (by omega)
    have E37 := M4.tr E47 (by omega)
    have E27 := M3.tr E37 (by omega)
    have E17 := M2.tr E27 (by omega)
    have E07 := M1.tr E17 (by omega)
    have zz0 : P7 20 0 = 21 := by rw [e20, r6 0 (by omega), r5 0 (by omega), r4 0 (by omega), r3 0 (by omega), r2 0 (by omega)]; exact p1
    have zz1 : P7 20 1 = 52 := by rw [e20, r6 1 (by omega), r5 1 (by omega), r4 1 (by omega), r3 1 (by omega)]; exact p2
    have zz3 : P7 20 3 = 83 := by rw [e20, r6 3 (by omega), r5 3 (by omega), r4 3 (by omega)]; exact p3
    have zz4 : P7 20 4 = 102 := by rw [e20, r6 4 (by omega), r5 4 (by omega)]; exact p4
    have zz6 : P7 20 6 = 108 := by rw [e20, r6 6 (by omega)]; exact p5
    have zz7 : P7 20 7 = 110 := by rw [e20]; exact p6
    have y2 : I7 20 2 = nI 0 := by rw [f20, i6, i5, j4b, i4, i3]; exact j2
    have y5 : I7 20 5 = nI 0 := by rw [f20, i6, i5]; exact j4
    have hFG : FG sh7 P7 := ⟨(K67 20 (by omega)).trans sq6, zz0, zz1, zz3, zz4, zz6, zz7, (E17.1 _ (by omega)).trans s21, (E17.2.2.2 _ _ (by omega) (by omega)).trans b1, (E17.2.2.2 _ _ (by omega) (by omega)).trans b2, (E17.2.2.2 _ _ (by omega) (by omega)).trans b3, (E17.2.2.2 _ _ (by omega) (by omega)).trans b4,
      (E27.1 _ (by omega)).trans s52, (E27.2.2.2 _ _ (by omega) (by omega)).trans d1, (E27.2.2.2 _ _ (by omega) (by omega)).trans d2, (E27.2.2.2 _ _ (by omega) (by omega)).trans d3, (E27.2.2.2 _ _ (by omega) (by omega)).trans d4,
      (E37.1 _ (by omega)).trans s83, (E37.2.2.2 _ _ (by omega) (by omega)).trans f1, (E47.1 _ (by omega)).trans s102, (E47.2.2.2 _ _ (by omega) (by omega)).trans q1, (E47.1 _ (by omega)).trans g2, (E57.1 _ (by omega)).trans s108, (E57.2.2.2 _ _ (by omega) (by omega)).trans u1, (E57.1 _ (by omega)).trans h5s, (N7.1 110 (by omega)).trans s110,
      fun i hi => (hT i hi).1, fun i hi => (hT i hi).2.1, fun i hi => (hT i hi).2.2.1, fun i hi => (hT i hi).2.2.2.1⟩
    have hFA : FA sh7 P7 := ⟨hFG, b5.nw E17 (by omega) (by omega), d5.nw E27 (by omega) (by omega), f2.nw E37 (by omega) (by omega), b8.nw E17 (by omega) (by omega), b9.nw E17 (by omega) (by omega), b10.nw E17 (by omega) (by omega), d8.nw E27 (by omega) (by omega), d9.nw E27 (by omega) (by omega), d10.nw E27 (by omega) (by omega)⟩
    exact hQ sh7 I7 L7 P7 E07 ⟨hFA, a7.nw E17 (by omega) (by omega), (E17.2.1 _ _ (by omega) (by omega)).trans a11, (E17.2.1 _ _ (by omega) (by omega)).trans a12, (E17.2.1 _ _ (by omega) (by omega)).trans a13, (E17.2.2.2 _ _ (by omega) (by omega)).trans b6, (E27.2.2.2 _ _ (by omega) (by omega)).trans d6, y2, y5, (E47.2.1 _ _ (by omega) (by omega)).trans g3, (E57.2.1 _ _ (by omega) (by omega)).trans h5,
      (E47.2.2.2 _ _ (by omega) (by omega)).trans q4, (E47.1 _ (by omega)).trans g5, (E47.2.2.2 _ _ (by omega) (by omega)).trans q6, (E47.2.2.2 _ _ (by omega) (by omega)).trans q7, (E47.2.2.2 _ _ (by omega) (by omega)).trans q8, (E47.1 _ (by omega)).trans g9, (E47.1 _ (by omega)).trans g10, (E47.1 _ (by omega)).trans g11, fun t ht => ⟨(hT t ht).2.2.2.2.1, (hT t ht).2.2.2.2.2.1, (hT t ht).2.2.2.2.2.2⟩⟩
end
