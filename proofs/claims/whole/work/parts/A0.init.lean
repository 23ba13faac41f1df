/-! ### the class's constructors -/
/-- new cells from n on; of the old ones q alone has changed -/
def NW (n q : Nat) (sh : TS) (I : TI) (L : TL) (P : TP) (sh' : TS) (I' : TI) (L' : TL) (P' : TP) : Prop :=
  (∀ a, a < n → sh' a = sh a) ∧ (∀ a j, a < n → ¬ a = q → I' a j = I a j) ∧ (∀ a j, a < n → ¬ a = q → L' a j = L a j) ∧ ∀ a j, a < n → ¬ a = q → P' a j = P a j
section
variable {G : GE} {d n : Nat} {sh : TS} {I : TI} {L : TL} {P : TP} {Q : TQ} {q : Nat}
theorem gooseI_K (hs : sh q = (3, 6)) (hq : 20 ≤ q) (hn : q < n) (hd : 1 ≤ d) (hQ : ∀ sh' I' L' P', NW n q sh I L P sh' I' L' P' → P' q 5 = n → sh' n = (100, 4) → Q none (n + 1) sh' I' L' P') : Cl G d 26 [.ref q] n sh I L P Q := by
  apply e26
  have hd0 : 0 < d := by omega
  have n2 : nle 2 q := by show 2 ≤ q; omega
  have m0 : ¬ neq n 1 := by show ¬ n = 1; omega
  (apply WP_runI (lv := lvK) (F := LK) LK_ok 999 30; simp (disch := first | decide | omega) only [t26_0, lift_c, o_aload0, o_dsub, o_inl, o_putfield, o_putbool, o_anewarray, o_putref, o_return, z0, z1, z2, z4, z20, z31, runI_0, runI_c, runI_n, liftI_n, liftI_y, run_0, run_c, run_n, fxn, fxi, fxr, fxl, fxl0, ↓swi_n, ↓swi_c, nck0, nck1, nck2, nck3, List.length_cons, List.length_nil, Nat.reduceAdd, Nat.reduceSub, Nat.reduceLeDiff, Nat.reduceEqDiff, Nat.reduceLT, reduceIte, ite_true, ite_false, Nat.sub_zero, Nat.zero_le, true_and, and_true, and_self, true_or, or_true, if_true, if_false, true_implies, implies_true, not_true_eq_false, not_false_eq_true, false_implies, forall_const, ne_eq, or_self, and_false, false_and, Lt, Le, Eq', Cp, In, nI_add, nI_mul, nI_sub, nI_sub1, Neg0, bI_eq0, bI_eq1, bI_01, bft, up2_eq, up2_no, Bool.true_eq_false, Bool.false_eq_true, eq_self, m1_ne, m1_ne2, m1_lt, m1_le, lt_m1, m1_le2, bI_t, bI_f, LK_st, hs, n2, m0, hd0, upS_no, Nat.not_lt_zero])
  refine hQ _ _ _ _ ⟨fun a ha => upS_no _ _ _ _ (by omega), fun a j ha h => ?_, fun a j ha h => ?_, fun a j ha h => ?_⟩ ?_ ?_
  · simp (disch := omega) only [up2_no, clr_no]
  · simp (disch := omega) only [clr_no]
  · simp (disch := omega) only [up2_no, clr_no]
  · simp (disch := omega) only [up2_eq]
  · simp (disch := omega) only [upS_eq]
theorem rowsI_K {z : Nat} (hs : sh q = (5, 4)) (hq : 20 ≤ q) (hz : z ≤ 10) (hd : 1 ≤ d) (hQ : ∀ sh' I' L' P', NW (q + 1) q sh I L P sh' I' L' P' → FR sh' P' q z → I' q 3 = nI 0 → Q none (q + 4) sh' I' L' P') : Cl G d 41 [.ref q, .int (nI z)] (q + 1) sh I L P Q := by
  apply e41
  have hd0 : 0 < d := by omega
  have n2 : nle 2 q := by show 2 ≤ q; omega
  have m0 : ¬ neq (q + 1) 1 := by show ¬ q + 1 = 1; omega
  have m1 : ¬ neq (q + 2) 1 := by show ¬ q + 2 = 1; omega
  have m2 : ¬ neq (q + 3) 1 := by show ¬ q + 3 = 1; omega
  have s1 : z ≤ 30 := by omega
  have s2 : z ≤ 30 - z := by omega
  have s3 : z ≤ 30 - z - z := by omega
  have k1 : z ≤ 1000 := by omega
  (apply WP_runI (lv := lvK) (F := LK) LK_ok 999 30; simp (disch := first | decide | omega) only [t41_0, lift_c, o_aload0, o_dsub, o_inl, o_putfield, o_iload1, o_anewarray, o_putref, o_return, z0, z1, z2, z20, z31, runI_0, runI_c, runI_n, liftI_n, liftI_y, run_0, run_c, run_n, fxn, fxi, fxr, fxl, fxl0, ↓swi_n, ↓swi_c, nck0, nck1, nck2, nck3, List.length_cons, List.length_nil, Nat.reduceAdd, Nat.reduceSub, Nat.reduceLeDiff, Nat.reduceEqDiff, Nat.reduceLT, reduceIte, ite_true, ite_false, Nat.sub_zero, Nat.zero_le, true_and, and_true, and_self, true_or, or_true, if_true, if_false, true_implies, implies_true, not_true_eq_false, not_false_eq_true, false_implies, forall_const, ne_eq, or_self, and_false, false_and, Lt, Le, Eq', Cp, In, nI_add, nI_mul, nI_sub, nI_sub1, Neg0, bI_eq0, bI_eq1, bI_01, bft, up2_eq, up2_no, Bool.true_eq_false, Bool.false_eq_true, eq_self, m1_ne, m1_ne2, m1_lt, m1_le, lt_m1, m1_le2, bI_t, bI_f, LK_st, hs, n2, m0, m1, m2, s1, s2, s3, k1, hd0, upS_no, Nat.not_lt_zero, Nat.add_assoc])
  refine hQ _ _ _ _ ⟨fun a ha => ?_, fun a j ha h => ?_, fun a j ha h => ?_, fun a j ha h => ?_⟩ ⟨?_, ?_, ?_, ?_, ?_, ?_, ?_⟩ ?_
  · simp (disch := omega) only [upS_no]
  · simp (disch := omega) only [up2_no, clr_no]
  · simp (disch := omega) only [clr_no]
  · simp (disch := omega) only [up2_no, clr_no]
  · simp (disch := omega) only [upS_no]; exact hs
  · simp (disch := omega) only [upS_no, upS_eq]
  · simp (disch := omega) only [upS_no, upS_eq]
  · simp (disch := omega) only [upS_eq]
  · simp (disch := omega) only [up2_no, up2_eq, clr_no]
  · simp (disch := omega) only [up2_no, up2_eq, clr_no]
  · simp (disch := omega) only [up2_eq]
  · simp (disch := omega) only [up2_eq, up2_no, clr_no]
def YI (sh : TS) (P : TP) (b i : Nat) : Prop := sh b = (8, 9) ∧ sh (b + 1) = (100, 8) ∧ sh (b + 2) = (100, 9) ∧ sh (b + 3) = (100, 9) ∧ sh (b + 4) = (104, 6) ∧ sh (b + 5) = (100, 6) ∧
  P b 0 = b + 1 ∧ P b 1 = b + 2 ∧ P b 2 = b + 3 ∧ P b 4 = b + 4 ∧ P b 8 = b + 5 ∧ P b 7 = 0 ∧
  (∀ j, j < i → P (b + 4) j = b + 6 + 2 * j) ∧ (∀ j, j < i → sh (b + 6 + 2 * j) = (3, 6)) ∧ (∀ j, j < i → sh (b + 7 + 2 * j) = (100, 4)) ∧ (∀ j, j < i → P (b + 6 + 2 * j) 5 = b + 7 + 2 * j)
/-- the numbers of a new yard -/
def YV (I : TI) (b : Nat) : Prop := I b 3 = nI 0 ∧ I b 5 = nI 0 ∧ I b 6 = nI 0 ∧ ∀ c, c < 8 → I (b + 1) c = nI 5
theorem yardI_K (hs : sh q = (8, 9)) (hq : 20 ≤ q) (hd : 2 ≤ d) (hQ : ∀ sh' I' L' P', NW (q + 1) q sh I L P sh' I' L' P' → FY sh' P' q → P' q 7 = 0 → YV I' q → Q none (q + 18) sh' I' L' P') : Cl G d 51 [.ref q] (q + 1) sh I L P Q := by
  apply e51
  have hd0 : 0 < d := by omega
  have n2 : nle 2 q := by show 2 ≤ q; omega
  have n1 : nle 20 (q + 1) := by show 20 ≤ q + 1; omega
  have n4 : nle 20 (q + 4) := by show 20 ≤ q + 4; omega
  have m0 : ¬ neq 0 1 := by show ¬ 0 = 1; omega
  have m1 : ¬ neq (q + 1) 1 := by show ¬ q + 1 = 1; omega
  have m2 : ¬ neq (q + 2) 1 := by show ¬ q + 2 = 1; omega
  have m3 : ¬ neq (q + 3) 1 := by show ¬ q + 3 = 1; omega
  have m4 : ¬ neq (q + 4) 1 := by show ¬ q + 4 = 1; omega
  have m5 : ¬ neq (q + 5) 1 := by show ¬ q + 5 = 1; omega
  -- the geese
  have geese : ∀ m i c s sh1 I1 L1 P1, i + m = 6 → 2 * m ≤ c → 10 * m ≤ s → NW (q + 1) q sh I L P sh1 I1 L1 P1 → YI sh1 P1 q i → YV I1 q → WP G 51 d Q 88 [some (.ref q), some (.int (nI i))] [] c s (q + 6 + 2 * i) sh1 I1 L1 P1 := by
    intro m
    induction m with
    | zero =>
      intro i c s sh1 I1 L1 P1 h hc hs2 hN hY hV
      have hi : i = 6 := by omega
      subst hi
      obtain ⟨y1, y2, y3, y4, y5, y6, y7, y8, y9, y10, y11, y12, y13, y14, y15, y16⟩ := hY
      have hQ := hQ sh1 I1 L1 P1 hN ⟨y1, y2, y3, y4, y5, y6, y7, y8, y9, y10, y11, y13, y14, y15, y16⟩ y12 hV
      (apply WP_runI (lv := lvK) (F := LK) LK_ok 999 8; simp (disch := first | decide | omega) only [t51_0, t51_1, lift_c, o_aload0, o_dsub, o_inl, o_anewarray, o_putref, o_putfield, o_istore, s1_0, s1_s, o_iload1, o_icge, o_getref, o_iastore, o_iinc1, o_goto, o_new, o_dupi, o_dupr, o_spec1, rpush_n, rpush_s, o_aastore, o_return, z0, z1, z2, z5, z6, z8, z9, z20, z31, runI_0, runI_c, runI_n, liftI_n, liftI_y, run_0, run_c, run_n, fxn, fxi, fxr, fxl, fxl0, ↓swi_n, ↓swi_c, nck0, nck1, nck2, nck3, List.length_cons, List.length_nil, Nat.reduceAdd, Nat.reduceSub, Nat.reduceLeDiff, Nat.reduceEqDiff, Nat.reduceLT, reduceIte, ite_true, ite_false, Nat.sub_zero, Nat.zero_le, true_and, and_true, and_self, true_or, or_true, if_true, if_false, true_implies, implies_true, not_true_eq_false, not_false_eq_true, false_implies, forall_const, ne_eq, or_self, and_false, false_and, Lt, Le, Eq', Cp, In, nI_add, nI_mul, nI_sub, nI_sub1, Neg0, bI_eq0, bI_eq1, bI_01, bft, up2_eq, up2_no, Bool.true_eq_false, Bool.false_eq_true, eq_self, m1_ne, m1_ne2, m1_lt, m1_le, lt_m1, m1_le2, bI_t, bI_f, LK_st])
      exact hQ
    | succ m ih =>
      intro i c s sh1 I1 L1 P1 h hc hs2 hN hY hV
      have hi : ¬ 6 ≤ i := by omega
      obtain ⟨y1, y2, y3, y4, y5, y6, y7, y8, y9, y10, y11, y12, y13, y14, y15, y16⟩ := hY
      have c1 : 1 ≤ c := by omega
      have c2 : 1 ≤ c - 1 := by omega
      have c3 : 6 ≤ s := by omega
      have c4 : 4 ≤ s - 6 := by omega
      have nq : nle 2 (q + 6 + 2 * i) := by show 2 ≤ q + 6 + 2 * i; omega
      have nq1 : ¬ neq (q + 6 + 2 * i) 1 := by show ¬ q + 6 + 2 * i = 1; omega
      (apply WP_runI (lv := lvK) (F := LK) LK_ok 999 16; simp (disch := first | decide | omega) only [t51_0, t51_1, lift_c, o_aload0, o_dsub, o_inl, o_anewarray, o_putref, o_putfield, o_istore, s1_0, s1_s, o_iload1, o_icge, o_getref, o_iastore, o_iinc1, o_goto, o_new, o_dupi, o_dupr, o_spec1, rpush_n, rpush_s, o_aastore, o_return, z0, z1, z2, z5, z6, z8, z9, z20, z31, runI_0, runI_c, runI_n, liftI_n, liftI_y, run_0, run_c, run_n, fxn, fxi, fxr, fxl, fxl0, ↓swi_n, ↓swi_c, nck0, nck1, nck2, nck3, List.length_cons, List.length_nil, Nat.reduceAdd, Nat.reduceSub, Nat.reduceLeDiff, Nat.reduceEqDiff, Nat.reduceLT, reduceIte, ite_true, ite_false, Nat.sub_zero, Nat.zero_le, true_and, and_true, and_self, true_or, or_true, if_true, if_false, true_implies, implies_true, not_true_eq_false, not_false_eq_true, false_implies, forall_const, ne_eq, or_self, and_false, false_and, Lt, Le, Eq', Cp, In, nI_add, nI_mul, nI_sub, nI_sub1, Neg0, bI_eq0, bI_eq1, bI_01, bft, up2_eq, up2_no, Bool.true_eq_false, Bool.false_eq_true, eq_self, m1_ne, m1_ne2, m1_lt, m1_le, lt_m1, m1_le2, bI_t, bI_f, LK_st, y1, y10, hi, c1, c2, c3, c4, nq, nq1, hd0, upS_no, clr_no])
      refine gooseI_K (upS_eq _ _ _) (by omega) (Nat.lt_succ_self _) (by omega) fun sh2 I2 L2 P2 hN2 g1 g2 => ?_
      obtain ⟨f1, f2, f3, f4⟩ := hN2
      have e1 : ∀ a, a < q + 6 + 2 * i → sh2 a = sh1 a := fun a ha => (f1 a (by omega)).trans (upS_no _ _ _ _ (by omega))
      have e2 : ∀ a j, a < q + 6 + 2 * i → I2 a j = I1 a j := fun a j ha => (f2 a j (by omega) (by omega)).trans (clr_no _ _ _ _ _ (by omega))
      have e3 : ∀ a j, a < q + 6 + 2 * i → L2 a j = L1 a j := fun a j ha => (f3 a j (by omega) (by omega)).trans (clr_no _ _ _ _ _ (by omega))
      have e4 : ∀ a j, a < q + 6 + 2 * i → P2 a j = P1 a j := fun a j ha => (f4 a j (by omega) (by omega)).trans (clr_no _ _ _ _ _ (by omega))
      have eg : sh2 (q + 6 + 2 * i) = (3, 6) := (f1 _ (by omega)).trans (upS_eq _ _ _)
      have k4 : sh2 (q + 4) = (104, 6) := (e1 _ (by omega)).trans y5
      have u : ∀ a j, ¬ (a = q + 4 ∧ j = i) → (up2 P2 (q + 4) i (q + 6 + 2 * i)) a j = P2 a j := fun a j w => up2_no _ _ _ _ _ _ w
      obtain ⟨N1, N2, N3, N4⟩ := hN
      obtain ⟨v1, v2, v3, v4⟩ := hV
      have ih := ih (i + 1) (c - 1 - 1) (s - 6 - 4) sh2 I2 L2 (up2 P2 (q + 4) i (q + 6 + 2 * i)) (by omega) (by omega) (by omega)
        ⟨fun a ha => (e1 a (by omega)).trans (N1 a ha), fun a j ha w => (e2 a j (by omega)).trans (N2 a j ha w), fun a j ha w => (e3 a j (by omega)).trans (N3 a j ha w), fun a j ha w => ((u a j (by omega)).trans (e4 a j (by omega))).trans (N4 a j ha w)⟩
        ⟨(e1 _ (by omega)).trans y1, (e1 _ (by omega)).trans y2, (e1 _ (by omega)).trans y3, (e1 _ (by omega)).trans y4, k4, (e1 _ (by omega)).trans y6, ((u _ _ (by omega)).trans (e4 _ _ (by omega))).trans y7, ((u _ _ (by omega)).trans (e4 _ _ (by omega))).trans y8, ((u _ _ (by omega)).trans (e4 _ _ (by omega))).trans y9, ((u _ _ (by omega)).trans (e4 _ _ (by omega))).trans y10, ((u _ _ (by omega)).trans (e4 _ _ (by omega))).trans y11, ((u _ _ (by omega)).trans (e4 _ _ (by omega))).trans y12,
          fun j hj => by
            by_cases ej : j = i
            · rw [ej]
              exact up2_eq _ _ _ _
            · exact ((u _ _ (by omega)).trans (e4 _ _ (by omega))).trans (y13 j (by omega)),
          fun j hj => by
            by_cases ej : j = i
            · rw [ej]
              exact eg
            · exact (e1 _ (by omega)).trans (y14 j (by omega)),
          fun j hj => by
            by_cases ej : j = i
            · rw [ej, show q + 7 + 2 * i = q + 6 + 2 * i + 1 by omega]
              exact g2
            · exact (e1 _ (by omega)).trans (y15 j (by omega)),
          fun j hj => by
            by_cases ej : j = i
            · rw [ej, show q + 7 + 2 * i = q + 6 + 2 * i + 1 by omega]
              exact (u _ _ (by omega)).trans g1
            · exact ((u _ _ (by omega)).trans (e4 _ _ (by omega))).trans (y16 j (by omega))⟩
        ⟨(e2 _ _ (by omega)).trans v1, (e2 _ _ (by omega)).trans v2, (e2 _ _ (by omega)).trans v3, fun c hc => (e2 _ _ (by omega)).trans (v4 c hc)⟩
      rw [show q + 6 + 2 * (i + 1) = q + 6 + 2 * i + 1 + 1 by omega] at ih
      (apply WP_runI (lv := lvK) (F := LK) LK_ok 88 8; simp (disch := first | decide | omega) only [t51_0, t51_1, lift_c, o_aload0, o_dsub, o_inl, o_anewarray, o_putref, o_putfield, o_istore, s1_0, s1_s, o_iload1, o_icge, o_getref, o_iastore, o_iinc1, o_goto, o_new, o_dupi, o_dupr, o_spec1, rpush_n, rpush_s, o_aastore, o_return, z0, z1, z2, z5, z6, z8, z9, z20, z31, runI_0, runI_c, runI_n, liftI_n, liftI_y, run_0, run_c, run_n, fxn, fxi, fxr, fxl, fxl0, ↓swi_n, ↓swi_c, nck0, nck1, nck2, nck3, List.length_cons, List.length_nil, Nat.reduceAdd, Nat.reduceSub, Nat.reduceLeDiff, Nat.reduceEqDiff, Nat.reduceLT, reduceIte, ite_true, ite_false, Nat.sub_zero, Nat.zero_le, true_and, and_true, and_self, true_or, or_true, if_true, if_false, true_implies, implies_true, not_true_eq_false, not_false_eq_true, false_implies, forall_const, ne_eq, or_self, and_false, false_and, Lt, Le, Eq', Cp, In, nI_add, nI_mul, nI_sub, nI_sub1, Neg0, bI_eq0, bI_eq1, bI_01, bft, up2_eq, up2_no, Bool.true_eq_false, Bool.false_eq_true, eq_self, m1_ne, m1_ne2, m1_lt, m1_le, lt_m1, m1_le2, bI_t, bI_f, LK_st, k4, eg, n4, hi, hd0])
      exact ih
  -- the grain
  have grain : ∀ m i sh1 I1 L1 P1, i + m = 8 → NW (q + 1) q sh I L P sh1 I1 L1 P1 → YI sh1 P1 q 0 → I1 q 3 = nI 0 → I1 q 5 = nI 0 → I1 q 6 = nI 0 → (∀ c, c < i → I1 (q + 1) c = nI 5) → WP G 51 d Q 67 [some (.ref q), some (.int (nI i))] [] 12 60 (q + 6) sh1 I1 L1 P1 := by
    intro m
    induction m with
    | zero =>
      intro i sh1 I1 L1 P1 h hN hY v1 v2 v3 v4
      have hi : i = 8 := by omega
      subst hi
      have hG := geese 6 0 12 60 sh1 I1 L1 P1 (by omega) (by omega) (by omega) hN hY ⟨v1, v2, v3, v4⟩
      (apply WP_runI (lv := lvK) (F := LK) LK_ok 88 8; simp (disch := first | decide | omega) only [t51_0, t51_1, lift_c, o_aload0, o_dsub, o_inl, o_anewarray, o_putref, o_putfield, o_istore, s1_0, s1_s, o_iload1, o_icge, o_getref, o_iastore, o_iinc1, o_goto, o_new, o_dupi, o_dupr, o_spec1, rpush_n, rpush_s, o_aastore, o_return, z0, z1, z2, z5, z6, z8, z9, z20, z31, runI_0, runI_c, runI_n, liftI_n, liftI_y, run_0, run_c, run_n, fxn, fxi, fxr, fxl, fxl0, ↓swi_n, ↓swi_c, nck0, nck1, nck2, nck3, List.length_cons, List.length_nil, Nat.reduceAdd, Nat.reduceSub, Nat.reduceLeDiff, Nat.reduceEqDiff, Nat.reduceLT, reduceIte, ite_true, ite_false, Nat.sub_zero, Nat.zero_le, true_and, and_true, and_self, true_or, or_true, if_true, if_false, true_implies, implies_true, not_true_eq_false, not_false_eq_true, false_implies, forall_const, ne_eq, or_self, and_false, false_and, Lt, Le, Eq', Cp, In, nI_add, nI_mul, nI_sub, nI_sub1, Neg0, bI_eq0, bI_eq1, bI_01, bft, up2_eq, up2_no, Bool.true_eq_false, Bool.false_eq_true, eq_self, m1_ne, m1_ne2, m1_lt, m1_le, lt_m1, m1_le2, bI_t, bI_f, LK_st])
      exact hG
    | succ m ih =>
      intro i sh1 I1 L1 P1 h hN hY v1 v2 v3 v4
      have hi : ¬ 8 ≤ i := by omega
      have y1 := hY.1
      have y2 := hY.2.1
      have y7 := hY.2.2.2.2.2.2.1
      obtain ⟨N1, N2, N3, N4⟩ := hN
      have ih := ih (i + 1) sh1 (up2 I1 (q + 1) i (nI 5)) L1 P1 (by omega) ⟨N1, fun a j ha w => (up2_no _ _ _ _ _ _ (by omega)).trans (N2 a j ha w), N3, N4⟩ hY ((up2_no _ _ _ _ _ _ (by omega)).trans v1) ((up2_no _ _ _ _ _ _ (by omega)).trans v2) ((up2_no _ _ _ _ _ _ (by omega)).trans v3) (fun c hc => by
        by_cases ec : c = i
        · rw [ec, up2_eq]
        · rw [up2_no _ _ _ _ _ _ (by omega)]
          exact v4 c (by omega))
      (apply WP_runI (lv := lvK) (F := LK) LK_ok 67 12; simp (disch := first | decide | omega) only [t51_0, t51_1, lift_c, o_aload0, o_dsub, o_inl, o_anewarray, o_putref, o_putfield, o_istore, s1_0, s1_s, o_iload1, o_icge, o_getref, o_iastore, o_iinc1, o_goto, o_new, o_dupi, o_dupr, o_spec1, rpush_n, rpush_s, o_aastore, o_return, z0, z1, z2, z5, z6, z8, z9, z20, z31, runI_0, runI_c, runI_n, liftI_n, liftI_y, run_0, run_c, run_n, fxn, fxi, fxr, fxl, fxl0, ↓swi_n, ↓swi_c, nck0, nck1, nck2, nck3, List.length_cons, List.length_nil, Nat.reduceAdd, Nat.reduceSub, Nat.reduceLeDiff, Nat.reduceEqDiff, Nat.reduceLT, reduceIte, ite_true, ite_false, Nat.sub_zero, Nat.zero_le, true_and, and_true, and_self, true_or, or_true, if_true, if_false, true_implies, implies_true, not_true_eq_false, not_false_eq_true, false_implies, forall_const, ne_eq, or_self, and_false, false_and, Lt, Le, Eq', Cp, In, nI_add, nI_mul, nI_sub, nI_sub1, Neg0, bI_eq0, bI_eq1, bI_01, bft, up2_eq, up2_no, Bool.true_eq_false, Bool.false_eq_true, eq_self, m1_ne, m1_ne2, m1_lt, m1_le, lt_m1, m1_le2, bI_t, bI_f, LK_st, y1, y2, y7, hi, n1])
      exact ih
  clear geese hQ
  have start : ∀ sh1 I1 L1 P1, NW (q + 1) q sh I L P sh1 I1 L1 P1 → YI sh1 P1 q 0 → I1 q 3 = nI 0 → I1 q 5 = nI 0 → I1 q 6 = nI 0 → WP G 51 d Q 67 [some (.ref q), some (.int (nI 0))] [] 12 60 (q + 6) sh1 I1 L1 P1 := fun sh1 I1 L1 P1 hN hY v1 v2 v3 => grain 8 0 sh1 I1 L1 P1 (by omega) hN hY v1 v2 v3 (fun c hc => by omega)
  clear grain
  (apply WP_runI (lv := lvK) (F := LK) LK_ok 67 50; simp (disch := first | decide | omega) only [t51_0, t51_1, lift_c, o_aload0, o_dsub, o_inl, o_anewarray, o_putref, o_putfield, o_istore, s1_0, s1_s, o_iload1, o_icge, o_getref, o_iastore, o_iinc1, o_goto, o_new, o_dupi, o_dupr, o_spec1, rpush_n, rpush_s, o_aastore, o_return, z0, z1, z2, z5, z6, z8, z9, z20, z31, runI_0, runI_c, runI_n, liftI_n, liftI_y, run_0, run_c, run_n, fxn, fxi, fxr, fxl, fxl0, ↓swi_n, ↓swi_c, nck0, nck1, nck2, nck3, List.length_cons, List.length_nil, Nat.reduceAdd, Nat.reduceSub, Nat.reduceLeDiff, Nat.reduceEqDiff, Nat.reduceLT, reduceIte, ite_true, ite_false, Nat.sub_zero, Nat.zero_le, true_and, and_true, and_self, true_or, or_true, if_true, if_false, true_implies, implies_true, not_true_eq_false, not_false_eq_true, false_implies, forall_const, ne_eq, or_self, and_false, false_and, Lt, Le, Eq', Cp, In, nI_add, nI_mul, nI_sub, nI_sub1, Neg0, bI_eq0, bI_eq1, bI_01, bft, up2_eq, up2_no, Bool.true_eq_false, Bool.false_eq_true, eq_self, m1_ne, m1_ne2, m1_lt, m1_le, lt_m1, m1_le2, bI_t, bI_f, LK_st, hs, n2, m0, m1, m2, m3, m4, m5, hd0, upS_no, clr_no, Nat.not_lt_zero, Nat.add_assoc])
  refine start _ _ _ _ ⟨fun a ha => ?_, fun a j ha h => ?_, fun a j ha h => ?_, fun a j ha h => ?_⟩ ⟨?_, ?_, ?_, ?_, ?_, ?_, ?_, ?_, ?_, ?_, ?_, ?_, fun j hj => by omega, fun j hj => by omega, fun j hj => by omega, fun j hj => by omega⟩ ?_ ?_ ?_
  · simp (disch := omega) only [upS_no]
  · simp (disch := omega) only [up2_no, clr_no]
  · simp (disch := omega) only [clr_no]
  · simp (disch := omega) only [up2_no, clr_no]
  · simp (disch := omega) only [upS_no]; exact hs
  · simp (disch := omega) only [upS_no, upS_eq]
  · simp (disch := omega) only [upS_no, upS_eq]
  · simp (disch := omega) only [upS_no, upS_eq]
  · simp (disch := omega) only [upS_no, upS_eq]
  · simp (disch := omega) only [upS_no, upS_eq]
  · simp (disch := omega) only [up2_no, up2_eq, clr_no]
  · simp (disch := omega) only [up2_no, up2_eq, clr_no]
  · simp (disch := omega) only [up2_no, up2_eq, clr_no]
  · simp (disch := omega) only [up2_no, up2_eq, clr_no]
  · simp (disch := omega) only [up2_no, up2_eq, clr_no]
  · simp (disch := omega) only [up2_no, up2_eq, clr_no]
  · simp (disch := omega) only [up2_no, up2_eq, clr_no]
  · simp (disch := omega) only [up2_no, up2_eq, clr_no]
  · simp (disch := omega) only [up2_no, up2_eq, clr_no]
end
