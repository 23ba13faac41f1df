/-! ### pairs: hours, ways, leading -/
theorem gateB {sh : TS} {I : TI} {P : TP} {F : TF} {E : Nat → Int32} {k g r : Nat} (hB : CB sh I P (I 124) F E k g r) (x : Int32) : decide (nI 0 ≤ x ∧ x < I 22 3) = isG (I 124) x := by
  unfold isG
  rw [hB.2.1.gates, hB.2.2.1.n81]
theorem gooseB {sh : TS} {I : TI} {P : TP} {F : TF} {E : Nat → Int32} {k g r : Nat} (hB : CB sh I P (I 124) F E k g r) (x : Int32) : decide (nI 0 ≤ x ∧ x < I 22 5) = isY (I 124) x := by
  unfold isY
  rw [hB.2.1.count, hB.2.2.1.n80]
theorem inR_no {x : Int32} {a b : Nat} (h : inR x a b = false) : x < nI a ∨ (¬ x < nI a ∧ nI b < x) := by
  unfold inR at h
  have h := of_decide_eq_false h
  by_cases h1 : x < nI a
  · exact Or.inl h1
  · exact Or.inr ⟨h1, Int32.not_le.mp fun q => h ⟨Int32.not_lt.mp h1, q⟩⟩
theorem inR_yes {x : Int32} {a b : Nat} (h : inR x a b = true) : ¬ x < nI a ∧ ¬ nI b < x := by
  unfold inR at h
  have h := of_decide_eq_true h
  exact ⟨Int32.not_lt.mpr h.1, Int32.not_lt.mpr h.2⟩
theorem soonL_rng (F : TF) (E : Nat → Int32) (N : TN) (x : Int32) : ∀ m j, soonL F E N x m j = -nI 5 ∨ ∃ i, i < j + m ∧ soonL F E N x m j = nI i
  | 0, j => Or.inl (by rw [soonL])
  | m + 1, j => by
    rw [soonL]
    split
    · exact Or.inr ⟨j, by omega, rfl⟩
    · rcases soonL_rng F E N x m (j + 1) with h | ⟨i, hi, h⟩
      · exact Or.inl h
      · exact Or.inr ⟨i, by omega, h⟩
theorem wayL_rng (F : TF) (E : Nat → Int32) (N : TN) (x y : Int32) : ∀ m j, wayL F E N x y m j = -nI 5 ∨ ∃ i, i < j + m ∧ wayL F E N x y m j = nI i
  | 0, j => Or.inl (by rw [wayL])
  | m + 1, j => by
    rw [wayL_s]
    split
    · exact Or.inr ⟨j, by omega, rfl⟩
    · rcases wayL_rng F E N x y m (j + 1) with h | ⟨i, hi, h⟩
      · exact Or.inl h
      · exact Or.inr ⟨i, by omega, h⟩
theorem hn_late {v : Int32} (h : v = -nI 5 ∨ ∃ i, i < 100 ∧ v = nI i) : hnS (lateS v) = v := by
  rcases h with rfl | ⟨i, hi, rfl⟩
  · decide
  · rw [late_n (by omega)]
    exact if_neg (by rw [nI_eq (by omega) (by omega)]; omega)
theorem hn_soon (F : TF) (E : Nat → Int32) (N : TN) (x : Int32) : hnS (lateS (soonS F E N x)) = soonS F E N x := by
  refine hn_late ?_
  unfold soonS
  rcases soonL_rng F E N x 21 0 with h | ⟨i, hi, h⟩
  · exact Or.inl h
  · exact Or.inr ⟨i, by omega, h⟩
theorem hn_way (F : TF) (E : Nat → Int32) (N : TN) (x y : Int32) : hnS (lateS (wayL F E N x y 16 0)) = wayL F E N x y 16 0 := by
  refine hn_late ?_
  rcases wayL_rng F E N x y 16 0 with h | ⟨i, hi, h⟩
  · exact Or.inl h
  · exact Or.inr ⟨i, by omega, h⟩
section
variable {G : GE} {d : Nat}
theorem opens_P (hd : 50 ≤ d) (x : Int32) : PAIR G d 79 170 [.ref 20, .int x] [.ref 123, .int x] := by
  intro n sh I L P Q hI hQ
  obtain ⟨F, E, k, g, r, hI⟩ := hI
  apply e79
  apply WP_SF
  intro hSF
  have hs2 := hSF.2.2.1
  have hB := hI.cb
  have hG := hB.fg
  have hY22 := hB.y22
  have hY84 := hB.y84
  have h22 : sh 22 = (8, 9) := (FY22u hY22).1
  have hd0 : 0 < d := by omega
  have hk := hI.2.2.1.1.k6
  have hg9 := hI.2.2.1.1.g9
  have fin : ∀ I1 L1 P1, CF I L P I1 L1 P1 → Q (some (.int (opensS F E (I 124) x))) n sh I1 L1 P1 := fun I1 L1 P1 hc => hQ _ _ _ _ _ _ fun Q2 h2 => by
    refine ⟨(FMu hI.1).1, ?_⟩
    have hI1 := hI.cf hc
    refine opens_M hI1.1 hI1.2.2.1 (by omega) fun I2 he => ?_
    rw [hc.n124]
    exact h2 _ _ _ _ _ ⟨F, E, k, g, r, hI1.scA he⟩
  have hx := gateB hB x
  unfold opensS at fin
  cases hb : isG (I 124) x with
  | false =>
    rw [hb, if_neg (by decide)] at fin
    have fin := fin I L P CF.rf
    rw [hb] at hx
    (apply WP_runI (lv := lvK) (F := LK) LK_ok 999 80; simp (disch := first | decide | omega) only [t79_0, lift_c, o_aload0, o_iload1, o_virt2, rpush_n, rpush_s, o_ifne, o_inl, o_ireturn, o_getref, o_virt3, o_stat1, z0, z1, z2, z20, z31, runI_0, runI_c, runI_n, liftI_n, liftI_y, run_0, run_c, run_n, fxn, fxi, fxr, fxl, fxl0, ↓swi_n, ↓swi_c, nck0, nck1, nck2, nck3, List.length_cons, List.length_nil, Nat.reduceAdd, Nat.reduceSub, Nat.reduceLeDiff, Nat.reduceEqDiff, Nat.reduceLT, reduceIte, ite_true, ite_false, Nat.sub_zero, Nat.zero_le, true_and, and_true, and_self, true_or, or_true, if_true, if_false, true_implies, implies_true, not_true_eq_false, not_false_eq_true, false_implies, forall_const, ne_eq, or_self, and_false, false_and, Lt, Le, Eq', Cp, In, nI_add, nI_mul, nI_sub, nI_sub1, Neg0, bI_eq0, bI_eq1, bI_01, bft, up2_eq, up2_no, Bool.true_eq_false, Bool.false_eq_true, eq_self, m1_ne, m1_ne2, m1_lt, m1_le, lt_m1, m1_le2, bI_t, bI_f, LK_st, FGu hG, LK_g hG h22 hs2, FY22u hY22, hx, hd0])
    exact fin
  | true =>
    rw [hb, if_pos rfl] at fin
    rw [hb] at hx
    (apply WP_runI (lv := lvK) (F := LK) LK_ok 999 80; simp (disch := first | decide | omega) only [t79_0, lift_c, o_aload0, o_iload1, o_virt2, rpush_n, rpush_s, o_ifne, o_inl, o_ireturn, o_getref, o_virt3, o_stat1, z0, z1, z2, z20, z31, runI_0, runI_c, runI_n, liftI_n, liftI_y, run_0, run_c, run_n, fxn, fxi, fxr, fxl, fxl0, ↓swi_n, ↓swi_c, nck0, nck1, nck2, nck3, List.length_cons, List.length_nil, Nat.reduceAdd, Nat.reduceSub, Nat.reduceLeDiff, Nat.reduceEqDiff, Nat.reduceLT, reduceIte, ite_true, ite_false, Nat.sub_zero, Nat.zero_le, true_and, and_true, and_self, true_or, or_true, if_true, if_false, true_implies, implies_true, not_true_eq_false, not_false_eq_true, false_implies, forall_const, ne_eq, or_self, and_false, false_and, Lt, Le, Eq', Cp, In, nI_add, nI_mul, nI_sub, nI_sub1, Neg0, bI_eq0, bI_eq1, bI_01, bft, up2_eq, up2_no, Bool.true_eq_false, Bool.false_eq_true, eq_self, m1_ne, m1_ne2, m1_lt, m1_le, lt_m1, m1_le2, bI_t, bI_f, LK_st, FGu hG, LK_g hG h22 hs2, FY22u hY22, hx, hd0])
    refine hoursToOpen_T hB (by omega) fun I1 L1 P1 hc => ?_
    have fin := fin I1 L1 P1 hc
    rw [← hn_soon F E (I 124) x] at fin
    generalize lateS (soonS F E (I 124) x) = v at fin ⊢
    (apply WP_runI (lv := lvK) (F := LK) LK_ok 999 80; simp (disch := first | decide | omega) only [t79_0, lift_c, o_aload0, o_iload1, o_virt2, rpush_n, rpush_s, o_ifne, o_inl, o_ireturn, o_getref, o_virt3, o_stat1, z0, z1, z2, z20, z31, runI_0, runI_c, runI_n, liftI_n, liftI_y, run_0, run_c, run_n, fxn, fxi, fxr, fxl, fxl0, ↓swi_n, ↓swi_c, nck0, nck1, nck2, nck3, List.length_cons, List.length_nil, Nat.reduceAdd, Nat.reduceSub, Nat.reduceLeDiff, Nat.reduceEqDiff, Nat.reduceLT, reduceIte, ite_true, ite_false, Nat.sub_zero, Nat.zero_le, true_and, and_true, and_self, true_or, or_true, if_true, if_false, true_implies, implies_true, not_true_eq_false, not_false_eq_true, false_implies, forall_const, ne_eq, or_self, and_false, false_and, Lt, Le, Eq', Cp, In, nI_add, nI_mul, nI_sub, nI_sub1, Neg0, bI_eq0, bI_eq1, bI_01, bft, up2_eq, up2_no, Bool.true_eq_false, Bool.false_eq_true, eq_self, m1_ne, m1_ne2, m1_lt, m1_le, lt_m1, m1_le2, bI_t, bI_f, LK_st, FGu hG, LK_g hG h22 hs2, hd0])
    exact fin
theorem way_P (hd : 50 ≤ d) (x y z : Int32) : PAIR G d 80 173 [.ref 20, .int x, .int y, .int z] [.ref 123, .int x, .int y, .int z] := by
  intro n sh I L P Q hI hQ
  obtain ⟨F, E, k, g, r, hI⟩ := hI
  apply e80
  apply WP_SF
  intro hSF
  have hs2 := hSF.2.2.1
  have hB := hI.cb
  have hG := hB.fg
  have hY22 := hB.y22
  have hY84 := hB.y84
  have h22 : sh 22 = (8, 9) := (FY22u hY22).1
  have hd0 : 0 < d := by omega
  have hk := hI.2.2.1.1.k6
  have hg9 := hI.2.2.1.1.g9
  have fin : ∀ I1 L1 P1, CF I L P I1 L1 P1 → Q (some (.int (wayA F E (I 124) k x y z))) n sh I1 L1 P1 := fun I1 L1 P1 hc => hQ _ _ _ _ _ _ fun Q2 h2 => by
    refine ⟨(FMu hI.1).1, ?_⟩
    have hI1 := hI.cf hc
    refine way_M hI1.1 hI1.2.2.1 (by omega) fun I2 he => ?_
    rw [hc.n124]
    exact h2 _ _ _ _ _ ⟨F, E, k, g, r, hI1.scA he⟩
  unfold wayA at fin
  cases hx : isC x with
  | false =>
    rw [hx, if_pos (show (false && (isC y && inR z 0 1)) = false from rfl)] at fin
    have fin := fin I L P CF.rf
    (apply WP_runI (lv := lvK) (F := LK) LK_ok 999 80; simp (disch := first | decide | omega) only [t80_0, lift_c, o_iload1, o_stat1, rpush_n, rpush_s, o_ifeq, o_iload2, o_iload3, o_iflt, o_inl, o_icle, o_ireturn, o_icne, o_aload0, o_getref, o_virt4, z0, z1, z2, z20, z31, runI_0, runI_c, runI_n, liftI_n, liftI_y, run_0, run_c, run_n, fxn, fxi, fxr, fxl, fxl0, ↓swi_n, ↓swi_c, nck0, nck1, nck2, nck3, List.length_cons, List.length_nil, Nat.reduceAdd, Nat.reduceSub, Nat.reduceLeDiff, Nat.reduceEqDiff, Nat.reduceLT, reduceIte, ite_true, ite_false, Nat.sub_zero, Nat.zero_le, true_and, and_true, and_self, true_or, or_true, if_true, if_false, true_implies, implies_true, not_true_eq_false, not_false_eq_true, false_implies, forall_const, ne_eq, or_self, and_false, false_and, Lt, Le, Eq', Cp, In, nI_add, nI_mul, nI_sub, nI_sub1, Neg0, bI_eq0, bI_eq1, bI_01, bft, up2_eq, up2_no, Bool.true_eq_false, Bool.false_eq_true, eq_self, m1_ne, m1_ne2, m1_lt, m1_le, lt_m1, m1_le2, bI_t, bI_f, LK_st, FGu hG, LK_g hG h22 hs2, FY22u hY22, hx, hd0])
    exact fin
  | true =>
    cases hy : isC y with
    | false =>
      rw [hx, hy, if_pos (show (true && (false && inR z 0 1)) = false from rfl)] at fin
      have fin := fin I L P CF.rf
      (apply WP_runI (lv := lvK) (F := LK) LK_ok 999 80; simp (disch := first | decide | omega) only [t80_0, lift_c, o_iload1, o_stat1, rpush_n, rpush_s, o_ifeq, o_iload2, o_iload3, o_iflt, o_inl, o_icle, o_ireturn, o_icne, o_aload0, o_getref, o_virt4, z0, z1, z2, z20, z31, runI_0, runI_c, runI_n, liftI_n, liftI_y, run_0, run_c, run_n, fxn, fxi, fxr, fxl, fxl0, ↓swi_n, ↓swi_c, nck0, nck1, nck2, nck3, List.length_cons, List.length_nil, Nat.reduceAdd, Nat.reduceSub, Nat.reduceLeDiff, Nat.reduceEqDiff, Nat.reduceLT, reduceIte, ite_true, ite_false, Nat.sub_zero, Nat.zero_le, true_and, and_true, and_self, true_or, or_true, if_true, if_false, true_implies, implies_true, not_true_eq_false, not_false_eq_true, false_implies, forall_const, ne_eq, or_self, and_false, false_and, Lt, Le, Eq', Cp, In, nI_add, nI_mul, nI_sub, nI_sub1, Neg0, bI_eq0, bI_eq1, bI_01, bft, up2_eq, up2_no, Bool.true_eq_false, Bool.false_eq_true, eq_self, m1_ne, m1_ne2, m1_lt, m1_le, lt_m1, m1_le2, bI_t, bI_f, LK_st, FGu hG, LK_g hG h22 hs2, FY22u hY22, hx, hy, hd0])
      exact fin
    | true =>
      cases hz : inR z 0 1 with
      | false =>
        rw [hx, hy, hz, if_pos (show (true && (true && false)) = false from rfl)] at fin
        have fin := fin I L P CF.rf
        rcases inR_no hz with h | ⟨h1, h2⟩
        · (apply WP_runI (lv := lvK) (F := LK) LK_ok 999 80; simp (disch := first | decide | omega) only [t80_0, lift_c, o_iload1, o_stat1, rpush_n, rpush_s, o_ifeq, o_iload2, o_iload3, o_iflt, o_inl, o_icle, o_ireturn, o_icne, o_aload0, o_getref, o_virt4, z0, z1, z2, z20, z31, runI_0, runI_c, runI_n, liftI_n, liftI_y, run_0, run_c, run_n, fxn, fxi, fxr, fxl, fxl0, ↓swi_n, ↓swi_c, nck0, nck1, nck2, nck3, List.length_cons, List.length_nil, Nat.reduceAdd, Nat.reduceSub, Nat.reduceLeDiff, Nat.reduceEqDiff, Nat.reduceLT, reduceIte, ite_true, ite_false, Nat.sub_zero, Nat.zero_le, true_and, and_true, and_self, true_or, or_true, if_true, if_false, true_implies, implies_true, not_true_eq_false, not_false_eq_true, false_implies, forall_const, ne_eq, or_self, and_false, false_and, Lt, Le, Eq', Cp, In, nI_add, nI_mul, nI_sub, nI_sub1, Neg0, bI_eq0, bI_eq1, bI_01, bft, up2_eq, up2_no, Bool.true_eq_false, Bool.false_eq_true, eq_self, m1_ne, m1_ne2, m1_lt, m1_le, lt_m1, m1_le2, bI_t, bI_f, LK_st, FGu hG, LK_g hG h22 hs2, FY22u hY22, hx, hy, h, hd0])
          exact fin
        · have h3 : ¬ z ≤ nI 1 := Int32.not_le.mpr h2
          (apply WP_runI (lv := lvK) (F := LK) LK_ok 999 80; simp (disch := first | decide | omega) only [t80_0, lift_c, o_iload1, o_stat1, rpush_n, rpush_s, o_ifeq, o_iload2, o_iload3, o_iflt, o_inl, o_icle, o_ireturn, o_icne, o_aload0, o_getref, o_virt4, z0, z1, z2, z20, z31, runI_0, runI_c, runI_n, liftI_n, liftI_y, run_0, run_c, run_n, fxn, fxi, fxr, fxl, fxl0, ↓swi_n, ↓swi_c, nck0, nck1, nck2, nck3, List.length_cons, List.length_nil, Nat.reduceAdd, Nat.reduceSub, Nat.reduceLeDiff, Nat.reduceEqDiff, Nat.reduceLT, reduceIte, ite_true, ite_false, Nat.sub_zero, Nat.zero_le, true_and, and_true, and_self, true_or, or_true, if_true, if_false, true_implies, implies_true, not_true_eq_false, not_false_eq_true, false_implies, forall_const, ne_eq, or_self, and_false, false_and, Lt, Le, Eq', Cp, In, nI_add, nI_mul, nI_sub, nI_sub1, Neg0, bI_eq0, bI_eq1, bI_01, bft, up2_eq, up2_no, Bool.true_eq_false, Bool.false_eq_true, eq_self, m1_ne, m1_ne2, m1_lt, m1_le, lt_m1, m1_le2, bI_t, bI_f, LK_st, FGu hG, LK_g hG h22 hs2, FY22u hY22, hx, hy, h1, h3, hd0])
          exact fin
      | true =>
        rw [hx, hy, hz, if_neg (by decide)] at fin
        obtain ⟨m, -, hm, rfl⟩ := inR_of (by omega) (by omega) hz
        have hm2 : m = 0 ∨ m = 1 := by omega
        rcases hm2 with rfl | rfl
        · rw [if_pos rfl] at fin
          (apply WP_runI (lv := lvK) (F := LK) LK_ok 999 80; simp (disch := first | decide | omega) only [t80_0, lift_c, o_iload1, o_stat1, rpush_n, rpush_s, o_ifeq, o_iload2, o_iload3, o_iflt, o_inl, o_icle, o_ireturn, o_icne, o_aload0, o_getref, o_virt4, z0, z1, z2, z20, z31, runI_0, runI_c, runI_n, liftI_n, liftI_y, run_0, run_c, run_n, fxn, fxi, fxr, fxl, fxl0, ↓swi_n, ↓swi_c, nck0, nck1, nck2, nck3, List.length_cons, List.length_nil, Nat.reduceAdd, Nat.reduceSub, Nat.reduceLeDiff, Nat.reduceEqDiff, Nat.reduceLT, reduceIte, ite_true, ite_false, Nat.sub_zero, Nat.zero_le, true_and, and_true, and_self, true_or, or_true, if_true, if_false, true_implies, implies_true, not_true_eq_false, not_false_eq_true, false_implies, forall_const, ne_eq, or_self, and_false, false_and, Lt, Le, Eq', Cp, In, nI_add, nI_mul, nI_sub, nI_sub1, Neg0, bI_eq0, bI_eq1, bI_01, bft, up2_eq, up2_no, Bool.true_eq_false, Bool.false_eq_true, eq_self, m1_ne, m1_ne2, m1_lt, m1_le, lt_m1, m1_le2, bI_t, bI_f, LK_st, FGu hG, LK_g hG h22 hs2, FY22u hY22, hx, hy, hd0, Nat.lt_irrefl, Nat.not_lt_zero])
          refine wayT_T hB (by omega) fun I1 L1 P1 hc => ?_
          have fin := fin I1 L1 P1 hc
          rw [← hn_way F E (I 124) x y] at fin
          generalize lateS (wayL F E (I 124) x y 16 0) = v at fin ⊢
          (apply WP_runI (lv := lvK) (F := LK) LK_ok 999 80; simp (disch := first | decide | omega) only [t80_0, lift_c, o_iload1, o_stat1, rpush_n, rpush_s, o_ifeq, o_iload2, o_iload3, o_iflt, o_inl, o_icle, o_ireturn, o_icne, o_aload0, o_getref, o_virt4, z0, z1, z2, z20, z31, runI_0, runI_c, runI_n, liftI_n, liftI_y, run_0, run_c, run_n, fxn, fxi, fxr, fxl, fxl0, ↓swi_n, ↓swi_c, nck0, nck1, nck2, nck3, List.length_cons, List.length_nil, Nat.reduceAdd, Nat.reduceSub, Nat.reduceLeDiff, Nat.reduceEqDiff, Nat.reduceLT, reduceIte, ite_true, ite_false, Nat.sub_zero, Nat.zero_le, true_and, and_true, and_self, true_or, or_true, if_true, if_false, true_implies, implies_true, not_true_eq_false, not_false_eq_true, false_implies, forall_const, ne_eq, or_self, and_false, false_and, Lt, Le, Eq', Cp, In, nI_add, nI_mul, nI_sub, nI_sub1, Neg0, bI_eq0, bI_eq1, bI_01, bft, up2_eq, up2_no, Bool.true_eq_false, Bool.false_eq_true, eq_self, m1_ne, m1_ne2, m1_lt, m1_le, lt_m1, m1_le2, bI_t, bI_f, LK_st, FGu hG, LK_g hG h22 hs2, hd0])
          exact fin
        · rw [if_neg (by decide)] at fin
          (apply WP_runI (lv := lvK) (F := LK) LK_ok 999 80; simp (disch := first | decide | omega) only [t80_0, lift_c, o_iload1, o_stat1, rpush_n, rpush_s, o_ifeq, o_iload2, o_iload3, o_iflt, o_inl, o_icle, o_ireturn, o_icne, o_aload0, o_getref, o_virt4, z0, z1, z2, z20, z31, runI_0, runI_c, runI_n, liftI_n, liftI_y, run_0, run_c, run_n, fxn, fxi, fxr, fxl, fxl0, ↓swi_n, ↓swi_c, nck0, nck1, nck2, nck3, List.length_cons, List.length_nil, Nat.reduceAdd, Nat.reduceSub, Nat.reduceLeDiff, Nat.reduceEqDiff, Nat.reduceLT, reduceIte, ite_true, ite_false, Nat.sub_zero, Nat.zero_le, true_and, and_true, and_self, true_or, or_true, if_true, if_false, true_implies, implies_true, not_true_eq_false, not_false_eq_true, false_implies, forall_const, ne_eq, or_self, and_false, false_and, Lt, Le, Eq', Cp, In, nI_add, nI_mul, nI_sub, nI_sub1, Neg0, bI_eq0, bI_eq1, bI_01, bft, up2_eq, up2_no, Bool.true_eq_false, Bool.false_eq_true, eq_self, m1_ne, m1_ne2, m1_lt, m1_le, lt_m1, m1_le2, bI_t, bI_f, LK_st, FGu hG, LK_g hG h22 hs2, FY22u hY22, hx, hy, hd0, Nat.lt_irrefl, Nat.not_lt_zero])
          refine keysT_T hB (by omega) fun I1 L1 P1 hc => ?_
          have fin := fin I1 L1 P1 hc
          generalize (kyI F E (I 124) x y k k).1 = v at fin ⊢
          (apply WP_runI (lv := lvK) (F := LK) LK_ok 999 80; simp (disch := first | decide | omega) only [t80_0, lift_c, o_iload1, o_stat1, rpush_n, rpush_s, o_ifeq, o_iload2, o_iload3, o_iflt, o_inl, o_icle, o_ireturn, o_icne, o_aload0, o_getref, o_virt4, z0, z1, z2, z20, z31, runI_0, runI_c, runI_n, liftI_n, liftI_y, run_0, run_c, run_n, fxn, fxi, fxr, fxl, fxl0, ↓swi_n, ↓swi_c, nck0, nck1, nck2, nck3, List.length_cons, List.length_nil, Nat.reduceAdd, Nat.reduceSub, Nat.reduceLeDiff, Nat.reduceEqDiff, Nat.reduceLT, reduceIte, ite_true, ite_false, Nat.sub_zero, Nat.zero_le, true_and, and_true, and_self, true_or, or_true, if_true, if_false, true_implies, implies_true, not_true_eq_false, not_false_eq_true, false_implies, forall_const, ne_eq, or_self, and_false, false_and, Lt, Le, Eq', Cp, In, nI_add, nI_mul, nI_sub, nI_sub1, Neg0, bI_eq0, bI_eq1, bI_01, bft, up2_eq, up2_no, Bool.true_eq_false, Bool.false_eq_true, eq_self, m1_ne, m1_ne2, m1_lt, m1_le, lt_m1, m1_le2, bI_t, bI_f, LK_st, FGu hG, LK_g hG h22 hs2, hd0])
          exact fin
theorem lead_P (hd : 50 ≤ d) (x z : Int32) : PAIR G d 81 174 [.ref 20, .int x, .int z] [.ref 123, .int x, .int z] := by
  intro n sh I L P Q hI hQ
  obtain ⟨F, E, k, g, r, hI⟩ := hI
  apply e81
  apply WP_SF
  intro hSF
  have hs2 := hSF.2.2.1
  have hB := hI.cb
  have hG := hB.fg
  have hY22 := hB.y22
  have hY84 := hB.y84
  have h22 : sh 22 = (8, 9) := (FY22u hY22).1
  have hd0 : 0 < d := by omega
  have hk := hI.2.2.1.1.k6
  have hg9 := hI.2.2.1.1.g9
  have fin : ∀ I1 L1 P1, CF I L P I1 L1 P1 → Q (some (.int (leadA F E (I 124) x z))) n sh I1 L1 P1 := fun I1 L1 P1 hc => hQ _ _ _ _ _ _ fun Q2 h2 => by
    refine ⟨(FMu hI.1).1, ?_⟩
    have hI1 := hI.cf hc
    refine lead_M hI1.1 hI1.2.2.1 (by omega) fun I2 he => ?_
    rw [hc.n124]
    exact h2 _ _ _ _ _ ⟨F, E, k, g, r, hI1.scA he⟩
  have hx := gateB hB x
  unfold leadA at fin
  cases hb : isG (I 124) x with
  | false =>
    rw [hb, if_pos rfl] at fin
    have fin := fin I L P CF.rf
    rw [hb] at hx
    (apply WP_runI (lv := lvK) (F := LK) LK_ok 999 80; simp (disch := first | decide | omega) only [t81_0, lift_c, o_aload0, o_iload1, o_virt2, rpush_n, rpush_s, o_ifne, o_inl, o_ireturn, o_iload2, o_iclt, o_icle, o_getref, o_virt4, z0, z1, z2, z20, z31, z99, runI_0, runI_c, runI_n, liftI_n, liftI_y, run_0, run_c, run_n, fxn, fxi, fxr, fxl, fxl0, ↓swi_n, ↓swi_c, nck0, nck1, nck2, nck3, List.length_cons, List.length_nil, Nat.reduceAdd, Nat.reduceSub, Nat.reduceLeDiff, Nat.reduceEqDiff, Nat.reduceLT, reduceIte, ite_true, ite_false, Nat.sub_zero, Nat.zero_le, true_and, and_true, and_self, true_or, or_true, if_true, if_false, true_implies, implies_true, not_true_eq_false, not_false_eq_true, false_implies, forall_const, ne_eq, or_self, and_false, false_and, Lt, Le, Eq', Cp, In, nI_add, nI_mul, nI_sub, nI_sub1, Neg0, bI_eq0, bI_eq1, bI_01, bft, up2_eq, up2_no, Bool.true_eq_false, Bool.false_eq_true, eq_self, m1_ne, m1_ne2, m1_lt, m1_le, lt_m1, m1_le2, bI_t, bI_f, LK_st, FGu hG, LK_g hG h22 hs2, FY22u hY22, hx, hd0])
    exact fin
  | true =>
    rw [hb] at hx
    cases hz : inR z 1 99 with
    | false =>
      rw [hb, hz, if_neg (by decide), if_pos rfl] at fin
      have fin := fin I L P CF.rf
      rcases inR_no hz with h | ⟨h1, h2⟩
      · (apply WP_runI (lv := lvK) (F := LK) LK_ok 999 80; simp (disch := first | decide | omega) only [t81_0, lift_c, o_aload0, o_iload1, o_virt2, rpush_n, rpush_s, o_ifne, o_inl, o_ireturn, o_iload2, o_iclt, o_icle, o_getref, o_virt4, z0, z1, z2, z20, z31, z99, runI_0, runI_c, runI_n, liftI_n, liftI_y, run_0, run_c, run_n, fxn, fxi, fxr, fxl, fxl0, ↓swi_n, ↓swi_c, nck0, nck1, nck2, nck3, List.length_cons, List.length_nil, Nat.reduceAdd, Nat.reduceSub, Nat.reduceLeDiff, Nat.reduceEqDiff, Nat.reduceLT, reduceIte, ite_true, ite_false, Nat.sub_zero, Nat.zero_le, true_and, and_true, and_self, true_or, or_true, if_true, if_false, true_implies, implies_true, not_true_eq_false, not_false_eq_true, false_implies, forall_const, ne_eq, or_self, and_false, false_and, Lt, Le, Eq', Cp, In, nI_add, nI_mul, nI_sub, nI_sub1, Neg0, bI_eq0, bI_eq1, bI_01, bft, up2_eq, up2_no, Bool.true_eq_false, Bool.false_eq_true, eq_self, m1_ne, m1_ne2, m1_lt, m1_le, lt_m1, m1_le2, bI_t, bI_f, LK_st, FGu hG, LK_g hG h22 hs2, FY22u hY22, hx, h, hd0])
        exact fin
      · have h3 : ¬ z ≤ nI 99 := Int32.not_le.mpr h2
        (apply WP_runI (lv := lvK) (F := LK) LK_ok 999 80; simp (disch := first | decide | omega) only [t81_0, lift_c, o_aload0, o_iload1, o_virt2, rpush_n, rpush_s, o_ifne, o_inl, o_ireturn, o_iload2, o_iclt, o_icle, o_getref, o_virt4, z0, z1, z2, z20, z31, z99, runI_0, runI_c, runI_n, liftI_n, liftI_y, run_0, run_c, run_n, fxn, fxi, fxr, fxl, fxl0, ↓swi_n, ↓swi_c, nck0, nck1, nck2, nck3, List.length_cons, List.length_nil, Nat.reduceAdd, Nat.reduceSub, Nat.reduceLeDiff, Nat.reduceEqDiff, Nat.reduceLT, reduceIte, ite_true, ite_false, Nat.sub_zero, Nat.zero_le, true_and, and_true, and_self, true_or, or_true, if_true, if_false, true_implies, implies_true, not_true_eq_false, not_false_eq_true, false_implies, forall_const, ne_eq, or_self, and_false, false_and, Lt, Le, Eq', Cp, In, nI_add, nI_mul, nI_sub, nI_sub1, Neg0, bI_eq0, bI_eq1, bI_01, bft, up2_eq, up2_no, Bool.true_eq_false, Bool.false_eq_true, eq_self, m1_ne, m1_ne2, m1_lt, m1_le, lt_m1, m1_le2, bI_t, bI_f, LK_st, FGu hG, LK_g hG h22 hs2, FY22u hY22, hx, h1, h3, hd0])
        exact fin
    | true =>
      rw [hb, hz, if_neg (by decide), if_neg (by decide)] at fin
      obtain ⟨m, -, hm, ez⟩ := inR_of (by omega) (by omega) hz
      obtain ⟨h1, h2⟩ := inR_yes hz
      have h3 : z ≤ nI 99 := Int32.not_lt.mp h2
      (apply WP_runI (lv := lvK) (F := LK) LK_ok 999 80; simp (disch := first | decide | omega) only [t81_0, lift_c, o_aload0, o_iload1, o_virt2, rpush_n, rpush_s, o_ifne, o_inl, o_ireturn, o_iload2, o_iclt, o_icle, o_getref, o_virt4, z0, z1, z2, z20, z31, z99, runI_0, runI_c, runI_n, liftI_n, liftI_y, run_0, run_c, run_n, fxn, fxi, fxr, fxl, fxl0, ↓swi_n, ↓swi_c, nck0, nck1, nck2, nck3, List.length_cons, List.length_nil, Nat.reduceAdd, Nat.reduceSub, Nat.reduceLeDiff, Nat.reduceEqDiff, Nat.reduceLT, reduceIte, ite_true, ite_false, Nat.sub_zero, Nat.zero_le, true_and, and_true, and_self, true_or, or_true, if_true, if_false, true_implies, implies_true, not_true_eq_false, not_false_eq_true, false_implies, forall_const, ne_eq, or_self, and_false, false_and, Lt, Le, Eq', Cp, In, nI_add, nI_mul, nI_sub, nI_sub1, Neg0, bI_eq0, bI_eq1, bI_01, bft, up2_eq, up2_no, Bool.true_eq_false, Bool.false_eq_true, eq_self, m1_ne, m1_ne2, m1_lt, m1_le, lt_m1, m1_le2, bI_t, bI_f, LK_st, FGu hG, LK_g hG h22 hs2, FY22u hY22, hx, h1, h3, hd0])
      refine leadT_T hB hm ez (by omega) fun I1 L1 P1 hc => ?_
      have fin := fin I1 L1 P1 hc
      generalize (ldL F E (I 124) x z 8).1 = v at fin ⊢
      (apply WP_runI (lv := lvK) (F := LK) LK_ok 999 80; simp (disch := first | decide | omega) only [t81_0, lift_c, o_aload0, o_iload1, o_virt2, rpush_n, rpush_s, o_ifne, o_inl, o_ireturn, o_iload2, o_iclt, o_icle, o_getref, o_virt4, z0, z1, z2, z20, z31, z99, runI_0, runI_c, runI_n, liftI_n, liftI_y, run_0, run_c, run_n, fxn, fxi, fxr, fxl, fxl0, ↓swi_n, ↓swi_c, nck0, nck1, nck2, nck3, List.length_cons, List.length_nil, Nat.reduceAdd, Nat.reduceSub, Nat.reduceLeDiff, Nat.reduceEqDiff, Nat.reduceLT, reduceIte, ite_true, ite_false, Nat.sub_zero, Nat.zero_le, true_and, and_true, and_self, true_or, or_true, if_true, if_false, true_implies, implies_true, not_true_eq_false, not_false_eq_true, false_implies, forall_const, ne_eq, or_self, and_false, false_and, Lt, Le, Eq', Cp, In, nI_add, nI_mul, nI_sub, nI_sub1, Neg0, bI_eq0, bI_eq1, bI_01, bft, up2_eq, up2_no, Bool.true_eq_false, Bool.false_eq_true, eq_self, m1_ne, m1_ne2, m1_lt, m1_le, lt_m1, m1_le2, bI_t, bI_f, LK_st, FGu hG, LK_g hG h22 hs2, hd0])
      exact fin
theorem from_P (hd : 50 ≤ d) (x : Int32) : PAIR G d 83 178 [.ref 20, .int x] [.ref 123, .int x] := by
  intro n sh I L P Q hI hQ
  obtain ⟨F, E, k, g, r, hI⟩ := hI
  apply e83
  apply WP_SF
  intro hSF
  have hs2 := hSF.2.2.1
  have hB := hI.cb
  have hG := hB.fg
  have hY22 := hB.y22
  have hY84 := hB.y84
  have h22 : sh 22 = (8, 9) := (FY22u hY22).1
  have hd0 : 0 < d := by omega
  have hk := hI.2.2.1.1.k6
  have hg9 := hI.2.2.1.1.g9
  have fin : ∀ I1 L1 P1, CF I L P I1 L1 P1 → Q (some (.int (fromA F E (I 124) x))) n sh I1 L1 P1 := fun I1 L1 P1 hc => hQ _ _ _ _ _ _ fun Q2 h2 => by
    refine ⟨(FMu hI.1).1, ?_⟩
    have hI1 := hI.cf hc
    refine from_M hI1.1 hI1.2.2.1 hI1.2.2.2.2.2.1 (by omega) fun I2 he => ?_
    rw [hc.n124]
    exact h2 _ _ _ _ _ ⟨F, E, k, g, r, hI1.scA he⟩
  have hx := gooseB hB x
  unfold fromA at fin
  cases hb : isY (I 124) x with
  | false =>
    rw [hb, if_pos rfl] at fin
    have fin := fin I L P CF.rf
    rw [hb] at hx
    (apply WP_runI (lv := lvK) (F := LK) LK_ok 999 80; simp (disch := first | decide | omega) only [t83_0, lift_c, o_aload0, o_iload1, o_virt2, rpush_n, rpush_s, o_ifne, o_inl, o_ireturn, o_getref, o_virt3, z0, z1, z2, z20, z31, runI_0, runI_c, runI_n, liftI_n, liftI_y, run_0, run_c, run_n, fxn, fxi, fxr, fxl, fxl0, ↓swi_n, ↓swi_c, nck0, nck1, nck2, nck3, List.length_cons, List.length_nil, Nat.reduceAdd, Nat.reduceSub, Nat.reduceLeDiff, Nat.reduceEqDiff, Nat.reduceLT, reduceIte, ite_true, ite_false, Nat.sub_zero, Nat.zero_le, true_and, and_true, and_self, true_or, or_true, if_true, if_false, true_implies, implies_true, not_true_eq_false, not_false_eq_true, false_implies, forall_const, ne_eq, or_self, and_false, false_and, Lt, Le, Eq', Cp, In, nI_add, nI_mul, nI_sub, nI_sub1, Neg0, bI_eq0, bI_eq1, bI_01, bft, up2_eq, up2_no, Bool.true_eq_false, Bool.false_eq_true, eq_self, m1_ne, m1_ne2, m1_lt, m1_le, lt_m1, m1_le2, bI_t, bI_f, LK_st, FGu hG, LK_g hG h22 hs2, FY22u hY22, hx, hd0])
    exact fin
  | true =>
    rw [hb, if_neg (by decide)] at fin
    rw [hb] at hx
    obtain ⟨i, hi, e⟩ := isY_of hB.2.2.1 hb
    rw [show x.toNatClampNeg = i by rw [e, Cp _ (by omega)]] at fin
    (apply WP_runI (lv := lvK) (F := LK) LK_ok 999 80; simp (disch := first | decide | omega) only [t83_0, lift_c, o_aload0, o_iload1, o_virt2, rpush_n, rpush_s, o_ifne, o_inl, o_ireturn, o_getref, o_virt3, z0, z1, z2, z20, z31, runI_0, runI_c, runI_n, liftI_n, liftI_y, run_0, run_c, run_n, fxn, fxi, fxr, fxl, fxl0, ↓swi_n, ↓swi_c, nck0, nck1, nck2, nck3, List.length_cons, List.length_nil, Nat.reduceAdd, Nat.reduceSub, Nat.reduceLeDiff, Nat.reduceEqDiff, Nat.reduceLT, reduceIte, ite_true, ite_false, Nat.sub_zero, Nat.zero_le, true_and, and_true, and_self, true_or, or_true, if_true, if_false, true_implies, implies_true, not_true_eq_false, not_false_eq_true, false_implies, forall_const, ne_eq, or_self, and_false, false_and, Lt, Le, Eq', Cp, In, nI_add, nI_mul, nI_sub, nI_sub1, Neg0, bI_eq0, bI_eq1, bI_01, bft, up2_eq, up2_no, Bool.true_eq_false, Bool.false_eq_true, eq_self, m1_ne, m1_ne2, m1_lt, m1_le, lt_m1, m1_le2, bI_t, bI_f, LK_st, FGu hG, LK_g hG h22 hs2, FY22u hY22, hx, hd0])
    rw [e]
    refine courtsAsSeen_T hB hI.2.2.2.2.1 hI.2.2.2.2.2.1 hi (by omega) fun I1 L1 P1 hc => ?_
    have fin := fin I1 L1 P1 hc
    generalize fitL F E (I 124) (26 + 9 * i + 2) 8 = v at fin ⊢
    (apply WP_runI (lv := lvK) (F := LK) LK_ok 999 80; simp (disch := first | decide | omega) only [t83_0, lift_c, o_aload0, o_iload1, o_virt2, rpush_n, rpush_s, o_ifne, o_inl, o_ireturn, o_getref, o_virt3, z0, z1, z2, z20, z31, runI_0, runI_c, runI_n, liftI_n, liftI_y, run_0, run_c, run_n, fxn, fxi, fxr, fxl, fxl0, ↓swi_n, ↓swi_c, nck0, nck1, nck2, nck3, List.length_cons, List.length_nil, Nat.reduceAdd, Nat.reduceSub, Nat.reduceLeDiff, Nat.reduceEqDiff, Nat.reduceLT, reduceIte, ite_true, ite_false, Nat.sub_zero, Nat.zero_le, true_and, and_true, and_self, true_or, or_true, if_true, if_false, true_implies, implies_true, not_true_eq_false, not_false_eq_true, false_implies, forall_const, ne_eq, or_self, and_false, false_and, Lt, Le, Eq', Cp, In, nI_add, nI_mul, nI_sub, nI_sub1, Neg0, bI_eq0, bI_eq1, bI_01, bft, up2_eq, up2_no, Bool.true_eq_false, Bool.false_eq_true, eq_self, m1_ne, m1_ne2, m1_lt, m1_le, lt_m1, m1_le2, bI_t, bI_f, LK_st, FGu hG, LK_g hG h22 hs2, hd0])
    exact fin
theorem ends_P (hd : 50 ≤ d) (z : Int32) : PAIR G d 88 184 [.ref 20, .int z] [.ref 123, .int z] := by
  intro n sh I L P Q hI hQ
  obtain ⟨F, E, k, g, r, hI⟩ := hI
  apply e88
  apply WP_SF
  intro hSF
  have hs2 := hSF.2.2.1
  have hB := hI.cb
  have hG := hB.fg
  have hY22 := hB.y22
  have hY84 := hB.y84
  have h22 : sh 22 = (8, 9) := (FY22u hY22).1
  have hd0 : 0 < d := by omega
  have hk := hI.2.2.1.1.k6
  have hg9 := hI.2.2.1.1.g9
  have fin : ∀ I1 L1 P1, CF I L P I1 L1 P1 → Q (some (.int (endsA F E (I 124) z))) n sh I1 L1 P1 := fun I1 L1 P1 hc => hQ _ _ _ _ _ _ fun Q2 h2 => by
    refine ⟨(FMu hI.1).1, ?_⟩
    have hI1 := hI.cf hc
    refine ends_M hI1.1 hI1.2.2.1 hI1.2.2.2.2.2.1 (by omega) fun I2 he => ?_
    rw [hc.n124]
    exact h2 _ _ _ _ _ ⟨F, E, k, g, r, hI1.scA he⟩
  unfold endsA at fin
  cases hz : inR z 0 1 with
  | false =>
    rw [hz, if_pos rfl] at fin
    have fin := fin I L P CF.rf
    rcases inR_no hz with h | ⟨h1, h2⟩
    · (apply WP_runI (lv := lvK) (F := LK) LK_ok 999 80; simp (disch := first | decide | omega) only [t88_0, lift_c, o_iload1, o_iflt, o_inl, o_icle, o_ireturn, o_aload0, o_getref, o_virt2, rpush_n, rpush_s, o_astore, s1_0, s1_s, o_ifne, o_aload2, o_virt1, o_goto, z0, z1, z2, z20, z31, runI_0, runI_c, runI_n, liftI_n, liftI_y, run_0, run_c, run_n, fxn, fxi, fxr, fxl, fxl0, ↓swi_n, ↓swi_c, nck0, nck1, nck2, nck3, List.length_cons, List.length_nil, Nat.reduceAdd, Nat.reduceSub, Nat.reduceLeDiff, Nat.reduceEqDiff, Nat.reduceLT, reduceIte, ite_true, ite_false, Nat.sub_zero, Nat.zero_le, true_and, and_true, and_self, true_or, or_true, if_true, if_false, true_implies, implies_true, not_true_eq_false, not_false_eq_true, false_implies, forall_const, ne_eq, or_self, and_false, false_and, Lt, Le, Eq', Cp, In, nI_add, nI_mul, nI_sub, nI_sub1, Neg0, bI_eq0, bI_eq1, bI_01, bft, up2_eq, up2_no, Bool.true_eq_false, Bool.false_eq_true, eq_self, m1_ne, m1_ne2, m1_lt, m1_le, lt_m1, m1_le2, bI_t, bI_f, LK_st, FGu hG, LK_g hG h22 hs2, FY22u hY22, h, hd0])
      exact fin
    · have h3 : ¬ z ≤ nI 1 := Int32.not_le.mpr h2
      (apply WP_runI (lv := lvK) (F := LK) LK_ok 999 80; simp (disch := first | decide | omega) only [t88_0, lift_c, o_iload1, o_iflt, o_inl, o_icle, o_ireturn, o_aload0, o_getref, o_virt2, rpush_n, rpush_s, o_astore, s1_0, s1_s, o_ifne, o_aload2, o_virt1, o_goto, z0, z1, z2, z20, z31, runI_0, runI_c, runI_n, liftI_n, liftI_y, run_0, run_c, run_n, fxn, fxi, fxr, fxl, fxl0, ↓swi_n, ↓swi_c, nck0, nck1, nck2, nck3, List.length_cons, List.length_nil, Nat.reduceAdd, Nat.reduceSub, Nat.reduceLeDiff, Nat.reduceEqDiff, Nat.reduceLT, reduceIte, ite_true, ite_false, Nat.sub_zero, Nat.zero_le, true_and, and_true, and_self, true_or, or_true, if_true, if_false, true_implies, implies_true, not_true_eq_false, not_false_eq_true, false_implies, forall_const, ne_eq, or_self, and_false, false_and, Lt, Le, Eq', Cp, In, nI_add, nI_mul, nI_sub, nI_sub1, Neg0, bI_eq0, bI_eq1, bI_01, bft, up2_eq, up2_no, Bool.true_eq_false, Bool.false_eq_true, eq_self, m1_ne, m1_ne2, m1_lt, m1_le, lt_m1, m1_le2, bI_t, bI_f, LK_st, FGu hG, LK_g hG h22 hs2, FY22u hY22, h1, h3, hd0])
      exact fin
  | true =>
    rw [hz, if_neg (by decide)] at fin
    obtain ⟨h1, h2⟩ := inR_yes hz
    have h3 : z ≤ nI 1 := Int32.not_lt.mp h2
    have n84 : ¬ neq 84 1 := by show ¬ 84 = 1; decide
    (apply WP_runI (lv := lvK) (F := LK) LK_ok 999 80; simp (disch := first | decide | omega) only [t88_0, lift_c, o_iload1, o_iflt, o_inl, o_icle, o_ireturn, o_aload0, o_getref, o_virt2, rpush_n, rpush_s, o_astore, s1_0, s1_s, o_ifne, o_aload2, o_virt1, o_goto, z0, z1, z2, z20, z31, runI_0, runI_c, runI_n, liftI_n, liftI_y, run_0, run_c, run_n, fxn, fxi, fxr, fxl, fxl0, ↓swi_n, ↓swi_c, nck0, nck1, nck2, nck3, List.length_cons, List.length_nil, Nat.reduceAdd, Nat.reduceSub, Nat.reduceLeDiff, Nat.reduceEqDiff, Nat.reduceLT, reduceIte, ite_true, ite_false, Nat.sub_zero, Nat.zero_le, true_and, and_true, and_self, true_or, or_true, if_true, if_false, true_implies, implies_true, not_true_eq_false, not_false_eq_true, false_implies, forall_const, ne_eq, or_self, and_false, false_and, Lt, Le, Eq', Cp, In, nI_add, nI_mul, nI_sub, nI_sub1, Neg0, bI_eq0, bI_eq1, bI_01, bft, up2_eq, up2_no, Bool.true_eq_false, Bool.false_eq_true, eq_self, m1_ne, m1_ne2, m1_lt, m1_le, lt_m1, m1_le2, bI_t, bI_f, LK_st, FGu hG, LK_g hG h22 hs2, FY22u hY22, h1, h3, hd0])
    refine planned_T hB hI.2.2.2.2.1 hI.2.2.2.2.2.1 (by omega) fun I1 L1 P1 hT => ?_
    have fin := fin I1 L1 P1 hT.1
    have hY84 := hT.y
    by_cases h0 : z = nI 0
    · rw [if_pos h0] at fin
      (apply WP_runI (lv := lvK) (F := LK) LK_ok 999 80; simp (disch := first | decide | omega) only [t88_0, lift_c, o_iload1, o_iflt, o_inl, o_icle, o_ireturn, o_aload0, o_getref, o_virt2, rpush_n, rpush_s, o_astore, s1_0, s1_s, o_ifne, o_aload2, o_virt1, o_goto, z0, z1, z2, z20, z31, runI_0, runI_c, runI_n, liftI_n, liftI_y, run_0, run_c, run_n, fxn, fxi, fxr, fxl, fxl0, ↓swi_n, ↓swi_c, nck0, nck1, nck2, nck3, List.length_cons, List.length_nil, Nat.reduceAdd, Nat.reduceSub, Nat.reduceLeDiff, Nat.reduceEqDiff, Nat.reduceLT, reduceIte, ite_true, ite_false, Nat.sub_zero, Nat.zero_le, true_and, and_true, and_self, true_or, or_true, if_true, if_false, true_implies, implies_true, not_true_eq_false, not_false_eq_true, false_implies, forall_const, ne_eq, or_self, and_false, false_and, Lt, Le, Eq', Cp, In, nI_add, nI_mul, nI_sub, nI_sub1, Neg0, bI_eq0, bI_eq1, bI_01, bft, up2_eq, up2_no, Bool.true_eq_false, Bool.false_eq_true, eq_self, m1_ne, m1_ne2, m1_lt, m1_le, lt_m1, m1_le2, bI_t, bI_f, LK_st, FGu hG, LK_g hG h22 hs2, FY84u hY84, n84, h0, hd0])
      refine openG_Y hT.2.2.1 hT.2.2.2 (by omega) ?_
      generalize openS (plS F E (I 124) (I 124 100).toNatClampNeg) = v at fin ⊢
      (apply WP_runI (lv := lvK) (F := LK) LK_ok 999 80; simp (disch := first | decide | omega) only [t88_0, lift_c, o_iload1, o_iflt, o_inl, o_icle, o_ireturn, o_aload0, o_getref, o_virt2, rpush_n, rpush_s, o_astore, s1_0, s1_s, o_ifne, o_aload2, o_virt1, o_goto, z0, z1, z2, z20, z31, runI_0, runI_c, runI_n, liftI_n, liftI_y, run_0, run_c, run_n, fxn, fxi, fxr, fxl, fxl0, ↓swi_n, ↓swi_c, nck0, nck1, nck2, nck3, List.length_cons, List.length_nil, Nat.reduceAdd, Nat.reduceSub, Nat.reduceLeDiff, Nat.reduceEqDiff, Nat.reduceLT, reduceIte, ite_true, ite_false, Nat.sub_zero, Nat.zero_le, true_and, and_true, and_self, true_or, or_true, if_true, if_false, true_implies, implies_true, not_true_eq_false, not_false_eq_true, false_implies, forall_const, ne_eq, or_self, and_false, false_and, Lt, Le, Eq', Cp, In, nI_add, nI_mul, nI_sub, nI_sub1, Neg0, bI_eq0, bI_eq1, bI_01, bft, up2_eq, up2_no, Bool.true_eq_false, Bool.false_eq_true, eq_self, m1_ne, m1_ne2, m1_lt, m1_le, lt_m1, m1_le2, bI_t, bI_f, LK_st, FGu hG, LK_g hG h22 hs2, hd0])
      exact fin
    · rw [if_neg h0] at fin
      (apply WP_runI (lv := lvK) (F := LK) LK_ok 999 80; simp (disch := first | decide | omega) only [t88_0, lift_c, o_iload1, o_iflt, o_inl, o_icle, o_ireturn, o_aload0, o_getref, o_virt2, rpush_n, rpush_s, o_astore, s1_0, s1_s, o_ifne, o_aload2, o_virt1, o_goto, z0, z1, z2, z20, z31, runI_0, runI_c, runI_n, liftI_n, liftI_y, run_0, run_c, run_n, fxn, fxi, fxr, fxl, fxl0, ↓swi_n, ↓swi_c, nck0, nck1, nck2, nck3, List.length_cons, List.length_nil, Nat.reduceAdd, Nat.reduceSub, Nat.reduceLeDiff, Nat.reduceEqDiff, Nat.reduceLT, reduceIte, ite_true, ite_false, Nat.sub_zero, Nat.zero_le, true_and, and_true, and_self, true_or, or_true, if_true, if_false, true_implies, implies_true, not_true_eq_false, not_false_eq_true, false_implies, forall_const, ne_eq, or_self, and_false, false_and, Lt, Le, Eq', Cp, In, nI_add, nI_mul, nI_sub, nI_sub1, Neg0, bI_eq0, bI_eq1, bI_01, bft, up2_eq, up2_no, Bool.true_eq_false, Bool.false_eq_true, eq_self, m1_ne, m1_ne2, m1_lt, m1_le, lt_m1, m1_le2, bI_t, bI_f, LK_st, FGu hG, LK_g hG h22 hs2, FY84u hY84, n84, h0, hd0])
      refine allGrain_Y hT.2.2.1 ?_
      generalize grnS (plS F E (I 124) (I 124 100).toNatClampNeg) = v at fin ⊢
      (apply WP_runI (lv := lvK) (F := LK) LK_ok 999 80; simp (disch := first | decide | omega) only [t88_0, lift_c, o_iload1, o_iflt, o_inl, o_icle, o_ireturn, o_aload0, o_getref, o_virt2, rpush_n, rpush_s, o_astore, s1_0, s1_s, o_ifne, o_aload2, o_virt1, o_goto, z0, z1, z2, z20, z31, runI_0, runI_c, runI_n, liftI_n, liftI_y, run_0, run_c, run_n, fxn, fxi, fxr, fxl, fxl0, ↓swi_n, ↓swi_c, nck0, nck1, nck2, nck3, List.length_cons, List.length_nil, Nat.reduceAdd, Nat.reduceSub, Nat.reduceLeDiff, Nat.reduceEqDiff, Nat.reduceLT, reduceIte, ite_true, ite_false, Nat.sub_zero, Nat.zero_le, true_and, and_true, and_self, true_or, or_true, if_true, if_false, true_implies, implies_true, not_true_eq_false, not_false_eq_true, false_implies, forall_const, ne_eq, or_self, and_false, false_and, Lt, Le, Eq', Cp, In, nI_add, nI_mul, nI_sub, nI_sub1, Neg0, bI_eq0, bI_eq1, bI_01, bft, up2_eq, up2_no, Bool.true_eq_false, Bool.false_eq_true, eq_self, m1_ne, m1_ne2, m1_lt, m1_le, lt_m1, m1_le2, bI_t, bI_f, LK_st, FGu hG, LK_g hG h22 hs2, hd0])
      exact fin
end
