/-! ### pairs: odds, means, told, on, can -/
section
variable {G : GE} {d : Nat}
theorem gch (a b : Nat) (h : 0 < b) (hb : b < 2 ^ 31) (ha : a < 2 ^ 31) : nI a - nI a / nI b * nI b = nI (a % b) := by
  rw [nI_div a b ha hb h, nI_mul, nI_sub _ _ (Nat.div_mul_le_self a b)]
  congr 1
  have := Nat.mod_add_div a b
  rw [Nat.mul_comm] at this
  omega
theorem eighths_K {n : Nat} {sh : TS} {I : TI} {L : TL} {P : TP} {Q : TQ} {a : Nat} (ha : a ≤ 792) {z : Int32} (hQ : Q (some (.long (frS a z))) n sh I L P) : Cl G d 116 [.int (nI a), .int z] n sh I L P Q := by
  apply e116
  unfold frS at hQ
  have n2 : ¬ nI 2 = nI 0 := by decide
  obtain ⟨c, hc8, hc⟩ : ∃ c, c < 8 ∧ a % 8 = c := ⟨a % 8, Nat.mod_lt _ (by decide), rfl⟩
  rw [hc] at hQ
  have hcc : c = 0 ∨ c = 1 ∨ c = 2 ∨ c = 3 ∨ c = 4 ∨ c = 5 ∨ c = 6 ∨ c = 7 := by omega
  obtain ⟨a1, k1⟩ : ∃ x, a / 2 = x := ⟨_, rfl⟩
  obtain ⟨a2, k2⟩ : ∃ x, a / 4 = x := ⟨_, rfl⟩
  obtain ⟨a3, k3⟩ : ∃ x, a / 8 = x := ⟨_, rfl⟩
  have e1 : nI a / nI 2 = nI a1 := by rw [nI_div a 2 (by omega) (by omega) (by omega), k1]
  have e2 : nI a1 / nI 2 = nI a2 := by rw [nI_div a1 2 (by omega) (by omega) (by omega)]; congr 1; omega
  have e3 : nI a2 / nI 2 = nI a3 := by rw [nI_div a2 2 (by omega) (by omega) (by omega)]; congr 1; omega
  have f1 : nI 8 / nI 2 = nI 4 := by decide
  have f2 : nI 4 / nI 2 = nI 2 := by decide
  have f3 : nI 2 / nI 2 = nI 1 := by decide
  have m1 : nI a - nI (a1 * 2) = nI (c % 2) := by rw [nI_sub _ _ (by omega)]; congr 1; omega
  have m2 : nI a1 - nI (a2 * 2) = nI (c / 2 % 2) := by rw [nI_sub _ _ (by omega)]; congr 1; omega
  have m3 : nI a2 - nI (a3 * 2) = nI (c / 4 % 2) := by rw [nI_sub _ _ (by omega)]; congr 1; omega
  have l0 : (nI a).toInt64 = nL a := nL_of (by omega)
  have l1 : (nI a1).toInt64 = nL a1 := nL_of (by omega)
  have l2 : (nI a2).toInt64 = nL a2 := nL_of (by omega)
  have l3 : (nI a3).toInt64 = nL a3 := nL_of (by omega)
  have j1 : (nI 1).toInt64 = nL 1 := by decide
  have j2 : (nI 2).toInt64 = nL 2 := by decide
  have j4 : (nI 4).toInt64 = nL 4 := by decide
  have j8 : (nI 8).toInt64 = nL 8 := by decide
  have g1 : a / 1 = a := Nat.div_one a
  by_cases hz : z = nI 0
  · rw [if_pos hz] at hQ
    rcases hcc with rfl | rfl | rfl | rfl | rfl | rfl | rfl | rfl <;> simp only [gcD, Nat.reduceEqDiff, if_true, if_false, reduceIte, Nat.reduceMod, k1, k2, k3, g1] at hQ <;> clear k1 k2 k3 hc g1 hc8 <;> ((apply WP_runI (lv := lvK) (F := LK) LK_ok 999 80; simp (disch := first | decide | omega) only [t116_0, lift_c, o_iload0, o_istore, s1_0, s1_s, o_inl, o_iload3, o_icle, o_iload2, o_irem, o_ifne, o_idiv, o_goto, o_iload1, o_i2l, o_lreturn, z0, z1, z2, z8, z20, z31, runI_0, runI_c, runI_n, liftI_n, liftI_y, run_0, run_c, run_n, fxn, fxi, fxr, fxl, fxl0, ↓swi_n, ↓swi_c, nck0, nck1, nck2, nck3, List.length_cons, List.length_nil, Nat.reduceAdd, Nat.reduceSub, Nat.reduceLeDiff, Nat.reduceEqDiff, Nat.reduceLT, reduceIte, ite_true, ite_false, Nat.sub_zero, Nat.zero_le, true_and, and_true, and_self, true_or, or_true, if_true, if_false, true_implies, implies_true, not_true_eq_false, not_false_eq_true, false_implies, forall_const, ne_eq, or_self, and_false, false_and, Lt, Le, Eq', Cp, In, nI_add, nI_mul, nI_sub, nI_sub1, Neg0, bI_eq0, bI_eq1, bI_01, bft, up2_eq, up2_no, Bool.true_eq_false, Bool.false_eq_true, eq_self, m1_ne, m1_ne2, m1_lt, m1_le, lt_m1, m1_le2, bI_t, bI_f, LK_st, n2, e1, e2, e3, f1, f2, f3, m1, m2, m3, l0, l1, l2, l3, hz, Nat.reduceMod, Nat.reduceDiv]); exact hQ)
  · rw [if_neg hz] at hQ
    rcases hcc with rfl | rfl | rfl | rfl | rfl | rfl | rfl | rfl <;> simp only [gcD, Nat.reduceEqDiff, if_true, if_false, reduceIte, Nat.reduceMod, Nat.reduceDiv] at hQ <;> clear k1 k2 k3 hc g1 hc8 <;> ((apply WP_runI (lv := lvK) (F := LK) LK_ok 999 80; simp (disch := first | decide | omega) only [t116_0, lift_c, o_iload0, o_istore, s1_0, s1_s, o_inl, o_iload3, o_icle, o_iload2, o_irem, o_ifne, o_idiv, o_goto, o_iload1, o_i2l, o_lreturn, z0, z1, z2, z8, z20, z31, runI_0, runI_c, runI_n, liftI_n, liftI_y, run_0, run_c, run_n, fxn, fxi, fxr, fxl, fxl0, ↓swi_n, ↓swi_c, nck0, nck1, nck2, nck3, List.length_cons, List.length_nil, Nat.reduceAdd, Nat.reduceSub, Nat.reduceLeDiff, Nat.reduceEqDiff, Nat.reduceLT, reduceIte, ite_true, ite_false, Nat.sub_zero, Nat.zero_le, true_and, and_true, and_self, true_or, or_true, if_true, if_false, true_implies, implies_true, not_true_eq_false, not_false_eq_true, false_implies, forall_const, ne_eq, or_self, and_false, false_and, Lt, Le, Eq', Cp, In, nI_add, nI_mul, nI_sub, nI_sub1, Neg0, bI_eq0, bI_eq1, bI_01, bft, up2_eq, up2_no, Bool.true_eq_false, Bool.false_eq_true, eq_self, m1_ne, m1_ne2, m1_lt, m1_le, lt_m1, m1_le2, bI_t, bI_f, LK_st, n2, e1, e2, e3, f1, f2, f3, m1, m2, m3, j1, j2, j4, j8, hz, Nat.reduceMod, Nat.reduceDiv]); exact hQ)
theorem odds_P (hd : 50 ≤ d) (x y z : Int32) : PAIRL G d 85 181 [.ref 20, .int x, .int y, .int z] [.ref 123, .int x, .int y, .int z] := by
  intro n sh I L P Q hI hQ
  obtain ⟨F, E, k, g, r, hI⟩ := hI
  apply e85
  apply WP_SF
  intro hSF
  have hs2 := hSF.2.2.1
  have hB := hI.cb
  have hG := hB.fg
  have hY22 := hB.y22
  have hY84 := hB.y84
  have h22 : sh 22 = (8, 9) := (FY22u hY22).1
  have hd0 : 0 < d := by omega
  have hk := hI.2.2.1.1.k6
  have hg9 := hI.2.2.1.1.g9
  have fin : ∀ I1 L1 P1, CF I L P I1 L1 P1 → Q (some (.long (oddsA F E (I 124) x y z))) n sh I1 L1 P1 := fun I1 L1 P1 hc => hQ _ _ _ _ _ _ fun Q2 h2 => by
    refine ⟨(FMu hI.1).1, ?_⟩
    have hI1 := hI.cf hc
    refine odds_M hI1.1 hI1.2.2.1 (by omega) fun I2 he => ?_
    rw [hc.n124]
    exact h2 _ _ _ _ _ ⟨F, E, k, g, r, hI1.scA he⟩
  have hx := gateB hB x
  unfold oddsA at fin
  cases hb : isG (I 124) x with
  | false =>
    rw [hb, if_pos (show (false && (inR y 0 20 && inR z 0 1)) = false from rfl)] at fin
    have fin := fin I L P CF.rf
    rw [hb] at hx
    (apply WP_runI (lv := lvK) (F := LK) LK_ok 999 80; simp (disch := first | decide | omega) only [t85_0, lift_c, o_aload0, o_iload1, o_virt2, rpush_n, rpush_s, o_ifeq, o_iload2, o_inl, o_stat2, o_iload3, o_stat1, o_ifne, o_lreturn, o_getref, o_virt4, z0, z1, z2, z20, z31, runI_0, runI_c, runI_n, liftI_n, liftI_y, run_0, run_c, run_n, fxn, fxi, fxr, fxl, fxl0, ↓swi_n, ↓swi_c, nck0, nck1, nck2, nck3, List.length_cons, List.length_nil, Nat.reduceAdd, Nat.reduceSub, Nat.reduceLeDiff, Nat.reduceEqDiff, Nat.reduceLT, reduceIte, ite_true, ite_false, Nat.sub_zero, Nat.zero_le, true_and, and_true, and_self, true_or, or_true, if_true, if_false, true_implies, implies_true, not_true_eq_false, not_false_eq_true, false_implies, forall_const, ne_eq, or_self, and_false, false_and, Lt, Le, Eq', Cp, In, nI_add, nI_mul, nI_sub, nI_sub1, Neg0, bI_eq0, bI_eq1, bI_01, bft, up2_eq, up2_no, Bool.true_eq_false, Bool.false_eq_true, eq_self, m1_ne, m1_ne2, m1_lt, m1_le, lt_m1, m1_le2, bI_t, bI_f, LK_st, FGu hG, LK_g hG h22 hs2, FY22u hY22, hx, hd0])
    exact fin
  | true =>
    rw [hb] at hx
    cases hy : inR y 0 20 with
    | false =>
      have hy2 : decide (nI 0 ≤ y ∧ y ≤ nI 20) = false := hy
      rw [hb, hy, if_pos (show (true && (false && inR z 0 1)) = false from rfl)] at fin
      have fin := fin I L P CF.rf
      (apply WP_runI (lv := lvK) (F := LK) LK_ok 999 80; simp (disch := first | decide | omega) only [t85_0, lift_c, o_aload0, o_iload1, o_virt2, rpush_n, rpush_s, o_ifeq, o_iload2, o_inl, o_stat2, o_iload3, o_stat1, o_ifne, o_lreturn, o_getref, o_virt4, z0, z1, z2, z20, z31, runI_0, runI_c, runI_n, liftI_n, liftI_y, run_0, run_c, run_n, fxn, fxi, fxr, fxl, fxl0, ↓swi_n, ↓swi_c, nck0, nck1, nck2, nck3, List.length_cons, List.length_nil, Nat.reduceAdd, Nat.reduceSub, Nat.reduceLeDiff, Nat.reduceEqDiff, Nat.reduceLT, reduceIte, ite_true, ite_false, Nat.sub_zero, Nat.zero_le, true_and, and_true, and_self, true_or, or_true, if_true, if_false, true_implies, implies_true, not_true_eq_false, not_false_eq_true, false_implies, forall_const, ne_eq, or_self, and_false, false_and, Lt, Le, Eq', Cp, In, nI_add, nI_mul, nI_sub, nI_sub1, Neg0, bI_eq0, bI_eq1, bI_01, bft, up2_eq, up2_no, Bool.true_eq_false, Bool.false_eq_true, eq_self, m1_ne, m1_ne2, m1_lt, m1_le, lt_m1, m1_le2, bI_t, bI_f, LK_st, FGu hG, LK_g hG h22 hs2, FY22u hY22, hx, hy2, hd0])
      exact fin
    | true =>
      have hy2 : decide (nI 0 ≤ y ∧ y ≤ nI 20) = true := hy
      cases hz : inR z 0 1 with
      | false =>
        rw [hb, hy, hz, if_pos (show (true && (true && false)) = false from rfl)] at fin
        have fin := fin I L P CF.rf
        (apply WP_runI (lv := lvK) (F := LK) LK_ok 999 80; simp (disch := first | decide | omega) only [t85_0, lift_c, o_aload0, o_iload1, o_virt2, rpush_n, rpush_s, o_ifeq, o_iload2, o_inl, o_stat2, o_iload3, o_stat1, o_ifne, o_lreturn, o_getref, o_virt4, z0, z1, z2, z20, z31, runI_0, runI_c, runI_n, liftI_n, liftI_y, run_0, run_c, run_n, fxn, fxi, fxr, fxl, fxl0, ↓swi_n, ↓swi_c, nck0, nck1, nck2, nck3, List.length_cons, List.length_nil, Nat.reduceAdd, Nat.reduceSub, Nat.reduceLeDiff, Nat.reduceEqDiff, Nat.reduceLT, reduceIte, ite_true, ite_false, Nat.sub_zero, Nat.zero_le, true_and, and_true, and_self, true_or, or_true, if_true, if_false, true_implies, implies_true, not_true_eq_false, not_false_eq_true, false_implies, forall_const, ne_eq, or_self, and_false, false_and, Lt, Le, Eq', Cp, In, nI_add, nI_mul, nI_sub, nI_sub1, Neg0, bI_eq0, bI_eq1, bI_01, bft, up2_eq, up2_no, Bool.true_eq_false, Bool.false_eq_true, eq_self, m1_ne, m1_ne2, m1_lt, m1_le, lt_m1, m1_le2, bI_t, bI_f, LK_st, FGu hG, LK_g hG h22 hs2, FY22u hY22, hx, hy2, hz, hd0])
        exact fin
      | true =>
        rw [hb, hy, hz, if_neg (by decide)] at fin
        obtain ⟨m, -, hm, ey⟩ := inR_of (by omega) (by omega) hy
        rw [show y.toNatClampNeg = m by rw [ey, Cp _ (by omega)]] at fin
        (apply WP_runI (lv := lvK) (F := LK) LK_ok 999 80; simp (disch := first | decide | omega) only [t85_0, lift_c, o_aload0, o_iload1, o_virt2, rpush_n, rpush_s, o_ifeq, o_iload2, o_inl, o_stat2, o_iload3, o_stat1, o_ifne, o_lreturn, o_getref, o_virt4, z0, z1, z2, z20, z31, runI_0, runI_c, runI_n, liftI_n, liftI_y, run_0, run_c, run_n, fxn, fxi, fxr, fxl, fxl0, ↓swi_n, ↓swi_c, nck0, nck1, nck2, nck3, List.length_cons, List.length_nil, Nat.reduceAdd, Nat.reduceSub, Nat.reduceLeDiff, Nat.reduceEqDiff, Nat.reduceLT, reduceIte, ite_true, ite_false, Nat.sub_zero, Nat.zero_le, true_and, and_true, and_self, true_or, or_true, if_true, if_false, true_implies, implies_true, not_true_eq_false, not_false_eq_true, false_implies, forall_const, ne_eq, or_self, and_false, false_and, Lt, Le, Eq', Cp, In, nI_add, nI_mul, nI_sub, nI_sub1, Neg0, bI_eq0, bI_eq1, bI_01, bft, up2_eq, up2_no, Bool.true_eq_false, Bool.false_eq_true, eq_self, m1_ne, m1_ne2, m1_lt, m1_le, lt_m1, m1_le2, bI_t, bI_f, LK_st, FGu hG, LK_g hG h22 hs2, FY22u hY22, hx, hy2, hz, hd0])
        rw [ey]
        refine oddsT_T hB hm (by omega) fun I1 L1 P1 hc => ?_
        have fin := fin I1 L1 P1 hc
        have hl := odC_le F E (I 124) m x 8
        generalize odC F E (I 124) m x 8 = a at fin hl ⊢
        (apply WP_runI (lv := lvK) (F := LK) LK_ok 999 80; simp (disch := first | decide | omega) only [t85_0, lift_c, o_aload0, o_iload1, o_virt2, rpush_n, rpush_s, o_ifeq, o_iload2, o_inl, o_stat2, o_iload3, o_stat1, o_ifne, o_lreturn, o_getref, o_virt4, z0, z1, z2, z20, z31, runI_0, runI_c, runI_n, liftI_n, liftI_y, run_0, run_c, run_n, fxn, fxi, fxr, fxl, fxl0, ↓swi_n, ↓swi_c, nck0, nck1, nck2, nck3, List.length_cons, List.length_nil, Nat.reduceAdd, Nat.reduceSub, Nat.reduceLeDiff, Nat.reduceEqDiff, Nat.reduceLT, reduceIte, ite_true, ite_false, Nat.sub_zero, Nat.zero_le, true_and, and_true, and_self, true_or, or_true, if_true, if_false, true_implies, implies_true, not_true_eq_false, not_false_eq_true, false_implies, forall_const, ne_eq, or_self, and_false, false_and, Lt, Le, Eq', Cp, In, nI_add, nI_mul, nI_sub, nI_sub1, Neg0, bI_eq0, bI_eq1, bI_01, bft, up2_eq, up2_no, Bool.true_eq_false, Bool.false_eq_true, eq_self, m1_ne, m1_ne2, m1_lt, m1_le, lt_m1, m1_le2, bI_t, bI_f, LK_st, FGu hG, LK_g hG h22 hs2, hd0])
        refine eighths_K (by omega) ?_
        generalize frS a z = v at fin ⊢
        (apply WP_runI (lv := lvK) (F := LK) LK_ok 999 80; simp (disch := first | decide | omega) only [t85_0, lift_c, o_aload0, o_iload1, o_virt2, rpush_n, rpush_s, o_ifeq, o_iload2, o_inl, o_stat2, o_iload3, o_stat1, o_ifne, o_lreturn, o_getref, o_virt4, z0, z1, z2, z20, z31, runI_0, runI_c, runI_n, liftI_n, liftI_y, run_0, run_c, run_n, fxn, fxi, fxr, fxl, fxl0, ↓swi_n, ↓swi_c, nck0, nck1, nck2, nck3, List.length_cons, List.length_nil, Nat.reduceAdd, Nat.reduceSub, Nat.reduceLeDiff, Nat.reduceEqDiff, Nat.reduceLT, reduceIte, ite_true, ite_false, Nat.sub_zero, Nat.zero_le, true_and, and_true, and_self, true_or, or_true, if_true, if_false, true_implies, implies_true, not_true_eq_false, not_false_eq_true, false_implies, forall_const, ne_eq, or_self, and_false, false_and, Lt, Le, Eq', Cp, In, nI_add, nI_mul, nI_sub, nI_sub1, Neg0, bI_eq0, bI_eq1, bI_01, bft, up2_eq, up2_no, Bool.true_eq_false, Bool.false_eq_true, eq_self, m1_ne, m1_ne2, m1_lt, m1_le, lt_m1, m1_le2, bI_t, bI_f, LK_st, FGu hG, LK_g hG h22 hs2, hd0])
        exact fin
theorem mean_P (hd : 50 ≤ d) (y z : Int32) : PAIRL G d 86 182 [.ref 20, .int y, .int z] [.ref 123, .int y, .int z] := by
  intro n sh I L P Q hI hQ
  obtain ⟨F, E, k, g, r, hI⟩ := hI
  apply e86
  apply WP_SF
  intro hSF
  have hs2 := hSF.2.2.1
  have hB := hI.cb
  have hG := hB.fg
  have hY22 := hB.y22
  have hY84 := hB.y84
  have h22 : sh 22 = (8, 9) := (FY22u hY22).1
  have hd0 : 0 < d := by omega
  have hk := hI.2.2.1.1.k6
  have hg9 := hI.2.2.1.1.g9
  have fin : ∀ I1 L1 P1, CF I L P I1 L1 P1 → Q (some (.long (meanA F E (I 124) y z))) n sh I1 L1 P1 := fun I1 L1 P1 hc => hQ _ _ _ _ _ _ fun Q2 h2 => by
    refine ⟨(FMu hI.1).1, ?_⟩
    have hI1 := hI.cf hc
    refine mean_M hI1.1 hI1.2.2.1 (by omega) fun I2 he => ?_
    rw [hc.n124]
    exact h2 _ _ _ _ _ ⟨F, E, k, g, r, hI1.scA he⟩
  unfold meanA at fin
  cases hy : inR y 0 60 with
  | false =>
    have hy2 : decide (nI 0 ≤ y ∧ y ≤ nI 60) = false := hy
    rw [hy, if_pos (show (false && inR z 0 1) = false from rfl)] at fin
    have fin := fin I L P CF.rf
    (apply WP_runI (lv := lvK) (F := LK) LK_ok 999 80; simp (disch := first | decide | omega) only [t86_0, lift_c, o_iload1, o_inl, o_stat2, rpush_n, rpush_s, o_ifeq, o_iload2, o_stat1, o_ifne, o_lreturn, o_aload0, o_getref, o_virt3, o_virt1, z0, z1, z2, z20, z31, z60, runI_0, runI_c, runI_n, liftI_n, liftI_y, run_0, run_c, run_n, fxn, fxi, fxr, fxl, fxl0, ↓swi_n, ↓swi_c, nck0, nck1, nck2, nck3, List.length_cons, List.length_nil, Nat.reduceAdd, Nat.reduceSub, Nat.reduceLeDiff, Nat.reduceEqDiff, Nat.reduceLT, reduceIte, ite_true, ite_false, Nat.sub_zero, Nat.zero_le, true_and, and_true, and_self, true_or, or_true, if_true, if_false, true_implies, implies_true, not_true_eq_false, not_false_eq_true, false_implies, forall_const, ne_eq, or_self, and_false, false_and, Lt, Le, Eq', Cp, In, nI_add, nI_mul, nI_sub, nI_sub1, Neg0, bI_eq0, bI_eq1, bI_01, bft, up2_eq, up2_no, Bool.true_eq_false, Bool.false_eq_true, eq_self, m1_ne, m1_ne2, m1_lt, m1_le, lt_m1, m1_le2, bI_t, bI_f, LK_st, FGu hG, LK_g hG h22 hs2, FY22u hY22, hy2, hd0])
    exact fin
  | true =>
    have hy2 : decide (nI 0 ≤ y ∧ y ≤ nI 60) = true := hy
    cases hz : inR z 0 1 with
    | false =>
      rw [hy, hz, if_pos (show (true && false) = false from rfl)] at fin
      have fin := fin I L P CF.rf
      (apply WP_runI (lv := lvK) (F := LK) LK_ok 999 80; simp (disch := first | decide | omega) only [t86_0, lift_c, o_iload1, o_inl, o_stat2, rpush_n, rpush_s, o_ifeq, o_iload2, o_stat1, o_ifne, o_lreturn, o_aload0, o_getref, o_virt3, o_virt1, z0, z1, z2, z20, z31, z60, runI_0, runI_c, runI_n, liftI_n, liftI_y, run_0, run_c, run_n, fxn, fxi, fxr, fxl, fxl0, ↓swi_n, ↓swi_c, nck0, nck1, nck2, nck3, List.length_cons, List.length_nil, Nat.reduceAdd, Nat.reduceSub, Nat.reduceLeDiff, Nat.reduceEqDiff, Nat.reduceLT, reduceIte, ite_true, ite_false, Nat.sub_zero, Nat.zero_le, true_and, and_true, and_self, true_or, or_true, if_true, if_false, true_implies, implies_true, not_true_eq_false, not_false_eq_true, false_implies, forall_const, ne_eq, or_self, and_false, false_and, Lt, Le, Eq', Cp, In, nI_add, nI_mul, nI_sub, nI_sub1, Neg0, bI_eq0, bI_eq1, bI_01, bft, up2_eq, up2_no, Bool.true_eq_false, Bool.false_eq_true, eq_self, m1_ne, m1_ne2, m1_lt, m1_le, lt_m1, m1_le2, bI_t, bI_f, LK_st, FGu hG, LK_g hG h22 hs2, FY22u hY22, hy2, hz, hd0])
      exact fin
    | true =>
      rw [hy, hz, if_neg (by decide)] at fin
      obtain ⟨m, -, hm, ey⟩ := inR_of (by omega) (by omega) hy
      rw [show y.toNatClampNeg = m by rw [ey, Cp _ (by omega)]] at fin
      (apply WP_runI (lv := lvK) (F := LK) LK_ok 999 80; simp (disch := first | decide | omega) only [t86_0, lift_c, o_iload1, o_inl, o_stat2, rpush_n, rpush_s, o_ifeq, o_iload2, o_stat1, o_ifne, o_lreturn, o_aload0, o_getref, o_virt3, o_virt1, z0, z1, z2, z20, z31, z60, runI_0, runI_c, runI_n, liftI_n, liftI_y, run_0, run_c, run_n, fxn, fxi, fxr, fxl, fxl0, ↓swi_n, ↓swi_c, nck0, nck1, nck2, nck3, List.length_cons, List.length_nil, Nat.reduceAdd, Nat.reduceSub, Nat.reduceLeDiff, Nat.reduceEqDiff, Nat.reduceLT, reduceIte, ite_true, ite_false, Nat.sub_zero, Nat.zero_le, true_and, and_true, and_self, true_or, or_true, if_true, if_false, true_implies, implies_true, not_true_eq_false, not_false_eq_true, false_implies, forall_const, ne_eq, or_self, and_false, false_and, Lt, Le, Eq', Cp, In, nI_add, nI_mul, nI_sub, nI_sub1, Neg0, bI_eq0, bI_eq1, bI_01, bft, up2_eq, up2_no, Bool.true_eq_false, Bool.false_eq_true, eq_self, m1_ne, m1_ne2, m1_lt, m1_le, lt_m1, m1_le2, bI_t, bI_f, LK_st, FGu hG, LK_g hG h22 hs2, FY22u hY22, hy2, hz, hd0])
      rw [ey]
      refine behind_T hB (by omega) (by omega) fun I1 L1 P1 hT => ?_
      have fin := fin I1 L1 P1 hT.1
      have hY84 := hT.y
      obtain ⟨a, ha, e⟩ := grn_rng hT.2.2.2
      rw [e, Cp _ (by omega)] at fin
      (apply WP_runI (lv := lvK) (F := LK) LK_ok 999 80; simp (disch := first | decide | omega) only [t86_0, lift_c, o_iload1, o_inl, o_stat2, rpush_n, rpush_s, o_ifeq, o_iload2, o_stat1, o_ifne, o_lreturn, o_aload0, o_getref, o_virt3, o_virt1, z0, z1, z2, z20, z31, z60, runI_0, runI_c, runI_n, liftI_n, liftI_y, run_0, run_c, run_n, fxn, fxi, fxr, fxl, fxl0, ↓swi_n, ↓swi_c, nck0, nck1, nck2, nck3, List.length_cons, List.length_nil, Nat.reduceAdd, Nat.reduceSub, Nat.reduceLeDiff, Nat.reduceEqDiff, Nat.reduceLT, reduceIte, ite_true, ite_false, Nat.sub_zero, Nat.zero_le, true_and, and_true, and_self, true_or, or_true, if_true, if_false, true_implies, implies_true, not_true_eq_false, not_false_eq_true, false_implies, forall_const, ne_eq, or_self, and_false, false_and, Lt, Le, Eq', Cp, In, nI_add, nI_mul, nI_sub, nI_sub1, Neg0, bI_eq0, bI_eq1, bI_01, bft, up2_eq, up2_no, Bool.true_eq_false, Bool.false_eq_true, eq_self, m1_ne, m1_ne2, m1_lt, m1_le, lt_m1, m1_le2, bI_t, bI_f, LK_st, FGu hG, LK_g hG h22 hs2, FY84u hY84, hd0])
      refine allGrain_Y hT.2.2.1 ?_
      rw [e]
      (apply WP_runI (lv := lvK) (F := LK) LK_ok 999 80; simp (disch := first | decide | omega) only [t86_0, lift_c, o_iload1, o_inl, o_stat2, rpush_n, rpush_s, o_ifeq, o_iload2, o_stat1, o_ifne, o_lreturn, o_aload0, o_getref, o_virt3, o_virt1, z0, z1, z2, z20, z31, z60, runI_0, runI_c, runI_n, liftI_n, liftI_y, run_0, run_c, run_n, fxn, fxi, fxr, fxl, fxl0, ↓swi_n, ↓swi_c, nck0, nck1, nck2, nck3, List.length_cons, List.length_nil, Nat.reduceAdd, Nat.reduceSub, Nat.reduceLeDiff, Nat.reduceEqDiff, Nat.reduceLT, reduceIte, ite_true, ite_false, Nat.sub_zero, Nat.zero_le, true_and, and_true, and_self, true_or, or_true, if_true, if_false, true_implies, implies_true, not_true_eq_false, not_false_eq_true, false_implies, forall_const, ne_eq, or_self, and_false, false_and, Lt, Le, Eq', Cp, In, nI_add, nI_mul, nI_sub, nI_sub1, Neg0, bI_eq0, bI_eq1, bI_01, bft, up2_eq, up2_no, Bool.true_eq_false, Bool.false_eq_true, eq_self, m1_ne, m1_ne2, m1_lt, m1_le, lt_m1, m1_le2, bI_t, bI_f, LK_st, FGu hG, LK_g hG h22 hs2, hd0])
      refine eighths_K ha ?_
      generalize frS a z = v at fin ⊢
      (apply WP_runI (lv := lvK) (F := LK) LK_ok 999 80; simp (disch := first | decide | omega) only [t86_0, lift_c, o_iload1, o_inl, o_stat2, rpush_n, rpush_s, o_ifeq, o_iload2, o_stat1, o_ifne, o_lreturn, o_aload0, o_getref, o_virt3, o_virt1, z0, z1, z2, z20, z31, z60, runI_0, runI_c, runI_n, liftI_n, liftI_y, run_0, run_c, run_n, fxn, fxi, fxr, fxl, fxl0, ↓swi_n, ↓swi_c, nck0, nck1, nck2, nck3, List.length_cons, List.length_nil, Nat.reduceAdd, Nat.reduceSub, Nat.reduceLeDiff, Nat.reduceEqDiff, Nat.reduceLT, reduceIte, ite_true, ite_false, Nat.sub_zero, Nat.zero_le, true_and, and_true, and_self, true_or, or_true, if_true, if_false, true_implies, implies_true, not_true_eq_false, not_false_eq_true, false_implies, forall_const, ne_eq, or_self, and_false, false_and, Lt, Le, Eq', Cp, In, nI_add, nI_mul, nI_sub, nI_sub1, Neg0, bI_eq0, bI_eq1, bI_01, bft, up2_eq, up2_no, Bool.true_eq_false, Bool.false_eq_true, eq_self, m1_ne, m1_ne2, m1_lt, m1_le, lt_m1, m1_le2, bI_t, bI_f, LK_st, FGu hG, LK_g hG h22 hs2, hd0])
      exact fin
end
