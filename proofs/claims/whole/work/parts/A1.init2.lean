/-! ### the class's constructors: all of it -/
section
variable {n n' q : Nat} {sh sh' sh2 : TS} {I I' I2 : TI} {L L' L2 : TL} {P P' P2 : TP}
theorem NW.tr (h : NW n q sh I L P sh' I' L' P') (h2 : NW n' q sh' I' L' P' sh2 I2 L2 P2) (hn : n ≤ n') : NW n q sh I L P sh2 I2 L2 P2 :=
  ⟨fun a ha => (h2.1 a (by omega)).trans (h.1 a ha), fun a j ha w => (h2.2.1 a j (by omega) w).trans (h.2.1 a j ha w), fun a j ha w => (h2.2.2.1 a j (by omega) w).trans (h.2.2.1 a j ha w), fun a j ha w => (h2.2.2.2 a j (by omega) w).trans (h.2.2.2 a j ha w)⟩
theorem NW.put {x : Nat × Nat} (h : NW (n + 1) n (upS sh n x) (clr I n 0) (clr L n 0) (clr P n 0) sh' I' L' P') (hq : q < n) (k : Nat) : NW n q sh I L P sh' I' L' (up2 P' q k n) ∧ (∀ j, ¬ j = k → up2 P' q k n q j = P q j) ∧ (∀ j, I' q j = I q j) ∧ sh' q = sh q ∧ ∀ a j, ¬ a = q → up2 P' q k n a j = P' a j := by
  obtain ⟨h1, h2, h3, h4⟩ := h
  refine ⟨⟨fun a ha => (h1 a (by omega)).trans (upS_no _ _ _ _ (by omega)), fun a j ha w => (h2 a j (by omega) (by omega)).trans (clr_no _ _ _ _ _ (by omega)), fun a j ha w => (h3 a j (by omega) (by omega)).trans (clr_no _ _ _ _ _ (by omega)), fun a j ha w => ?_⟩, fun j hj => ?_, fun j => (h2 q j (by omega) (by omega)).trans (clr_no _ _ _ _ _ (by omega)), (h1 q (by omega)).trans (upS_no _ _ _ _ (by omega)), fun a j w => up2_no _ _ _ _ _ _ (by omega)⟩
  · rw [up2_no _ _ _ _ _ _ (by omega)]
    exact (h4 a j (by omega) (by omega)).trans (clr_no _ _ _ _ _ (by omega))
  · rw [up2_no _ _ _ _ _ _ (by omega)]
    exact (h4 q j (by omega) (by omega)).trans (clr_no _ _ _ _ _ (by omega))
theorem FY.nw {b : Nat} (h : FY sh P b) (hN : NW n q sh I L P sh' I' L' P') (hb : b + 17 < n) (hq : ¬ (b ≤ q ∧ q ≤ b + 17)) : FY sh' P' b := h.fr (fun a h1 h2 => hN.1 a (by omega)) (fun a j h1 h2 h3 => hN.2.2.2 a j (by omega) (by omega))
theorem FR.nw {a z : Nat} (h : FR sh P a z) (hN : NW n q sh I L P sh' I' L' P') (hb : a + 3 < n) (hq : ¬ a = q) : FR sh' P' a z := h.fr (fun c h1 h2 => hN.1 c (by omega)) (fun j h3 => hN.2.2.2 a j (by omega) hq)
theorem YV.nw {b : Nat} (h : YV I b) (hN : NW n q sh I L P sh' I' L' P') (hb : b + 1 < n) (hq : ¬ (b ≤ q ∧ q ≤ b + 1)) : YV I' b :=
  ⟨(hN.2.1 _ _ (by omega) (by omega)).trans h.1, (hN.2.1 _ _ (by omega) (by omega)).trans h.2.1, (hN.2.1 _ _ (by omega) (by omega)).trans h.2.2.1, fun c hc => (hN.2.1 _ _ (by omega) (by omega)).trans (h.2.2.2 c hc)⟩
/-- the state but for the references of a cell -/
theorem FY.up {b q k x : Nat} (h : FY sh P b) (hq : ¬ (b ≤ q ∧ q ≤ b + 17)) : FY sh (up2 P q k x) b := h.fr (fun _ _ _ => rfl) (fun a j h1 h2 _ => up2_no _ _ _ _ _ _ (by omega))
theorem FR.up {a q k x z : Nat} (h : FR sh P a z) (hq : ¬ a = q) : FR sh (up2 P q k x) a z := h.fr (fun _ _ _ => rfl) (fun j _ => up2_no _ _ _ _ _ _ (by omega))
end
section
variable {G : GE} {d n : Nat} {sh : TS} {I : TI} {L : TL} {P : TP} {Q : TQ} {q : Nat}
/-- a new Whole's cells -/
def WH (sh : TS) (I : TI) (P : TP) (q : Nat) : Prop := P q 0 = q + 1 ∧ P q 1 = q + 19 ∧ P q 2 = q + 23 ∧ P q 3 = q + 27 ∧ FY sh P (q + 1) ∧ P (q + 1) 7 = 0 ∧ YV I (q + 1) ∧ FR sh P (q + 19) 5 ∧ FR sh P (q + 23) 10 ∧ FR sh P (q + 27) 8 ∧ I (q + 19) 3 = nI 0 ∧ I (q + 23) 3 = nI 0 ∧ I (q + 27) 3 = nI 0
theorem wholeI_K (hs : sh q = (7, 4)) (hq : 20 ≤ q) (hd : 4 ≤ d) (hQ : ∀ sh' I' L' P', NW (q + 1) q sh I L P sh' I' L' P' → WH sh' I' P' q → Q none (q + 31) sh' I' L' P') : Cl G d 49 [.ref q] (q + 1) sh I L P Q := by
  apply e49
  have hd0 : 0 < d := by omega
  have n2 : nle 2 q := by show 2 ≤ q; omega
  have k1 : nle 2 (q + 1) := by show 2 ≤ q + 1; omega
  have k2 : nle 2 (q + 19) := by show 2 ≤ q + 19; omega
  have k3 : nle 2 (q + 23) := by show 2 ≤ q + 23; omega
  have k4 : nle 2 (q + 27) := by show 2 ≤ q + 27; omega
  have m1 : ¬ neq (q + 1) 1 := by show ¬ q + 1 = 1; omega
  have m2 : ¬ neq (q + 19) 1 := by show ¬ q + 19 = 1; omega
  have m3 : ¬ neq (q + 23) 1 := by show ¬ q + 23 = 1; omega
  have m4 : ¬ neq (q + 27) 1 := by show ¬ q + 27 = 1; omega
  (apply WP_runI (lv := lvK) (F := LK) LK_ok 999 12; simp (disch := first | decide | omega) only [t49_0, lift_c, o_aload0, o_dsub, o_new, o_dupi, o_dupr, o_spec1, rpush_n, rpush_s, o_putref, o_inl, o_spec2, o_return, z0, z1, z2, z5, z8, z10, z20, z31, runI_0, runI_c, runI_n, liftI_n, liftI_y, run_0, run_c, run_n, fxn, fxi, fxr, fxl, fxl0, ↓swi_n, ↓swi_c, nck0, nck1, nck2, nck3, List.length_cons, List.length_nil, Nat.reduceAdd, Nat.reduceSub, Nat.reduceLeDiff, Nat.reduceEqDiff, Nat.reduceLT, reduceIte, ite_true, ite_false, Nat.sub_zero, Nat.zero_le, true_and, and_true, and_self, true_or, or_true, if_true, if_false, true_implies, implies_true, not_true_eq_false, not_false_eq_true, false_implies, forall_const, ne_eq, or_self, and_false, false_and, Lt, Le, Eq', Cp, In, nI_add, nI_mul, nI_sub, nI_sub1, Neg0, bI_eq0, bI_eq1, bI_01, bft, up2_eq, up2_no, Bool.true_eq_false, Bool.false_eq_true, eq_self, m1_ne, m1_ne2, m1_lt, m1_le, lt_m1, m1_le2, bI_t, bI_f, LK_st, n2, k1, hd0, Nat.add_assoc])
  refine yardI_K (q := q + 1) (upS_eq _ _ _) (by omega) (by omega) fun sh1 I1 L1 P1 N1 y1 y2 y3 => ?_
  obtain ⟨M1, r1, i1, s1, w1⟩ := N1.put (q := q) (by omega) 0
  have sq1 := s1.trans hs
  have p1 : (up2 P1 q 0 (q + 1)) q 0 = q + 1 := up2_eq _ _ _ _
  have f1 : FY sh1 (up2 P1 q 0 (q + 1)) (q + 1) := y1.up (by omega)
  have g1 : (up2 P1 q 0 (q + 1)) (q + 1) 7 = 0 := (w1 _ _ (by omega)).trans y2
  (apply WP_runI (lv := lvK) (F := LK) LK_ok 15 5; simp (disch := first | decide | omega) only [t49_0, lift_c, o_aload0, o_dsub, o_new, o_dupi, o_dupr, o_spec1, rpush_n, rpush_s, o_putref, o_inl, o_spec2, o_return, z0, z1, z2, z5, z8, z10, z20, z31, runI_0, runI_c, runI_n, liftI_n, liftI_y, run_0, run_c, run_n, fxn, fxi, fxr, fxl, fxl0, ↓swi_n, ↓swi_c, nck0, nck1, nck2, nck3, List.length_cons, List.length_nil, Nat.reduceAdd, Nat.reduceSub, Nat.reduceLeDiff, Nat.reduceEqDiff, Nat.reduceLT, reduceIte, ite_true, ite_false, Nat.sub_zero, Nat.zero_le, true_and, and_true, and_self, true_or, or_true, if_true, if_false, true_implies, implies_true, not_true_eq_false, not_false_eq_true, false_implies, forall_const, ne_eq, or_self, and_false, false_and, Lt, Le, Eq', Cp, In, nI_add, nI_mul, nI_sub, nI_sub1, Neg0, bI_eq0, bI_eq1, bI_01, bft, up2_eq, up2_no, Bool.true_eq_false, Bool.false_eq_true, eq_self, m1_ne, m1_ne2, m1_lt, m1_le, lt_m1, m1_le2, bI_t, bI_f, LK_st, sq1, m1, hd0, Nat.add_assoc])
  generalize up2 P1 q 0 (q + 1) = Q1 at M1 r1 p1 f1 g1 ⊢
  (apply WP_runI (lv := lvK) (F := LK) LK_ok 999 12; simp (disch := first | decide | omega) only [t49_0, lift_c, o_aload0, o_dsub, o_new, o_dupi, o_dupr, o_spec1, rpush_n, rpush_s, o_putref, o_inl, o_spec2, o_return, z0, z1, z2, z5, z8, z10, z20, z31, runI_0, runI_c, runI_n, liftI_n, liftI_y, run_0, run_c, run_n, fxn, fxi, fxr, fxl, fxl0, ↓swi_n, ↓swi_c, nck0, nck1, nck2, nck3, List.length_cons, List.length_nil, Nat.reduceAdd, Nat.reduceSub, Nat.reduceLeDiff, Nat.reduceEqDiff, Nat.reduceLT, reduceIte, ite_true, ite_false, Nat.sub_zero, Nat.zero_le, true_and, and_true, and_self, true_or, or_true, if_true, if_false, true_implies, implies_true, not_true_eq_false, not_false_eq_true, false_implies, forall_const, ne_eq, or_self, and_false, false_and, Lt, Le, Eq', Cp, In, nI_add, nI_mul, nI_sub, nI_sub1, Neg0, bI_eq0, bI_eq1, bI_01, bft, up2_eq, up2_no, Bool.true_eq_false, Bool.false_eq_true, eq_self, m1_ne, m1_ne2, m1_lt, m1_le, lt_m1, m1_le2, bI_t, bI_f, LK_st, k2, hd0, Nat.add_assoc])
  refine rowsI_K (q := q + 19) (z := 5) (upS_eq _ _ _) (by omega) (by omega) (by omega) fun sh2 I2 L2 P2 N2 a2 b2 => ?_
  obtain ⟨M2, r2, i2, s2, w2⟩ := N2.put (q := q) (by omega) 1
  have sq2 := s2.trans sq1
  have p2 : (up2 P2 q 1 (q + 19)) q 1 = q + 19 := up2_eq _ _ _ _
  have f2 : FR sh2 (up2 P2 q 1 (q + 19)) (q + 19) 5 := a2.up (by omega)
  (apply WP_runI (lv := lvK) (F := LK) LK_ok 27 5; simp (disch := first | decide | omega) only [t49_0, lift_c, o_aload0, o_dsub, o_new, o_dupi, o_dupr, o_spec1, rpush_n, rpush_s, o_putref, o_inl, o_spec2, o_return, z0, z1, z2, z5, z8, z10, z20, z31, runI_0, runI_c, runI_n, liftI_n, liftI_y, run_0, run_c, run_n, fxn, fxi, fxr, fxl, fxl0, ↓swi_n, ↓swi_c, nck0, nck1, nck2, nck3, List.length_cons, List.length_nil, Nat.reduceAdd, Nat.reduceSub, Nat.reduceLeDiff, Nat.reduceEqDiff, Nat.reduceLT, reduceIte, ite_true, ite_false, Nat.sub_zero, Nat.zero_le, true_and, and_true, and_self, true_or, or_true, if_true, if_false, true_implies, implies_true, not_true_eq_false, not_false_eq_true, false_implies, forall_const, ne_eq, or_self, and_false, false_and, Lt, Le, Eq', Cp, In, nI_add, nI_mul, nI_sub, nI_sub1, Neg0, bI_eq0, bI_eq1, bI_01, bft, up2_eq, up2_no, Bool.true_eq_false, Bool.false_eq_true, eq_self, m1_ne, m1_ne2, m1_lt, m1_le, lt_m1, m1_le2, bI_t, bI_f, LK_st, sq2, m2, hd0, Nat.add_assoc])
  generalize up2 P2 q 1 (q + 19) = Q2 at M2 r2 p2 f2 ⊢
  (apply WP_runI (lv := lvK) (F := LK) LK_ok 999 12; simp (disch := first | decide | omega) only [t49_0, lift_c, o_aload0, o_dsub, o_new, o_dupi, o_dupr, o_spec1, rpush_n, rpush_s, o_putref, o_inl, o_spec2, o_return, z0, z1, z2, z5, z8, z10, z20, z31, runI_0, runI_c, runI_n, liftI_n, liftI_y, run_0, run_c, run_n, fxn, fxi, fxr, fxl, fxl0, ↓swi_n, ↓swi_c, nck0, nck1, nck2, nck3, List.length_cons, List.length_nil, Nat.reduceAdd, Nat.reduceSub, Nat.reduceLeDiff, Nat.reduceEqDiff, Nat.reduceLT, reduceIte, ite_true, ite_false, Nat.sub_zero, Nat.zero_le, true_and, and_true, and_self, true_or, or_true, if_true, if_false, true_implies, implies_true, not_true_eq_false, not_false_eq_true, false_implies, forall_const, ne_eq, or_self, and_false, false_and, Lt, Le, Eq', Cp, In, nI_add, nI_mul, nI_sub, nI_sub1, Neg0, bI_eq0, bI_eq1, bI_01, bft, up2_eq, up2_no, Bool.true_eq_false, Bool.false_eq_true, eq_self, m1_ne, m1_ne2, m1_lt, m1_le, lt_m1, m1_le2, bI_t, bI_f, LK_st, k3, hd0, Nat.add_assoc])
  refine rowsI_K (q := q + 23) (z := 10) (upS_eq _ _ _) (by omega) (by omega) (by omega) fun sh3 I3 L3 P3 N3 a3 b3 => ?_
  obtain ⟨M3, r3, i3, s3, w3⟩ := N3.put (q := q) (by omega) 2
  have sq3 := s3.trans sq2
  have p3 : (up2 P3 q 2 (q + 23)) q 2 = q + 23 := up2_eq _ _ _ _
  have f3 : FR sh3 (up2 P3 q 2 (q + 23)) (q + 23) 10 := a3.up (by omega)
  (apply WP_runI (lv := lvK) (F := LK) LK_ok 40 5; simp (disch := first | decide | omega) only [t49_0, lift_c, o_aload0, o_dsub, o_new, o_dupi, o_dupr, o_spec1, rpush_n, rpush_s, o_putref, o_inl, o_spec2, o_return, z0, z1, z2, z5, z8, z10, z20, z31, runI_0, runI_c, runI_n, liftI_n, liftI_y, run_0, run_c, run_n, fxn, fxi, fxr, fxl, fxl0, ↓swi_n, ↓swi_c, nck0, nck1, nck2, nck3, List.length_cons, List.length_nil, Nat.reduceAdd, Nat.reduceSub, Nat.reduceLeDiff, Nat.reduceEqDiff, Nat.reduceLT, reduceIte, ite_true, ite_false, Nat.sub_zero, Nat.zero_le, true_and, and_true, and_self, true_or, or_true, if_true, if_false, true_implies, implies_true, not_true_eq_false, not_false_eq_true, false_implies, forall_const, ne_eq, or_self, and_false, false_and, Lt, Le, Eq', Cp, In, nI_add, nI_mul, nI_sub, nI_sub1, Neg0, bI_eq0, bI_eq1, bI_01, bft, up2_eq, up2_no, Bool.true_eq_false, Bool.false_eq_true, eq_self, m1_ne, m1_ne2, m1_lt, m1_le, lt_m1, m1_le2, bI_t, bI_f, LK_st, sq3, m3, hd0, Nat.add_assoc])
  generalize up2 P3 q 2 (q + 23) = Q3 at M3 r3 p3 f3 ⊢
  (apply WP_runI (lv := lvK) (F := LK) LK_ok 999 12; simp (disch := first | decide | omega) only [t49_0, lift_c, o_aload0, o_dsub, o_new, o_dupi, o_dupr, o_spec1, rpush_n, rpush_s, o_putref, o_inl, o_spec2, o_return, z0, z1, z2, z5, z8, z10, z20, z31, runI_0, runI_c, runI_n, liftI_n, liftI_y, run_0, run_c, run_n, fxn, fxi, fxr, fxl, fxl0, ↓swi_n, ↓swi_c, nck0, nck1, nck2, nck3, List.length_cons, List.length_nil, Nat.reduceAdd, Nat.reduceSub, Nat.reduceLeDiff, Nat.reduceEqDiff, Nat.reduceLT, reduceIte, ite_true, ite_false, Nat.sub_zero, Nat.zero_le, true_and, and_true, and_self, true_or, or_true, if_true, if_false, true_implies, implies_true, not_true_eq_false, not_false_eq_true, false_implies, forall_const, ne_eq, or_self, and_false, false_and, Lt, Le, Eq', Cp, In, nI_add, nI_mul, nI_sub, nI_sub1, Neg0, bI_eq0, bI_eq1, bI_01, bft, up2_eq, up2_no, Bool.true_eq_false, Bool.false_eq_true, eq_self, m1_ne, m1_ne2, m1_lt, m1_le, lt_m1, m1_le2, bI_t, bI_f, LK_st, k4, hd0, Nat.add_assoc])
  refine rowsI_K (q := q + 27) (z := 8) (upS_eq _ _ _) (by omega) (by omega) (by omega) fun sh4 I4 L4 P4 N4 a4 b4 => ?_
  obtain ⟨M4, r4, i4, s4, w4⟩ := N4.put (q := q) (by omega) 3
  have sq4 := s4.trans sq3
  have p4 : (up2 P4 q 3 (q + 27)) q 3 = q + 27 := up2_eq _ _ _ _
  have f4 : FR sh4 (up2 P4 q 3 (q + 27)) (q + 27) 8 := a4.up (by omega)
  have hQ := hQ sh4 I4 L4 (up2 P4 q 3 (q + 27))
  have K34 := M3.tr M4 (by omega)
  have K24 := M2.tr K34 (by omega)
  have K14 := M1.tr K24 (by omega)
  have hQ := hQ K14 ⟨(r4 0 (by omega)).trans ((r3 0 (by omega)).trans ((r2 0 (by omega)).trans p1)), (r4 1 (by omega)).trans ((r3 1 (by omega)).trans p2), (r4 2 (by omega)).trans p3, p4, f1.nw K24 (by omega) (by omega), (K24.2.2.2 _ _ (by omega) (by omega)).trans g1, y3.nw K24 (by omega) (by omega), f2.nw K34 (by omega) (by omega), f3.nw M4 (by omega) (by omega), f4, (K34.2.1 _ _ (by omega) (by omega)).trans b2, (M4.2.1 _ _ (by omega) (by omega)).trans b3, b4⟩
  (apply WP_runI (lv := lvK) (F := LK) LK_ok 999 6; simp (disch := first | decide | omega) only [t49_0, lift_c, o_aload0, o_dsub, o_new, o_dupi, o_dupr, o_spec1, rpush_n, rpush_s, o_putref, o_inl, o_spec2, o_return, z0, z1, z2, z5, z8, z10, z20, z31, runI_0, runI_c, runI_n, liftI_n, liftI_y, run_0, run_c, run_n, fxn, fxi, fxr, fxl, fxl0, ↓swi_n, ↓swi_c, nck0, nck1, nck2, nck3, List.length_cons, List.length_nil, Nat.reduceAdd, Nat.reduceSub, Nat.reduceLeDiff, Nat.reduceEqDiff, Nat.reduceLT, reduceIte, ite_true, ite_false, Nat.sub_zero, Nat.zero_le, true_and, and_true, and_self, true_or, or_true, if_true, if_false, true_implies, implies_true, not_true_eq_false, not_false_eq_true, false_implies, forall_const, ne_eq, or_self, and_false, false_and, Lt, Le, Eq', Cp, In, nI_add, nI_mul, nI_sub, nI_sub1, Neg0, bI_eq0, bI_eq1, bI_01, bft, up2_eq, up2_no, Bool.true_eq_false, Bool.false_eq_true, eq_self, m1_ne, m1_ne2, m1_lt, m1_le, lt_m1, m1_le2, bI_t, bI_f, LK_st, sq3, sq4, m4, hd0, Nat.add_assoc])
  exact hQ
theorem aheadI_K (hs : sh q = (1, 1)) (hq : 20 ≤ q) (hd : 4 ≤ d) (hQ : ∀ sh' I' L' P', NW (q + 1) q sh I L P sh' I' L' P' → P' q 0 = q + 1 → FY sh' P' (q + 1) → Q none (q + 19) sh' I' L' P') : Cl G d 7 [.ref q] (q + 1) sh I L P Q := by
  apply e7
  have hd0 : 0 < d := by omega
  have n2 : nle 2 q := by show 2 ≤ q; omega
  have k1 : nle 2 (q + 1) := by show 2 ≤ q + 1; omega
  have m1 : ¬ neq (q + 1) 1 := by show ¬ q + 1 = 1; omega
  (apply WP_runI (lv := lvK) (F := LK) LK_ok 999 12; simp (disch := first | decide | omega) only [t7_0, lift_c, o_aload0, o_dsub, o_new, o_dupi, o_dupr, o_spec1, rpush_n, rpush_s, o_putref, o_return, z0, z1, z2, z20, z31, runI_0, runI_c, runI_n, liftI_n, liftI_y, run_0, run_c, run_n, fxn, fxi, fxr, fxl, fxl0, ↓swi_n, ↓swi_c, nck0, nck1, nck2, nck3, List.length_cons, List.length_nil, Nat.reduceAdd, Nat.reduceSub, Nat.reduceLeDiff, Nat.reduceEqDiff, Nat.reduceLT, reduceIte, ite_true, ite_false, Nat.sub_zero, Nat.zero_le, true_and, and_true, and_self, true_or, or_true, if_true, if_false, true_implies, implies_true, not_true_eq_false, not_false_eq_true, false_implies, forall_const, ne_eq, or_self, and_false, false_and, Lt, Le, Eq', Cp, In, nI_add, nI_mul, nI_sub, nI_sub1, Neg0, bI_eq0, bI_eq1, bI_01, bft, up2_eq, up2_no, Bool.true_eq_false, Bool.false_eq_true, eq_self, m1_ne, m1_ne2, m1_lt, m1_le, lt_m1, m1_le2, bI_t, bI_f, LK_st, n2, k1, hd0, Nat.add_assoc])
  refine yardI_K (q := q + 1) (upS_eq _ _ _) (by omega) (by omega) fun sh1 I1 L1 P1 N1 y1 y2 y3 => ?_
  obtain ⟨M1, r1, i1, s1, w1⟩ := N1.put (q := q) (by omega) 0
  have sq1 := s1.trans hs
  have hQ := hQ sh1 I1 L1 (up2 P1 q 0 (q + 1)) M1 (up2_eq _ _ _ _) (y1.up (by omega))
  (apply WP_runI (lv := lvK) (F := LK) LK_ok 999 6; simp (disch := first | decide | omega) only [t7_0, lift_c, o_aload0, o_dsub, o_new, o_dupi, o_dupr, o_spec1, rpush_n, rpush_s, o_putref, o_return, z0, z1, z2, z20, z31, runI_0, runI_c, runI_n, liftI_n, liftI_y, run_0, run_c, run_n, fxn, fxi, fxr, fxl, fxl0, ↓swi_n, ↓swi_c, nck0, nck1, nck2, nck3, List.length_cons, List.length_nil, Nat.reduceAdd, Nat.reduceSub, Nat.reduceLeDiff, Nat.reduceEqDiff, Nat.reduceLT, reduceIte, ite_true, ite_false, Nat.sub_zero, Nat.zero_le, true_and, and_true, and_self, true_or, or_true, if_true, if_false, true_implies, implies_true, not_true_eq_false, not_false_eq_true, false_implies, forall_const, ne_eq, or_self, and_false, false_and, Lt, Le, Eq', Cp, In, nI_add, nI_mul, nI_sub, nI_sub1, Neg0, bI_eq0, bI_eq1, bI_01, bft, up2_eq, up2_no, Bool.true_eq_false, Bool.false_eq_true, eq_self, m1_ne, m1_ne2, m1_lt, m1_le, lt_m1, m1_le2, bI_t, bI_f, LK_st, sq1, m1, hd0, Nat.add_assoc])
  exact hQ
theorem tapeI_K (hs : sh q = (6, 3)) (hq : 20 ≤ q) (hn : q < n) (hd : 1 ≤ d) (hQ : ∀ sh' I' L' P', NW n q sh I L P sh' I' L' P' → I' q 0 = -nI 1 → I' q 1 = nI 0 → P' q 2 = n → sh' n = (101, 60) → (∀ j, L' n j = 0) → Q none (n + 1) sh' I' L' P') : Cl G d 44 [.ref q] n sh I L P Q := by
  apply e44
  have hd0 : 0 < d := by omega
  have n2 : nle 2 q := by show 2 ≤ q; omega
  have m0 : ¬ neq n 1 := by show ¬ n = 1; omega
  (apply WP_runI (lv := lvK) (F := LK) LK_ok 999 30; simp (disch := first | decide | omega) only [t44_0, lift_c, o_aload0, o_dsub, o_inl, o_putfield, o_anewarray, o_putref, o_return, z0, z1, z2, z20, z31, z60, runI_0, runI_c, runI_n, liftI_n, liftI_y, run_0, run_c, run_n, fxn, fxi, fxr, fxl, fxl0, ↓swi_n, ↓swi_c, nck0, nck1, nck2, nck3, List.length_cons, List.length_nil, Nat.reduceAdd, Nat.reduceSub, Nat.reduceLeDiff, Nat.reduceEqDiff, Nat.reduceLT, reduceIte, ite_true, ite_false, Nat.sub_zero, Nat.zero_le, true_and, and_true, and_self, true_or, or_true, if_true, if_false, true_implies, implies_true, not_true_eq_false, not_false_eq_true, false_implies, forall_const, ne_eq, or_self, and_false, false_and, Lt, Le, Eq', Cp, In, nI_add, nI_mul, nI_sub, nI_sub1, Neg0, bI_eq0, bI_eq1, bI_01, bft, up2_eq, up2_no, Bool.true_eq_false, Bool.false_eq_true, eq_self, m1_ne, m1_ne2, m1_lt, m1_le, lt_m1, m1_le2, bI_t, bI_f, LK_st, hs, n2, m0, hd0, upS_no, Nat.not_lt_zero])
  refine hQ _ _ _ _ ⟨fun a ha => upS_no _ _ _ _ (by omega), fun a j ha h => ?_, fun a j ha h => ?_, fun a j ha h => ?_⟩ ?_ ?_ ?_ ?_ (fun j => ?_)
  · simp (disch := omega) only [up2_no, clr_no]
  · simp (disch := omega) only [clr_no]
  · simp (disch := omega) only [up2_no, clr_no]
  · simp (disch := omega) only [up2_no, up2_eq, clr_no]
  · simp (disch := omega) only [up2_no, up2_eq, clr_no]
  · simp (disch := omega) only [up2_eq]
  · simp (disch := omega) only [upS_eq]
  · simp (disch := omega) only [clr_eq]
theorem actsI_K (hs : sh q = (0, 5)) (hq : 20 ≤ q) (hd : 1 ≤ d) (hQ : ∀ sh' I' L' P', NW (q + 1) q sh I L P sh' I' L' P' → I' q 1 = nI 0 → P' q 0 = q + 1 → sh' (q + 1) = (100, 20) → Q none (q + 2) sh' I' L' P') : Cl G d 0 [.ref q] (q + 1) sh I L P Q := by
  apply e0
  have hd0 : 0 < d := by omega
  have n2 : nle 2 q := by show 2 ≤ q; omega
  have m0 : ¬ neq (q + 1) 1 := by show ¬ q + 1 = 1; omega
  (apply WP_runI (lv := lvK) (F := LK) LK_ok 999 30; simp (disch := first | decide | omega) only [t0_0, lift_c, o_aload0, o_dsub, o_inl, o_anewarray, o_putref, o_putfield, o_return, z0, z1, z2, z20, z31, runI_0, runI_c, runI_n, liftI_n, liftI_y, run_0, run_c, run_n, fxn, fxi, fxr, fxl, fxl0, ↓swi_n, ↓swi_c, nck0, nck1, nck2, nck3, List.length_cons, List.length_nil, Nat.reduceAdd, Nat.reduceSub, Nat.reduceLeDiff, Nat.reduceEqDiff, Nat.reduceLT, reduceIte, ite_true, ite_false, Nat.sub_zero, Nat.zero_le, true_and, and_true, and_self, true_or, or_true, if_true, if_false, true_implies, implies_true, not_true_eq_false, not_false_eq_true, false_implies, forall_const, ne_eq, or_self, and_false, false_and, Lt, Le, Eq', Cp, In, nI_add, nI_mul, nI_sub, nI_sub1, Neg0, bI_eq0, bI_eq1, bI_01, bft, up2_eq, up2_no, Bool.true_eq_false, Bool.false_eq_true, eq_self, m1_ne, m1_ne2, m1_lt, m1_le, lt_m1, m1_le2, bI_t, bI_f, LK_st, hs, n2, m0, hd0, upS_no, Nat.not_lt_zero, Nat.add_assoc])
  refine hQ _ _ _ _ ⟨fun a ha => upS_no _ _ _ _ (by omega), fun a j ha h => ?_, fun a j ha h => ?_, fun a j ha h => ?_⟩ ?_ ?_ ?_
  · simp (disch := omega) only [up2_no, clr_no]
  · simp (disch := omega) only [clr_no]
  · simp (disch := omega) only [up2_no, clr_no]
  · simp (disch := omega) only [up2_no, up2_eq, clr_no]
  · simp (disch := omega) only [up2_eq]
  · simp (disch := omega) only [upS_eq]
/-- a new reader's cells -/
def RE (sh : TS) (I : TI) (P : TP) (q : Nat) : Prop := P q 0 = q + 1 ∧ sh (q + 1) = (100, 100) ∧ I q 1 = nI 0 ∧ P q 4 = q + 2 ∧ sh (q + 2) = (2, 5) ∧ P (q + 2) 1 = q + 3 ∧ P (q + 2) 2 = q + 4 ∧ P (q + 2) 3 = q + 5 ∧ sh (q + 3) = (100, 100) ∧ sh (q + 4) = (100, 100) ∧ sh (q + 5) = (100, 100)
theorem readerI_K (hs : sh q = (4, 5)) (hq : 20 ≤ q) (hd : 3 ≤ d) (hQ : ∀ sh' I' L' P', NW (q + 1) q sh I L P sh' I' L' P' → RE sh' I' P' q → Q none (q + 6) sh' I' L' P') : Cl G d 29 [.ref q] (q + 1) sh I L P Q := by
  apply e29
  have hd0 : 0 < d := by omega
  have n2 : nle 2 q := by show 2 ≤ q; omega
  have k2 : nle 2 (q + 2) := by show 2 ≤ q + 2; omega
  have m1 : ¬ neq (q + 1) 1 := by show ¬ q + 1 = 1; omega
  have m2 : ¬ neq (q + 2) 1 := by show ¬ q + 2 = 1; omega
  (apply WP_runI (lv := lvK) (F := LK) LK_ok 27 30; simp (disch := first | decide | omega) only [t29_0, lift_c, o_aload0, o_dsub, o_inl, o_anewarray, o_putref, o_putfield, o_new, o_dupi, o_dupr, o_spec1, rpush_n, rpush_s, o_return, z0, z1, z2, z20, z31, z100, runI_0, runI_c, runI_n, liftI_n, liftI_y, run_0, run_c, run_n, fxn, fxi, fxr, fxl, fxl0, ↓swi_n, ↓swi_c, nck0, nck1, nck2, nck3, List.length_cons, List.length_nil, Nat.reduceAdd, Nat.reduceSub, Nat.reduceLeDiff, Nat.reduceEqDiff, Nat.reduceLT, reduceIte, ite_true, ite_false, Nat.sub_zero, Nat.zero_le, true_and, and_true, and_self, true_or, or_true, if_true, if_false, true_implies, implies_true, not_true_eq_false, not_false_eq_true, false_implies, forall_const, ne_eq, or_self, and_false, false_and, Lt, Le, Eq', Cp, In, nI_add, nI_mul, nI_sub, nI_sub1, Neg0, bI_eq0, bI_eq1, bI_01, bft, up2_eq, up2_no, Bool.true_eq_false, Bool.false_eq_true, eq_self, m1_ne, m1_ne2, m1_lt, m1_le, lt_m1, m1_le2, bI_t, bI_f, LK_st, hs, n2, m1, hd0, upS_no, Nat.not_lt_zero, Nat.add_assoc])
  have a1 : ∀ a, a < q + 1 → (upS sh (q + 1) (100, 100)) a = sh a := fun a ha => upS_no _ _ _ _ (by omega)
  have a2 : ∀ a j, a < q + 1 → ¬ a = q → (up2 (up2 (up2 (clr I (q + 1) (nI 0)) q 1 (nI 0)) q 2 (nI 0)) q 3 (nI 0)) a j = I a j := fun a j ha w => by simp (disch := omega) only [up2_no, clr_no]
  have a3 : ∀ a j, a < q + 1 → (clr L (q + 1) 0) a j = L a j := fun a j ha => clr_no _ _ _ _ _ (by omega)
  have a4 : ∀ a j, a < q + 1 → ¬ a = q → (up2 (clr P (q + 1) 0) q 0 (q + 1)) a j = P a j := fun a j ha w => by simp (disch := omega) only [up2_no, clr_no]
  have b1 : (upS sh (q + 1) (100, 100)) (q + 1) = (100, 100) := upS_eq _ _ _
  have b2 : (up2 (up2 (up2 (clr I (q + 1) (nI 0)) q 1 (nI 0)) q 2 (nI 0)) q 3 (nI 0)) q 1 = nI 0 := by simp (disch := omega) only [up2_no, up2_eq]
  have b3 : (up2 (clr P (q + 1) 0) q 0 (q + 1)) q 0 = q + 1 := up2_eq _ _ _ _
  have sq : (upS sh (q + 1) (100, 100)) q = (4, 5) := (a1 q (by omega)).trans hs
  generalize upS sh (q + 1) (100, 100) = sh1 at a1 b1 sq ⊢
  generalize up2 (up2 (up2 (clr I (q + 1) (nI 0)) q 1 (nI 0)) q 2 (nI 0)) q 3 (nI 0) = I1 at a2 b2 ⊢
  generalize clr L (q + 1) 0 = L1 at a3 ⊢
  generalize up2 (clr P (q + 1) 0) q 0 (q + 1) = P1 at a4 b3 ⊢
  (apply WP_runI (lv := lvK) (F := LK) LK_ok 999 8; simp (disch := first | decide | omega) only [t29_0, lift_c, o_aload0, o_dsub, o_inl, o_anewarray, o_putref, o_putfield, o_new, o_dupi, o_dupr, o_spec1, rpush_n, rpush_s, o_return, z0, z1, z2, z20, z31, z100, runI_0, runI_c, runI_n, liftI_n, liftI_y, run_0, run_c, run_n, fxn, fxi, fxr, fxl, fxl0, ↓swi_n, ↓swi_c, nck0, nck1, nck2, nck3, List.length_cons, List.length_nil, Nat.reduceAdd, Nat.reduceSub, Nat.reduceLeDiff, Nat.reduceEqDiff, Nat.reduceLT, reduceIte, ite_true, ite_false, Nat.sub_zero, Nat.zero_le, true_and, and_true, and_self, true_or, or_true, if_true, if_false, true_implies, implies_true, not_true_eq_false, not_false_eq_true, false_implies, forall_const, ne_eq, or_self, and_false, false_and, Lt, Le, Eq', Cp, In, nI_add, nI_mul, nI_sub, nI_sub1, Neg0, bI_eq0, bI_eq1, bI_01, bft, up2_eq, up2_no, Bool.true_eq_false, Bool.false_eq_true, eq_self, m1_ne, m1_ne2, m1_lt, m1_le, lt_m1, m1_le2, bI_t, bI_f, LK_st, k2, hd0, Nat.add_assoc])
  refine initF_K (q := q + 2) (n := q + 3) (upS_eq _ _ _) (by omega) (by omega) (by omega) fun sh2 I2 L2 P2 c1 c2 c3 c4 c5 c6 c7 c8 c9 c10 => ?_
  have e1 : ∀ a, a < q + 2 → sh2 a = sh1 a := fun a ha => (c1 a (by omega)).trans (upS_no _ _ _ _ (by omega))
  have e2 : ∀ a j, a < q + 2 → I2 a j = I1 a j := fun a j ha => by
    have e := c2 a j (by omega) (by omega)
    rw [clr_no _ _ _ _ _ (by omega)] at e
    exact e
  have e3 : ∀ a j, a < q + 2 → L2 a j = L1 a j := fun a j ha => (c3 a j (by omega)).trans (clr_no _ _ _ _ _ (by omega))
  have e4 : ∀ a j, a < q + 2 → P2 a j = P1 a j := fun a j ha => (c4 a j (by omega) (by omega)).trans (clr_no _ _ _ _ _ (by omega))
  have u : ∀ a j, ¬ (a = q ∧ j = 4) → (up2 P2 q 4 (q + 2)) a j = P2 a j := fun a j w => up2_no _ _ _ _ _ _ w
  have sq2 := (e1 q (by omega)).trans sq
  have hQ := hQ sh2 I2 L2 (up2 P2 q 4 (q + 2)) ⟨fun a ha => (e1 a (by omega)).trans (a1 a ha), fun a j ha w => (e2 a j (by omega)).trans (a2 a j ha w), fun a j ha w => (e3 a j (by omega)).trans (a3 a j ha), fun a j ha w => ((u a j (by omega)).trans (e4 a j (by omega))).trans (a4 a j ha w)⟩
    ⟨((u _ _ (by omega)).trans (e4 _ _ (by omega))).trans b3, (e1 _ (by omega)).trans b1, (e2 _ _ (by omega)).trans b2, up2_eq _ _ _ _, (c1 _ (by omega)).trans (upS_eq _ _ _), (u _ _ (by omega)).trans c5, (u _ _ (by omega)).trans c6, (u _ _ (by omega)).trans c7, c8, c9, c10⟩
  (apply WP_runI (lv := lvK) (F := LK) LK_ok 999 6; simp (disch := first | decide | omega) only [t29_0, lift_c, o_aload0, o_dsub, o_inl, o_anewarray, o_putref, o_putfield, o_new, o_dupi, o_dupr, o_spec1, rpush_n, rpush_s, o_return, z0, z1, z2, z20, z31, z100, runI_0, runI_c, runI_n, liftI_n, liftI_y, run_0, run_c, run_n, fxn, fxi, fxr, fxl, fxl0, ↓swi_n, ↓swi_c, nck0, nck1, nck2, nck3, List.length_cons, List.length_nil, Nat.reduceAdd, Nat.reduceSub, Nat.reduceLeDiff, Nat.reduceEqDiff, Nat.reduceLT, reduceIte, ite_true, ite_false, Nat.sub_zero, Nat.zero_le, true_and, and_true, and_self, true_or, or_true, if_true, if_false, true_implies, implies_true, not_true_eq_false, not_false_eq_true, false_implies, forall_const, ne_eq, or_self, and_false, false_and, Lt, Le, Eq', Cp, In, nI_add, nI_mul, nI_sub, nI_sub1, Neg0, bI_eq0, bI_eq1, bI_01, bft, up2_eq, up2_no, Bool.true_eq_false, Bool.false_eq_true, eq_self, m1_ne, m1_ne2, m1_lt, m1_le, lt_m1, m1_le2, bI_t, bI_f, LK_st, sq2, m2, hd0, Nat.add_assoc])
  exact hQ
end
