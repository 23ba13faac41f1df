/-! ### pairs: tape -/
section
variable {G : GE} {d : Nat}
theorem become_K {n : Nat} {sh : TS} {I : TI} {L : TL} {P : TP} {Q : TQ} {q : Nat} {so len : Int32} (hq : sh q = (6, 3)) (hq1 : sh (q + 1) = (101, 60)) (pq : P q 2 = q + 1) (h20 : 20 ≤ q)
    (hQ : ∀ L', Eo (fun a _ => a = q + 1) L L' → (∀ j, j < 60 → L' (q + 1) j = 0) → Q none n sh (up2 (up2 I q 0 so) q 1 len) L' P) : Cl G d 46 [.ref q, .int so, .int len] n sh I L P Q := by
  apply e46
  have n1 : nle 20 (q + 1) := by show 20 ≤ q + 1; omega
  have loop : ∀ m j L1 cc ss, j + m = 60 → Eo (fun a _ => a = q + 1) L L1 → (∀ i, i < j → L1 (q + 1) i = 0) → WP G 46 d Q 12 [some (.ref q), some (.int so), some (.int len), some (.int (nI j))] [] cc ss n sh (up2 (up2 I q 0 so) q 1 len) L1 P := by
    intro m
    induction m with
    | zero =>
      intro j L1 cc ss h he hz
      have hj : 60 ≤ j := by omega
      have hQ := hQ L1 he (fun i hi => hz i (by omega))
      (apply WP_runI (lv := lvK) (F := LK) LK_ok 12 20; simp (disch := first | decide | omega) only [t46_0, lift_c, o_aload0, o_iload1, o_putfield, o_iload2, o_inl, o_istore, s1_0, s1_s, o_iload3, o_icge, o_getref, o_lastore, o_iinc3, o_goto, o_return, z0, z1, z2, z20, z31, z60, runI_0, runI_c, runI_n, liftI_n, liftI_y, run_0, run_c, run_n, fxn, fxi, fxr, fxl, fxl0, ↓swi_n, ↓swi_c, nck0, nck1, nck2, nck3, List.length_cons, List.length_nil, Nat.reduceAdd, Nat.reduceSub, Nat.reduceLeDiff, Nat.reduceEqDiff, Nat.reduceLT, reduceIte, ite_true, ite_false, Nat.sub_zero, Nat.zero_le, true_and, and_true, and_self, true_or, or_true, if_true, if_false, true_implies, implies_true, not_true_eq_false, not_false_eq_true, false_implies, forall_const, ne_eq, or_self, and_false, false_and, Lt, Le, Eq', Cp, In, nI_add, nI_mul, nI_sub, nI_sub1, Neg0, bI_eq0, bI_eq1, bI_01, bft, up2_eq, up2_no, Bool.true_eq_false, Bool.false_eq_true, eq_self, m1_ne, m1_ne2, m1_lt, m1_le, lt_m1, m1_le2, bI_t, bI_f, LK_st, hj])
      exact hQ
    | succ m ih =>
      intro j L1 cc ss h he hz
      have hj : ¬ 60 ≤ j := by omega
      have ih := fun cc ss => ih (j + 1) (up2 L1 (q + 1) j 0) cc ss (by omega) (he.up rfl _) (fun i hi => by
        by_cases e : i = j
        · rw [e, up2_eq]
        · rw [up2_no _ _ _ _ _ _ (by omega)]
          exact hz i (by omega))
      (apply WP_runI (lv := lvK) (F := LK) LK_ok 12 20; simp (disch := first | decide | omega) only [t46_0, lift_c, o_aload0, o_iload1, o_putfield, o_iload2, o_inl, o_istore, s1_0, s1_s, o_iload3, o_icge, o_getref, o_lastore, o_iinc3, o_goto, o_return, z0, z1, z2, z20, z31, z60, runI_0, runI_c, runI_n, liftI_n, liftI_y, run_0, run_c, run_n, fxn, fxi, fxr, fxl, fxl0, ↓swi_n, ↓swi_c, nck0, nck1, nck2, nck3, List.length_cons, List.length_nil, Nat.reduceAdd, Nat.reduceSub, Nat.reduceLeDiff, Nat.reduceEqDiff, Nat.reduceLT, reduceIte, ite_true, ite_false, Nat.sub_zero, Nat.zero_le, true_and, and_true, and_self, true_or, or_true, if_true, if_false, true_implies, implies_true, not_true_eq_false, not_false_eq_true, false_implies, forall_const, ne_eq, or_self, and_false, false_and, Lt, Le, Eq', Cp, In, nI_add, nI_mul, nI_sub, nI_sub1, Neg0, bI_eq0, bI_eq1, bI_01, bft, up2_eq, up2_no, Bool.true_eq_false, Bool.false_eq_true, eq_self, m1_ne, m1_ne2, m1_lt, m1_le, lt_m1, m1_le2, bI_t, bI_f, LK_st, hq, hq1, pq, n1, hj])
      exact ih _ _
  have loop := fun cc ss => loop 60 0 L cc ss (by omega) Eo.rf (fun i hi => by omega)
  (apply WP_runI (lv := lvK) (F := LK) LK_ok 12 20; simp (disch := first | decide | omega) only [t46_0, lift_c, o_aload0, o_iload1, o_putfield, o_iload2, o_inl, o_istore, s1_0, s1_s, o_iload3, o_icge, o_getref, o_lastore, o_iinc3, o_goto, o_return, z0, z1, z2, z20, z31, z60, runI_0, runI_c, runI_n, liftI_n, liftI_y, run_0, run_c, run_n, fxn, fxi, fxr, fxl, fxl0, ↓swi_n, ↓swi_c, nck0, nck1, nck2, nck3, List.length_cons, List.length_nil, Nat.reduceAdd, Nat.reduceSub, Nat.reduceLeDiff, Nat.reduceEqDiff, Nat.reduceLT, reduceIte, ite_true, ite_false, Nat.sub_zero, Nat.zero_le, true_and, and_true, and_self, true_or, or_true, if_true, if_false, true_implies, implies_true, not_true_eq_false, not_false_eq_true, false_implies, forall_const, ne_eq, or_self, and_false, false_and, Lt, Le, Eq', Cp, In, nI_add, nI_mul, nI_sub, nI_sub1, Neg0, bI_eq0, bI_eq1, bI_01, bft, up2_eq, up2_no, Bool.true_eq_false, Bool.false_eq_true, eq_self, m1_ne, m1_ne2, m1_lt, m1_le, lt_m1, m1_le2, bI_t, bI_f, LK_st, hq])
  exact loop _ _
theorem IW.tapeu {n : Nat} {sh : TS} {I I' : TI} {L L1 L2 : TL} {P : TP} {F : TF} {E : Nat → Int32} {k g r : Nat} (h : IW n sh I L P F E k g r) {t z : Nat} (ht : t < 6) (hz : z ≤ 60) {so : Int32} (hso : (so = -nI 1 ∧ z = 0) ∨ ∃ s, s < 5 ∧ so = nI s)
    (hI : Eo (fun a j => (a = 111 + 2 * t ∧ j < 2) ∨ (a = 139 ∧ j = t) ∨ (a = 140 ∧ j = t)) I I') (i1 : I' (111 + 2 * t) 0 = so) (i2 : I' (111 + 2 * t) 1 = nI z) (i3 : I' 139 t = so) (i4 : I' 140 t = nI z)
    (hl1 : Eo (fun a _ => a = 112 + 2 * t) L L1) (w1 : ∀ j, j < 60 → L1 (112 + 2 * t) j = 0) (hl2 : Eo (fun a j => a = 141 ∧ 60 * t ≤ j ∧ j < 60 * t + 60) L1 L2) (w2 : ∀ j, j < 60 → L2 141 (60 * t + j) = 0) : IW n sh I' L2 P F E k g r := by
  have hEo : Eo siS I I' := hI.mono fun a j q => by unfold siS; omega
  refine h.side hEo (h.2.2.2.2.2.2.2.2.1.eo hI fun a j q => by omega) (h.2.2.2.2.2.2.2.2.2.1.eo hI fun a j q => by omega) fun t' ht' => ?_
  obtain ⟨p1, p2, p3, p4⟩ := h.2.2.2.2.2.2.2.2.2.2.1 t' ht'
  by_cases e : t' = t
  · subst e
    refine ⟨i1.trans i3.symm, ?_, ⟨z, hz, i2, i4⟩, fun j hj => ?_⟩
    · rcases hso with ⟨h1, h2⟩ | ⟨s, h1, h2⟩
      · exact Or.inl ⟨i1.trans h1, by rw [i2, h2]⟩
      · exact Or.inr ⟨s, h1, i1.trans h2⟩
    · rw [w2 j hj, hl2 (112 + 2 * t') j (by omega), w1 j hj]
  · have q : ∀ a j, ¬ ((a = 111 + 2 * t ∧ j < 2) ∨ (a = 139 ∧ j = t) ∨ (a = 140 ∧ j = t)) → I' a j = I a j := fun a j w => hI a j w
    rw [q _ _ (by omega), q _ _ (by omega), q _ _ (by omega), q _ _ (by omega)]
    refine ⟨p1, p2, p3, fun j hj => ?_⟩
    rw [hl2 _ _ (by omega), hl1 _ _ (by omega), hl2 _ _ (by omega), hl1 _ _ (by omega)]
    exact p4 j hj
theorem tape_L {n : Nat} {sh : TS} {I : TI} {L1 : TL} {P : TP} {Q2 : TQ} (hF : FM sh P) {t : Nat} (ht : t < 6) {y z : Int32} (hd : 1 ≤ d)
    (hQ : ∀ L2, Eo (fun a j => a = 141 ∧ 60 * t ≤ j ∧ j < 60 * t + 60) L1 L2 → (∀ j, j < 60 → L2 141 (60 * t + j) = 0) → Q2 (some (.int (nI 1))) n sh I L2 P) : ∀ m j L2 cc ss, j + m = 60 → Eo (fun a j => a = 141 ∧ 60 * t ≤ j ∧ j < 60 * t + 60) L1 L2 → (∀ i, i < j → L2 141 (60 * t + i) = 0) →
      WP G 195 d Q2 67 [some (.ref 123), some (.int (nI t)), some (.int y), some (.int z), some (.int (nI j))] [] cc ss n sh I L2 P := by
  have n141 : nle 20 141 := by show 20 ≤ 141; decide
  intro m
  induction m with
  | zero =>
    intro j L2 cc ss h he hz
    have hj : 60 ≤ j := by omega
    have hQ := hQ L2 he (fun i hi => hz i (by omega))
    (apply WP_runI (lv := lvM) LM_ok 67 20; simp (disch := first | decide | omega) only [t195_0, t195_1, lift_c, o_iload1, o_stat1, rpush_n, rpush_s, o_ifne, o_inl, o_ireturn, o_iload2, o_stat3, o_ifeq, o_iflt, o_iload3, o_icle, o_ifge, o_aload0, o_getref, o_iastore, o_goto, o_istore, s1_0, s1_s, o_iload4, o_icge, o_imul, o_iadd, o_lastore, o_iinc4, z0, z1, z2, z4, z14, z20, z31, z60, runI_0, runI_c, runI_n, liftI_n, liftI_y, run_0, run_c, run_n, fxn, fxi, fxr, fxl, fxl0, ↓swi_n, ↓swi_c, nck0, nck1, nck2, nck3, List.length_cons, List.length_nil, Nat.reduceAdd, Nat.reduceSub, Nat.reduceLeDiff, Nat.reduceEqDiff, Nat.reduceLT, reduceIte, ite_true, ite_false, Nat.sub_zero, Nat.zero_le, true_and, and_true, and_self, true_or, or_true, if_true, if_false, true_implies, implies_true, not_true_eq_false, not_false_eq_true, false_implies, forall_const, ne_eq, or_self, and_false, false_and, Lt, Le, Eq', Cp, In, nI_add, nI_mul, nI_sub, nI_sub1, Neg0, bI_eq0, bI_eq1, bI_01, bft, up2_eq, up2_no, Bool.true_eq_false, Bool.false_eq_true, eq_self, m1_ne, m1_ne2, m1_lt, m1_le, lt_m1, m1_le2, bI_t, bI_f, LM_all hF, FMu hF, hj])
    exact hQ
  | succ m ih =>
    intro j L2 cc ss h he hz
    have hj : ¬ 60 ≤ j := by omega
    have ih := fun cc ss => ih (j + 1) (up2 L2 141 (60 * t + j) 0) cc ss (by omega) (he.up (by omega) _) (fun i hi => by
      by_cases e : i = j
      · rw [e, up2_eq]
      · rw [up2_no _ _ _ _ _ _ (by omega)]
        exact hz i (by omega))
    (apply WP_runI (lv := lvM) LM_ok 67 30; simp (disch := first | decide | omega) only [t195_0, t195_1, lift_c, o_iload1, o_stat1, rpush_n, rpush_s, o_ifne, o_inl, o_ireturn, o_iload2, o_stat3, o_ifeq, o_iflt, o_iload3, o_icle, o_ifge, o_aload0, o_getref, o_iastore, o_goto, o_istore, s1_0, s1_s, o_iload4, o_icge, o_imul, o_iadd, o_lastore, o_iinc4, z0, z1, z2, z4, z14, z20, z31, z60, runI_0, runI_c, runI_n, liftI_n, liftI_y, run_0, run_c, run_n, fxn, fxi, fxr, fxl, fxl0, ↓swi_n, ↓swi_c, nck0, nck1, nck2, nck3, List.length_cons, List.length_nil, Nat.reduceAdd, Nat.reduceSub, Nat.reduceLeDiff, Nat.reduceEqDiff, Nat.reduceLT, reduceIte, ite_true, ite_false, Nat.sub_zero, Nat.zero_le, true_and, and_true, and_self, true_or, or_true, if_true, if_false, true_implies, implies_true, not_true_eq_false, not_false_eq_true, false_implies, forall_const, ne_eq, or_self, and_false, false_and, Lt, Le, Eq', Cp, In, nI_add, nI_mul, nI_sub, nI_sub1, Neg0, bI_eq0, bI_eq1, bI_01, bft, up2_eq, up2_no, Bool.true_eq_false, Bool.false_eq_true, eq_self, m1_ne, m1_ne2, m1_lt, m1_le, lt_m1, m1_le2, bI_t, bI_f, LM_all hF, FMu hF, n141, hj])
    exact ih _ _
theorem tape_P (hd : 50 ≤ d) (x y z : Int32) : PAIR G d 98 195 [.ref 20, .int x, .int y, .int z] [.ref 123, .int x, .int y, .int z] := by
  intro n sh I L P Q hI hQ
  obtain ⟨F, E, k, g, r, hI⟩ := hI
  apply e98
  apply WP_SF
  intro hSF
  have hs2 := hSF.2.2.1
  have hB := hI.cb
  have hG := hB.fg
  have hY22 := hB.y22
  have hY84 := hB.y84
  have h22 : sh 22 = (8, 9) := (FY22u hY22).1
  have hd0 : 0 < d := by omega
  have hk := hI.2.2.1.1.k6
  have hg9 := hI.2.2.1.1.g9
  have hWe := hI.2.2.1.we
  have hF := hI.1
  have h5 := hB.count
  cases hx : isT x with
  | false =>
    have bad := hQ (-nI 1) n sh I L P fun Q2 h2 => by
      refine ⟨(FMu hI.1).1, ?_⟩
      have h2 := h2 _ _ _ _ _ ⟨F, E, k, g, r, hI⟩
      apply e195
      (apply WP_runI (lv := lvM) LM_ok 999 20; simp (disch := first | decide | omega) only [t195_0, t195_1, lift_c, o_iload1, o_stat1, rpush_n, rpush_s, o_ifne, o_inl, o_ireturn, o_iload2, o_stat3, o_ifeq, o_iflt, o_iload3, o_icle, o_ifge, o_aload0, o_getref, o_iastore, o_goto, o_istore, s1_0, s1_s, o_iload4, o_icge, o_imul, o_iadd, o_lastore, o_iinc4, z0, z1, z2, z4, z14, z20, z31, z60, runI_0, runI_c, runI_n, liftI_n, liftI_y, run_0, run_c, run_n, fxn, fxi, fxr, fxl, fxl0, ↓swi_n, ↓swi_c, nck0, nck1, nck2, nck3, List.length_cons, List.length_nil, Nat.reduceAdd, Nat.reduceSub, Nat.reduceLeDiff, Nat.reduceEqDiff, Nat.reduceLT, reduceIte, ite_true, ite_false, Nat.sub_zero, Nat.zero_le, true_and, and_true, and_self, true_or, or_true, if_true, if_false, true_implies, implies_true, not_true_eq_false, not_false_eq_true, false_implies, forall_const, ne_eq, or_self, and_false, false_and, Lt, Le, Eq', Cp, In, nI_add, nI_mul, nI_sub, nI_sub1, Neg0, bI_eq0, bI_eq1, bI_01, bft, up2_eq, up2_no, Bool.true_eq_false, Bool.false_eq_true, eq_self, m1_ne, m1_ne2, m1_lt, m1_le, lt_m1, m1_le2, bI_t, bI_f, LM_all hF, FMu hF, hx, hd0])
      exact h2
    (apply WP_runI (lv := lvK) (F := LK) LK_ok 999 20; simp (disch := first | decide | omega) only [t98_0, lift_c, o_iload1, o_stat1, rpush_n, rpush_s, o_ifne, o_inl, o_ireturn, o_iload2, o_icne, o_aload0, o_getref, o_aaload, o_virt3, o_iflt, o_icgt, o_iload3, o_icle, o_ifge, z0, z1, z2, z4, z14, z20, z31, z60, runI_0, runI_c, runI_n, liftI_n, liftI_y, run_0, run_c, run_n, fxn, fxi, fxr, fxl, fxl0, ↓swi_n, ↓swi_c, nck0, nck1, nck2, nck3, List.length_cons, List.length_nil, Nat.reduceAdd, Nat.reduceSub, Nat.reduceLeDiff, Nat.reduceEqDiff, Nat.reduceLT, reduceIte, ite_true, ite_false, Nat.sub_zero, Nat.zero_le, true_and, and_true, and_self, true_or, or_true, if_true, if_false, true_implies, implies_true, not_true_eq_false, not_false_eq_true, false_implies, forall_const, ne_eq, or_self, and_false, false_and, Lt, Le, Eq', Cp, In, nI_add, nI_mul, nI_sub, nI_sub1, Neg0, bI_eq0, bI_eq1, bI_01, bft, up2_eq, up2_no, Bool.true_eq_false, Bool.false_eq_true, eq_self, m1_ne, m1_ne2, m1_lt, m1_le, lt_m1, m1_le2, bI_t, bI_f, LK_st, FGu hG, LK_g hG h22 hs2, hx, hd0])
    exact bad
  | true =>
    obtain ⟨t, ht, ex⟩ := isT_of hx
    subst ex
    obtain ⟨-, q2, q3, q4⟩ := (FGu hG).2.2.2.2.2.2.2.2.2.2.2.2.2.2.2.2.2.2.2.2.2.2.2.2.2.2
    have hq := q2 t ht
    have hq1 : sh (111 + 2 * t + 1) = (101, 60) := by rw [show 111 + 2 * t + 1 = 112 + 2 * t by omega]; exact q3 t ht
    have pq : P (111 + 2 * t) 2 = 111 + 2 * t + 1 := by rw [show 111 + 2 * t + 1 = 112 + 2 * t by omega]; exact q4 t ht
    by_cases h1 : y = -nI 1
    · subst h1
      · skip
        have n139 : nle 20 139 := by show 20 ≤ 139; decide
        have n140 : nle 20 140 := by show 20 ≤ 140; decide
        have good : ∀ L1, Eo (fun a _ => a = 112 + 2 * t) L L1 → (∀ j, j < 60 → L1 (112 + 2 * t) j = 0) → Q (some (.int (nI 1))) n sh (up2 (up2 I (111 + 2 * t) 0 (-nI 1)) (111 + 2 * t) 1 (nI 0)) L1 P := fun L1 hl1 w1 => hQ _ _ _ _ _ _ fun Q2 h2 => by
          refine ⟨(FMu hI.1).1, ?_⟩
          have hL := fun cc ss => tape_L (G := G) (d := d) (n := n) (I := up2 (up2 (up2 (up2 I (111 + 2 * t) 0 (-nI 1)) (111 + 2 * t) 1 (nI 0)) 139 t (-nI 1)) 140 t (nI 0)) (Q2 := Q2) hF ht (y := -nI 1) (z := z) (by omega) (fun L2 hl2 w2 => h2 n sh _ L2 P ⟨F, E, k, g, r, hI.tapeu ht (z := 0) (by omega) (Or.inl ⟨rfl, rfl⟩) (fun a j q => by simp (disch := omega) only [up2_no]) (by simp (disch := omega) only [up2_no, up2_eq]) (by simp (disch := omega) only [up2_no, up2_eq]) (by simp (disch := omega) only [up2_no, up2_eq]) (up2_eq _ _ _ _) hl1 w1 hl2 w2⟩) 60 0 L1 cc ss (by omega) Eo.rf (fun i hi => by omega)
          apply e195
          (apply WP_runI (lv := lvM) LM_ok 67 80; simp (disch := first | decide | omega) only [t195_0, t195_1, lift_c, o_iload1, o_stat1, rpush_n, rpush_s, o_ifne, o_inl, o_ireturn, o_iload2, o_stat3, o_ifeq, o_iflt, o_iload3, o_icle, o_ifge, o_aload0, o_getref, o_iastore, o_goto, o_istore, s1_0, s1_s, o_iload4, o_icge, o_imul, o_iadd, o_lastore, o_iinc4, z0, z1, z2, z4, z14, z20, z31, z60, runI_0, runI_c, runI_n, liftI_n, liftI_y, run_0, run_c, run_n, fxn, fxi, fxr, fxl, fxl0, ↓swi_n, ↓swi_c, nck0, nck1, nck2, nck3, List.length_cons, List.length_nil, Nat.reduceAdd, Nat.reduceSub, Nat.reduceLeDiff, Nat.reduceEqDiff, Nat.reduceLT, reduceIte, ite_true, ite_false, Nat.sub_zero, Nat.zero_le, true_and, and_true, and_self, true_or, or_true, if_true, if_false, true_implies, implies_true, not_true_eq_false, not_false_eq_true, false_implies, forall_const, ne_eq, or_self, and_false, false_and, Lt, Le, Eq', Cp, In, nI_add, nI_mul, nI_sub, nI_sub1, Neg0, bI_eq0, bI_eq1, bI_01, bft, up2_eq, up2_no, Bool.true_eq_false, Bool.false_eq_true, eq_self, m1_ne, m1_ne2, m1_lt, m1_le, lt_m1, m1_le2, bI_t, bI_f, LM_all hF, FMu hF, hx, n139, n140, hd0, Int32.le_refl, decide_true])
          exact hL _ _
        (apply WP_runI (lv := lvK) (F := LK) LK_ok 999 40; simp (disch := first | decide | omega) only [t98_0, lift_c, o_iload1, o_stat1, rpush_n, rpush_s, o_ifne, o_inl, o_ireturn, o_iload2, o_icne, o_aload0, o_getref, o_aaload, o_virt3, o_iflt, o_icgt, o_iload3, o_icle, o_ifge, z0, z1, z2, z4, z14, z20, z31, z60, runI_0, runI_c, runI_n, liftI_n, liftI_y, run_0, run_c, run_n, fxn, fxi, fxr, fxl, fxl0, ↓swi_n, ↓swi_c, nck0, nck1, nck2, nck3, List.length_cons, List.length_nil, Nat.reduceAdd, Nat.reduceSub, Nat.reduceLeDiff, Nat.reduceEqDiff, Nat.reduceLT, reduceIte, ite_true, ite_false, Nat.sub_zero, Nat.zero_le, true_and, and_true, and_self, true_or, or_true, if_true, if_false, true_implies, implies_true, not_true_eq_false, not_false_eq_true, false_implies, forall_const, ne_eq, or_self, and_false, false_and, Lt, Le, Eq', Cp, In, nI_add, nI_mul, nI_sub, nI_sub1, Neg0, bI_eq0, bI_eq1, bI_01, bft, up2_eq, up2_no, Bool.true_eq_false, Bool.false_eq_true, eq_self, m1_ne, m1_ne2, m1_lt, m1_le, lt_m1, m1_le2, bI_t, bI_f, LK_st, FGu hG, LK_g hG h22 hs2, hx, hq, hd0, Int32.le_refl])
        refine become_K hq hq1 pq (by omega) fun L1 hl1 w1 => ?_
        have good := good L1 (hl1.mono fun a _ q => by omega) (fun j hj => by have q := w1 j hj; rw [show 111 + 2 * t + 1 = 112 + 2 * t by omega] at q; exact q)
        (apply WP_runI (lv := lvK) (F := LK) LK_ok 999 20; simp (disch := first | decide | omega) only [t98_0, lift_c, o_iload1, o_stat1, rpush_n, rpush_s, o_ifne, o_inl, o_ireturn, o_iload2, o_icne, o_aload0, o_getref, o_aaload, o_virt3, o_iflt, o_icgt, o_iload3, o_icle, o_ifge, z0, z1, z2, z4, z14, z20, z31, z60, runI_0, runI_c, runI_n, liftI_n, liftI_y, run_0, run_c, run_n, fxn, fxi, fxr, fxl, fxl0, ↓swi_n, ↓swi_c, nck0, nck1, nck2, nck3, List.length_cons, List.length_nil, Nat.reduceAdd, Nat.reduceSub, Nat.reduceLeDiff, Nat.reduceEqDiff, Nat.reduceLT, reduceIte, ite_true, ite_false, Nat.sub_zero, Nat.zero_le, true_and, and_true, and_self, true_or, or_true, if_true, if_false, true_implies, implies_true, not_true_eq_false, not_false_eq_true, false_implies, forall_const, ne_eq, or_self, and_false, false_and, Lt, Le, Eq', Cp, In, nI_add, nI_mul, nI_sub, nI_sub1, Neg0, bI_eq0, bI_eq1, bI_01, bft, up2_eq, up2_no, Bool.true_eq_false, Bool.false_eq_true, eq_self, m1_ne, m1_ne2, m1_lt, m1_le, lt_m1, m1_le2, bI_t, bI_f, LK_st, FGu hG, LK_g hG h22 hs2, hd0])
        exact good
    · cases hy : inR y 0 4 with
      | false =>
        have hn : decide (-nI 1 ≤ y ∧ y ≤ nI 4) = false := by
          apply decide_eq_false
          intro q
          rcases inR_no hy with h | ⟨-, h⟩
          · apply h1
            apply Int32.toInt_inj.mp
            have := q.1
            rw [i_le, m1i] at this
            rw [i_lt, nIi _ (by omega)] at h
            rw [m1i]
            omega
          · exact absurd q.2 (Int32.not_le.mpr h)
        have bad := hQ (-nI 2) n sh I L P fun Q2 h2 => by
          refine ⟨(FMu hI.1).1, ?_⟩
          have h2 := h2 _ _ _ _ _ ⟨F, E, k, g, r, hI⟩
          apply e195
          (apply WP_runI (lv := lvM) LM_ok 999 20; simp (disch := first | decide | omega) only [t195_0, t195_1, lift_c, o_iload1, o_stat1, rpush_n, rpush_s, o_ifne, o_inl, o_ireturn, o_iload2, o_stat3, o_ifeq, o_iflt, o_iload3, o_icle, o_ifge, o_aload0, o_getref, o_iastore, o_goto, o_istore, s1_0, s1_s, o_iload4, o_icge, o_imul, o_iadd, o_lastore, o_iinc4, z0, z1, z2, z4, z14, z20, z31, z60, runI_0, runI_c, runI_n, liftI_n, liftI_y, run_0, run_c, run_n, fxn, fxi, fxr, fxl, fxl0, ↓swi_n, ↓swi_c, nck0, nck1, nck2, nck3, List.length_cons, List.length_nil, Nat.reduceAdd, Nat.reduceSub, Nat.reduceLeDiff, Nat.reduceEqDiff, Nat.reduceLT, reduceIte, ite_true, ite_false, Nat.sub_zero, Nat.zero_le, true_and, and_true, and_self, true_or, or_true, if_true, if_false, true_implies, implies_true, not_true_eq_false, not_false_eq_true, false_implies, forall_const, ne_eq, or_self, and_false, false_and, Lt, Le, Eq', Cp, In, nI_add, nI_mul, nI_sub, nI_sub1, Neg0, bI_eq0, bI_eq1, bI_01, bft, up2_eq, up2_no, Bool.true_eq_false, Bool.false_eq_true, eq_self, m1_ne, m1_ne2, m1_lt, m1_le, lt_m1, m1_le2, bI_t, bI_f, LM_all hF, FMu hF, hx, hn, hd0])
          exact h2
        rcases inR_no hy with h | ⟨h2, h3⟩
        · (apply WP_runI (lv := lvK) (F := LK) LK_ok 999 20; simp (disch := first | decide | omega) only [t98_0, lift_c, o_iload1, o_stat1, rpush_n, rpush_s, o_ifne, o_inl, o_ireturn, o_iload2, o_icne, o_aload0, o_getref, o_aaload, o_virt3, o_iflt, o_icgt, o_iload3, o_icle, o_ifge, z0, z1, z2, z4, z14, z20, z31, z60, runI_0, runI_c, runI_n, liftI_n, liftI_y, run_0, run_c, run_n, fxn, fxi, fxr, fxl, fxl0, ↓swi_n, ↓swi_c, nck0, nck1, nck2, nck3, List.length_cons, List.length_nil, Nat.reduceAdd, Nat.reduceSub, Nat.reduceLeDiff, Nat.reduceEqDiff, Nat.reduceLT, reduceIte, ite_true, ite_false, Nat.sub_zero, Nat.zero_le, true_and, and_true, and_self, true_or, or_true, if_true, if_false, true_implies, implies_true, not_true_eq_false, not_false_eq_true, false_implies, forall_const, ne_eq, or_self, and_false, false_and, Lt, Le, Eq', Cp, In, nI_add, nI_mul, nI_sub, nI_sub1, Neg0, bI_eq0, bI_eq1, bI_01, bft, up2_eq, up2_no, Bool.true_eq_false, Bool.false_eq_true, eq_self, m1_ne, m1_ne2, m1_lt, m1_le, lt_m1, m1_le2, bI_t, bI_f, LK_st, FGu hG, LK_g hG h22 hs2, hx, h1, h, hd0])
          exact bad
        · (apply WP_runI (lv := lvK) (F := LK) LK_ok 999 20; simp (disch := first | decide | omega) only [t98_0, lift_c, o_iload1, o_stat1, rpush_n, rpush_s, o_ifne, o_inl, o_ireturn, o_iload2, o_icne, o_aload0, o_getref, o_aaload, o_virt3, o_iflt, o_icgt, o_iload3, o_icle, o_ifge, z0, z1, z2, z4, z14, z20, z31, z60, runI_0, runI_c, runI_n, liftI_n, liftI_y, run_0, run_c, run_n, fxn, fxi, fxr, fxl, fxl0, ↓swi_n, ↓swi_c, nck0, nck1, nck2, nck3, List.length_cons, List.length_nil, Nat.reduceAdd, Nat.reduceSub, Nat.reduceLeDiff, Nat.reduceEqDiff, Nat.reduceLT, reduceIte, ite_true, ite_false, Nat.sub_zero, Nat.zero_le, true_and, and_true, and_self, true_or, or_true, if_true, if_false, true_implies, implies_true, not_true_eq_false, not_false_eq_true, false_implies, forall_const, ne_eq, or_self, and_false, false_and, Lt, Le, Eq', Cp, In, nI_add, nI_mul, nI_sub, nI_sub1, Neg0, bI_eq0, bI_eq1, bI_01, bft, up2_eq, up2_no, Bool.true_eq_false, Bool.false_eq_true, eq_self, m1_ne, m1_ne2, m1_lt, m1_le, lt_m1, m1_le2, bI_t, bI_f, LK_st, FGu hG, LK_g hG h22 hs2, hx, h1, h2, h3, hd0])
          exact bad
      | true =>
        obtain ⟨s, -, hs4, ey⟩ := inR_of (by omega) (by omega) hy
        subst ey
        clear h1
        have hs4' : ¬ 4 < s := by omega
        by_cases hz1 : z ≤ nI 60
        · by_cases hz0 : z < nI 0
          · have hz2 : ¬ nI 0 ≤ z := Int32.not_le.mpr hz0
            have bad := hQ (-nI 14) n sh I L P fun Q2 h2 => by
              refine ⟨(FMu hI.1).1, ?_⟩
              have h2 := h2 _ _ _ _ _ ⟨F, E, k, g, r, hI⟩
              apply e195
              (apply WP_runI (lv := lvM) LM_ok 999 40; simp (disch := first | decide | omega) only [t195_0, t195_1, lift_c, o_iload1, o_stat1, rpush_n, rpush_s, o_ifne, o_inl, o_ireturn, o_iload2, o_stat3, o_ifeq, o_iflt, o_iload3, o_icle, o_ifge, o_aload0, o_getref, o_iastore, o_goto, o_istore, s1_0, s1_s, o_iload4, o_icge, o_imul, o_iadd, o_lastore, o_iinc4, z0, z1, z2, z4, z14, z20, z31, z60, runI_0, runI_c, runI_n, liftI_n, liftI_y, run_0, run_c, run_n, fxn, fxi, fxr, fxl, fxl0, ↓swi_n, ↓swi_c, nck0, nck1, nck2, nck3, List.length_cons, List.length_nil, Nat.reduceAdd, Nat.reduceSub, Nat.reduceLeDiff, Nat.reduceEqDiff, Nat.reduceLT, reduceIte, ite_true, ite_false, Nat.sub_zero, Nat.zero_le, true_and, and_true, and_self, true_or, or_true, if_true, if_false, true_implies, implies_true, not_true_eq_false, not_false_eq_true, false_implies, forall_const, ne_eq, or_self, and_false, false_and, Lt, Le, Eq', Cp, In, nI_add, nI_mul, nI_sub, nI_sub1, Neg0, bI_eq0, bI_eq1, bI_01, bft, up2_eq, up2_no, Bool.true_eq_false, Bool.false_eq_true, eq_self, m1_ne, m1_ne2, m1_lt, m1_le, lt_m1, m1_le2, bI_t, bI_f, LM_all hF, FMu hF, hx, hs4, hz1, hz2, hd0, decide_true, Nat.not_lt_zero])
              exact h2
            (apply WP_runI (lv := lvK) (F := LK) LK_ok 999 40; simp (disch := first | decide | omega) only [t98_0, lift_c, o_iload1, o_stat1, rpush_n, rpush_s, o_ifne, o_inl, o_ireturn, o_iload2, o_icne, o_aload0, o_getref, o_aaload, o_virt3, o_iflt, o_icgt, o_iload3, o_icle, o_ifge, z0, z1, z2, z4, z14, z20, z31, z60, runI_0, runI_c, runI_n, liftI_n, liftI_y, run_0, run_c, run_n, fxn, fxi, fxr, fxl, fxl0, ↓swi_n, ↓swi_c, nck0, nck1, nck2, nck3, List.length_cons, List.length_nil, Nat.reduceAdd, Nat.reduceSub, Nat.reduceLeDiff, Nat.reduceEqDiff, Nat.reduceLT, reduceIte, ite_true, ite_false, Nat.sub_zero, Nat.zero_le, true_and, and_true, and_self, true_or, or_true, if_true, if_false, true_implies, implies_true, not_true_eq_false, not_false_eq_true, false_implies, forall_const, ne_eq, or_self, and_false, false_and, Lt, Le, Eq', Cp, In, nI_add, nI_mul, nI_sub, nI_sub1, Neg0, bI_eq0, bI_eq1, bI_01, bft, up2_eq, up2_no, Bool.true_eq_false, Bool.false_eq_true, eq_self, m1_ne, m1_ne2, m1_lt, m1_le, lt_m1, m1_le2, bI_t, bI_f, LK_st, FGu hG, LK_g hG h22 hs2, hx, hs4', hz1, hz2, hd0, Nat.not_lt_zero])
            exact bad
          · obtain ⟨m, hm, ez⟩ := nI_of hz0
            have hm60 : m ≤ 60 := by
              rw [ez, Le _ _ (by omega) (by omega)] at hz1
              exact hz1
            subst ez
            have n139 : nle 20 139 := by show 20 ≤ 139; decide
            have n140 : nle 20 140 := by show 20 ≤ 140; decide
            have good : ∀ L1, Eo (fun a _ => a = 112 + 2 * t) L L1 → (∀ j, j < 60 → L1 (112 + 2 * t) j = 0) → Q (some (.int (nI 1))) n sh (up2 (up2 I (111 + 2 * t) 0 (nI s)) (111 + 2 * t) 1 (nI m)) L1 P := fun L1 hl1 w1 => hQ _ _ _ _ _ _ fun Q2 h2 => by
              refine ⟨(FMu hI.1).1, ?_⟩
              have hL := fun cc ss => tape_L (G := G) (d := d) (n := n) (I := up2 (up2 (up2 (up2 I (111 + 2 * t) 0 (nI s)) (111 + 2 * t) 1 (nI m)) 139 t (nI s)) 140 t (nI m)) (Q2 := Q2) hF ht (y := nI s) (z := nI m) (by omega) (fun L2 hl2 w2 => h2 n sh _ L2 P ⟨F, E, k, g, r, hI.tapeu ht hm60 (Or.inr ⟨s, by omega, rfl⟩) (fun a j q => by simp (disch := omega) only [up2_no]) (by simp (disch := omega) only [up2_no, up2_eq]) (by simp (disch := omega) only [up2_no, up2_eq]) (by simp (disch := omega) only [up2_no, up2_eq]) (up2_eq _ _ _ _) hl1 w1 hl2 w2⟩) 60 0 L1 cc ss (by omega) Eo.rf (fun i hi => by omega)
              apply e195
              (apply WP_runI (lv := lvM) LM_ok 67 80; simp (disch := first | decide | omega) only [t195_0, t195_1, lift_c, o_iload1, o_stat1, rpush_n, rpush_s, o_ifne, o_inl, o_ireturn, o_iload2, o_stat3, o_ifeq, o_iflt, o_iload3, o_icle, o_ifge, o_aload0, o_getref, o_iastore, o_goto, o_istore, s1_0, s1_s, o_iload4, o_icge, o_imul, o_iadd, o_lastore, o_iinc4, z0, z1, z2, z4, z14, z20, z31, z60, runI_0, runI_c, runI_n, liftI_n, liftI_y, run_0, run_c, run_n, fxn, fxi, fxr, fxl, fxl0, ↓swi_n, ↓swi_c, nck0, nck1, nck2, nck3, List.length_cons, List.length_nil, Nat.reduceAdd, Nat.reduceSub, Nat.reduceLeDiff, Nat.reduceEqDiff, Nat.reduceLT, reduceIte, ite_true, ite_false, Nat.sub_zero, Nat.zero_le, true_and, and_true, and_self, true_or, or_true, if_true, if_false, true_implies, implies_true, not_true_eq_false, not_false_eq_true, false_implies, forall_const, ne_eq, or_self, and_false, false_and, Lt, Le, Eq', Cp, In, nI_add, nI_mul, nI_sub, nI_sub1, Neg0, bI_eq0, bI_eq1, bI_01, bft, up2_eq, up2_no, Bool.true_eq_false, Bool.false_eq_true, eq_self, m1_ne, m1_ne2, m1_lt, m1_le, lt_m1, m1_le2, bI_t, bI_f, LM_all hF, FMu hF, hx, n139, n140, hd0, hs4, hm60, decide_true, Nat.not_lt_zero])
              exact hL _ _
            (apply WP_runI (lv := lvK) (F := LK) LK_ok 999 40; simp (disch := first | decide | omega) only [t98_0, lift_c, o_iload1, o_stat1, rpush_n, rpush_s, o_ifne, o_inl, o_ireturn, o_iload2, o_icne, o_aload0, o_getref, o_aaload, o_virt3, o_iflt, o_icgt, o_iload3, o_icle, o_ifge, z0, z1, z2, z4, z14, z20, z31, z60, runI_0, runI_c, runI_n, liftI_n, liftI_y, run_0, run_c, run_n, fxn, fxi, fxr, fxl, fxl0, ↓swi_n, ↓swi_c, nck0, nck1, nck2, nck3, List.length_cons, List.length_nil, Nat.reduceAdd, Nat.reduceSub, Nat.reduceLeDiff, Nat.reduceEqDiff, Nat.reduceLT, reduceIte, ite_true, ite_false, Nat.sub_zero, Nat.zero_le, true_and, and_true, and_self, true_or, or_true, if_true, if_false, true_implies, implies_true, not_true_eq_false, not_false_eq_true, false_implies, forall_const, ne_eq, or_self, and_false, false_and, Lt, Le, Eq', Cp, In, nI_add, nI_mul, nI_sub, nI_sub1, Neg0, bI_eq0, bI_eq1, bI_01, bft, up2_eq, up2_no, Bool.true_eq_false, Bool.false_eq_true, eq_self, m1_ne, m1_ne2, m1_lt, m1_le, lt_m1, m1_le2, bI_t, bI_f, LK_st, FGu hG, LK_g hG h22 hs2, hx, hq, hd0, hs4', hm60, Nat.not_lt_zero])
            refine become_K hq hq1 pq (by omega) fun L1 hl1 w1 => ?_
            have good := good L1 (hl1.mono fun a _ q => by omega) (fun j hj => by have q := w1 j hj; rw [show 111 + 2 * t + 1 = 112 + 2 * t by omega] at q; exact q)
            (apply WP_runI (lv := lvK) (F := LK) LK_ok 999 20; simp (disch := first | decide | omega) only [t98_0, lift_c, o_iload1, o_stat1, rpush_n, rpush_s, o_ifne, o_inl, o_ireturn, o_iload2, o_icne, o_aload0, o_getref, o_aaload, o_virt3, o_iflt, o_icgt, o_iload3, o_icle, o_ifge, z0, z1, z2, z4, z14, z20, z31, z60, runI_0, runI_c, runI_n, liftI_n, liftI_y, run_0, run_c, run_n, fxn, fxi, fxr, fxl, fxl0, ↓swi_n, ↓swi_c, nck0, nck1, nck2, nck3, List.length_cons, List.length_nil, Nat.reduceAdd, Nat.reduceSub, Nat.reduceLeDiff, Nat.reduceEqDiff, Nat.reduceLT, reduceIte, ite_true, ite_false, Nat.sub_zero, Nat.zero_le, true_and, and_true, and_self, true_or, or_true, if_true, if_false, true_implies, implies_true, not_true_eq_false, not_false_eq_true, false_implies, forall_const, ne_eq, or_self, and_false, false_and, Lt, Le, Eq', Cp, In, nI_add, nI_mul, nI_sub, nI_sub1, Neg0, bI_eq0, bI_eq1, bI_01, bft, up2_eq, up2_no, Bool.true_eq_false, Bool.false_eq_true, eq_self, m1_ne, m1_ne2, m1_lt, m1_le, lt_m1, m1_le2, bI_t, bI_f, LK_st, FGu hG, LK_g hG h22 hs2, hd0])
            exact good
        · have bad := hQ (-nI 2) n sh I L P fun Q2 h2 => by
            refine ⟨(FMu hI.1).1, ?_⟩
            have h2 := h2 _ _ _ _ _ ⟨F, E, k, g, r, hI⟩
            apply e195
            (apply WP_runI (lv := lvM) LM_ok 999 40; simp (disch := first | decide | omega) only [t195_0, t195_1, lift_c, o_iload1, o_stat1, rpush_n, rpush_s, o_ifne, o_inl, o_ireturn, o_iload2, o_stat3, o_ifeq, o_iflt, o_iload3, o_icle, o_ifge, o_aload0, o_getref, o_iastore, o_goto, o_istore, s1_0, s1_s, o_iload4, o_icge, o_imul, o_iadd, o_lastore, o_iinc4, z0, z1, z2, z4, z14, z20, z31, z60, runI_0, runI_c, runI_n, liftI_n, liftI_y, run_0, run_c, run_n, fxn, fxi, fxr, fxl, fxl0, ↓swi_n, ↓swi_c, nck0, nck1, nck2, nck3, List.length_cons, List.length_nil, Nat.reduceAdd, Nat.reduceSub, Nat.reduceLeDiff, Nat.reduceEqDiff, Nat.reduceLT, reduceIte, ite_true, ite_false, Nat.sub_zero, Nat.zero_le, true_and, and_true, and_self, true_or, or_true, if_true, if_false, true_implies, implies_true, not_true_eq_false, not_false_eq_true, false_implies, forall_const, ne_eq, or_self, and_false, false_and, Lt, Le, Eq', Cp, In, nI_add, nI_mul, nI_sub, nI_sub1, Neg0, bI_eq0, bI_eq1, bI_01, bft, up2_eq, up2_no, Bool.true_eq_false, Bool.false_eq_true, eq_self, m1_ne, m1_ne2, m1_lt, m1_le, lt_m1, m1_le2, bI_t, bI_f, LM_all hF, FMu hF, hx, hs4, hz1, hd0, decide_true, Nat.not_lt_zero])
            exact h2
          (apply WP_runI (lv := lvK) (F := LK) LK_ok 999 40; simp (disch := first | decide | omega) only [t98_0, lift_c, o_iload1, o_stat1, rpush_n, rpush_s, o_ifne, o_inl, o_ireturn, o_iload2, o_icne, o_aload0, o_getref, o_aaload, o_virt3, o_iflt, o_icgt, o_iload3, o_icle, o_ifge, z0, z1, z2, z4, z14, z20, z31, z60, runI_0, runI_c, runI_n, liftI_n, liftI_y, run_0, run_c, run_n, fxn, fxi, fxr, fxl, fxl0, ↓swi_n, ↓swi_c, nck0, nck1, nck2, nck3, List.length_cons, List.length_nil, Nat.reduceAdd, Nat.reduceSub, Nat.reduceLeDiff, Nat.reduceEqDiff, Nat.reduceLT, reduceIte, ite_true, ite_false, Nat.sub_zero, Nat.zero_le, true_and, and_true, and_self, true_or, or_true, if_true, if_false, true_implies, implies_true, not_true_eq_false, not_false_eq_true, false_implies, forall_const, ne_eq, or_self, and_false, false_and, Lt, Le, Eq', Cp, In, nI_add, nI_mul, nI_sub, nI_sub1, Neg0, bI_eq0, bI_eq1, bI_01, bft, up2_eq, up2_no, Bool.true_eq_false, Bool.false_eq_true, eq_self, m1_ne, m1_ne2, m1_lt, m1_le, lt_m1, m1_le2, bI_t, bI_f, LK_st, FGu hG, LK_g hG h22 hs2, hx, hs4', hz1, hd0, Nat.not_lt_zero])
          exact bad
end
