/-! ### pairs: goose -/
theorem WS.more {N : TN} {k k' : Nat} (h : WS N k) (hk : k ≤ k') : WS N k' := by
  obtain ⟨⟨s, h1, h2, h3⟩, ⟨p, h4, h5, h6⟩, hb⟩ := h
  refine ⟨⟨s, h1, h2, fun j hj => ?_⟩, ⟨p, h4, h5, fun j hj => ?_⟩, hb⟩
  · obtain ⟨⟨i, hi, e⟩, r⟩ := h3 j hj
    exact ⟨⟨i, by omega, e⟩, r⟩
  · obtain ⟨t, ht, e, q1, q2⟩ := h6 j hj
    refine ⟨t, ht, e, q1, fun q => ?_⟩
    obtain ⟨i, hi, e⟩ := q2 q
    exact ⟨i, by omega, e⟩
def hS (k a j : Nat) : Prop := (a = 28 + 2 * k ∧ j < 5) ∨ a = 29 + 2 * k ∨ (a = 22 ∧ j = 5) ∨ (a = 124 ∧ (26 + 9 * k ≤ j ∧ j < 35 + 9 * k ∨ j = 80))
theorem IW.gooseu {n : Nat} {sh : TS} {I I' : TI} {L : TL} {P : TP} {F : TF} {E : Nat → Int32} {k g r : Nat} (h : IW n sh I L P F E k g r) (hk6 : k < 6) {kd v c : Nat} (hkd : kd < 7) (hv : v ≤ 9) (hc : c < 8) {y : Int32} (hy : y = -nI 1 ∨ ∃ u, u < 9 ∧ y = nI u)
    (hI : Eo (hS k) I I') (c0 : I' (28 + 2 * k) 0 = nI kd) (c1 : I' (28 + 2 * k) 1 = nI v) (c2 : I' (28 + 2 * k) 2 = nI c) (c3 : I' (28 + 2 * k) 3 = y) (c4 : I' (28 + 2 * k) 4 = nI 0) (cr : ∀ w, w < 4 → I' (29 + 2 * k) w = nI 0) (c5 : I' 22 5 = nI (k + 1))
    (r0 : gs (I' 124) k 0 = nI kd) (r1 : gs (I' 124) k 1 = nI v) (r2 : gs (I' 124) k 2 = nI c) (r3 : gs (I' 124) k 3 = y) (r4 : ∀ w, 4 ≤ w → w < 9 → gs (I' 124) k w = nI 0) (r8 : I' 124 80 = nI (k + 1)) : IW n sh I' L P F E (k + 1) g r := by
  have hW := h.2.2.1.1
  have hg9 := hW.g9
  have q : ∀ a j, ¬ hS k a j → I' a j = I a j := hI
  have e : ∀ j, ¬ (26 + 9 * k ≤ j ∧ j < 35 + 9 * k ∨ j = 80) → I' 124 j = I 124 j := fun j w => hI 124 j (by unfold hS; omega)
  have hgs : ∀ i w, i < k → w < 9 → gs (I' 124) i w = gs (I 124) i w := fun i w hi hw => e _ (by omega)
  have hed : ∀ j w, j < g → w < 2 → ed (I' 124) j w = ed (I 124) j w := fun j w hj hw => e _ (by omega)
  have hsp : ∀ i, i < k + 1 → ¬ i = k → i < k := fun i h1 h2 => by omega
  refine h.row (hI.mono fun a j w => by unfold hS at w; unfold mS; omega) ?_ ?_ ?_ ?_
  · refine ⟨hk6, r8, hg9, (e _ (by omega)).trans hW.n81, hW.r6, ?_, fun i hi => ?_, fun j w hj hw => ?_, fun c hc => ?_, fun i hi => ?_, fun i hi => ?_, fun i hi => ?_, fun i hi => ?_⟩
    · obtain ⟨u, h1, h2⟩ := hW.n83
      exact ⟨u, h1, (e _ (by omega)).trans h2⟩
    · by_cases ei : i = k
      · rw [ei]; exact ⟨c, hc, r2⟩
      · rw [hgs i 2 (hsp i hi ei) (by omega)]; exact hW.court (hsp i hi ei)
    · rw [hed j w hj hw]; exact hW.ends hj hw
    · rw [e c (by omega)]; exact hW.grain hc
    · by_cases ei : i = k
      · rw [ei, r3]; exact hy
      · rw [hgs i 3 (hsp i hi ei) (by omega)]; exact hW.key (hsp i hi ei)
    · by_cases ei : i = k
      · rw [ei]; exact ⟨kd, hkd, r0⟩
      · rw [hgs i 0 (hsp i hi ei) (by omega)]; exact hW.kind (hsp i hi ei)
    · by_cases ei : i = k
      · rw [ei]; exact ⟨v, hv, r1⟩
      · rw [hgs i 1 (hsp i hi ei) (by omega)]; exact hW.v9 (hsp i hi ei)
    · by_cases ei : i = k
      · rw [ei]; exact Or.inl (r4 4 (by omega) (by omega))
      · rw [hgs i 4 (hsp i hi ei) (by omega)]; exact hW.taken (hsp i hi ei)
  · have hD := h.2.2.2.1
    refine ⟨hD.y, (q _ _ (by unfold hS; omega)).trans hD.gates, c5, ?_, fun c hc => ?_, fun j hj => ?_, fun j hj => ?_, fun i w hi hw => ?_, fun i w hi hw => ?_, ?_⟩
    · rw [q 22 6 (by unfold hS; omega), e 82 (by omega)]; exact hD.hour
    · rw [q _ _ (by unfold hS; omega), e c (by omega)]; exact hD.grain c hc
    · rw [q _ _ (by unfold hS; omega), hed j 0 hj (by omega)]; exact hD.one j hj
    · rw [q _ _ (by unfold hS; omega), hed j 1 hj (by omega)]; exact hD.other j hj
    · by_cases ei : i = k
      · rw [ei]
        have hw5 : w = 0 ∨ w = 1 ∨ w = 2 ∨ w = 3 ∨ w = 4 := by omega
        rcases hw5 with rfl | rfl | rfl | rfl | rfl
        · exact c0.trans r0.symm
        · exact c1.trans r1.symm
        · exact c2.trans r2.symm
        · exact c3.trans r3.symm
        · exact c4.trans (r4 4 (by omega) (by omega)).symm
      · rw [q _ _ (by unfold hS; omega), hgs i w (hsp i hi ei) (by omega)]; exact hD.geese i w (hsp i hi ei) hw
    · by_cases ei : i = k
      · rw [ei]
        exact (cr w hw).trans (r4 (5 + w) (by omega) (by omega)).symm
      · rw [q _ _ (by unfold hS; omega), hgs i (5 + w) (hsp i hi ei) (by omega)]; exact hD.rows i w (hsp i hi ei) hw
    · rw [show rl (I' 124) = rl (I 124) by show (I' 124 83).toNatClampNeg = _; rw [e 83 (by omega)]; rfl]
      exact hD.holds.eo hI fun c j w => by unfold hS at w; omega
  · exact (h.2.2.2.2.1.row (M := I' 124) fun j hj => e j (by omega)).eo hI fun a j w => by unfold hS at w; omega
  · exact (h.2.2.2.2.2.1.keep fun j hj => e j (by omega)).more (Nat.le_succ k)
theorem gsS (N : TN) (k w : Nat) : gs N k w = N (26 + 9 * k + w) := rfl
section
variable {G : GE} {d : Nat}
theorem hatch_K {n : Nat} {sh : TS} {I : TI} {L : TL} {P : TP} {Q : TQ} {q : Nat} {x1 x2 x3 x4 : Int32} (hq : sh q = (3, 6)) (hq1 : sh (q + 1) = (100, 4)) (pq : P q 5 = q + 1) (h20 : 20 ≤ q)
    (hQ : Q none n sh (up2 (up2 (up2 (up2 (up2 (up2 (up2 (up2 (up2 I q 0 x1) q 1 x2) q 2 x3) q 3 x4) q 4 (nI 0)) (q + 1) 0 (nI 0)) (q + 1) 1 (nI 0)) (q + 1) 2 (nI 0)) (q + 1) 3 (nI 0)) L P) : Cl G d 27 [.ref q, .int x1, .int x2, .int x3, .int x4] n sh I L P Q := by
  apply e27
  have n1 : nle 20 (q + 1) := by show 20 ≤ q + 1; omega
  (apply WP_runI (lv := lvK) (F := LK) LK_ok 999 80; simp (disch := first | decide | omega) only [t27_0, lift_c, o_aload0, o_iload1, o_putfield, o_iload2, o_iload3, o_iload4, o_inl, o_putbool, o_istore, s1_0, s1_s, o_iload5, o_icge, o_getref, o_iastore, o_iinc5, o_goto, o_return, z0, z1, z2, z4, z20, z31, runI_0, runI_c, runI_n, liftI_n, liftI_y, run_0, run_c, run_n, fxn, fxi, fxr, fxl, fxl0, ↓swi_n, ↓swi_c, nck0, nck1, nck2, nck3, List.length_cons, List.length_nil, Nat.reduceAdd, Nat.reduceSub, Nat.reduceLeDiff, Nat.reduceEqDiff, Nat.reduceLT, reduceIte, ite_true, ite_false, Nat.sub_zero, Nat.zero_le, true_and, and_true, and_self, true_or, or_true, if_true, if_false, true_implies, implies_true, not_true_eq_false, not_false_eq_true, false_implies, forall_const, ne_eq, or_self, and_false, false_and, Lt, Le, Eq', Cp, In, nI_add, nI_mul, nI_sub, nI_sub1, Neg0, bI_eq0, bI_eq1, bI_01, bft, up2_eq, up2_no, Bool.true_eq_false, Bool.false_eq_true, eq_self, m1_ne, m1_ne2, m1_lt, m1_le, lt_m1, m1_le2, bI_t, bI_f, LK_st, hq, hq1, pq, n1])
  exact hQ
def hM (k a j : Nat) : Prop := a = 124 ∧ 26 + 9 * k ≤ j ∧ j < 35 + 9 * k
theorem goose_L {n : Nat} {sh : TS} {I : TI} {L : TL} {P : TP} {Q2 : TQ} (hF : FM sh P) {k : Nat} (hk : k < 6) {x v c y : Int32} (hd : 1 ≤ d)
    (hQ : ∀ I', Eo (hM k) I I' → (∀ w, w < 9 → I' 124 (26 + 9 * k + w) = nI 0) → ∀ cc ss, WP G 131 d Q2 95 [some (.ref 123), some (.int x), some (.int v), some (.int c), some (.int y), some (.int (nI k)), some (.int (nI 9))] [] cc ss n sh I' L P) : ∀ m j I' cc ss, j + m = 9 → Eo (hM k) I I' → (∀ w, w < j → I' 124 (26 + 9 * k + w) = nI 0) →
      WP G 131 d Q2 65 [some (.ref 123), some (.int x), some (.int v), some (.int c), some (.int y), some (.int (nI k)), some (.int (nI j))] [] cc ss n sh I' L P := by
  have n124 : nle 20 124 := by show 20 ≤ 124; decide
  intro m
  induction m with
  | zero =>
    intro j I' cc ss h he hz
    have hj : j = 9 := by omega
    subst hj
    have hQ := hQ I' he hz
    (apply WP_runI (lv := lvM) LM_ok 95 20; simp (disch := first | decide | omega) only [t131_0, t131_1, t131_2, lift_c, o_iload1, o_inl, o_stat3, rpush_n, rpush_s, o_ifeq, o_iload3, o_stat1, o_iload4, o_ifne, o_ireturn, o_iload2, o_aload0, o_getref, o_iaload, o_istore, s1_0, s1_s, o_iload5, o_icne, o_iload6, o_icge, o_imul, o_iadd, o_iastore, o_iinc6, o_goto, o_dup2, z0, z1, z2, z3, z4, z6, z8, z9, z20, z26, z31, z80, runI_0, runI_c, runI_n, liftI_n, liftI_y, run_0, run_c, run_n, fxn, fxi, fxr, fxl, fxl0, ↓swi_n, ↓swi_c, nck0, nck1, nck2, nck3, List.length_cons, List.length_nil, Nat.reduceAdd, Nat.reduceSub, Nat.reduceLeDiff, Nat.reduceEqDiff, Nat.reduceLT, reduceIte, ite_true, ite_false, Nat.sub_zero, Nat.zero_le, true_and, and_true, and_self, true_or, or_true, if_true, if_false, true_implies, implies_true, not_true_eq_false, not_false_eq_true, false_implies, forall_const, ne_eq, or_self, and_false, false_and, Lt, Le, Eq', Cp, In, nI_add, nI_mul, nI_sub, nI_sub1, Neg0, bI_eq0, bI_eq1, bI_01, bft, up2_eq, up2_no, Bool.true_eq_false, Bool.false_eq_true, eq_self, m1_ne, m1_ne2, m1_lt, m1_le, lt_m1, m1_le2, bI_t, bI_f, LM_all hF, FMu hF])
    exact hQ _ _
  | succ m ih =>
    intro j I' cc ss h he hz
    have hj : ¬ 9 ≤ j := by omega
    have ih := fun cc ss => ih (j + 1) (up2 I' 124 (26 + 9 * k + j) (nI 0)) cc ss (by omega) (he.up ⟨rfl, by omega, by omega⟩ _) (fun i hi => by
      by_cases e : i = j
      · rw [e, up2_eq]
      · rw [up2_no _ _ _ _ _ _ (by omega)]
        exact hz i (by omega))
    (apply WP_runI (lv := lvM) LM_ok 65 30; simp (disch := first | decide | omega) only [t131_0, t131_1, t131_2, lift_c, o_iload1, o_inl, o_stat3, rpush_n, rpush_s, o_ifeq, o_iload3, o_stat1, o_iload4, o_ifne, o_ireturn, o_iload2, o_aload0, o_getref, o_iaload, o_istore, s1_0, s1_s, o_iload5, o_icne, o_iload6, o_icge, o_imul, o_iadd, o_iastore, o_iinc6, o_goto, o_dup2, z0, z1, z2, z3, z4, z6, z8, z9, z20, z26, z31, z80, runI_0, runI_c, runI_n, liftI_n, liftI_y, run_0, run_c, run_n, fxn, fxi, fxr, fxl, fxl0, ↓swi_n, ↓swi_c, nck0, nck1, nck2, nck3, List.length_cons, List.length_nil, Nat.reduceAdd, Nat.reduceSub, Nat.reduceLeDiff, Nat.reduceEqDiff, Nat.reduceLT, reduceIte, ite_true, ite_false, Nat.sub_zero, Nat.zero_le, true_and, and_true, and_self, true_or, or_true, if_true, if_false, true_implies, implies_true, not_true_eq_false, not_false_eq_true, false_implies, forall_const, ne_eq, or_self, and_false, false_and, Lt, Le, Eq', Cp, In, nI_add, nI_mul, nI_sub, nI_sub1, Neg0, bI_eq0, bI_eq1, bI_01, bft, up2_eq, up2_no, Bool.true_eq_false, Bool.false_eq_true, eq_self, m1_ne, m1_ne2, m1_lt, m1_le, lt_m1, m1_le2, bI_t, bI_f, LM_all hF, FMu hF, n124, hj])
    exact ih _ _
theorem goose_P (hd : 50 ≤ d) (x v c y : Int32) : PAIR G d 67 131 [.ref 20, .int x, .int v, .int c, .int y] [.ref 123, .int x, .int v, .int c, .int y] := by
  intro n sh I L P Q hI hQ
  obtain ⟨F, E, k, g, r, hI⟩ := hI
  apply e67
  apply WP_SF
  intro hSF
  have hs2 := hSF.2.2.1
  have hB := hI.cb
  have hG := hB.fg
  have hY22 := hB.y22
  have hY84 := hB.y84
  have h22 : sh 22 = (8, 9) := (FY22u hY22).1
  have hd0 : 0 < d := by omega
  have hk := hI.2.2.1.1.k6
  have hg9 := hI.2.2.1.1.g9
  have hWe := hI.2.2.1.we
  have hF := hI.1
  have h5 := hB.count
  have h80 := hB.2.2.1.n80
  have hkb := keyB_in y
  cases hx : inR x 0 6 with
  | false =>
    have hx2 : decide (nI 0 ≤ x ∧ x ≤ nI 6) = false := hx
    have bad := hQ (-nI 1) n sh I L P fun Q2 h2 => by
      refine ⟨(FMu hI.1).1, ?_⟩
      have h2 := h2 _ _ _ _ _ ⟨F, E, k, g, r, hI⟩
      apply e131
      (apply WP_runI (lv := lvM) LM_ok 999 40; simp (disch := first | decide | omega) only [t131_0, t131_1, t131_2, lift_c, o_iload1, o_inl, o_stat3, rpush_n, rpush_s, o_ifeq, o_iload3, o_stat1, o_iload4, o_ifne, o_ireturn, o_iload2, o_aload0, o_getref, o_iaload, o_istore, s1_0, s1_s, o_iload5, o_icne, o_iload6, o_icge, o_imul, o_iadd, o_iastore, o_iinc6, o_goto, o_dup2, z0, z1, z2, z3, z4, z6, z8, z9, z20, z26, z31, z80, runI_0, runI_c, runI_n, liftI_n, liftI_y, run_0, run_c, run_n, fxn, fxi, fxr, fxl, fxl0, ↓swi_n, ↓swi_c, nck0, nck1, nck2, nck3, List.length_cons, List.length_nil, Nat.reduceAdd, Nat.reduceSub, Nat.reduceLeDiff, Nat.reduceEqDiff, Nat.reduceLT, reduceIte, ite_true, ite_false, Nat.sub_zero, Nat.zero_le, true_and, and_true, and_self, true_or, or_true, if_true, if_false, true_implies, implies_true, not_true_eq_false, not_false_eq_true, false_implies, forall_const, ne_eq, or_self, and_false, false_and, Lt, Le, Eq', Cp, In, nI_add, nI_mul, nI_sub, nI_sub1, Neg0, bI_eq0, bI_eq1, bI_01, bft, up2_eq, up2_no, Bool.true_eq_false, Bool.false_eq_true, eq_self, m1_ne, m1_ne2, m1_lt, m1_le, lt_m1, m1_le2, bI_t, bI_f, LM_all hF, FMu hF, hWe, hx2, hd0])
      exact h2
    (apply WP_runI (lv := lvK) (F := LK) LK_ok 999 40; simp (disch := first | decide | omega) only [t67_0, t67_1, lift_c, o_aload0, o_getref, o_astore, s1_0, s1_s, o_iload1, o_stat1, rpush_n, rpush_s, o_ifeq, o_iload3, o_iload4, o_ifne, o_inl, o_ireturn, o_iload2, o_iflt, o_icle, o_aload5, o_getfield, o_icne, o_aaload, o_virt5, o_dupi, o_dupr, o_iadd, o_putfield, o_isub, z0, z1, z2, z4, z6, z9, z20, z31, runI_0, runI_c, runI_n, liftI_n, liftI_y, run_0, run_c, run_n, fxn, fxi, fxr, fxl, fxl0, ↓swi_n, ↓swi_c, nck0, nck1, nck2, nck3, List.length_cons, List.length_nil, Nat.reduceAdd, Nat.reduceSub, Nat.reduceLeDiff, Nat.reduceEqDiff, Nat.reduceLT, reduceIte, ite_true, ite_false, Nat.sub_zero, Nat.zero_le, true_and, and_true, and_self, true_or, or_true, if_true, if_false, true_implies, implies_true, not_true_eq_false, not_false_eq_true, false_implies, forall_const, ne_eq, or_self, and_false, false_and, Lt, Le, Eq', Cp, In, nI_add, nI_mul, nI_sub, nI_sub1, Neg0, bI_eq0, bI_eq1, bI_01, bft, up2_eq, up2_no, Bool.true_eq_false, Bool.false_eq_true, eq_self, m1_ne, m1_ne2, m1_lt, m1_le, lt_m1, m1_le2, bI_t, bI_f, LK_st, FGu hG, LK_g hG h22 hs2, FY22u hY22, hx, hd0])
    exact bad
  | true =>
    have hx2 : decide (nI 0 ≤ x ∧ x ≤ nI 6) = true := hx
    cases hc : isC c with
    | false =>
      have bad := hQ (-nI 1) n sh I L P fun Q2 h2 => by
        refine ⟨(FMu hI.1).1, ?_⟩
        have h2 := h2 _ _ _ _ _ ⟨F, E, k, g, r, hI⟩
        apply e131
        (apply WP_runI (lv := lvM) LM_ok 999 40; simp (disch := first | decide | omega) only [t131_0, t131_1, t131_2, lift_c, o_iload1, o_inl, o_stat3, rpush_n, rpush_s, o_ifeq, o_iload3, o_stat1, o_iload4, o_ifne, o_ireturn, o_iload2, o_aload0, o_getref, o_iaload, o_istore, s1_0, s1_s, o_iload5, o_icne, o_iload6, o_icge, o_imul, o_iadd, o_iastore, o_iinc6, o_goto, o_dup2, z0, z1, z2, z3, z4, z6, z8, z9, z20, z26, z31, z80, runI_0, runI_c, runI_n, liftI_n, liftI_y, run_0, run_c, run_n, fxn, fxi, fxr, fxl, fxl0, ↓swi_n, ↓swi_c, nck0, nck1, nck2, nck3, List.length_cons, List.length_nil, Nat.reduceAdd, Nat.reduceSub, Nat.reduceLeDiff, Nat.reduceEqDiff, Nat.reduceLT, reduceIte, ite_true, ite_false, Nat.sub_zero, Nat.zero_le, true_and, and_true, and_self, true_or, or_true, if_true, if_false, true_implies, implies_true, not_true_eq_false, not_false_eq_true, false_implies, forall_const, ne_eq, or_self, and_false, false_and, Lt, Le, Eq', Cp, In, nI_add, nI_mul, nI_sub, nI_sub1, Neg0, bI_eq0, bI_eq1, bI_01, bft, up2_eq, up2_no, Bool.true_eq_false, Bool.false_eq_true, eq_self, m1_ne, m1_ne2, m1_lt, m1_le, lt_m1, m1_le2, bI_t, bI_f, LM_all hF, FMu hF, hWe, hx2, hc, hd0])
        exact h2
      (apply WP_runI (lv := lvK) (F := LK) LK_ok 999 40; simp (disch := first | decide | omega) only [t67_0, t67_1, lift_c, o_aload0, o_getref, o_astore, s1_0, s1_s, o_iload1, o_stat1, rpush_n, rpush_s, o_ifeq, o_iload3, o_iload4, o_ifne, o_inl, o_ireturn, o_iload2, o_iflt, o_icle, o_aload5, o_getfield, o_icne, o_aaload, o_virt5, o_dupi, o_dupr, o_iadd, o_putfield, o_isub, z0, z1, z2, z4, z6, z9, z20, z31, runI_0, runI_c, runI_n, liftI_n, liftI_y, run_0, run_c, run_n, fxn, fxi, fxr, fxl, fxl0, ↓swi_n, ↓swi_c, nck0, nck1, nck2, nck3, List.length_cons, List.length_nil, Nat.reduceAdd, Nat.reduceSub, Nat.reduceLeDiff, Nat.reduceEqDiff, Nat.reduceLT, reduceIte, ite_true, ite_false, Nat.sub_zero, Nat.zero_le, true_and, and_true, and_self, true_or, or_true, if_true, if_false, true_implies, implies_true, not_true_eq_false, not_false_eq_true, false_implies, forall_const, ne_eq, or_self, and_false, false_and, Lt, Le, Eq', Cp, In, nI_add, nI_mul, nI_sub, nI_sub1, Neg0, bI_eq0, bI_eq1, bI_01, bft, up2_eq, up2_no, Bool.true_eq_false, Bool.false_eq_true, eq_self, m1_ne, m1_ne2, m1_lt, m1_le, lt_m1, m1_le2, bI_t, bI_f, LK_st, FGu hG, LK_g hG h22 hs2, FY22u hY22, hx, hc, hd0])
      exact bad
    | true =>
      cases hy : keyB y with
      | false =>
        rw [hy] at hkb
        have bad := hQ (-nI 1) n sh I L P fun Q2 h2 => by
          refine ⟨(FMu hI.1).1, ?_⟩
          have h2 := h2 _ _ _ _ _ ⟨F, E, k, g, r, hI⟩
          apply e131
          (apply WP_runI (lv := lvM) LM_ok 999 40; simp (disch := first | decide | omega) only [t131_0, t131_1, t131_2, lift_c, o_iload1, o_inl, o_stat3, rpush_n, rpush_s, o_ifeq, o_iload3, o_stat1, o_iload4, o_ifne, o_ireturn, o_iload2, o_aload0, o_getref, o_iaload, o_istore, s1_0, s1_s, o_iload5, o_icne, o_iload6, o_icge, o_imul, o_iadd, o_iastore, o_iinc6, o_goto, o_dup2, z0, z1, z2, z3, z4, z6, z8, z9, z20, z26, z31, z80, runI_0, runI_c, runI_n, liftI_n, liftI_y, run_0, run_c, run_n, fxn, fxi, fxr, fxl, fxl0, ↓swi_n, ↓swi_c, nck0, nck1, nck2, nck3, List.length_cons, List.length_nil, Nat.reduceAdd, Nat.reduceSub, Nat.reduceLeDiff, Nat.reduceEqDiff, Nat.reduceLT, reduceIte, ite_true, ite_false, Nat.sub_zero, Nat.zero_le, true_and, and_true, and_self, true_or, or_true, if_true, if_false, true_implies, implies_true, not_true_eq_false, not_false_eq_true, false_implies, forall_const, ne_eq, or_self, and_false, false_and, Lt, Le, Eq', Cp, In, nI_add, nI_mul, nI_sub, nI_sub1, Neg0, bI_eq0, bI_eq1, bI_01, bft, up2_eq, up2_no, Bool.true_eq_false, Bool.false_eq_true, eq_self, m1_ne, m1_ne2, m1_lt, m1_le, lt_m1, m1_le2, bI_t, bI_f, LM_all hF, FMu hF, hWe, hx2, hc, hkb, hd0])
          exact h2
        (apply WP_runI (lv := lvK) (F := LK) LK_ok 999 40; simp (disch := first | decide | omega) only [t67_0, t67_1, lift_c, o_aload0, o_getref, o_astore, s1_0, s1_s, o_iload1, o_stat1, rpush_n, rpush_s, o_ifeq, o_iload3, o_iload4, o_ifne, o_inl, o_ireturn, o_iload2, o_iflt, o_icle, o_aload5, o_getfield, o_icne, o_aaload, o_virt5, o_dupi, o_dupr, o_iadd, o_putfield, o_isub, z0, z1, z2, z4, z6, z9, z20, z31, runI_0, runI_c, runI_n, liftI_n, liftI_y, run_0, run_c, run_n, fxn, fxi, fxr, fxl, fxl0, ↓swi_n, ↓swi_c, nck0, nck1, nck2, nck3, List.length_cons, List.length_nil, Nat.reduceAdd, Nat.reduceSub, Nat.reduceLeDiff, Nat.reduceEqDiff, Nat.reduceLT, reduceIte, ite_true, ite_false, Nat.sub_zero, Nat.zero_le, true_and, and_true, and_self, true_or, or_true, if_true, if_false, true_implies, implies_true, not_true_eq_false, not_false_eq_true, false_implies, forall_const, ne_eq, or_self, and_false, false_and, Lt, Le, Eq', Cp, In, nI_add, nI_mul, nI_sub, nI_sub1, Neg0, bI_eq0, bI_eq1, bI_01, bft, up2_eq, up2_no, Bool.true_eq_false, Bool.false_eq_true, eq_self, m1_ne, m1_ne2, m1_lt, m1_le, lt_m1, m1_le2, bI_t, bI_f, LK_st, FGu hG, LK_g hG h22 hs2, FY22u hY22, hx, hc, hy, hd0])
        exact bad
      | true =>
        rw [hy] at hkb
        cases hv : inR v 0 9 with
        | false =>
          have hv2 : decide (nI 0 ≤ v ∧ v ≤ nI 9) = false := hv
          have bad := hQ (-nI 2) n sh I L P fun Q2 h2 => by
            refine ⟨(FMu hI.1).1, ?_⟩
            have h2 := h2 _ _ _ _ _ ⟨F, E, k, g, r, hI⟩
            apply e131
            (apply WP_runI (lv := lvM) LM_ok 999 40; simp (disch := first | decide | omega) only [t131_0, t131_1, t131_2, lift_c, o_iload1, o_inl, o_stat3, rpush_n, rpush_s, o_ifeq, o_iload3, o_stat1, o_iload4, o_ifne, o_ireturn, o_iload2, o_aload0, o_getref, o_iaload, o_istore, s1_0, s1_s, o_iload5, o_icne, o_iload6, o_icge, o_imul, o_iadd, o_iastore, o_iinc6, o_goto, o_dup2, z0, z1, z2, z3, z4, z6, z8, z9, z20, z26, z31, z80, runI_0, runI_c, runI_n, liftI_n, liftI_y, run_0, run_c, run_n, fxn, fxi, fxr, fxl, fxl0, ↓swi_n, ↓swi_c, nck0, nck1, nck2, nck3, List.length_cons, List.length_nil, Nat.reduceAdd, Nat.reduceSub, Nat.reduceLeDiff, Nat.reduceEqDiff, Nat.reduceLT, reduceIte, ite_true, ite_false, Nat.sub_zero, Nat.zero_le, true_and, and_true, and_self, true_or, or_true, if_true, if_false, true_implies, implies_true, not_true_eq_false, not_false_eq_true, false_implies, forall_const, ne_eq, or_self, and_false, false_and, Lt, Le, Eq', Cp, In, nI_add, nI_mul, nI_sub, nI_sub1, Neg0, bI_eq0, bI_eq1, bI_01, bft, up2_eq, up2_no, Bool.true_eq_false, Bool.false_eq_true, eq_self, m1_ne, m1_ne2, m1_lt, m1_le, lt_m1, m1_le2, bI_t, bI_f, LM_all hF, FMu hF, hWe, hx2, hc, hkb, hv2, hd0])
            exact h2
          rcases inR_no hv with h | ⟨h1, h2⟩
          · (apply WP_runI (lv := lvK) (F := LK) LK_ok 999 40; simp (disch := first | decide | omega) only [t67_0, t67_1, lift_c, o_aload0, o_getref, o_astore, s1_0, s1_s, o_iload1, o_stat1, rpush_n, rpush_s, o_ifeq, o_iload3, o_iload4, o_ifne, o_inl, o_ireturn, o_iload2, o_iflt, o_icle, o_aload5, o_getfield, o_icne, o_aaload, o_virt5, o_dupi, o_dupr, o_iadd, o_putfield, o_isub, z0, z1, z2, z4, z6, z9, z20, z31, runI_0, runI_c, runI_n, liftI_n, liftI_y, run_0, run_c, run_n, fxn, fxi, fxr, fxl, fxl0, ↓swi_n, ↓swi_c, nck0, nck1, nck2, nck3, List.length_cons, List.length_nil, Nat.reduceAdd, Nat.reduceSub, Nat.reduceLeDiff, Nat.reduceEqDiff, Nat.reduceLT, reduceIte, ite_true, ite_false, Nat.sub_zero, Nat.zero_le, true_and, and_true, and_self, true_or, or_true, if_true, if_false, true_implies, implies_true, not_true_eq_false, not_false_eq_true, false_implies, forall_const, ne_eq, or_self, and_false, false_and, Lt, Le, Eq', Cp, In, nI_add, nI_mul, nI_sub, nI_sub1, Neg0, bI_eq0, bI_eq1, bI_01, bft, up2_eq, up2_no, Bool.true_eq_false, Bool.false_eq_true, eq_self, m1_ne, m1_ne2, m1_lt, m1_le, lt_m1, m1_le2, bI_t, bI_f, LK_st, FGu hG, LK_g hG h22 hs2, FY22u hY22, hx, hc, hy, h, hd0])
            exact bad
          · have h3 : ¬ v ≤ nI 9 := Int32.not_le.mpr h2
            (apply WP_runI (lv := lvK) (F := LK) LK_ok 999 40; simp (disch := first | decide | omega) only [t67_0, t67_1, lift_c, o_aload0, o_getref, o_astore, s1_0, s1_s, o_iload1, o_stat1, rpush_n, rpush_s, o_ifeq, o_iload3, o_iload4, o_ifne, o_inl, o_ireturn, o_iload2, o_iflt, o_icle, o_aload5, o_getfield, o_icne, o_aaload, o_virt5, o_dupi, o_dupr, o_iadd, o_putfield, o_isub, z0, z1, z2, z4, z6, z9, z20, z31, runI_0, runI_c, runI_n, liftI_n, liftI_y, run_0, run_c, run_n, fxn, fxi, fxr, fxl, fxl0, ↓swi_n, ↓swi_c, nck0, nck1, nck2, nck3, List.length_cons, List.length_nil, Nat.reduceAdd, Nat.reduceSub, Nat.reduceLeDiff, Nat.reduceEqDiff, Nat.reduceLT, reduceIte, ite_true, ite_false, Nat.sub_zero, Nat.zero_le, true_and, and_true, and_self, true_or, or_true, if_true, if_false, true_implies, implies_true, not_true_eq_false, not_false_eq_true, false_implies, forall_const, ne_eq, or_self, and_false, false_and, Lt, Le, Eq', Cp, In, nI_add, nI_mul, nI_sub, nI_sub1, Neg0, bI_eq0, bI_eq1, bI_01, bft, up2_eq, up2_no, Bool.true_eq_false, Bool.false_eq_true, eq_self, m1_ne, m1_ne2, m1_lt, m1_le, lt_m1, m1_le2, bI_t, bI_f, LK_st, FGu hG, LK_g hG h22 hs2, FY22u hY22, hx, hc, hy, h1, h3, hd0])
            exact bad
        | true =>
          have hv2 : decide (nI 0 ≤ v ∧ v ≤ nI 9) = true := hv
          obtain ⟨hv3, hv4⟩ := inR_yes hv
          have hv4 : v ≤ nI 9 := Int32.not_lt.mp hv4
          by_cases hz : k = 6
          · have full := hQ (-nI 4) n sh I L P fun Q2 h2 => by
              refine ⟨(FMu hI.1).1, ?_⟩
              have h2 := h2 _ _ _ _ _ ⟨F, E, k, g, r, hI⟩
              apply e131
              (apply WP_runI (lv := lvM) LM_ok 999 60; simp (disch := first | decide | omega) only [t131_0, t131_1, t131_2, lift_c, o_iload1, o_inl, o_stat3, rpush_n, rpush_s, o_ifeq, o_iload3, o_stat1, o_iload4, o_ifne, o_ireturn, o_iload2, o_aload0, o_getref, o_iaload, o_istore, s1_0, s1_s, o_iload5, o_icne, o_iload6, o_icge, o_imul, o_iadd, o_iastore, o_iinc6, o_goto, o_dup2, z0, z1, z2, z3, z4, z6, z8, z9, z20, z26, z31, z80, runI_0, runI_c, runI_n, liftI_n, liftI_y, run_0, run_c, run_n, fxn, fxi, fxr, fxl, fxl0, ↓swi_n, ↓swi_c, nck0, nck1, nck2, nck3, List.length_cons, List.length_nil, Nat.reduceAdd, Nat.reduceSub, Nat.reduceLeDiff, Nat.reduceEqDiff, Nat.reduceLT, reduceIte, ite_true, ite_false, Nat.sub_zero, Nat.zero_le, true_and, and_true, and_self, true_or, or_true, if_true, if_false, true_implies, implies_true, not_true_eq_false, not_false_eq_true, false_implies, forall_const, ne_eq, or_self, and_false, false_and, Lt, Le, Eq', Cp, In, nI_add, nI_mul, nI_sub, nI_sub1, Neg0, bI_eq0, bI_eq1, bI_01, bft, up2_eq, up2_no, Bool.true_eq_false, Bool.false_eq_true, eq_self, m1_ne, m1_ne2, m1_lt, m1_le, lt_m1, m1_le2, bI_t, bI_f, LM_all hF, FMu hF, hWe, hx2, hc, hkb, hv2, h80, hz, hd0])
              exact h2
            (apply WP_runI (lv := lvK) (F := LK) LK_ok 999 60; simp (disch := first | decide | omega) only [t67_0, t67_1, lift_c, o_aload0, o_getref, o_astore, s1_0, s1_s, o_iload1, o_stat1, rpush_n, rpush_s, o_ifeq, o_iload3, o_iload4, o_ifne, o_inl, o_ireturn, o_iload2, o_iflt, o_icle, o_aload5, o_getfield, o_icne, o_aaload, o_virt5, o_dupi, o_dupr, o_iadd, o_putfield, o_isub, z0, z1, z2, z4, z6, z9, z20, z31, runI_0, runI_c, runI_n, liftI_n, liftI_y, run_0, run_c, run_n, fxn, fxi, fxr, fxl, fxl0, ↓swi_n, ↓swi_c, nck0, nck1, nck2, nck3, List.length_cons, List.length_nil, Nat.reduceAdd, Nat.reduceSub, Nat.reduceLeDiff, Nat.reduceEqDiff, Nat.reduceLT, reduceIte, ite_true, ite_false, Nat.sub_zero, Nat.zero_le, true_and, and_true, and_self, true_or, or_true, if_true, if_false, true_implies, implies_true, not_true_eq_false, not_false_eq_true, false_implies, forall_const, ne_eq, or_self, and_false, false_and, Lt, Le, Eq', Cp, In, nI_add, nI_mul, nI_sub, nI_sub1, Neg0, bI_eq0, bI_eq1, bI_01, bft, up2_eq, up2_no, Bool.true_eq_false, Bool.false_eq_true, eq_self, m1_ne, m1_ne2, m1_lt, m1_le, lt_m1, m1_le2, bI_t, bI_f, LK_st, FGu hG, LK_g hG h22 hs2, FY22u hY22, hx, hc, hy, hv3, hv4, h5, hz, hd0])
            exact full
          · have hk6 : k < 6 := by omega
            obtain ⟨kd, -, hkd, ex⟩ := inR_of (by omega) (by omega) hx
            obtain ⟨vv, -, hvv, ev⟩ := inR_of (by omega) (by omega) hv
            obtain ⟨cc, hcc, ec⟩ := isC_of hc
            have n22 : nle 20 22 := by show 20 ≤ 22; decide
            have n124 : nle 20 124 := by show 20 ≤ 124; decide
            have hcl : Eo (hS k) I (up2 (up2 (up2 (up2 (up2 (up2 (up2 (up2 (up2 (up2 I (28 + 2 * k) 0 x) (28 + 2 * k) 1 v) (28 + 2 * k) 2 c) (28 + 2 * k) 3 y) (28 + 2 * k) 4 (nI 0)) (28 + 2 * k + 1) 0 (nI 0)) (28 + 2 * k + 1) 1 (nI 0)) (28 + 2 * k + 1) 2 (nI 0)) (28 + 2 * k + 1) 3 (nI 0)) 22 5 (nI (k + 1))) := (((((((((Eo.rf.up (by unfold hS; omega) _).up (by unfold hS; omega) _).up (by unfold hS; omega) _).up (by unfold hS; omega) _).up (by unfold hS; omega) _).up (by unfold hS; omega) _).up (by unfold hS; omega) _).up (by unfold hS; omega) _).up (by unfold hS; omega) _).up (by unfold hS; omega) _
            have good := hQ (nI k) n sh (up2 (up2 (up2 (up2 (up2 (up2 (up2 (up2 (up2 (up2 I (28 + 2 * k) 0 x) (28 + 2 * k) 1 v) (28 + 2 * k) 2 c) (28 + 2 * k) 3 y) (28 + 2 * k) 4 (nI 0)) (28 + 2 * k + 1) 0 (nI 0)) (28 + 2 * k + 1) 1 (nI 0)) (28 + 2 * k + 1) 2 (nI 0)) (28 + 2 * k + 1) 3 (nI 0)) 22 5 (nI (k + 1))) L P fun Q2 h2 => by
              refine ⟨(FMu hI.1).1, ?_⟩
              have h124 : (up2 (up2 (up2 (up2 (up2 (up2 (up2 (up2 (up2 (up2 I (28 + 2 * k) 0 x) (28 + 2 * k) 1 v) (28 + 2 * k) 2 c) (28 + 2 * k) 3 y) (28 + 2 * k) 4 (nI 0)) (28 + 2 * k + 1) 0 (nI 0)) (28 + 2 * k + 1) 1 (nI 0)) (28 + 2 * k + 1) 2 (nI 0)) (28 + 2 * k + 1) 3 (nI 0)) 22 5 (nI (k + 1))) 124 = I 124 := by simp (disch := omega) only [up2_row]
              have c0 : (up2 (up2 (up2 (up2 (up2 (up2 (up2 (up2 (up2 (up2 I (28 + 2 * k) 0 x) (28 + 2 * k) 1 v) (28 + 2 * k) 2 c) (28 + 2 * k) 3 y) (28 + 2 * k) 4 (nI 0)) (28 + 2 * k + 1) 0 (nI 0)) (28 + 2 * k + 1) 1 (nI 0)) (28 + 2 * k + 1) 2 (nI 0)) (28 + 2 * k + 1) 3 (nI 0)) 22 5 (nI (k + 1))) (28 + 2 * k) 0 = x := by simp (disch := omega) only [up2_no, up2_eq]
              have c1 : (up2 (up2 (up2 (up2 (up2 (up2 (up2 (up2 (up2 (up2 I (28 + 2 * k) 0 x) (28 + 2 * k) 1 v) (28 + 2 * k) 2 c) (28 + 2 * k) 3 y) (28 + 2 * k) 4 (nI 0)) (28 + 2 * k + 1) 0 (nI 0)) (28 + 2 * k + 1) 1 (nI 0)) (28 + 2 * k + 1) 2 (nI 0)) (28 + 2 * k + 1) 3 (nI 0)) 22 5 (nI (k + 1))) (28 + 2 * k) 1 = v := by simp (disch := omega) only [up2_no, up2_eq]
              have c2 : (up2 (up2 (up2 (up2 (up2 (up2 (up2 (up2 (up2 (up2 I (28 + 2 * k) 0 x) (28 + 2 * k) 1 v) (28 + 2 * k) 2 c) (28 + 2 * k) 3 y) (28 + 2 * k) 4 (nI 0)) (28 + 2 * k + 1) 0 (nI 0)) (28 + 2 * k + 1) 1 (nI 0)) (28 + 2 * k + 1) 2 (nI 0)) (28 + 2 * k + 1) 3 (nI 0)) 22 5 (nI (k + 1))) (28 + 2 * k) 2 = c := by simp (disch := omega) only [up2_no, up2_eq]
              have c3 : (up2 (up2 (up2 (up2 (up2 (up2 (up2 (up2 (up2 (up2 I (28 + 2 * k) 0 x) (28 + 2 * k) 1 v) (28 + 2 * k) 2 c) (28 + 2 * k) 3 y) (28 + 2 * k) 4 (nI 0)) (28 + 2 * k + 1) 0 (nI 0)) (28 + 2 * k + 1) 1 (nI 0)) (28 + 2 * k + 1) 2 (nI 0)) (28 + 2 * k + 1) 3 (nI 0)) 22 5 (nI (k + 1))) (28 + 2 * k) 3 = y := by simp (disch := omega) only [up2_no, up2_eq]
              have c4 : (up2 (up2 (up2 (up2 (up2 (up2 (up2 (up2 (up2 (up2 I (28 + 2 * k) 0 x) (28 + 2 * k) 1 v) (28 + 2 * k) 2 c) (28 + 2 * k) 3 y) (28 + 2 * k) 4 (nI 0)) (28 + 2 * k + 1) 0 (nI 0)) (28 + 2 * k + 1) 1 (nI 0)) (28 + 2 * k + 1) 2 (nI 0)) (28 + 2 * k + 1) 3 (nI 0)) 22 5 (nI (k + 1))) (28 + 2 * k) 4 = nI 0 := by simp (disch := omega) only [up2_no, up2_eq]
              have c5 : (up2 (up2 (up2 (up2 (up2 (up2 (up2 (up2 (up2 (up2 I (28 + 2 * k) 0 x) (28 + 2 * k) 1 v) (28 + 2 * k) 2 c) (28 + 2 * k) 3 y) (28 + 2 * k) 4 (nI 0)) (28 + 2 * k + 1) 0 (nI 0)) (28 + 2 * k + 1) 1 (nI 0)) (28 + 2 * k + 1) 2 (nI 0)) (28 + 2 * k + 1) 3 (nI 0)) 22 5 (nI (k + 1))) 22 5 = nI (k + 1) := up2_eq _ _ _ _
              have cr : ∀ w, w < 4 → (up2 (up2 (up2 (up2 (up2 (up2 (up2 (up2 (up2 (up2 I (28 + 2 * k) 0 x) (28 + 2 * k) 1 v) (28 + 2 * k) 2 c) (28 + 2 * k) 3 y) (28 + 2 * k) 4 (nI 0)) (28 + 2 * k + 1) 0 (nI 0)) (28 + 2 * k + 1) 1 (nI 0)) (28 + 2 * k + 1) 2 (nI 0)) (28 + 2 * k + 1) 3 (nI 0)) 22 5 (nI (k + 1))) (29 + 2 * k) w = nI 0 := by
                intro w hw
                rw [show 29 + 2 * k = 28 + 2 * k + 1 by omega]
                have hw4 : w = 0 ∨ w = 1 ∨ w = 2 ∨ w = 3 := by omega
                rcases hw4 with rfl | rfl | rfl | rfl
                · simp (disch := omega) only [up2_no, up2_eq]
                · simp (disch := omega) only [up2_no, up2_eq]
                · simp (disch := omega) only [up2_no, up2_eq]
                · simp (disch := omega) only [up2_no, up2_eq]
              generalize (up2 (up2 (up2 (up2 (up2 (up2 (up2 (up2 (up2 (up2 I (28 + 2 * k) 0 x) (28 + 2 * k) 1 v) (28 + 2 * k) 2 c) (28 + 2 * k) 3 y) (28 + 2 * k) 4 (nI 0)) (28 + 2 * k + 1) 0 (nI 0)) (28 + 2 * k + 1) 1 (nI 0)) (28 + 2 * k + 1) 2 (nI 0)) (28 + 2 * k + 1) 3 (nI 0)) 22 5 (nI (k + 1))) = I1 at hcl h124 c0 c1 c2 c3 c4 c5 cr ⊢
              have e80 : I1 124 80 = nI k := by rw [h124]; exact h80
              apply e131
              have loop : ∀ ca sa, WP G 131 d Q2 65 [some (.ref 123), some (.int x), some (.int v), some (.int c), some (.int y), some (.int (nI k)), some (.int (nI 0))] [] ca sa n sh I1 L P := by
                intro ca sa
                refine goose_L hF hk6 (by omega) (fun I2 he hz2 ca sa => ?_) 9 0 I1 ca sa (by omega) Eo.rf (fun w hw => by omega)
                have e82 : I2 124 80 = nI k := (he _ _ (by unfold hM; omega)).trans e80
                have hD : IW n sh (up2 (up2 (up2 (up2 (up2 I2 124 (26 + 9 * k) x) 124 (26 + 9 * k + 1) v) 124 (26 + 9 * k + 2) c) 124 (26 + 9 * k + 3) y) 124 80 (nI (k + 1))) L P F E (k + 1) g r := by
                  have q2 : ∀ a j, ¬ a = 124 → I2 a j = I1 a j := fun a j q => he a j fun w => q w.1
                  have q3 : ∀ a j, ¬ a = 124 → (up2 (up2 (up2 (up2 (up2 I2 124 (26 + 9 * k) x) 124 (26 + 9 * k + 1) v) 124 (26 + 9 * k + 2) c) 124 (26 + 9 * k + 3) y) 124 80 (nI (k + 1))) a j = I1 a j := fun a j q => by
                    rw [up2_no _ _ _ _ _ _ (fun w => q w.1), up2_no _ _ _ _ _ _ (fun w => q w.1), up2_no _ _ _ _ _ _ (fun w => q w.1), up2_no _ _ _ _ _ _ (fun w => q w.1), up2_no _ _ _ _ _ _ (fun w => q w.1)]
                    exact q2 a j q
                  refine hI.gooseu hk6 (by omega) hvv hcc (keyB_of hy) ?_ ((q3 _ _ (by omega)).trans (c0.trans ex)) ((q3 _ _ (by omega)).trans (c1.trans ev)) ((q3 _ _ (by omega)).trans (c2.trans ec)) ((q3 _ _ (by omega)).trans c3) ((q3 _ _ (by omega)).trans c4) (fun w hw => (q3 _ _ (by omega)).trans (cr w hw)) ((q3 _ _ (by omega)).trans c5) ?_ ?_ ?_ ?_ (fun w hw4 hw9 => ?_) (up2_eq _ _ _ _)
                  · exact (((((hcl.tr (he.mono fun a j w => by unfold hM at w; unfold hS; omega)).up (by unfold hS; omega) _).up (by unfold hS; omega) _).up (by unfold hS; omega) _).up (by unfold hS; omega) _).up (by unfold hS; omega) _
                  · rw [gsS, ← ex]; simp (disch := omega) only [Nat.add_zero, up2_no, up2_eq]
                  · rw [gsS, ← ev]; simp (disch := omega) only [up2_no, up2_eq]
                  · rw [gsS, ← ec]; simp (disch := omega) only [up2_no, up2_eq]
                  · rw [gsS]; simp (disch := omega) only [up2_no, up2_eq]
                  · rw [gsS]
                    simp (disch := omega) only [up2_no]
                    exact hz2 w hw9
                have h2 := h2 _ _ _ _ _ ⟨F, E, k + 1, g, r, hD⟩
                clear hD
                (apply WP_runI (lv := lvM) LM_ok 999 80; simp (disch := first | decide | omega) only [t131_0, t131_1, t131_2, lift_c, o_iload1, o_inl, o_stat3, rpush_n, rpush_s, o_ifeq, o_iload3, o_stat1, o_iload4, o_ifne, o_ireturn, o_iload2, o_aload0, o_getref, o_iaload, o_istore, s1_0, s1_s, o_iload5, o_icne, o_iload6, o_icge, o_imul, o_iadd, o_iastore, o_iinc6, o_goto, o_dup2, z0, z1, z2, z3, z4, z6, z8, z9, z20, z26, z31, z80, runI_0, runI_c, runI_n, liftI_n, liftI_y, run_0, run_c, run_n, fxn, fxi, fxr, fxl, fxl0, ↓swi_n, ↓swi_c, nck0, nck1, nck2, nck3, List.length_cons, List.length_nil, Nat.reduceAdd, Nat.reduceSub, Nat.reduceLeDiff, Nat.reduceEqDiff, Nat.reduceLT, reduceIte, ite_true, ite_false, Nat.sub_zero, Nat.zero_le, true_and, and_true, and_self, true_or, or_true, if_true, if_false, true_implies, implies_true, not_true_eq_false, not_false_eq_true, false_implies, forall_const, ne_eq, or_self, and_false, false_and, Lt, Le, Eq', Cp, In, nI_add, nI_mul, nI_sub, nI_sub1, Neg0, bI_eq0, bI_eq1, bI_01, bft, up2_eq, up2_no, Bool.true_eq_false, Bool.false_eq_true, eq_self, m1_ne, m1_ne2, m1_lt, m1_le, lt_m1, m1_le2, bI_t, bI_f, LM_all hF, FMu hF, n124, e82, hd0])
                exact h2
              (apply WP_runI (lv := lvM) LM_ok 65 60; simp (disch := first | decide | omega) only [t131_0, t131_1, t131_2, lift_c, o_iload1, o_inl, o_stat3, rpush_n, rpush_s, o_ifeq, o_iload3, o_stat1, o_iload4, o_ifne, o_ireturn, o_iload2, o_aload0, o_getref, o_iaload, o_istore, s1_0, s1_s, o_iload5, o_icne, o_iload6, o_icge, o_imul, o_iadd, o_iastore, o_iinc6, o_goto, o_dup2, z0, z1, z2, z3, z4, z6, z8, z9, z20, z26, z31, z80, runI_0, runI_c, runI_n, liftI_n, liftI_y, run_0, run_c, run_n, fxn, fxi, fxr, fxl, fxl0, ↓swi_n, ↓swi_c, nck0, nck1, nck2, nck3, List.length_cons, List.length_nil, Nat.reduceAdd, Nat.reduceSub, Nat.reduceLeDiff, Nat.reduceEqDiff, Nat.reduceLT, reduceIte, ite_true, ite_false, Nat.sub_zero, Nat.zero_le, true_and, and_true, and_self, true_or, or_true, if_true, if_false, true_implies, implies_true, not_true_eq_false, not_false_eq_true, false_implies, forall_const, ne_eq, or_self, and_false, false_and, Lt, Le, Eq', Cp, In, nI_add, nI_mul, nI_sub, nI_sub1, Neg0, bI_eq0, bI_eq1, bI_01, bft, up2_eq, up2_no, Bool.true_eq_false, Bool.false_eq_true, eq_self, m1_ne, m1_ne2, m1_lt, m1_le, lt_m1, m1_le2, bI_t, bI_f, LM_all hF, FMu hF, hx2, hc, hkb, hv2, e80, hz, hd0])
              exact loop _ _
            clear hcl
            obtain ⟨-, -, -, -, -, -, -, -, -, -, -, f1, f2, f3, f4⟩ := FYu hY22
            have g1 := f1 k hk6
            have g2 : sh (28 + 2 * k) = (3, 6) := f2 k hk6
            have g3 : sh (28 + 2 * k + 1) = (100, 4) := by
              have := f3 k hk6
              rw [show 22 + 7 + 2 * k = 28 + 2 * k + 1 by omega] at this
              exact this
            have g4 : P (28 + 2 * k) 5 = 28 + 2 * k + 1 := by
              have := f4 k hk6
              rw [show 22 + 7 + 2 * k = 28 + 2 * k + 1 by omega] at this
              exact this
            (apply WP_runI (lv := lvK) (F := LK) LK_ok 999 80; simp (disch := first | decide | omega) only [t67_0, t67_1, lift_c, o_aload0, o_getref, o_astore, s1_0, s1_s, o_iload1, o_stat1, rpush_n, rpush_s, o_ifeq, o_iload3, o_iload4, o_ifne, o_inl, o_ireturn, o_iload2, o_iflt, o_icle, o_aload5, o_getfield, o_icne, o_aaload, o_virt5, o_dupi, o_dupr, o_iadd, o_putfield, o_isub, z0, z1, z2, z4, z6, z9, z20, z31, runI_0, runI_c, runI_n, liftI_n, liftI_y, run_0, run_c, run_n, fxn, fxi, fxr, fxl, fxl0, ↓swi_n, ↓swi_c, nck0, nck1, nck2, nck3, List.length_cons, List.length_nil, Nat.reduceAdd, Nat.reduceSub, Nat.reduceLeDiff, Nat.reduceEqDiff, Nat.reduceLT, reduceIte, ite_true, ite_false, Nat.sub_zero, Nat.zero_le, true_and, and_true, and_self, true_or, or_true, if_true, if_false, true_implies, implies_true, not_true_eq_false, not_false_eq_true, false_implies, forall_const, ne_eq, or_self, and_false, false_and, Lt, Le, Eq', Cp, In, nI_add, nI_mul, nI_sub, nI_sub1, Neg0, bI_eq0, bI_eq1, bI_01, bft, up2_eq, up2_no, Bool.true_eq_false, Bool.false_eq_true, eq_self, m1_ne, m1_ne2, m1_lt, m1_le, lt_m1, m1_le2, bI_t, bI_f, LK_st, FGu hG, LK_g hG h22 hs2, FY22u hY22, hx, hc, hy, hv3, hv4, h5, hz, hd0])
            refine hatch_K g2 g3 g4 (by omega) ?_
            (apply WP_runI (lv := lvK) (F := LK) LK_ok 999 40; simp (disch := first | decide | omega) only [t67_0, t67_1, lift_c, o_aload0, o_getref, o_astore, s1_0, s1_s, o_iload1, o_stat1, rpush_n, rpush_s, o_ifeq, o_iload3, o_iload4, o_ifne, o_inl, o_ireturn, o_iload2, o_iflt, o_icle, o_aload5, o_getfield, o_icne, o_aaload, o_virt5, o_dupi, o_dupr, o_iadd, o_putfield, o_isub, z0, z1, z2, z4, z6, z9, z20, z31, runI_0, runI_c, runI_n, liftI_n, liftI_y, run_0, run_c, run_n, fxn, fxi, fxr, fxl, fxl0, ↓swi_n, ↓swi_c, nck0, nck1, nck2, nck3, List.length_cons, List.length_nil, Nat.reduceAdd, Nat.reduceSub, Nat.reduceLeDiff, Nat.reduceEqDiff, Nat.reduceLT, reduceIte, ite_true, ite_false, Nat.sub_zero, Nat.zero_le, true_and, and_true, and_self, true_or, or_true, if_true, if_false, true_implies, implies_true, not_true_eq_false, not_false_eq_true, false_implies, forall_const, ne_eq, or_self, and_false, false_and, Lt, Le, Eq', Cp, In, nI_add, nI_mul, nI_sub, nI_sub1, Neg0, bI_eq0, bI_eq1, bI_01, bft, up2_eq, up2_no, Bool.true_eq_false, Bool.false_eq_true, eq_self, m1_ne, m1_ne2, m1_lt, m1_le, lt_m1, m1_le2, bI_t, bI_f, LK_st, FGu hG, LK_g hG h22 hs2, FY22u hY22, h5, n22, Nat.add_sub_cancel, hd0])
            exact good
end
