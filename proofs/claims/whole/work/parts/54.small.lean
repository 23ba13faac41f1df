/-! ### a yard's small methods -/
section
variable {G : GE} {d n : Nat} {sh : TS} {I : TI} {L : TL} {P : TP} {Q : TQ} {b : Nat} {N : TN} {F : TF} {E : Nat → Int32} {k g r : Nat}
theorem isEnd_Y (hD : YD sh I P b N F E k g) (hW : WF N k g r) {x : Int32} {c : Nat} (hQ : Q (some (.int (bI (endB N x c)))) n sh I L P) : Cl G d 56 [.ref b, .int x, .int (nI c)] n sh I L P Q := by
  apply e56
  have hY := hD.y
  have h3 := hD.gates
  have hg := hW.g9
  by_cases h1 : x < nI 0
  · rw [show endB N x c = false by unfold endB; rw [decide_eq_false fun q => absurd q.1 (Int32.not_le.mpr h1)]; rfl] at hQ
    (apply WP_runI (lv := lvK) (F := LK) LK_ok 999 80; simp (disch := first | decide | omega) only [t56_0, lift_c, o_iload1, o_iflt, o_aload0, o_getfield, o_icge, o_getref, o_iaload, o_iload2, o_iceq, o_icne, o_inl, o_goto, o_ireturn, z0, z1, z2, z20, z31, runI_0, runI_c, runI_n, liftI_n, liftI_y, run_0, run_c, run_n, fxn, fxi, fxr, fxl, fxl0, ↓swi_n, ↓swi_c, nck0, nck1, nck2, nck3, List.length_cons, List.length_nil, Nat.reduceAdd, Nat.reduceSub, Nat.reduceLeDiff, Nat.reduceEqDiff, Nat.reduceLT, reduceIte, ite_true, ite_false, Nat.sub_zero, Nat.zero_le, true_and, and_true, and_self, true_or, or_true, if_true, if_false, true_implies, implies_true, not_true_eq_false, not_false_eq_true, false_implies, forall_const, ne_eq, or_self, and_false, false_and, Lt, Le, Eq', Cp, In, nI_add, nI_mul, nI_sub, nI_sub1, Neg0, bI_eq0, bI_eq1, bI_01, bft, up2_eq, up2_no, Bool.true_eq_false, Bool.false_eq_true, eq_self, m1_ne, m1_ne2, m1_lt, m1_le, lt_m1, m1_le2, bI_t, bI_f, LK_st, FYu hY, h3, h1])
    exact hQ
  · obtain ⟨j, hj, rfl⟩ := nI_of h1
    by_cases h2 : g ≤ j
    · rw [show endB N (nI j) c = false by unfold endB; rw [hW.n81, decide_eq_false fun q => by have := q.2; rw [Lt _ _ (by omega) (by omega)] at this; omega]; rfl] at hQ
      (apply WP_runI (lv := lvK) (F := LK) LK_ok 999 80; simp (disch := first | decide | omega) only [t56_0, lift_c, o_iload1, o_iflt, o_aload0, o_getfield, o_icge, o_getref, o_iaload, o_iload2, o_iceq, o_icne, o_inl, o_goto, o_ireturn, z0, z1, z2, z20, z31, runI_0, runI_c, runI_n, liftI_n, liftI_y, run_0, run_c, run_n, fxn, fxi, fxr, fxl, fxl0, ↓swi_n, ↓swi_c, nck0, nck1, nck2, nck3, List.length_cons, List.length_nil, Nat.reduceAdd, Nat.reduceSub, Nat.reduceLeDiff, Nat.reduceEqDiff, Nat.reduceLT, reduceIte, ite_true, ite_false, Nat.sub_zero, Nat.zero_le, true_and, and_true, and_self, true_or, or_true, if_true, if_false, true_implies, implies_true, not_true_eq_false, not_false_eq_true, false_implies, forall_const, ne_eq, or_self, and_false, false_and, Lt, Le, Eq', Cp, In, nI_add, nI_mul, nI_sub, nI_sub1, Neg0, bI_eq0, bI_eq1, bI_01, bft, up2_eq, up2_no, Bool.true_eq_false, Bool.false_eq_true, eq_self, m1_ne, m1_ne2, m1_lt, m1_le, lt_m1, m1_le2, bI_t, bI_f, LK_st, FYu hY, h3, h2, Nat.not_lt_zero])
      exact hQ
    · have e1 := hD.one j (by omega)
      have e2 := hD.other j (by omega)
      have hj9 : j < 9 := by omega
      have e : endB N (nI j) c = (decide (ed N j 0 = nI c) || decide (ed N j 1 = nI c)) := by
        unfold endB
        rw [hW.n81, decide_eq_true ⟨by rw [Le _ _ (by omega) (by omega)]; omega, by rw [Lt _ _ (by omega) (by omega)]; omega⟩, Cp _ (by omega)]
        rfl
      rw [e] at hQ
      by_cases e3 : ed N j 0 = nI c
      · rw [decide_eq_true e3] at hQ
        (apply WP_runI (lv := lvK) (F := LK) LK_ok 999 80; simp (disch := first | decide | omega) only [t56_0, lift_c, o_iload1, o_iflt, o_aload0, o_getfield, o_icge, o_getref, o_iaload, o_iload2, o_iceq, o_icne, o_inl, o_goto, o_ireturn, z0, z1, z2, z20, z31, runI_0, runI_c, runI_n, liftI_n, liftI_y, run_0, run_c, run_n, fxn, fxi, fxr, fxl, fxl0, ↓swi_n, ↓swi_c, nck0, nck1, nck2, nck3, List.length_cons, List.length_nil, Nat.reduceAdd, Nat.reduceSub, Nat.reduceLeDiff, Nat.reduceEqDiff, Nat.reduceLT, reduceIte, ite_true, ite_false, Nat.sub_zero, Nat.zero_le, true_and, and_true, and_self, true_or, or_true, if_true, if_false, true_implies, implies_true, not_true_eq_false, not_false_eq_true, false_implies, forall_const, ne_eq, or_self, and_false, false_and, Lt, Le, Eq', Cp, In, nI_add, nI_mul, nI_sub, nI_sub1, Neg0, bI_eq0, bI_eq1, bI_01, bft, up2_eq, up2_no, Bool.true_eq_false, Bool.false_eq_true, eq_self, m1_ne, m1_ne2, m1_lt, m1_le, lt_m1, m1_le2, bI_t, bI_f, LK_st, FYu hY, h3, h2, e1, e2, e3, Nat.not_lt_zero])
        exact hQ
      · by_cases e4 : ed N j 1 = nI c
        · rw [decide_eq_false e3, decide_eq_true e4] at hQ
          (apply WP_runI (lv := lvK) (F := LK) LK_ok 999 80; simp (disch := first | decide | omega) only [t56_0, lift_c, o_iload1, o_iflt, o_aload0, o_getfield, o_icge, o_getref, o_iaload, o_iload2, o_iceq, o_icne, o_inl, o_goto, o_ireturn, z0, z1, z2, z20, z31, runI_0, runI_c, runI_n, liftI_n, liftI_y, run_0, run_c, run_n, fxn, fxi, fxr, fxl, fxl0, ↓swi_n, ↓swi_c, nck0, nck1, nck2, nck3, List.length_cons, List.length_nil, Nat.reduceAdd, Nat.reduceSub, Nat.reduceLeDiff, Nat.reduceEqDiff, Nat.reduceLT, reduceIte, ite_true, ite_false, Nat.sub_zero, Nat.zero_le, true_and, and_true, and_self, true_or, or_true, if_true, if_false, true_implies, implies_true, not_true_eq_false, not_false_eq_true, false_implies, forall_const, ne_eq, or_self, and_false, false_and, Lt, Le, Eq', Cp, In, nI_add, nI_mul, nI_sub, nI_sub1, Neg0, bI_eq0, bI_eq1, bI_01, bft, up2_eq, up2_no, Bool.true_eq_false, Bool.false_eq_true, eq_self, m1_ne, m1_ne2, m1_lt, m1_le, lt_m1, m1_le2, bI_t, bI_f, LK_st, FYu hY, h3, h2, e1, e2, e3, e4, Nat.not_lt_zero])
          exact hQ
        · rw [decide_eq_false e3, decide_eq_false e4] at hQ
          (apply WP_runI (lv := lvK) (F := LK) LK_ok 999 80; simp (disch := first | decide | omega) only [t56_0, lift_c, o_iload1, o_iflt, o_aload0, o_getfield, o_icge, o_getref, o_iaload, o_iload2, o_iceq, o_icne, o_inl, o_goto, o_ireturn, z0, z1, z2, z20, z31, runI_0, runI_c, runI_n, liftI_n, liftI_y, run_0, run_c, run_n, fxn, fxi, fxr, fxl, fxl0, ↓swi_n, ↓swi_c, nck0, nck1, nck2, nck3, List.length_cons, List.length_nil, Nat.reduceAdd, Nat.reduceSub, Nat.reduceLeDiff, Nat.reduceEqDiff, Nat.reduceLT, reduceIte, ite_true, ite_false, Nat.sub_zero, Nat.zero_le, true_and, and_true, and_self, true_or, or_true, if_true, if_false, true_implies, implies_true, not_true_eq_false, not_false_eq_true, false_implies, forall_const, ne_eq, or_self, and_false, false_and, Lt, Le, Eq', Cp, In, nI_add, nI_mul, nI_sub, nI_sub1, Neg0, bI_eq0, bI_eq1, bI_01, bft, up2_eq, up2_no, Bool.true_eq_false, Bool.false_eq_true, eq_self, m1_ne, m1_ne2, m1_lt, m1_le, lt_m1, m1_le2, bI_t, bI_f, LK_st, FYu hY, h3, h2, e1, e2, e3, e4, Nat.not_lt_zero])
          exact hQ
theorem isOther_Y (hD : YD sh I P b N F E k g) (hW : WF N k g r) {i c : Nat} (hi : i < k) (hc : c < 8) (hQ : Q (some (.int (bI (anoth N i c k)))) n sh I L P) : Cl G d 59 [.ref b, .int (nI i), .int (nI c)] n sh I L P Q := by
  apply e59
  have hY := hD.y
  have h5 := hD.count
  have hk := hW.k6
  have more : ∀ m j, anoth N i c j = true → anoth N i c (j + m) = true := by
    intro m j h
    induction m with
    | zero => exact h
    | succ m ih =>
      show (anoth N i c (j + m) || _) = true
      rw [ih]
      rfl
  have loop : ∀ m j cc ss, j + m = k → anoth N i c j = false → WP G 59 d Q 2 [some (.ref b), some (.int (nI i)), some (.int (nI c)), some (.int (nI j))] [] cc ss n sh I L P := by
    intro m
    induction m with
    | zero =>
      intro j cc ss h ha
      have hj : j = k := by omega
      subst hj
      rw [ha] at hQ
      (apply WP_runI (lv := lvK) (F := LK) LK_ok 2 80; simp (disch := first | decide | omega) only [t59_0, lift_c, o_inl, o_istore, s1_0, s1_s, o_iload3, o_aload0, o_getfield, o_icge, o_iload1, o_iceq, o_getref, o_aaload, o_ifne, o_iload2, o_icne, o_ireturn, o_iinc3, o_goto, z0, z1, z2, z20, z31, runI_0, runI_c, runI_n, liftI_n, liftI_y, run_0, run_c, run_n, fxn, fxi, fxr, fxl, fxl0, ↓swi_n, ↓swi_c, nck0, nck1, nck2, nck3, List.length_cons, List.length_nil, Nat.reduceAdd, Nat.reduceSub, Nat.reduceLeDiff, Nat.reduceEqDiff, Nat.reduceLT, reduceIte, ite_true, ite_false, Nat.sub_zero, Nat.zero_le, true_and, and_true, and_self, true_or, or_true, if_true, if_false, true_implies, implies_true, not_true_eq_false, not_false_eq_true, false_implies, forall_const, ne_eq, or_self, and_false, false_and, Lt, Le, Eq', Cp, In, nI_add, nI_mul, nI_sub, nI_sub1, Neg0, bI_eq0, bI_eq1, bI_01, bft, up2_eq, up2_no, Bool.true_eq_false, Bool.false_eq_true, eq_self, m1_ne, m1_ne2, m1_lt, m1_le, lt_m1, m1_le2, bI_t, bI_f, LK_st, FYu hY, h5, Nat.le_refl])
      exact hQ
    | succ m ih =>
      intro j cc ss h ha
      have hj : ¬ k ≤ j := by omega
      have hjk : j < k := by omega
      have t4 := hD.geese j 4 hjk (by omega)
      have t2 := hD.geese j 2 hjk (by omega)
      have hs := anoth_s N i c j
      rw [ha, Bool.false_or] at hs
      have ih := fun cc ss => ih (j + 1) cc ss (by omega)
      by_cases hji : j = i
      · have ih := fun cc ss => ih cc ss (by rw [hs, decide_eq_true hji]; rfl)
        have hi2 : ¬ k ≤ i := by omega
        rw [hji] at ih
        (apply WP_runI (lv := lvK) (F := LK) LK_ok 2 80; simp (disch := first | decide | omega) only [t59_0, lift_c, o_inl, o_istore, s1_0, s1_s, o_iload3, o_aload0, o_getfield, o_icge, o_iload1, o_iceq, o_getref, o_aaload, o_ifne, o_iload2, o_icne, o_ireturn, o_iinc3, o_goto, z0, z1, z2, z20, z31, runI_0, runI_c, runI_n, liftI_n, liftI_y, run_0, run_c, run_n, fxn, fxi, fxr, fxl, fxl0, ↓swi_n, ↓swi_c, nck0, nck1, nck2, nck3, List.length_cons, List.length_nil, Nat.reduceAdd, Nat.reduceSub, Nat.reduceLeDiff, Nat.reduceEqDiff, Nat.reduceLT, reduceIte, ite_true, ite_false, Nat.sub_zero, Nat.zero_le, true_and, and_true, and_self, true_or, or_true, if_true, if_false, true_implies, implies_true, not_true_eq_false, not_false_eq_true, false_implies, forall_const, ne_eq, or_self, and_false, false_and, Lt, Le, Eq', Cp, In, nI_add, nI_mul, nI_sub, nI_sub1, Neg0, bI_eq0, bI_eq1, bI_01, bft, up2_eq, up2_no, Bool.true_eq_false, Bool.false_eq_true, eq_self, m1_ne, m1_ne2, m1_lt, m1_le, lt_m1, m1_le2, bI_t, bI_f, LK_st, FYu hY, h5, hj, hji, hi2])
        exact ih _ _
      · rcases hW.taken hjk with e | e
        · have htk : tkn N j = false := decide_eq_false (by rw [e]; decide)
          by_cases hcc : gs N j 2 = nI c
          · have ha2 : anoth N i c (j + 1) = true := by rw [hs, decide_eq_false hji, htk, decide_eq_true hcc]; rfl
            have h3 := more (k - (j + 1)) (j + 1) ha2
            rw [show j + 1 + (k - (j + 1)) = k by omega] at h3
            rw [h3] at hQ
            (apply WP_runI (lv := lvK) (F := LK) LK_ok 2 80; simp (disch := first | decide | omega) only [t59_0, lift_c, o_inl, o_istore, s1_0, s1_s, o_iload3, o_aload0, o_getfield, o_icge, o_iload1, o_iceq, o_getref, o_aaload, o_ifne, o_iload2, o_icne, o_ireturn, o_iinc3, o_goto, z0, z1, z2, z20, z31, runI_0, runI_c, runI_n, liftI_n, liftI_y, run_0, run_c, run_n, fxn, fxi, fxr, fxl, fxl0, ↓swi_n, ↓swi_c, nck0, nck1, nck2, nck3, List.length_cons, List.length_nil, Nat.reduceAdd, Nat.reduceSub, Nat.reduceLeDiff, Nat.reduceEqDiff, Nat.reduceLT, reduceIte, ite_true, ite_false, Nat.sub_zero, Nat.zero_le, true_and, and_true, and_self, true_or, or_true, if_true, if_false, true_implies, implies_true, not_true_eq_false, not_false_eq_true, false_implies, forall_const, ne_eq, or_self, and_false, false_and, Lt, Le, Eq', Cp, In, nI_add, nI_mul, nI_sub, nI_sub1, Neg0, bI_eq0, bI_eq1, bI_01, bft, up2_eq, up2_no, Bool.true_eq_false, Bool.false_eq_true, eq_self, m1_ne, m1_ne2, m1_lt, m1_le, lt_m1, m1_le2, bI_t, bI_f, LK_st, FYu hY, h5, hj, hji, t4, t2, e, hcc])
            exact hQ
          · have ih := fun cc ss => ih cc ss (by rw [hs, decide_eq_false hcc, Bool.and_false, Bool.and_false])
            (apply WP_runI (lv := lvK) (F := LK) LK_ok 2 80; simp (disch := first | decide | omega) only [t59_0, lift_c, o_inl, o_istore, s1_0, s1_s, o_iload3, o_aload0, o_getfield, o_icge, o_iload1, o_iceq, o_getref, o_aaload, o_ifne, o_iload2, o_icne, o_ireturn, o_iinc3, o_goto, z0, z1, z2, z20, z31, runI_0, runI_c, runI_n, liftI_n, liftI_y, run_0, run_c, run_n, fxn, fxi, fxr, fxl, fxl0, ↓swi_n, ↓swi_c, nck0, nck1, nck2, nck3, List.length_cons, List.length_nil, Nat.reduceAdd, Nat.reduceSub, Nat.reduceLeDiff, Nat.reduceEqDiff, Nat.reduceLT, reduceIte, ite_true, ite_false, Nat.sub_zero, Nat.zero_le, true_and, and_true, and_self, true_or, or_true, if_true, if_false, true_implies, implies_true, not_true_eq_false, not_false_eq_true, false_implies, forall_const, ne_eq, or_self, and_false, false_and, Lt, Le, Eq', Cp, In, nI_add, nI_mul, nI_sub, nI_sub1, Neg0, bI_eq0, bI_eq1, bI_01, bft, up2_eq, up2_no, Bool.true_eq_false, Bool.false_eq_true, eq_self, m1_ne, m1_ne2, m1_lt, m1_le, lt_m1, m1_le2, bI_t, bI_f, LK_st, FYu hY, h5, hj, hji, t4, t2, e, hcc])
            exact ih _ _
        · have htk : tkn N j = true := decide_eq_true e
          have ih := fun cc ss => ih cc ss (by rw [hs, htk]; simp)
          (apply WP_runI (lv := lvK) (F := LK) LK_ok 2 80; simp (disch := first | decide | omega) only [t59_0, lift_c, o_inl, o_istore, s1_0, s1_s, o_iload3, o_aload0, o_getfield, o_icge, o_iload1, o_iceq, o_getref, o_aaload, o_ifne, o_iload2, o_icne, o_ireturn, o_iinc3, o_goto, z0, z1, z2, z20, z31, runI_0, runI_c, runI_n, liftI_n, liftI_y, run_0, run_c, run_n, fxn, fxi, fxr, fxl, fxl0, ↓swi_n, ↓swi_c, nck0, nck1, nck2, nck3, List.length_cons, List.length_nil, Nat.reduceAdd, Nat.reduceSub, Nat.reduceLeDiff, Nat.reduceEqDiff, Nat.reduceLT, reduceIte, ite_true, ite_false, Nat.sub_zero, Nat.zero_le, true_and, and_true, and_self, true_or, or_true, if_true, if_false, true_implies, implies_true, not_true_eq_false, not_false_eq_true, false_implies, forall_const, ne_eq, or_self, and_false, false_and, Lt, Le, Eq', Cp, In, nI_add, nI_mul, nI_sub, nI_sub1, Neg0, bI_eq0, bI_eq1, bI_01, bft, up2_eq, up2_no, Bool.true_eq_false, Bool.false_eq_true, eq_self, m1_ne, m1_ne2, m1_lt, m1_le, lt_m1, m1_le2, bI_t, bI_f, LK_st, FYu hY, h5, hj, hji, t4, t2, e])
          exact ih _ _
  have loop := fun cc ss => loop k 0 cc ss (by omega) rfl
  (apply WP_runI (lv := lvK) (F := LK) LK_ok 2 80; simp (disch := first | decide | omega) only [t59_0, lift_c, o_inl, o_istore, s1_0, s1_s, o_iload3, o_aload0, o_getfield, o_icge, o_iload1, o_iceq, o_getref, o_aaload, o_ifne, o_iload2, o_icne, o_ireturn, o_iinc3, o_goto, z0, z1, z2, z20, z31, runI_0, runI_c, runI_n, liftI_n, liftI_y, run_0, run_c, run_n, fxn, fxi, fxr, fxl, fxl0, ↓swi_n, ↓swi_c, nck0, nck1, nck2, nck3, List.length_cons, List.length_nil, Nat.reduceAdd, Nat.reduceSub, Nat.reduceLeDiff, Nat.reduceEqDiff, Nat.reduceLT, reduceIte, ite_true, ite_false, Nat.sub_zero, Nat.zero_le, true_and, and_true, and_self, true_or, or_true, if_true, if_false, true_implies, implies_true, not_true_eq_false, not_false_eq_true, false_implies, forall_const, ne_eq, or_self, and_false, false_and, Lt, Le, Eq', Cp, In, nI_add, nI_mul, nI_sub, nI_sub1, Neg0, bI_eq0, bI_eq1, bI_01, bft, up2_eq, up2_no, Bool.true_eq_false, Bool.false_eq_true, eq_self, m1_ne, m1_ne2, m1_lt, m1_le, lt_m1, m1_le2, bI_t, bI_f, LK_st, FYu hY])
  exact loop _ _
theorem eaten_Y (hD : YD sh I P b N F E k g) (hW : WF N k g r) (hQ : Q (some (.int (E (rl N)))) n sh I L P) : Cl G d 53 [.ref b] n sh I L P Q := by
  apply e53
  have hY := hD.y
  have hh := hD.holds
  generalize hu : rl N = u at hh hQ
  rcases Nat.eq_zero_or_pos u with h0 | h0
  · obtain ⟨h1, h2, -⟩ := hh.1 h0
    rw [h0, h2] at hQ
    (apply WP_runI (lv := lvK) (F := LK) LK_ok 999 80; simp (disch := first | decide | omega) only [t53_0, lift_c, o_aload0, o_getref, o_ifnonnull, o_inl, o_goto, o_getfield, o_ireturn, z0, z1, z2, z20, z31, runI_0, runI_c, runI_n, liftI_n, liftI_y, run_0, run_c, run_n, fxn, fxi, fxr, fxl, fxl0, ↓swi_n, ↓swi_c, nck0, nck1, nck2, nck3, List.length_cons, List.length_nil, Nat.reduceAdd, Nat.reduceSub, Nat.reduceLeDiff, Nat.reduceEqDiff, Nat.reduceLT, reduceIte, ite_true, ite_false, Nat.sub_zero, Nat.zero_le, true_and, and_true, and_self, true_or, or_true, if_true, if_false, true_implies, implies_true, not_true_eq_false, not_false_eq_true, false_implies, forall_const, ne_eq, or_self, and_false, false_and, Lt, Le, Eq', Cp, In, nI_add, nI_mul, nI_sub, nI_sub1, Neg0, bI_eq0, bI_eq1, bI_01, bft, up2_eq, up2_no, Bool.true_eq_false, Bool.false_eq_true, eq_self, m1_ne, m1_ne2, m1_lt, m1_le, lt_m1, m1_le2, bI_t, bI_f, LK_st, FYu hY, h1, neq])
    exact hQ
  · obtain ⟨a, hf, -⟩ := hh.2 h0
    obtain ⟨f1, f2, f3, f4, f5, f6, f7, f8, f9, f10, f11, f12⟩ := hf
    generalize hq : P b 7 = q at f1 f2 f3 f4 f5 f6 f7 f8 f9 f10 f11 f12
    have n1 : ¬ q = 1 := by omega
    have n0 : ¬ q = 0 := by omega
    rw [← f11] at hQ
    (apply WP_runI (lv := lvK) (F := LK) LK_ok 999 80; simp (disch := first | decide | omega) only [t53_0, lift_c, o_aload0, o_getref, o_ifnonnull, o_inl, o_goto, o_getfield, o_ireturn, z0, z1, z2, z20, z31, runI_0, runI_c, runI_n, liftI_n, liftI_y, run_0, run_c, run_n, fxn, fxi, fxr, fxl, fxl0, ↓swi_n, ↓swi_c, nck0, nck1, nck2, nck3, List.length_cons, List.length_nil, Nat.reduceAdd, Nat.reduceSub, Nat.reduceLeDiff, Nat.reduceEqDiff, Nat.reduceLT, reduceIte, ite_true, ite_false, Nat.sub_zero, Nat.zero_le, true_and, and_true, and_self, true_or, or_true, if_true, if_false, true_implies, implies_true, not_true_eq_false, not_false_eq_true, false_implies, forall_const, ne_eq, or_self, and_false, false_and, Lt, Le, Eq', Cp, In, nI_add, nI_mul, nI_sub, nI_sub1, Neg0, bI_eq0, bI_eq1, bI_01, bft, up2_eq, up2_no, Bool.true_eq_false, Bool.false_eq_true, eq_self, m1_ne, m1_ne2, m1_lt, m1_le, lt_m1, m1_le2, bI_t, bI_f, LK_st, FYu hY, hq, f2, neq, n0, n1])
    exact hQ
theorem allGrain_Y (hD : YD sh I P b N F E k g) (hQ : Q (some (.int (grnS N))) n sh I L P) : Cl G d 54 [.ref b] n sh I L P Q := by
  apply e54
  have hY := hD.y
  have h : ∀ m j cc ss, j + m = 8 → WP G 54 d Q 4 [some (.ref b), some (.int (sumI N j)), some (.int (nI j))] [] cc ss n sh I L P := by
    intro m
    induction m with
    | zero =>
      intro j cc ss h
      have h : j = 8 := by omega
      subst h
      (apply WP_runI (lv := lvK) (F := LK) LK_ok 4 80; simp (disch := first | decide | omega) only [t54_0, lift_c, o_inl, o_istore, s1_0, s1_s, o_iload2, o_icge, o_iload1, o_aload0, o_getref, o_iaload, o_iadd, o_iinc2, o_goto, o_ireturn, z0, z1, z2, z8, z20, z31, runI_0, runI_c, runI_n, liftI_n, liftI_y, run_0, run_c, run_n, fxn, fxi, fxr, fxl, fxl0, ↓swi_n, ↓swi_c, nck0, nck1, nck2, nck3, List.length_cons, List.length_nil, Nat.reduceAdd, Nat.reduceSub, Nat.reduceLeDiff, Nat.reduceEqDiff, Nat.reduceLT, reduceIte, ite_true, ite_false, Nat.sub_zero, Nat.zero_le, true_and, and_true, and_self, true_or, or_true, if_true, if_false, true_implies, implies_true, not_true_eq_false, not_false_eq_true, false_implies, forall_const, ne_eq, or_self, and_false, false_and, Lt, Le, Eq', Cp, In, nI_add, nI_mul, nI_sub, nI_sub1, Neg0, bI_eq0, bI_eq1, bI_01, bft, up2_eq, up2_no, Bool.true_eq_false, Bool.false_eq_true, eq_self, m1_ne, m1_ne2, m1_lt, m1_le, lt_m1, m1_le2, bI_t, bI_f, LK_st, FYu hY, Nat.le_refl])
      exact hQ
    | succ m ih =>
      intro j cc ss h
      have hj2 : ¬ 8 ≤ j := by omega
      have hg := hD.grain j (by omega)
      have ih := ih (j + 1) cc ss (by omega)
      rw [show sumI N (j + 1) = sumI N j + N j from rfl] at ih
      (apply WP_runI (lv := lvK) (F := LK) LK_ok 4 80; simp (disch := first | decide | omega) only [t54_0, lift_c, o_inl, o_istore, s1_0, s1_s, o_iload2, o_icge, o_iload1, o_aload0, o_getref, o_iaload, o_iadd, o_iinc2, o_goto, o_ireturn, z0, z1, z2, z8, z20, z31, runI_0, runI_c, runI_n, liftI_n, liftI_y, run_0, run_c, run_n, fxn, fxi, fxr, fxl, fxl0, ↓swi_n, ↓swi_c, nck0, nck1, nck2, nck3, List.length_cons, List.length_nil, Nat.reduceAdd, Nat.reduceSub, Nat.reduceLeDiff, Nat.reduceEqDiff, Nat.reduceLT, reduceIte, ite_true, ite_false, Nat.sub_zero, Nat.zero_le, true_and, and_true, and_self, true_or, or_true, if_true, if_false, true_implies, implies_true, not_true_eq_false, not_false_eq_true, false_implies, forall_const, ne_eq, or_self, and_false, false_and, Lt, Le, Eq', Cp, In, nI_add, nI_mul, nI_sub, nI_sub1, Neg0, bI_eq0, bI_eq1, bI_01, bft, up2_eq, up2_no, Bool.true_eq_false, Bool.false_eq_true, eq_self, m1_ne, m1_ne2, m1_lt, m1_le, lt_m1, m1_le2, bI_t, bI_f, LK_st, FYu hY, hj2, hg])
      exact ih
  have h := h 8 0 0 0 (by omega)
  (apply WP_runI (lv := lvK) (F := LK) LK_ok 4 80; simp (disch := first | decide | omega) only [t54_0, lift_c, o_inl, o_istore, s1_0, s1_s, o_iload2, o_icge, o_iload1, o_aload0, o_getref, o_iaload, o_iadd, o_iinc2, o_goto, o_ireturn, z0, z1, z2, z8, z20, z31, runI_0, runI_c, runI_n, liftI_n, liftI_y, run_0, run_c, run_n, fxn, fxi, fxr, fxl, fxl0, ↓swi_n, ↓swi_c, nck0, nck1, nck2, nck3, List.length_cons, List.length_nil, Nat.reduceAdd, Nat.reduceSub, Nat.reduceLeDiff, Nat.reduceEqDiff, Nat.reduceLT, reduceIte, ite_true, ite_false, Nat.sub_zero, Nat.zero_le, true_and, and_true, and_self, true_or, or_true, if_true, if_false, true_implies, implies_true, not_true_eq_false, not_false_eq_true, false_implies, forall_const, ne_eq, or_self, and_false, false_and, Lt, Le, Eq', Cp, In, nI_add, nI_mul, nI_sub, nI_sub1, Neg0, bI_eq0, bI_eq1, bI_01, bft, up2_eq, up2_no, Bool.true_eq_false, Bool.false_eq_true, eq_self, m1_ne, m1_ne2, m1_lt, m1_le, lt_m1, m1_le2, bI_t, bI_f, LK_st, FYu hY])
  exact h
theorem addGrain_Y (hY : FY sh P b) (hb : 20 ≤ b) (hd : 1 ≤ d) {c : Nat} {z : Int32} (hc : c < 8) (hQ : Q none n sh (up2 I (b + 1) c (mnS (I (b + 1) c + z))) L P) : Cl G d 55 [.ref b, .int (nI c), .int z] n sh I L P Q := by
  apply e55
  unfold mnS at hQ
  have h20 : nle 20 (b + 1) := by show 20 ≤ b + 1; omega
  have hd0 : 0 < d := by omega
  generalize hv : I (b + 1) c + z = v at hQ
  (apply WP_runI (lv := lvK) (F := LK) LK_ok 999 80; simp (disch := first | decide | omega) only [t55_0, lift_c, o_aload0, o_getref, o_iload1, o_inl, o_iaload, o_iload2, o_iadd, o_fsub, o_iastore, o_return, z0, z1, z2, z20, z31, z99, runI_0, runI_c, runI_n, liftI_n, liftI_y, run_0, run_c, run_n, fxn, fxi, fxr, fxl, fxl0, ↓swi_n, ↓swi_c, nck0, nck1, nck2, nck3, List.length_cons, List.length_nil, Nat.reduceAdd, Nat.reduceSub, Nat.reduceLeDiff, Nat.reduceEqDiff, Nat.reduceLT, reduceIte, ite_true, ite_false, Nat.sub_zero, Nat.zero_le, true_and, and_true, and_self, true_or, or_true, if_true, if_false, true_implies, implies_true, not_true_eq_false, not_false_eq_true, false_implies, forall_const, ne_eq, or_self, and_false, false_and, Lt, Le, Eq', Cp, In, nI_add, nI_mul, nI_sub, nI_sub1, Neg0, bI_eq0, bI_eq1, bI_01, bft, up2_eq, up2_no, Bool.true_eq_false, Bool.false_eq_true, eq_self, m1_ne, m1_ne2, m1_lt, m1_le, lt_m1, m1_le2, bI_t, bI_f, LK_st, FYu hY, h20, hv, hd0])
  exact hQ
theorem openG_Y (hD : YD sh I P b N F E k g) (hW : WF N k g r) (hd : 1 ≤ d) (hQ : Q (some (.int (openS N))) n sh I L P) : Cl G d 57 [.ref b] n sh I L P Q := by
  apply e57
  have hY := hD.y
  have h5 := hD.count
  have hk := hW.k6
  have hd0 : 0 < d := by omega
  have e : openS N = orI (opF N) k := by show orI _ (cn N) = _; rw [hW.cn]; rfl
  rw [e] at hQ
  have loop : ∀ m j o3 cc ss, j + m = k → WP G 57 d Q 4 [some (.ref b), some (.int (orI (opF N) j)), some (.int (nI j)), o3] [] cc ss n sh I L P := by
    intro m
    induction m with
    | zero =>
      intro j o3 cc ss h
      have hj : j = k := by omega
      subst hj
      (apply WP_runI (lv := lvK) (F := LK) LK_ok 4 80; simp (disch := first | decide | omega) only [t57_0, lift_c, o_inl, o_istore, s1_0, s1_s, o_iload2, o_aload0, o_getfield, o_icge, o_getref, o_aaload, o_astore, o_aload3, o_ifne, o_virt3, rpush_n, rpush_s, o_ifeq, o_iload1, o_ishl, o_ior, o_iinc2, o_goto, o_ireturn, z0, z1, z2, z20, z31, runI_0, runI_c, runI_n, liftI_n, liftI_y, run_0, run_c, run_n, fxn, fxi, fxr, fxl, fxl0, ↓swi_n, ↓swi_c, nck0, nck1, nck2, nck3, List.length_cons, List.length_nil, Nat.reduceAdd, Nat.reduceSub, Nat.reduceLeDiff, Nat.reduceEqDiff, Nat.reduceLT, reduceIte, ite_true, ite_false, Nat.sub_zero, Nat.zero_le, true_and, and_true, and_self, true_or, or_true, if_true, if_false, true_implies, implies_true, not_true_eq_false, not_false_eq_true, false_implies, forall_const, ne_eq, or_self, and_false, false_and, Lt, Le, Eq', Cp, In, nI_add, nI_mul, nI_sub, nI_sub1, Neg0, bI_eq0, bI_eq1, bI_01, bft, up2_eq, up2_no, Bool.true_eq_false, Bool.false_eq_true, eq_self, m1_ne, m1_ne2, m1_lt, m1_le, lt_m1, m1_le2, bI_t, bI_f, LK_st, FYu hY, h5, Nat.le_refl])
      exact hQ
    | succ m ih =>
      intro j o3 cc ss h
      have hj : ¬ k ≤ j := by omega
      have hjk : j < k := by omega
      have t4 := hD.geese j 4 hjk (by omega)
      have t3 := hD.geese j 3 hjk (by omega)
      have t2 := hD.geese j 2 hjk (by omega)
      obtain ⟨hct, hc8⟩ := ct_eq hW hjk
      have ih := fun cc ss => ih (j + 1) (some (.ref (b + 6 + 2 * j))) cc ss (by omega)
      rw [show orI (opF N) (j + 1) = orI (opF N) j ||| opF N j from rfl] at ih
      rcases hW.taken hjk with e | e
      · have htk : tkn N j = false := decide_eq_false (by rw [e]; decide)
        (apply WP_runI (lv := lvK) (F := LK) LK_ok 4 80; simp (disch := first | decide | omega) only [t57_0, lift_c, o_inl, o_istore, s1_0, s1_s, o_iload2, o_aload0, o_getfield, o_icge, o_getref, o_aaload, o_astore, o_aload3, o_ifne, o_virt3, rpush_n, rpush_s, o_ifeq, o_iload1, o_ishl, o_ior, o_iinc2, o_goto, o_ireturn, z0, z1, z2, z20, z31, runI_0, runI_c, runI_n, liftI_n, liftI_y, run_0, run_c, run_n, fxn, fxi, fxr, fxl, fxl0, ↓swi_n, ↓swi_c, nck0, nck1, nck2, nck3, List.length_cons, List.length_nil, Nat.reduceAdd, Nat.reduceSub, Nat.reduceLeDiff, Nat.reduceEqDiff, Nat.reduceLT, reduceIte, ite_true, ite_false, Nat.sub_zero, Nat.zero_le, true_and, and_true, and_self, true_or, or_true, if_true, if_false, true_implies, implies_true, not_true_eq_false, not_false_eq_true, false_implies, forall_const, ne_eq, or_self, and_false, false_and, Lt, Le, Eq', Cp, In, nI_add, nI_mul, nI_sub, nI_sub1, Neg0, bI_eq0, bI_eq1, bI_01, bft, up2_eq, up2_no, Bool.true_eq_false, Bool.false_eq_true, eq_self, m1_ne, m1_ne2, m1_lt, m1_le, lt_m1, m1_le2, bI_t, bI_f, LK_st, FYu hY, h5, hj, t4, t3, t2, e, hct, hd0])
        refine isEnd_Y hD hW ?_
        cases he : endB N (gs N j 3) (ct N j) with
        | false =>
          rw [show opF N j = nI 0 by unfold opF; rw [if_neg fun q => by rw [he] at q; exact absurd q.2 (by decide)], show ∀ v : Int32, v ||| nI 0 = v from fun v => Int32.or_zero] at ih
          (apply WP_runI (lv := lvK) (F := LK) LK_ok 4 80; simp (disch := first | decide | omega) only [t57_0, lift_c, o_inl, o_istore, s1_0, s1_s, o_iload2, o_aload0, o_getfield, o_icge, o_getref, o_aaload, o_astore, o_aload3, o_ifne, o_virt3, rpush_n, rpush_s, o_ifeq, o_iload1, o_ishl, o_ior, o_iinc2, o_goto, o_ireturn, z0, z1, z2, z20, z31, runI_0, runI_c, runI_n, liftI_n, liftI_y, run_0, run_c, run_n, fxn, fxi, fxr, fxl, fxl0, ↓swi_n, ↓swi_c, nck0, nck1, nck2, nck3, List.length_cons, List.length_nil, Nat.reduceAdd, Nat.reduceSub, Nat.reduceLeDiff, Nat.reduceEqDiff, Nat.reduceLT, reduceIte, ite_true, ite_false, Nat.sub_zero, Nat.zero_le, true_and, and_true, and_self, true_or, or_true, if_true, if_false, true_implies, implies_true, not_true_eq_false, not_false_eq_true, false_implies, forall_const, ne_eq, or_self, and_false, false_and, Lt, Le, Eq', Cp, In, nI_add, nI_mul, nI_sub, nI_sub1, Neg0, bI_eq0, bI_eq1, bI_01, bft, up2_eq, up2_no, Bool.true_eq_false, Bool.false_eq_true, eq_self, m1_ne, m1_ne2, m1_lt, m1_le, lt_m1, m1_le2, bI_t, bI_f, LK_st, FYu hY, h5, hj, t4, t3, t2, e, hct, hd0])
          exact ih _ _
        | true =>
          rw [show opF N j = p2 (gs N j 3) by unfold opF; rw [if_pos ⟨htk, he⟩]] at ih
          unfold p2 at ih
          (apply WP_runI (lv := lvK) (F := LK) LK_ok 4 80; simp (disch := first | decide | omega) only [t57_0, lift_c, o_inl, o_istore, s1_0, s1_s, o_iload2, o_aload0, o_getfield, o_icge, o_getref, o_aaload, o_astore, o_aload3, o_ifne, o_virt3, rpush_n, rpush_s, o_ifeq, o_iload1, o_ishl, o_ior, o_iinc2, o_goto, o_ireturn, z0, z1, z2, z20, z31, runI_0, runI_c, runI_n, liftI_n, liftI_y, run_0, run_c, run_n, fxn, fxi, fxr, fxl, fxl0, ↓swi_n, ↓swi_c, nck0, nck1, nck2, nck3, List.length_cons, List.length_nil, Nat.reduceAdd, Nat.reduceSub, Nat.reduceLeDiff, Nat.reduceEqDiff, Nat.reduceLT, reduceIte, ite_true, ite_false, Nat.sub_zero, Nat.zero_le, true_and, and_true, and_self, true_or, or_true, if_true, if_false, true_implies, implies_true, not_true_eq_false, not_false_eq_true, false_implies, forall_const, ne_eq, or_self, and_false, false_and, Lt, Le, Eq', Cp, In, nI_add, nI_mul, nI_sub, nI_sub1, Neg0, bI_eq0, bI_eq1, bI_01, bft, up2_eq, up2_no, Bool.true_eq_false, Bool.false_eq_true, eq_self, m1_ne, m1_ne2, m1_lt, m1_le, lt_m1, m1_le2, bI_t, bI_f, LK_st, FYu hY, h5, hj, t4, t3, t2, e, hct, hd0])
          exact ih _ _
      · have htk : tkn N j = true := decide_eq_true e
        rw [show opF N j = nI 0 by unfold opF; rw [if_neg fun q => by rw [htk] at q; exact absurd q.1 (by decide)], show ∀ v : Int32, v ||| nI 0 = v from fun v => Int32.or_zero] at ih
        (apply WP_runI (lv := lvK) (F := LK) LK_ok 4 80; simp (disch := first | decide | omega) only [t57_0, lift_c, o_inl, o_istore, s1_0, s1_s, o_iload2, o_aload0, o_getfield, o_icge, o_getref, o_aaload, o_astore, o_aload3, o_ifne, o_virt3, rpush_n, rpush_s, o_ifeq, o_iload1, o_ishl, o_ior, o_iinc2, o_goto, o_ireturn, z0, z1, z2, z20, z31, runI_0, runI_c, runI_n, liftI_n, liftI_y, run_0, run_c, run_n, fxn, fxi, fxr, fxl, fxl0, ↓swi_n, ↓swi_c, nck0, nck1, nck2, nck3, List.length_cons, List.length_nil, Nat.reduceAdd, Nat.reduceSub, Nat.reduceLeDiff, Nat.reduceEqDiff, Nat.reduceLT, reduceIte, ite_true, ite_false, Nat.sub_zero, Nat.zero_le, true_and, and_true, and_self, true_or, or_true, if_true, if_false, true_implies, implies_true, not_true_eq_false, not_false_eq_true, false_implies, forall_const, ne_eq, or_self, and_false, false_and, Lt, Le, Eq', Cp, In, nI_add, nI_mul, nI_sub, nI_sub1, Neg0, bI_eq0, bI_eq1, bI_01, bft, up2_eq, up2_no, Bool.true_eq_false, Bool.false_eq_true, eq_self, m1_ne, m1_ne2, m1_lt, m1_le, lt_m1, m1_le2, bI_t, bI_f, LK_st, FYu hY, h5, hj, t4, t3, t2, e])
        exact ih _ _
  have loop := fun cc ss => loop k 0 none cc ss (by omega)
  rw [show orI (opF N) 0 = nI 0 from rfl] at loop
  (apply WP_runI (lv := lvK) (F := LK) LK_ok 4 80; simp (disch := first | decide | omega) only [t57_0, lift_c, o_inl, o_istore, s1_0, s1_s, o_iload2, o_aload0, o_getfield, o_icge, o_getref, o_aaload, o_astore, o_aload3, o_ifne, o_virt3, rpush_n, rpush_s, o_ifeq, o_iload1, o_ishl, o_ior, o_iinc2, o_goto, o_ireturn, z0, z1, z2, z20, z31, runI_0, runI_c, runI_n, liftI_n, liftI_y, run_0, run_c, run_n, fxn, fxi, fxr, fxl, fxl0, ↓swi_n, ↓swi_c, nck0, nck1, nck2, nck3, List.length_cons, List.length_nil, Nat.reduceAdd, Nat.reduceSub, Nat.reduceLeDiff, Nat.reduceEqDiff, Nat.reduceLT, reduceIte, ite_true, ite_false, Nat.sub_zero, Nat.zero_le, true_and, and_true, and_self, true_or, or_true, if_true, if_false, true_implies, implies_true, not_true_eq_false, not_false_eq_true, false_implies, forall_const, ne_eq, or_self, and_false, false_and, Lt, Le, Eq', Cp, In, nI_add, nI_mul, nI_sub, nI_sub1, Neg0, bI_eq0, bI_eq1, bI_01, bft, up2_eq, up2_no, Bool.true_eq_false, Bool.false_eq_true, eq_self, m1_ne, m1_ne2, m1_lt, m1_le, lt_m1, m1_le2, bI_t, bI_f, LK_st, FYu hY])
  exact loop _ _
def bydL (N : TN) (o c : Int32) : Nat → Int32
  | 0 => nI 0
  | j + 1 => (bydL N o c j ||| twF N o c j 0) ||| twF N o c j 1
theorem or0 (v : Int32) : v ||| nI 0 = v := Int32.or_zero
theorem beyond_Y (hD : YD sh I P b N F E k g) (hW : WF N k g r) (hd : 1 ≤ d) {c o : Int32} (hQ : Q (some (.int (bydL N o c g))) n sh I L P) : Cl G d 58 [.ref b, .int c, .int o] n sh I L P Q := by
  apply e58
  have hY := hD.y
  have h3 := hD.gates
  have hg := hW.g9
  have hd0 : 0 < d := by omega
  have loop : ∀ m j cc ss, j + m = g → WP G 58 d Q 5 [some (.ref b), some (.int c), some (.int o), some (.int (bydL N o c j)), some (.int (nI j))] [] cc ss n sh I L P := by
    intro m
    induction m with
    | zero =>
      intro j cc ss h
      have hj : j = g := by omega
      subst hj
      (apply WP_runI (lv := lvK) (F := LK) LK_ok 5 80; simp (disch := first | decide | omega) only [t58_0, t58_1, lift_c, o_inl, o_istore, s1_0, s1_s, o_iload4, o_aload0, o_getfield, o_icge, o_iload2, o_stat2, rpush_n, rpush_s, o_ifne, o_goto, o_iload1, o_getref, o_iaload, o_ifeq, o_iload3, o_ishl, o_ior, o_iinc4, o_ireturn, z0, z1, z2, z20, z31, runI_0, runI_c, runI_n, liftI_n, liftI_y, run_0, run_c, run_n, fxn, fxi, fxr, fxl, fxl0, ↓swi_n, ↓swi_c, nck0, nck1, nck2, nck3, List.length_cons, List.length_nil, Nat.reduceAdd, Nat.reduceSub, Nat.reduceLeDiff, Nat.reduceEqDiff, Nat.reduceLT, reduceIte, ite_true, ite_false, Nat.sub_zero, Nat.zero_le, true_and, and_true, and_self, true_or, or_true, if_true, if_false, true_implies, implies_true, not_true_eq_false, not_false_eq_true, false_implies, forall_const, ne_eq, or_self, and_false, false_and, Lt, Le, Eq', Cp, In, nI_add, nI_mul, nI_sub, nI_sub1, Neg0, bI_eq0, bI_eq1, bI_01, bft, up2_eq, up2_no, Bool.true_eq_false, Bool.false_eq_true, eq_self, m1_ne, m1_ne2, m1_lt, m1_le, lt_m1, m1_le2, bI_t, bI_f, LK_st, FYu hY, h3, Nat.le_refl])
      exact hQ
    | succ m ih =>
      intro j cc ss h
      have hj : ¬ g ≤ j := by omega
      have hjg : j < g := by omega
      have e1 := hD.one j hjg
      have e2 := hD.other j hjg
      have ih := fun cc ss => ih (j + 1) cc ss (by omega)
      rw [bydL] at ih
      have twy : ∀ w, bt o (nI j) = true → bt c (ed N j w) = true → twF N o c j w = nI 1 <<< (ed N j (1 - w) &&& nI 31) := fun w h1 h2 => if_pos ⟨h1, h2⟩
      have twn : ∀ w, ¬ (bt o (nI j) = true ∧ bt c (ed N j w) = true) → twF N o c j w = nI 0 := fun w h1 => if_neg h1
      cases ho : bt o (nI j) with
      | false =>
        rw [twn 0 (fun q => (by rw [ho] at q; cases q.1)), twn 1 (fun q => (by rw [ho] at q; cases q.1)), or0, or0] at ih
        (apply WP_runI (lv := lvK) (F := LK) LK_ok 5 80; simp (disch := first | decide | omega) only [t58_0, t58_1, lift_c, o_inl, o_istore, s1_0, s1_s, o_iload4, o_aload0, o_getfield, o_icge, o_iload2, o_stat2, rpush_n, rpush_s, o_ifne, o_goto, o_iload1, o_getref, o_iaload, o_ifeq, o_iload3, o_ishl, o_ior, o_iinc4, o_ireturn, z0, z1, z2, z20, z31, runI_0, runI_c, runI_n, liftI_n, liftI_y, run_0, run_c, run_n, fxn, fxi, fxr, fxl, fxl0, ↓swi_n, ↓swi_c, nck0, nck1, nck2, nck3, List.length_cons, List.length_nil, Nat.reduceAdd, Nat.reduceSub, Nat.reduceLeDiff, Nat.reduceEqDiff, Nat.reduceLT, reduceIte, ite_true, ite_false, Nat.sub_zero, Nat.zero_le, true_and, and_true, and_self, true_or, or_true, if_true, if_false, true_implies, implies_true, not_true_eq_false, not_false_eq_true, false_implies, forall_const, ne_eq, or_self, and_false, false_and, Lt, Le, Eq', Cp, In, nI_add, nI_mul, nI_sub, nI_sub1, Neg0, bI_eq0, bI_eq1, bI_01, bft, up2_eq, up2_no, Bool.true_eq_false, Bool.false_eq_true, eq_self, m1_ne, m1_ne2, m1_lt, m1_le, lt_m1, m1_le2, bI_t, bI_f, LK_st, FYu hY, h3, hj, e1, e2, ho, hd0])
        exact ih _ _
      | true =>
        cases h1 : bt c (ed N j 0) with
        | false =>
          rw [twn 0 (fun q => (by rw [h1] at q; cases q.2)), or0] at ih
          cases h2 : bt c (ed N j 1) with
          | false =>
            rw [twn 1 (fun q => (by rw [h2] at q; cases q.2)), or0] at ih
            (apply WP_runI (lv := lvK) (F := LK) LK_ok 5 80; simp (disch := first | decide | omega) only [t58_0, t58_1, lift_c, o_inl, o_istore, s1_0, s1_s, o_iload4, o_aload0, o_getfield, o_icge, o_iload2, o_stat2, rpush_n, rpush_s, o_ifne, o_goto, o_iload1, o_getref, o_iaload, o_ifeq, o_iload3, o_ishl, o_ior, o_iinc4, o_ireturn, z0, z1, z2, z20, z31, runI_0, runI_c, runI_n, liftI_n, liftI_y, run_0, run_c, run_n, fxn, fxi, fxr, fxl, fxl0, ↓swi_n, ↓swi_c, nck0, nck1, nck2, nck3, List.length_cons, List.length_nil, Nat.reduceAdd, Nat.reduceSub, Nat.reduceLeDiff, Nat.reduceEqDiff, Nat.reduceLT, reduceIte, ite_true, ite_false, Nat.sub_zero, Nat.zero_le, true_and, and_true, and_self, true_or, or_true, if_true, if_false, true_implies, implies_true, not_true_eq_false, not_false_eq_true, false_implies, forall_const, ne_eq, or_self, and_false, false_and, Lt, Le, Eq', Cp, In, nI_add, nI_mul, nI_sub, nI_sub1, Neg0, bI_eq0, bI_eq1, bI_01, bft, up2_eq, up2_no, Bool.true_eq_false, Bool.false_eq_true, eq_self, m1_ne, m1_ne2, m1_lt, m1_le, lt_m1, m1_le2, bI_t, bI_f, LK_st, FYu hY, h3, hj, e1, e2, ho, h1, h2, hd0])
            exact ih _ _
          | true =>
            rw [twy 1 ho h2] at ih
            (apply WP_runI (lv := lvK) (F := LK) LK_ok 5 80; simp (disch := first | decide | omega) only [t58_0, t58_1, lift_c, o_inl, o_istore, s1_0, s1_s, o_iload4, o_aload0, o_getfield, o_icge, o_iload2, o_stat2, rpush_n, rpush_s, o_ifne, o_goto, o_iload1, o_getref, o_iaload, o_ifeq, o_iload3, o_ishl, o_ior, o_iinc4, o_ireturn, z0, z1, z2, z20, z31, runI_0, runI_c, runI_n, liftI_n, liftI_y, run_0, run_c, run_n, fxn, fxi, fxr, fxl, fxl0, ↓swi_n, ↓swi_c, nck0, nck1, nck2, nck3, List.length_cons, List.length_nil, Nat.reduceAdd, Nat.reduceSub, Nat.reduceLeDiff, Nat.reduceEqDiff, Nat.reduceLT, reduceIte, ite_true, ite_false, Nat.sub_zero, Nat.zero_le, true_and, and_true, and_self, true_or, or_true, if_true, if_false, true_implies, implies_true, not_true_eq_false, not_false_eq_true, false_implies, forall_const, ne_eq, or_self, and_false, false_and, Lt, Le, Eq', Cp, In, nI_add, nI_mul, nI_sub, nI_sub1, Neg0, bI_eq0, bI_eq1, bI_01, bft, up2_eq, up2_no, Bool.true_eq_false, Bool.false_eq_true, eq_self, m1_ne, m1_ne2, m1_lt, m1_le, lt_m1, m1_le2, bI_t, bI_f, LK_st, FYu hY, h3, hj, e1, e2, ho, h1, h2, hd0])
            exact ih _ _
        | true =>
          rw [twy 0 ho h1] at ih
          cases h2 : bt c (ed N j 1) with
          | false =>
            rw [twn 1 (fun q => (by rw [h2] at q; cases q.2)), or0] at ih
            (apply WP_runI (lv := lvK) (F := LK) LK_ok 5 80; simp (disch := first | decide | omega) only [t58_0, t58_1, lift_c, o_inl, o_istore, s1_0, s1_s, o_iload4, o_aload0, o_getfield, o_icge, o_iload2, o_stat2, rpush_n, rpush_s, o_ifne, o_goto, o_iload1, o_getref, o_iaload, o_ifeq, o_iload3, o_ishl, o_ior, o_iinc4, o_ireturn, z0, z1, z2, z20, z31, runI_0, runI_c, runI_n, liftI_n, liftI_y, run_0, run_c, run_n, fxn, fxi, fxr, fxl, fxl0, ↓swi_n, ↓swi_c, nck0, nck1, nck2, nck3, List.length_cons, List.length_nil, Nat.reduceAdd, Nat.reduceSub, Nat.reduceLeDiff, Nat.reduceEqDiff, Nat.reduceLT, reduceIte, ite_true, ite_false, Nat.sub_zero, Nat.zero_le, true_and, and_true, and_self, true_or, or_true, if_true, if_false, true_implies, implies_true, not_true_eq_false, not_false_eq_true, false_implies, forall_const, ne_eq, or_self, and_false, false_and, Lt, Le, Eq', Cp, In, nI_add, nI_mul, nI_sub, nI_sub1, Neg0, bI_eq0, bI_eq1, bI_01, bft, up2_eq, up2_no, Bool.true_eq_false, Bool.false_eq_true, eq_self, m1_ne, m1_ne2, m1_lt, m1_le, lt_m1, m1_le2, bI_t, bI_f, LK_st, FYu hY, h3, hj, e1, e2, ho, h1, h2, hd0])
            exact ih _ _
          | true =>
            rw [twy 1 ho h2] at ih
            (apply WP_runI (lv := lvK) (F := LK) LK_ok 5 80; simp (disch := first | decide | omega) only [t58_0, t58_1, lift_c, o_inl, o_istore, s1_0, s1_s, o_iload4, o_aload0, o_getfield, o_icge, o_iload2, o_stat2, rpush_n, rpush_s, o_ifne, o_goto, o_iload1, o_getref, o_iaload, o_ifeq, o_iload3, o_ishl, o_ior, o_iinc4, o_ireturn, z0, z1, z2, z20, z31, runI_0, runI_c, runI_n, liftI_n, liftI_y, run_0, run_c, run_n, fxn, fxi, fxr, fxl, fxl0, ↓swi_n, ↓swi_c, nck0, nck1, nck2, nck3, List.length_cons, List.length_nil, Nat.reduceAdd, Nat.reduceSub, Nat.reduceLeDiff, Nat.reduceEqDiff, Nat.reduceLT, reduceIte, ite_true, ite_false, Nat.sub_zero, Nat.zero_le, true_and, and_true, and_self, true_or, or_true, if_true, if_false, true_implies, implies_true, not_true_eq_false, not_false_eq_true, false_implies, forall_const, ne_eq, or_self, and_false, false_and, Lt, Le, Eq', Cp, In, nI_add, nI_mul, nI_sub, nI_sub1, Neg0, bI_eq0, bI_eq1, bI_01, bft, up2_eq, up2_no, Bool.true_eq_false, Bool.false_eq_true, eq_self, m1_ne, m1_ne2, m1_lt, m1_le, lt_m1, m1_le2, bI_t, bI_f, LK_st, FYu hY, h3, hj, e1, e2, ho, h1, h2, hd0])
            exact ih _ _
  have loop := fun cc ss => loop g 0 cc ss (by omega)
  rw [bydL] at loop
  (apply WP_runI (lv := lvK) (F := LK) LK_ok 5 80; simp (disch := first | decide | omega) only [t58_0, t58_1, lift_c, o_inl, o_istore, s1_0, s1_s, o_iload4, o_aload0, o_getfield, o_icge, o_iload2, o_stat2, rpush_n, rpush_s, o_ifne, o_goto, o_iload1, o_getref, o_iaload, o_ifeq, o_iload3, o_ishl, o_ior, o_iinc4, o_ireturn, z0, z1, z2, z20, z31, runI_0, runI_c, runI_n, liftI_n, liftI_y, run_0, run_c, run_n, fxn, fxi, fxr, fxl, fxl0, ↓swi_n, ↓swi_c, nck0, nck1, nck2, nck3, List.length_cons, List.length_nil, Nat.reduceAdd, Nat.reduceSub, Nat.reduceLeDiff, Nat.reduceEqDiff, Nat.reduceLT, reduceIte, ite_true, ite_false, Nat.sub_zero, Nat.zero_le, true_and, and_true, and_self, true_or, or_true, if_true, if_false, true_implies, implies_true, not_true_eq_false, not_false_eq_true, false_implies, forall_const, ne_eq, or_self, and_false, false_and, Lt, Le, Eq', Cp, In, nI_add, nI_mul, nI_sub, nI_sub1, Neg0, bI_eq0, bI_eq1, bI_01, bft, up2_eq, up2_no, Bool.true_eq_false, Bool.false_eq_true, eq_self, m1_ne, m1_ne2, m1_lt, m1_le, lt_m1, m1_le2, bI_t, bI_f, LK_st, FYu hY])
  exact loop _ _
end
