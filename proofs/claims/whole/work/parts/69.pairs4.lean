/-! ### pairs: pass, grain -/
theorem IW.grainu {n : Nat} {sh : TS} {I : TI} {L : TL} {P : TP} {F : TF} {E : Nat → Int32} {k g r : Nat} (h : IW n sh I L P F E k g r) {c u : Nat} (hc : c < 8) (hu : u ≤ 99) : IW n sh (up2 (up2 I 23 c (nI u)) 124 c (nI u)) L P F E k g r := by
  have hk := h.2.2.1.1.k6
  have hg := h.2.2.1.1.g9
  have e : (up2 (up2 I 23 c (nI u)) 124 c (nI u)) 124 = upN (I 124) c (nI u) := by rw [up2_upN, up2_row _ _ _ _ _ (by omega)]
  have hE : Eo mS I (up2 (up2 I 23 c (nI u)) 124 c (nI u)) := (Eo.rf.up (by unfold mS; omega) _).up (by unfold mS; omega) _
  refine h.row hE (by rw [e]; exact h.2.2.1.1.grain_up hc hu) ?_ ?_ ?_
  · rw [e]
    exact (h.2.2.2.1.grain_up hk hg (by omega) hc (v := nI u)).eo (S := fun a _ => a = 124) hk (fun a j q => up2_no _ _ _ _ _ _ fun e => q e.1) fun a j q => by omega
  · rw [e]
    exact (h.2.2.2.2.1.row (M := upN (I 124) c (nI u)) fun j hj => upN_no _ _ _ _ (by omega)).eo (S := fun a _ => a = 23 ∨ a = 124) (fun a j q => by rw [up2_no _ _ _ _ _ _ (by omega), up2_no _ _ _ _ _ _ (by omega)]) fun a j q => by omega
  · rw [e]
    exact h.2.2.2.2.2.1.keep fun j hj => upN_no _ _ _ _ (by omega)
section
variable {G : GE} {d : Nat}
theorem grain_P (hd : 50 ≤ d) (x y : Int32) : PAIR G d 72 138 [.ref 20, .int x, .int y] [.ref 123, .int x, .int y] := by
  intro n sh I L P Q hI hQ
  obtain ⟨F, E, k, g, r, hI⟩ := hI
  apply e72
  apply WP_SF
  intro hSF
  have hs2 := hSF.2.2.1
  have hB := hI.cb
  have hG := hB.fg
  have hY22 := hB.y22
  have hY84 := hB.y84
  have h22 : sh 22 = (8, 9) := (FY22u hY22).1
  have hd0 : 0 < d := by omega
  have hk := hI.2.2.1.1.k6
  have hg9 := hI.2.2.1.1.g9
  have hWe := hI.2.2.1.we
  have hF := hI.1
  have h5 := hB.count
  cases hx : isC x with
  | false =>
    have bad := hQ (-nI 1) n sh I L P (fun Q2 h2 => by
        refine ⟨(FMu hI.1).1, ?_⟩
        have h2 := h2 _ _ _ _ _ ⟨F, E, k, g, r, hI⟩
        apply e138
        (apply WP_runI (lv := lvM) LM_ok 999 80; simp (disch := first | decide | omega) only [t138_0, lift_c, o_iload1, o_stat1, rpush_n, rpush_s, o_ifne, o_inl, o_ireturn, o_iload2, o_stat3, o_aload0, o_getref, o_iaload, o_istore, s1_0, s1_s, o_iastore, o_iload3, z0, z1, z2, z20, z31, z99, runI_0, runI_c, runI_n, liftI_n, liftI_y, run_0, run_c, run_n, fxn, fxi, fxr, fxl, fxl0, ↓swi_n, ↓swi_c, nck0, nck1, nck2, nck3, List.length_cons, List.length_nil, Nat.reduceAdd, Nat.reduceSub, Nat.reduceLeDiff, Nat.reduceEqDiff, Nat.reduceLT, reduceIte, ite_true, ite_false, Nat.sub_zero, Nat.zero_le, true_and, and_true, and_self, true_or, or_true, if_true, if_false, true_implies, implies_true, not_true_eq_false, not_false_eq_true, false_implies, forall_const, ne_eq, or_self, and_false, false_and, Lt, Le, Eq', Cp, In, nI_add, nI_mul, nI_sub, nI_sub1, Neg0, bI_eq0, bI_eq1, bI_01, bft, up2_eq, up2_no, Bool.true_eq_false, Bool.false_eq_true, eq_self, m1_ne, m1_ne2, m1_lt, m1_le, lt_m1, m1_le2, bI_t, bI_f, LM_all hF, FMu hF, hWe, hx, hd0])
        exact h2)
    (apply WP_runI (lv := lvK) (F := LK) LK_ok 999 80; simp (disch := first | decide | omega) only [t72_0, lift_c, o_iload1, o_stat1, rpush_n, rpush_s, o_ifne, o_inl, o_ireturn, o_iload2, o_aload0, o_getref, o_iaload, o_istore, s1_0, s1_s, o_iastore, o_iload3, z0, z1, z2, z20, z31, runI_0, runI_c, runI_n, liftI_n, liftI_y, run_0, run_c, run_n, fxn, fxi, fxr, fxl, fxl0, ↓swi_n, ↓swi_c, nck0, nck1, nck2, nck3, List.length_cons, List.length_nil, Nat.reduceAdd, Nat.reduceSub, Nat.reduceLeDiff, Nat.reduceEqDiff, Nat.reduceLT, reduceIte, ite_true, ite_false, Nat.sub_zero, Nat.zero_le, true_and, and_true, and_self, true_or, or_true, if_true, if_false, true_implies, implies_true, not_true_eq_false, not_false_eq_true, false_implies, forall_const, ne_eq, or_self, and_false, false_and, Lt, Le, Eq', Cp, In, nI_add, nI_mul, nI_sub, nI_sub1, Neg0, bI_eq0, bI_eq1, bI_01, bft, up2_eq, up2_no, Bool.true_eq_false, Bool.false_eq_true, eq_self, m1_ne, m1_ne2, m1_lt, m1_le, lt_m1, m1_le2, bI_t, bI_f, LK_st, FGu hG, LK_g hG h22 hs2, FY22u hY22, hx, hd0])
    exact bad
  | true =>
    cases hy : inR y 0 99 with
    | false =>
      have hy2 : decide (nI 0 ≤ y ∧ y ≤ nI 99) = false := hy
      have bad := hQ (-nI 2) n sh I L P (fun Q2 h2 => by
        refine ⟨(FMu hI.1).1, ?_⟩
        have h2 := h2 _ _ _ _ _ ⟨F, E, k, g, r, hI⟩
        apply e138
        (apply WP_runI (lv := lvM) LM_ok 999 80; simp (disch := first | decide | omega) only [t138_0, lift_c, o_iload1, o_stat1, rpush_n, rpush_s, o_ifne, o_inl, o_ireturn, o_iload2, o_stat3, o_aload0, o_getref, o_iaload, o_istore, s1_0, s1_s, o_iastore, o_iload3, z0, z1, z2, z20, z31, z99, runI_0, runI_c, runI_n, liftI_n, liftI_y, run_0, run_c, run_n, fxn, fxi, fxr, fxl, fxl0, ↓swi_n, ↓swi_c, nck0, nck1, nck2, nck3, List.length_cons, List.length_nil, Nat.reduceAdd, Nat.reduceSub, Nat.reduceLeDiff, Nat.reduceEqDiff, Nat.reduceLT, reduceIte, ite_true, ite_false, Nat.sub_zero, Nat.zero_le, true_and, and_true, and_self, true_or, or_true, if_true, if_false, true_implies, implies_true, not_true_eq_false, not_false_eq_true, false_implies, forall_const, ne_eq, or_self, and_false, false_and, Lt, Le, Eq', Cp, In, nI_add, nI_mul, nI_sub, nI_sub1, Neg0, bI_eq0, bI_eq1, bI_01, bft, up2_eq, up2_no, Bool.true_eq_false, Bool.false_eq_true, eq_self, m1_ne, m1_ne2, m1_lt, m1_le, lt_m1, m1_le2, bI_t, bI_f, LM_all hF, FMu hF, hWe, hx, hy2, hd0])
        exact h2)
      (apply WP_runI (lv := lvK) (F := LK) LK_ok 999 80; simp (disch := first | decide | omega) only [t72_0, lift_c, o_iload1, o_stat1, rpush_n, rpush_s, o_ifne, o_inl, o_ireturn, o_iload2, o_aload0, o_getref, o_iaload, o_istore, s1_0, s1_s, o_iastore, o_iload3, z0, z1, z2, z20, z31, runI_0, runI_c, runI_n, liftI_n, liftI_y, run_0, run_c, run_n, fxn, fxi, fxr, fxl, fxl0, ↓swi_n, ↓swi_c, nck0, nck1, nck2, nck3, List.length_cons, List.length_nil, Nat.reduceAdd, Nat.reduceSub, Nat.reduceLeDiff, Nat.reduceEqDiff, Nat.reduceLT, reduceIte, ite_true, ite_false, Nat.sub_zero, Nat.zero_le, true_and, and_true, and_self, true_or, or_true, if_true, if_false, true_implies, implies_true, not_true_eq_false, not_false_eq_true, false_implies, forall_const, ne_eq, or_self, and_false, false_and, Lt, Le, Eq', Cp, In, nI_add, nI_mul, nI_sub, nI_sub1, Neg0, bI_eq0, bI_eq1, bI_01, bft, up2_eq, up2_no, Bool.true_eq_false, Bool.false_eq_true, eq_self, m1_ne, m1_ne2, m1_lt, m1_le, lt_m1, m1_le2, bI_t, bI_f, LK_st, FGu hG, LK_g hG h22 hs2, FY22u hY22, hx, hy, hd0])
      exact bad
    | true =>
      obtain ⟨c, hc, ex⟩ := isC_of hx
      obtain ⟨u, -, hu, ey⟩ := inR_of (by omega) (by omega) hy
      subst ex ey
      have hD := hI.grainu hc hu
      have hg2 : I 23 c = I 124 c := hB.2.1.grain c hc
      have hQ := hQ (I 124 c) n sh (up2 I 23 c (nI u)) L P fun Q2 h2 => by
        refine ⟨(FMu hI.1).1, ?_⟩
        have h2 := h2 _ _ _ _ _ ⟨F, E, k, g, r, hD⟩
        apply e138
        have h20 : nle 20 124 := by show 20 ≤ 124; decide
        (apply WP_runI (lv := lvM) LM_ok 999 80; simp (disch := first | decide | omega) only [t138_0, lift_c, o_iload1, o_stat1, rpush_n, rpush_s, o_ifne, o_inl, o_ireturn, o_iload2, o_stat3, o_aload0, o_getref, o_iaload, o_istore, s1_0, s1_s, o_iastore, o_iload3, z0, z1, z2, z20, z31, z99, runI_0, runI_c, runI_n, liftI_n, liftI_y, run_0, run_c, run_n, fxn, fxi, fxr, fxl, fxl0, ↓swi_n, ↓swi_c, nck0, nck1, nck2, nck3, List.length_cons, List.length_nil, Nat.reduceAdd, Nat.reduceSub, Nat.reduceLeDiff, Nat.reduceEqDiff, Nat.reduceLT, reduceIte, ite_true, ite_false, Nat.sub_zero, Nat.zero_le, true_and, and_true, and_self, true_or, or_true, if_true, if_false, true_implies, implies_true, not_true_eq_false, not_false_eq_true, false_implies, forall_const, ne_eq, or_self, and_false, false_and, Lt, Le, Eq', Cp, In, nI_add, nI_mul, nI_sub, nI_sub1, Neg0, bI_eq0, bI_eq1, bI_01, bft, up2_eq, up2_no, Bool.true_eq_false, Bool.false_eq_true, eq_self, m1_ne, m1_ne2, m1_lt, m1_le, lt_m1, m1_le2, bI_t, bI_f, LM_all hF, FMu hF, hWe, hx, hu, hd0, h20, decide_true])
        exact h2
      have h20 : nle 20 23 := by show 20 ≤ 23; decide
      clear hD
      (apply WP_runI (lv := lvK) (F := LK) LK_ok 999 80; simp (disch := first | decide | omega) only [t72_0, lift_c, o_iload1, o_stat1, rpush_n, rpush_s, o_ifne, o_inl, o_ireturn, o_iload2, o_aload0, o_getref, o_iaload, o_istore, s1_0, s1_s, o_iastore, o_iload3, z0, z1, z2, z20, z31, runI_0, runI_c, runI_n, liftI_n, liftI_y, run_0, run_c, run_n, fxn, fxi, fxr, fxl, fxl0, ↓swi_n, ↓swi_c, nck0, nck1, nck2, nck3, List.length_cons, List.length_nil, Nat.reduceAdd, Nat.reduceSub, Nat.reduceLeDiff, Nat.reduceEqDiff, Nat.reduceLT, reduceIte, ite_true, ite_false, Nat.sub_zero, Nat.zero_le, true_and, and_true, and_self, true_or, or_true, if_true, if_false, true_implies, implies_true, not_true_eq_false, not_false_eq_true, false_implies, forall_const, ne_eq, or_self, and_false, false_and, Lt, Le, Eq', Cp, In, nI_add, nI_mul, nI_sub, nI_sub1, Neg0, bI_eq0, bI_eq1, bI_01, bft, up2_eq, up2_no, Bool.true_eq_false, Bool.false_eq_true, eq_self, m1_ne, m1_ne2, m1_lt, m1_le, lt_m1, m1_le2, bI_t, bI_f, LK_st, FGu hG, LK_g hG h22 hs2, FY22u hY22, hx, hy, hg2, h20, hd0])
      exact hQ
theorem pass_P (hd : 50 ≤ d) (x : Int32) : PAIR G d 77 168 [.ref 20, .int x] [.ref 123, .int x] := by
  intro n sh I L P Q hI hQ
  obtain ⟨F, E, k, g, r, hI⟩ := hI
  apply e77
  apply WP_SF
  intro hSF
  have hs2 := hSF.2.2.1
  have hB := hI.cb
  have hG := hB.fg
  have hY22 := hB.y22
  have hY84 := hB.y84
  have h22 : sh 22 = (8, 9) := (FY22u hY22).1
  have hd0 : 0 < d := by omega
  have hk := hI.2.2.1.1.k6
  have hg9 := hI.2.2.1.1.g9
  have hF := hI.1
  have hBK := hI.2.2.1
  have h6 : I 22 6 = I 124 82 := hB.2.1.hour
  cases hx : inR x 0 60 with
  | false =>
    have hx2 : decide (nI 0 ≤ x ∧ x ≤ nI 60) = false := hx
    have bad := hQ (-nI 2) n sh I L P fun Q2 h2 => And.intro (FMu hI.1).1 <| pass_M hF hBK (by omega) (fun _ => h2 _ _ _ _ _ ⟨F, E, k, g, r, hI⟩) (fun q => by rw [hx] at q; cases q) (fun m I' hm e => by
      rw [e] at hx
      exact absurd hx (by unfold inR; rw [decide_eq_true ⟨by rw [Le _ _ (by omega) (by omega)]; omega, by rw [Le _ _ (by omega) (by omega)]; omega⟩]; decide))
    (apply WP_runI (lv := lvK) (F := LK) LK_ok 999 80; simp (disch := first | decide | omega) only [t77_0, lift_c, o_iload1, o_inl, o_stat2, rpush_n, rpush_s, o_ifne, o_ireturn, o_aload0, o_getref, o_getfield, o_iadd, o_icle, o_virt2, z0, z1, z2, z3, z20, z31, z60, z9999, runI_0, runI_c, runI_n, liftI_n, liftI_y, run_0, run_c, run_n, fxn, fxi, fxr, fxl, fxl0, ↓swi_n, ↓swi_c, nck0, nck1, nck2, nck3, List.length_cons, List.length_nil, Nat.reduceAdd, Nat.reduceSub, Nat.reduceLeDiff, Nat.reduceEqDiff, Nat.reduceLT, reduceIte, ite_true, ite_false, Nat.sub_zero, Nat.zero_le, true_and, and_true, and_self, true_or, or_true, if_true, if_false, true_implies, implies_true, not_true_eq_false, not_false_eq_true, false_implies, forall_const, ne_eq, or_self, and_false, false_and, Lt, Le, Eq', Cp, In, nI_add, nI_mul, nI_sub, nI_sub1, Neg0, bI_eq0, bI_eq1, bI_01, bft, up2_eq, up2_no, Bool.true_eq_false, Bool.false_eq_true, eq_self, m1_ne, m1_ne2, m1_lt, m1_le, lt_m1, m1_le2, bI_t, bI_f, LK_st, FGu hG, LK_g hG h22 hs2, FY22u hY22, hx2, hd0])
    exact bad
  | true =>
    have hx2 : decide (nI 0 ≤ x ∧ x ≤ nI 60) = true := hx
    obtain ⟨m, -, hm, ex⟩ := inR_of (by omega) (by omega) hx
    by_cases h9 : I 124 82 + x ≤ nI 9999
    · have good : ∀ I1, Eo (scY 22) I I1 → YD sh I1 P 22 (hoursS F E (I 124) m) F E k g → Q (some (.int (hoursS F E (I 124) m 82))) n sh I1 L P := fun I1 he hD => hQ _ _ _ _ _ _ fun Q2 h2 => by
        refine ⟨(FMu hI.1).1, ?_⟩
        have e0 : ∀ a j, ¬ (22 ≤ a ∧ a ≤ 39) → I1 a j = I a j := fun a j ha => he a j fun q => ha ⟨q.1, by have := q.2; omega⟩
        have r124 : I1 124 = I 124 := funext fun j => e0 124 j (by omega)
        have hBK1 : BK I1 F E k g r := ⟨by rw [r124]; exact hBK.1, hBK.2.1.eo he fun a j q => by have q1 := q.1; have q2 := q.2; omega, by rw [show I1 128 = I 128 from funext fun j => e0 128 j (by omega), show I1 129 = I 129 from funext fun j => e0 129 j (by omega)]; exact hBK.2.2.1, by rw [show I1 128 = I 128 from funext fun j => e0 128 j (by omega), show I1 129 = I 129 from funext fun j => e0 129 j (by omega)]; exact hBK.2.2.2⟩
        refine pass_M hF hBK1 (by omega) (fun q => by rw [hx] at q; cases q) (fun _ q => by rw [r124] at q; exact absurd h9 q) fun m' I2 hm' e' _ he2 h124 => ?_
        have hmm : m' = m := by
          rw [ex, nI_eq (by omega) (by omega)] at e'
          exact e'.symm
        subst hmm
        rw [r124] at h124 ⊢
        have hEo : Eo mS I I2 := (he.mono fun a j q => by have q1 := q.1; have q2 := q.2; unfold mS; omega).tr (he2.mono fun a j q => by rcases q with (q | q | q) | q <;> unfold mS qS <;> omega)
        have hk83 : ∀ j, 83 ≤ j → hoursS F E (I 124) m' j = I 124 j := fun j hj => hours_83 hB.2.2.2 hB.2.2.1 hj m'
        refine h2 _ _ _ _ _ ⟨F, E, k, g, r, hI.row hEo ?_ ?_ ?_ ?_⟩
        · rw [h124]; exact WF_hours hB.2.2.2 hB.2.2.1 m'
        · rw [h124]; exact hD.eo hk he2 fun a j q => by rcases q with (q | q | q) | q <;> omega
        · rw [h124]
          refine (hI.2.2.2.2.1.row hk83).eo (S := fun a j => scY 22 a j ∨ scH a j) (fun a j q => (he2 a j fun w => q (Or.inr w)).trans (he a j fun w => q (Or.inl w))) fun a j q => ?_
          rcases q with q | (q | q | q) | q
          · have q1 := q.1; have q2 := q.2; omega
          all_goals omega
        · rw [h124]; exact hI.2.2.2.2.2.1.keep hk83
      (apply WP_runI (lv := lvK) (F := LK) LK_ok 999 80; simp (disch := first | decide | omega) only [t77_0, lift_c, o_iload1, o_inl, o_stat2, rpush_n, rpush_s, o_ifne, o_ireturn, o_aload0, o_getref, o_getfield, o_iadd, o_icle, o_virt2, z0, z1, z2, z3, z20, z31, z60, z9999, runI_0, runI_c, runI_n, liftI_n, liftI_y, run_0, run_c, run_n, fxn, fxi, fxr, fxl, fxl0, ↓swi_n, ↓swi_c, nck0, nck1, nck2, nck3, List.length_cons, List.length_nil, Nat.reduceAdd, Nat.reduceSub, Nat.reduceLeDiff, Nat.reduceEqDiff, Nat.reduceLT, reduceIte, ite_true, ite_false, Nat.sub_zero, Nat.zero_le, true_and, and_true, and_self, true_or, or_true, if_true, if_false, true_implies, implies_true, not_true_eq_false, not_false_eq_true, false_implies, forall_const, ne_eq, or_self, and_false, false_and, Lt, Le, Eq', Cp, In, nI_add, nI_mul, nI_sub, nI_sub1, Neg0, bI_eq0, bI_eq1, bI_01, bft, up2_eq, up2_no, Bool.true_eq_false, Bool.false_eq_true, eq_self, m1_ne, m1_ne2, m1_lt, m1_le, lt_m1, m1_le2, bI_t, bI_f, LK_st, FGu hG, LK_g hG h22 hs2, FY22u hY22, hx2, h6, h9, hd0])
      rw [ex]
      refine goHours_Y hB.2.1 hB.2.2.1 hB.2.2.2 (by omega) (by omega) (by omega) fun I1 he hD => ?_
      have good := good I1 he hD
      have e6 := hD.hour
      generalize hoursS F E (I 124) m 82 = v at e6 good
      (apply WP_runI (lv := lvK) (F := LK) LK_ok 999 80; simp (disch := first | decide | omega) only [t77_0, lift_c, o_iload1, o_inl, o_stat2, rpush_n, rpush_s, o_ifne, o_ireturn, o_aload0, o_getref, o_getfield, o_iadd, o_icle, o_virt2, z0, z1, z2, z3, z20, z31, z60, z9999, runI_0, runI_c, runI_n, liftI_n, liftI_y, run_0, run_c, run_n, fxn, fxi, fxr, fxl, fxl0, ↓swi_n, ↓swi_c, nck0, nck1, nck2, nck3, List.length_cons, List.length_nil, Nat.reduceAdd, Nat.reduceSub, Nat.reduceLeDiff, Nat.reduceEqDiff, Nat.reduceLT, reduceIte, ite_true, ite_false, Nat.sub_zero, Nat.zero_le, true_and, and_true, and_self, true_or, or_true, if_true, if_false, true_implies, implies_true, not_true_eq_false, not_false_eq_true, false_implies, forall_const, ne_eq, or_self, and_false, false_and, Lt, Le, Eq', Cp, In, nI_add, nI_mul, nI_sub, nI_sub1, Neg0, bI_eq0, bI_eq1, bI_01, bft, up2_eq, up2_no, Bool.true_eq_false, Bool.false_eq_true, eq_self, m1_ne, m1_ne2, m1_lt, m1_le, lt_m1, m1_le2, bI_t, bI_f, LK_st, FGu hG, LK_g hG h22 hs2, FY22u hY22, e6, hd0])
      exact good
    · have bad := hQ (-nI 3) n sh I L P fun Q2 h2 => And.intro (FMu hI.1).1 <| pass_M hF hBK (by omega) (fun q => by rw [hx] at q; cases q) (fun _ _ => h2 _ _ _ _ _ ⟨F, E, k, g, r, hI⟩) (fun m I' hm e h _ _ => absurd h h9)
      (apply WP_runI (lv := lvK) (F := LK) LK_ok 999 80; simp (disch := first | decide | omega) only [t77_0, lift_c, o_iload1, o_inl, o_stat2, rpush_n, rpush_s, o_ifne, o_ireturn, o_aload0, o_getref, o_getfield, o_iadd, o_icle, o_virt2, z0, z1, z2, z3, z20, z31, z60, z9999, runI_0, runI_c, runI_n, liftI_n, liftI_y, run_0, run_c, run_n, fxn, fxi, fxr, fxl, fxl0, ↓swi_n, ↓swi_c, nck0, nck1, nck2, nck3, List.length_cons, List.length_nil, Nat.reduceAdd, Nat.reduceSub, Nat.reduceLeDiff, Nat.reduceEqDiff, Nat.reduceLT, reduceIte, ite_true, ite_false, Nat.sub_zero, Nat.zero_le, true_and, and_true, and_self, true_or, or_true, if_true, if_false, true_implies, implies_true, not_true_eq_false, not_false_eq_true, false_implies, forall_const, ne_eq, or_self, and_false, false_and, Lt, Le, Eq', Cp, In, nI_add, nI_mul, nI_sub, nI_sub1, Neg0, bI_eq0, bI_eq1, bI_01, bft, up2_eq, up2_no, Bool.true_eq_false, Bool.false_eq_true, eq_self, m1_ne, m1_ne2, m1_lt, m1_le, lt_m1, m1_le2, bI_t, bI_f, LK_st, FGu hG, LK_g hG h22 hs2, FY22u hY22, hx2, h6, h9, hd0])
      exact bad
end
