/-! ### the reference: what is open, grain, keeping and laying back -/
def opF (N : TN) (i : Nat) : Int32 := if tkn N i = false ∧ endB N (gs N i 3) (ct N i) = true then p2 (gs N i 3) else nI 0
theorem cpy2_no {α : Type} (f : Nat → Nat → α) (sq sp dq dp n a b : Nat) (h : ¬ a = dq) : cpy2 f sq sp dq dp n a b = f a b := if_neg fun q => h q.1
theorem cpy2_row {α : Type} (f : Nat → Nat → α) (sq sp dq dp n a : Nat) (h : ¬ a = dq) : cpy2 f sq sp dq dp n a = f a := funext fun b => if_neg fun q => h q.1
theorem cpy2_0 {α : Type} (f : Nat → Nat → α) (sq sp dq dp : Nat) : cpy2 f sq sp dq dp 0 = f := funext fun a => funext fun b => if_neg fun q => by omega
theorem cpy2_s {α : Type} (f : Nat → Nat → α) (sq dq j : Nat) (h : ¬ sq = dq) : up2 (cpy2 f sq 0 dq 0 j) dq j (f sq j) = cpy2 f sq 0 dq 0 (j + 1) := funext fun a => funext fun b => by
  show (if a = dq ∧ b = j then f sq j else if a = dq ∧ 0 ≤ b ∧ b < 0 + j then f sq (0 + (b - 0)) else f a b) = if a = dq ∧ 0 ≤ b ∧ b < 0 + (j + 1) then f sq (0 + (b - 0)) else f a b
  by_cases h1 : a = dq ∧ b = j
  · rw [if_pos h1, if_pos ⟨h1.1, by omega, by omega⟩, h1.2]
    simp
  · rw [if_neg h1]
    by_cases h2 : a = dq ∧ 0 ≤ b ∧ b < 0 + j
    · rw [if_pos h2, if_pos ⟨h2.1, h2.2.1, by omega⟩]
    · rw [if_neg h2, if_neg fun q => h2 ⟨q.1, q.2.1, by
        have : ¬ b = j := fun e => h1 ⟨q.1, e⟩
        omega⟩]
section
variable {G : GE} {d n : Nat} {sh : TS} {I : TI} {L : TL} {P : TP} {Q : TQ}
theorem open_L (hF : FM sh P) {k g r : Nat} (hW : WF (I 124) k g r) (hd : 3 ≤ d) (hQ : Q (some (.int (openS (I 124)))) n sh I L P) : ∀ m j cc ss, j + m = k →
    WP G 160 d Q 4 [some (.ref 123), some (.int (orI (opF (I 124)) j)), some (.int (nI j))] [] cc ss n sh I L P
  | 0, j, cc, ss, h => by
    have h : j = k := by omega
    subst h
    have hk := hW.k6
    have h80 := hW.n80
    have e : openS (I 124) = orI (opF (I 124)) j := by show orI _ (cn (I 124)) = _; rw [hW.cn]; rfl
    rw [e] at hQ
    (apply WP_runI (lv := lvM) LM_ok 4 80; simp (disch := first | decide | omega) only [t160_0, lift_c, o_inl, o_istore, s1_0, s1_s, o_iload2, o_aload0, o_getref, o_iaload, o_icge, o_iload1, o_virt2, rpush_n, rpush_s, o_ifne, o_virt3, o_ifeq, o_ishl, o_goto, o_ior, o_iinc2, o_ireturn, z0, z1, z2, z3, z20, z31, z80, runI_0, runI_c, runI_n, liftI_n, liftI_y, run_0, run_c, run_n, fxn, fxi, fxr, fxl, fxl0, ↓swi_n, ↓swi_c, nck0, nck1, nck2, nck3, List.length_cons, List.length_nil, Nat.reduceAdd, Nat.reduceSub, Nat.reduceLeDiff, Nat.reduceEqDiff, Nat.reduceLT, reduceIte, ite_true, ite_false, Nat.sub_zero, Nat.zero_le, true_and, and_true, and_self, true_or, or_true, if_true, if_false, true_implies, implies_true, not_true_eq_false, not_false_eq_true, false_implies, forall_const, ne_eq, or_self, and_false, false_and, Lt, Le, Eq', Cp, In, nI_add, nI_mul, nI_sub, nI_sub1, Neg0, bI_eq0, bI_eq1, bI_01, bft, up2_eq, up2_no, Bool.true_eq_false, Bool.false_eq_true, eq_self, m1_ne, m1_ne2, m1_lt, m1_le, lt_m1, m1_le2, bI_t, bI_f, LM_all hF, FMu hF, h80, Nat.le_refl])
    exact hQ
  | m + 1, j, cc, ss, h => by
    have hk := hW.k6
    have h80 := hW.n80
    have hjk : j < k := by omega
    have hj2 : ¬ k ≤ j := by omega
    have hWe : WFe (I 124) := ⟨k, g, r, hW⟩
    have hct := (ct_eq hW hjk).1
    have hd0 : 0 < d := by omega
    have ih := open_L hF hW hd hQ m (j + 1) cc ss (by omega)
    have e : orI (opF (I 124)) (j + 1) = orI (opF (I 124)) j ||| opF (I 124) j := rfl
    rw [e] at ih
    (apply WP_runI (lv := lvM) LM_ok 4 80; simp (disch := first | decide | omega) only [t160_0, lift_c, o_inl, o_istore, s1_0, s1_s, o_iload2, o_aload0, o_getref, o_iaload, o_icge, o_iload1, o_virt2, rpush_n, rpush_s, o_ifne, o_virt3, o_ifeq, o_ishl, o_goto, o_ior, o_iinc2, o_ireturn, z0, z1, z2, z3, z20, z31, z80, runI_0, runI_c, runI_n, liftI_n, liftI_y, run_0, run_c, run_n, fxn, fxi, fxr, fxl, fxl0, ↓swi_n, ↓swi_c, nck0, nck1, nck2, nck3, List.length_cons, List.length_nil, Nat.reduceAdd, Nat.reduceSub, Nat.reduceLeDiff, Nat.reduceEqDiff, Nat.reduceLT, reduceIte, ite_true, ite_false, Nat.sub_zero, Nat.zero_le, true_and, and_true, and_self, true_or, or_true, if_true, if_false, true_implies, implies_true, not_true_eq_false, not_false_eq_true, false_implies, forall_const, ne_eq, or_self, and_false, false_and, Lt, Le, Eq', Cp, In, nI_add, nI_mul, nI_sub, nI_sub1, Neg0, bI_eq0, bI_eq1, bI_01, bft, up2_eq, up2_no, Bool.true_eq_false, Bool.false_eq_true, eq_self, m1_ne, m1_ne2, m1_lt, m1_le, lt_m1, m1_le2, bI_t, bI_f, LM_all hF, FMu hF, h80, hd0, hj2, hWe, hct])
    refine ⟨fun h1 => ⟨fun h2 => ?_, fun h2 => ?_⟩, fun h1 => ?_⟩
    · rw [show opF (I 124) j = nI 0 by unfold opF; rw [if_neg fun q => by simp [q.2] at h2]] at ih
      exact ih
    · rw [show opF (I 124) j = p2 (gs (I 124) j 3) by unfold opF; rw [if_pos ⟨h1, by simpa using h2⟩]] at ih
      exact ih
    · rw [show opF (I 124) j = nI 0 by unfold opF; rw [if_neg fun q => h1 q.1]] at ih
      exact ih
theorem open_M (hF : FM sh P) (hW : WFe (I 124)) (hd : 3 ≤ d) (hQ : Q (some (.int (openS (I 124)))) n sh I L P) : Cl G d 160 [.ref 123] n sh I L P Q := by
  obtain ⟨k, g, r, hW⟩ := hW
  apply e160
  have h := open_L (G := G) hF hW hd hQ k 0 0 0 (by omega)
  (apply WP_runI (lv := lvM) LM_ok 4 80; simp (disch := first | decide | omega) only [t160_0, lift_c, o_inl, o_istore, s1_0, s1_s, o_iload2, o_aload0, o_getref, o_iaload, o_icge, o_iload1, o_virt2, rpush_n, rpush_s, o_ifne, o_virt3, o_ifeq, o_ishl, o_goto, o_ior, o_iinc2, o_ireturn, z0, z1, z2, z3, z20, z31, z80, runI_0, runI_c, runI_n, liftI_n, liftI_y, run_0, run_c, run_n, fxn, fxi, fxr, fxl, fxl0, ↓swi_n, ↓swi_c, nck0, nck1, nck2, nck3, List.length_cons, List.length_nil, Nat.reduceAdd, Nat.reduceSub, Nat.reduceLeDiff, Nat.reduceEqDiff, Nat.reduceLT, reduceIte, ite_true, ite_false, Nat.sub_zero, Nat.zero_le, true_and, and_true, and_self, true_or, or_true, if_true, if_false, true_implies, implies_true, not_true_eq_false, not_false_eq_true, false_implies, forall_const, ne_eq, or_self, and_false, false_and, Lt, Le, Eq', Cp, In, nI_add, nI_mul, nI_sub, nI_sub1, Neg0, bI_eq0, bI_eq1, bI_01, bft, up2_eq, up2_no, Bool.true_eq_false, Bool.false_eq_true, eq_self, m1_ne, m1_ne2, m1_lt, m1_le, lt_m1, m1_le2, bI_t, bI_f, LM_all hF, FMu hF])
  exact h
theorem grains_M (hF : FM sh P) (hQ : Q (some (.int (grnS (I 124)))) n sh I L P) : Cl G d 161 [.ref 123] n sh I L P Q := by
  apply e161
  have h : ∀ m j cc ss, j + m = 8 → WP G 161 d Q 4 [some (.ref 123), some (.int (sumI (I 124) j)), some (.int (nI j))] [] cc ss n sh I L P := by
    intro m
    induction m with
    | zero =>
      intro j cc ss h
      have h : j = 8 := by omega
      subst h
      (apply WP_runI (lv := lvM) LM_ok 4 80; simp (disch := first | decide | omega) only [t161_0, lift_c, o_inl, o_istore, s1_0, s1_s, o_iload2, o_icge, o_iload1, o_aload0, o_getref, o_iaload, o_iadd, o_iinc2, o_goto, o_ireturn, z0, z1, z2, z8, z20, z31, runI_0, runI_c, runI_n, liftI_n, liftI_y, run_0, run_c, run_n, fxn, fxi, fxr, fxl, fxl0, ↓swi_n, ↓swi_c, nck0, nck1, nck2, nck3, List.length_cons, List.length_nil, Nat.reduceAdd, Nat.reduceSub, Nat.reduceLeDiff, Nat.reduceEqDiff, Nat.reduceLT, reduceIte, ite_true, ite_false, Nat.sub_zero, Nat.zero_le, true_and, and_true, and_self, true_or, or_true, if_true, if_false, true_implies, implies_true, not_true_eq_false, not_false_eq_true, false_implies, forall_const, ne_eq, or_self, and_false, false_and, Lt, Le, Eq', Cp, In, nI_add, nI_mul, nI_sub, nI_sub1, Neg0, bI_eq0, bI_eq1, bI_01, bft, up2_eq, up2_no, Bool.true_eq_false, Bool.false_eq_true, eq_self, m1_ne, m1_ne2, m1_lt, m1_le, lt_m1, m1_le2, bI_t, bI_f, LM_all hF, FMu hF, Nat.le_refl])
      exact hQ
    | succ m ih =>
      intro j cc ss h
      have hj2 : ¬ 8 ≤ j := by omega
      have ih := ih (j + 1) cc ss (by omega)
      rw [show sumI (I 124) (j + 1) = sumI (I 124) j + I 124 j from rfl] at ih
      (apply WP_runI (lv := lvM) LM_ok 4 80; simp (disch := first | decide | omega) only [t161_0, lift_c, o_inl, o_istore, s1_0, s1_s, o_iload2, o_icge, o_iload1, o_aload0, o_getref, o_iaload, o_iadd, o_iinc2, o_goto, o_ireturn, z0, z1, z2, z8, z20, z31, runI_0, runI_c, runI_n, liftI_n, liftI_y, run_0, run_c, run_n, fxn, fxi, fxr, fxl, fxl0, ↓swi_n, ↓swi_c, nck0, nck1, nck2, nck3, List.length_cons, List.length_nil, Nat.reduceAdd, Nat.reduceSub, Nat.reduceLeDiff, Nat.reduceEqDiff, Nat.reduceLT, reduceIte, ite_true, ite_false, Nat.sub_zero, Nat.zero_le, true_and, and_true, and_self, true_or, or_true, if_true, if_false, true_implies, implies_true, not_true_eq_false, not_false_eq_true, false_implies, forall_const, ne_eq, or_self, and_false, false_and, Lt, Le, Eq', Cp, In, nI_add, nI_mul, nI_sub, nI_sub1, Neg0, bI_eq0, bI_eq1, bI_01, bft, up2_eq, up2_no, Bool.true_eq_false, Bool.false_eq_true, eq_self, m1_ne, m1_ne2, m1_lt, m1_le, lt_m1, m1_le2, bI_t, bI_f, LM_all hF, FMu hF, hj2])
      exact ih
  have h := h 8 0 0 0 (by omega)
  (apply WP_runI (lv := lvM) LM_ok 4 80; simp (disch := first | decide | omega) only [t161_0, lift_c, o_inl, o_istore, s1_0, s1_s, o_iload2, o_icge, o_iload1, o_aload0, o_getref, o_iaload, o_iadd, o_iinc2, o_goto, o_ireturn, z0, z1, z2, z8, z20, z31, runI_0, runI_c, runI_n, liftI_n, liftI_y, run_0, run_c, run_n, fxn, fxi, fxr, fxl, fxl0, ↓swi_n, ↓swi_c, nck0, nck1, nck2, nck3, List.length_cons, List.length_nil, Nat.reduceAdd, Nat.reduceSub, Nat.reduceLeDiff, Nat.reduceEqDiff, Nat.reduceLT, reduceIte, ite_true, ite_false, Nat.sub_zero, Nat.zero_le, true_and, and_true, and_self, true_or, or_true, if_true, if_false, true_implies, implies_true, not_true_eq_false, not_false_eq_true, false_implies, forall_const, ne_eq, or_self, and_false, false_and, Lt, Le, Eq', Cp, In, nI_add, nI_mul, nI_sub, nI_sub1, Neg0, bI_eq0, bI_eq1, bI_01, bft, up2_eq, up2_no, Bool.true_eq_false, Bool.false_eq_true, eq_self, m1_ne, m1_ne2, m1_lt, m1_le, lt_m1, m1_le2, bI_t, bI_f, LM_all hF, FMu hF])
  exact h
theorem keep_M (hF : FM sh P) (hQ : Q none n sh (cpy2 I 124 0 125 0 138) L P) : Cl G d 120 [.ref 123, .int (nI 0)] n sh I L P Q := by
  apply e120
  have h20 : nle 20 125 := by show 20 ≤ 125; decide
  have h : ∀ m j cc ss, j + m = 138 → WP G 120 d Q 2 [some (.ref 123), some (.int (nI 0)), some (.int (nI j))] [] cc ss n sh (cpy2 I 124 0 125 0 j) L P := by
    intro m
    induction m with
    | zero =>
      intro j cc ss h
      have h : j = 138 := by omega
      subst h
      (apply WP_runI (lv := lvM) LM_ok 2 80; simp (disch := first | decide | omega) only [t120_0, lift_c, o_inl, o_istore, s1_0, s1_s, o_iload2, o_icge, o_aload0, o_getref, o_iload1, o_imul, o_iadd, o_iaload, o_iastore, o_iinc2, o_goto, o_return, z0, z1, z2, z20, z31, z138, runI_0, runI_c, runI_n, liftI_n, liftI_y, run_0, run_c, run_n, fxn, fxi, fxr, fxl, fxl0, ↓swi_n, ↓swi_c, nck0, nck1, nck2, nck3, List.length_cons, List.length_nil, Nat.reduceAdd, Nat.reduceSub, Nat.reduceLeDiff, Nat.reduceEqDiff, Nat.reduceLT, reduceIte, ite_true, ite_false, Nat.sub_zero, Nat.zero_le, true_and, and_true, and_self, true_or, or_true, if_true, if_false, true_implies, implies_true, not_true_eq_false, not_false_eq_true, false_implies, forall_const, ne_eq, or_self, and_false, false_and, Lt, Le, Eq', Cp, In, nI_add, nI_mul, nI_sub, nI_sub1, Neg0, bI_eq0, bI_eq1, bI_01, bft, up2_eq, up2_no, Bool.true_eq_false, Bool.false_eq_true, eq_self, m1_ne, m1_ne2, m1_lt, m1_le, lt_m1, m1_le2, bI_t, bI_f, LM_all hF, FMu hF, Nat.le_refl])
      exact hQ
    | succ m ih =>
      intro j cc ss h
      have hj2 : ¬ 138 ≤ j := by omega
      have ih := ih (j + 1) cc ss (by omega)
      rw [← cpy2_s I 124 125 j (by decide)] at ih
      (apply WP_runI (lv := lvM) LM_ok 2 80; simp (disch := first | decide | omega) only [t120_0, lift_c, o_inl, o_istore, s1_0, s1_s, o_iload2, o_icge, o_aload0, o_getref, o_iload1, o_imul, o_iadd, o_iaload, o_iastore, o_iinc2, o_goto, o_return, z0, z1, z2, z20, z31, z138, runI_0, runI_c, runI_n, liftI_n, liftI_y, run_0, run_c, run_n, fxn, fxi, fxr, fxl, fxl0, ↓swi_n, ↓swi_c, nck0, nck1, nck2, nck3, List.length_cons, List.length_nil, Nat.reduceAdd, Nat.reduceSub, Nat.reduceLeDiff, Nat.reduceEqDiff, Nat.reduceLT, reduceIte, ite_true, ite_false, Nat.sub_zero, Nat.zero_le, true_and, and_true, and_self, true_or, or_true, if_true, if_false, true_implies, implies_true, not_true_eq_false, not_false_eq_true, false_implies, forall_const, ne_eq, or_self, and_false, false_and, Lt, Le, Eq', Cp, In, nI_add, nI_mul, nI_sub, nI_sub1, Neg0, bI_eq0, bI_eq1, bI_01, bft, up2_eq, up2_no, Bool.true_eq_false, Bool.false_eq_true, eq_self, m1_ne, m1_ne2, m1_lt, m1_le, lt_m1, m1_le2, bI_t, bI_f, LM_all hF, FMu hF, hj2, Nat.mul_zero, Nat.zero_add, h20, cpy2_no])
      exact ih
  have h := h 138 0 0 0 (by omega)
  rw [cpy2_0] at h
  (apply WP_runI (lv := lvM) LM_ok 2 80; simp (disch := first | decide | omega) only [t120_0, lift_c, o_inl, o_istore, s1_0, s1_s, o_iload2, o_icge, o_aload0, o_getref, o_iload1, o_imul, o_iadd, o_iaload, o_iastore, o_iinc2, o_goto, o_return, z0, z1, z2, z20, z31, z138, runI_0, runI_c, runI_n, liftI_n, liftI_y, run_0, run_c, run_n, fxn, fxi, fxr, fxl, fxl0, ↓swi_n, ↓swi_c, nck0, nck1, nck2, nck3, List.length_cons, List.length_nil, Nat.reduceAdd, Nat.reduceSub, Nat.reduceLeDiff, Nat.reduceEqDiff, Nat.reduceLT, reduceIte, ite_true, ite_false, Nat.sub_zero, Nat.zero_le, true_and, and_true, and_self, true_or, or_true, if_true, if_false, true_implies, implies_true, not_true_eq_false, not_false_eq_true, false_implies, forall_const, ne_eq, or_self, and_false, false_and, Lt, Le, Eq', Cp, In, nI_add, nI_mul, nI_sub, nI_sub1, Neg0, bI_eq0, bI_eq1, bI_01, bft, up2_eq, up2_no, Bool.true_eq_false, Bool.false_eq_true, eq_self, m1_ne, m1_ne2, m1_lt, m1_le, lt_m1, m1_le2, bI_t, bI_f, LM_all hF, FMu hF])
  exact h
theorem lay_M (hF : FM sh P) (hQ : Q none n sh (cpy2 I 125 0 124 0 138) L P) : Cl G d 121 [.ref 123, .int (nI 0)] n sh I L P Q := by
  apply e121
  have h20 : nle 20 124 := by show 20 ≤ 124; decide
  have h : ∀ m j cc ss, j + m = 138 → WP G 121 d Q 2 [some (.ref 123), some (.int (nI 0)), some (.int (nI j))] [] cc ss n sh (cpy2 I 125 0 124 0 j) L P := by
    intro m
    induction m with
    | zero =>
      intro j cc ss h
      have h : j = 138 := by omega
      subst h
      (apply WP_runI (lv := lvM) LM_ok 2 80; simp (disch := first | decide | omega) only [t121_0, lift_c, o_inl, o_istore, s1_0, s1_s, o_iload2, o_icge, o_aload0, o_getref, o_iload1, o_imul, o_iadd, o_iaload, o_iastore, o_iinc2, o_goto, o_return, z0, z1, z2, z20, z31, z138, runI_0, runI_c, runI_n, liftI_n, liftI_y, run_0, run_c, run_n, fxn, fxi, fxr, fxl, fxl0, ↓swi_n, ↓swi_c, nck0, nck1, nck2, nck3, List.length_cons, List.length_nil, Nat.reduceAdd, Nat.reduceSub, Nat.reduceLeDiff, Nat.reduceEqDiff, Nat.reduceLT, reduceIte, ite_true, ite_false, Nat.sub_zero, Nat.zero_le, true_and, and_true, and_self, true_or, or_true, if_true, if_false, true_implies, implies_true, not_true_eq_false, not_false_eq_true, false_implies, forall_const, ne_eq, or_self, and_false, false_and, Lt, Le, Eq', Cp, In, nI_add, nI_mul, nI_sub, nI_sub1, Neg0, bI_eq0, bI_eq1, bI_01, bft, up2_eq, up2_no, Bool.true_eq_false, Bool.false_eq_true, eq_self, m1_ne, m1_ne2, m1_lt, m1_le, lt_m1, m1_le2, bI_t, bI_f, LM_all hF, FMu hF, Nat.le_refl])
      exact hQ
    | succ m ih =>
      intro j cc ss h
      have hj2 : ¬ 138 ≤ j := by omega
      have ih := ih (j + 1) cc ss (by omega)
      rw [← cpy2_s I 125 124 j (by decide)] at ih
      (apply WP_runI (lv := lvM) LM_ok 2 80; simp (disch := first | decide | omega) only [t121_0, lift_c, o_inl, o_istore, s1_0, s1_s, o_iload2, o_icge, o_aload0, o_getref, o_iload1, o_imul, o_iadd, o_iaload, o_iastore, o_iinc2, o_goto, o_return, z0, z1, z2, z20, z31, z138, runI_0, runI_c, runI_n, liftI_n, liftI_y, run_0, run_c, run_n, fxn, fxi, fxr, fxl, fxl0, ↓swi_n, ↓swi_c, nck0, nck1, nck2, nck3, List.length_cons, List.length_nil, Nat.reduceAdd, Nat.reduceSub, Nat.reduceLeDiff, Nat.reduceEqDiff, Nat.reduceLT, reduceIte, ite_true, ite_false, Nat.sub_zero, Nat.zero_le, true_and, and_true, and_self, true_or, or_true, if_true, if_false, true_implies, implies_true, not_true_eq_false, not_false_eq_true, false_implies, forall_const, ne_eq, or_self, and_false, false_and, Lt, Le, Eq', Cp, In, nI_add, nI_mul, nI_sub, nI_sub1, Neg0, bI_eq0, bI_eq1, bI_01, bft, up2_eq, up2_no, Bool.true_eq_false, Bool.false_eq_true, eq_self, m1_ne, m1_ne2, m1_lt, m1_le, lt_m1, m1_le2, bI_t, bI_f, LM_all hF, FMu hF, hj2, Nat.mul_zero, Nat.zero_add, h20, cpy2_no])
      exact ih
  have h := h 138 0 0 0 (by omega)
  rw [cpy2_0] at h
  (apply WP_runI (lv := lvM) LM_ok 2 80; simp (disch := first | decide | omega) only [t121_0, lift_c, o_inl, o_istore, s1_0, s1_s, o_iload2, o_icge, o_aload0, o_getref, o_iload1, o_imul, o_iadd, o_iaload, o_iastore, o_iinc2, o_goto, o_return, z0, z1, z2, z20, z31, z138, runI_0, runI_c, runI_n, liftI_n, liftI_y, run_0, run_c, run_n, fxn, fxi, fxr, fxl, fxl0, ↓swi_n, ↓swi_c, nck0, nck1, nck2, nck3, List.length_cons, List.length_nil, Nat.reduceAdd, Nat.reduceSub, Nat.reduceLeDiff, Nat.reduceEqDiff, Nat.reduceLT, reduceIte, ite_true, ite_false, Nat.sub_zero, Nat.zero_le, true_and, and_true, and_self, true_or, or_true, if_true, if_false, true_implies, implies_true, not_true_eq_false, not_false_eq_true, false_implies, forall_const, ne_eq, or_self, and_false, false_and, Lt, Le, Eq', Cp, In, nI_add, nI_mul, nI_sub, nI_sub1, Neg0, bI_eq0, bI_eq1, bI_01, bft, up2_eq, up2_no, Bool.true_eq_false, Bool.false_eq_true, eq_self, m1_ne, m1_ne2, m1_lt, m1_le, lt_m1, m1_le2, bI_t, bI_f, LM_all hF, FMu hF])
  exact h
end
def lvN (a : Nat) : Bool := a == 160 || (a == 161 || (a == 120 || (a == 121 || lvM a)))
def LN (d : Nat) : TC := fun a as n sh I L P Q =>
  if a = 160 then (match as with | [.ref q] => q = 123 ∧ FM sh P ∧ WFe (I 124) ∧ 3 ≤ d ∧ Q (some (.int (openS (I 124)))) n sh I L P | _ => False) else
  if a = 161 then (match as with | [.ref q] => q = 123 ∧ FM sh P ∧ Q (some (.int (grnS (I 124)))) n sh I L P | _ => False) else
  if a = 120 then (match as with | [.ref q, .int x] => q = 123 ∧ FM sh P ∧ x = nI 0 ∧ Q none n sh (cpy2 I 124 0 125 0 138) L P | _ => False) else
  if a = 121 then (match as with | [.ref q, .int x] => q = 123 ∧ FM sh P ∧ x = nI 0 ∧ Q none n sh (cpy2 I 125 0 124 0 138) L P | _ => False) else LM d a as n sh I L P Q
theorem LN_ok {G : GE} {d : Nat} : ∀ a as n sh I L P Q', LN d a as n sh I L P Q' → Cl G d a as n sh I L P Q' := by
  intro a as n sh I L P Q h
  unfold LN at h
  by_cases e : a = 160
  · subst e
    rw [if_pos rfl] at h
    split at h
    · obtain ⟨rfl, hF, hW, hd, hQ⟩ := h
      exact open_M hF hW hd hQ
    · exact h.elim
  rw [if_neg e] at h
  by_cases e : a = 161
  · subst e
    rw [if_pos rfl] at h
    split at h
    · obtain ⟨rfl, hF, hQ⟩ := h
      exact grains_M hF hQ
    · exact h.elim
  rw [if_neg e] at h
  by_cases e : a = 120
  · subst e
    rw [if_pos rfl] at h
    split at h
    · obtain ⟨rfl, hF, rfl, hQ⟩ := h
      exact keep_M hF hQ
    · exact h.elim
  rw [if_neg e] at h
  by_cases e : a = 121
  · subst e
    rw [if_pos rfl] at h
    split at h
    · obtain ⟨rfl, hF, rfl, hQ⟩ := h
      exact lay_M hF hQ
    · exact h.elim
  rw [if_neg e] at h
  exact LM_ok _ _ _ _ _ _ _ _ h
theorem LN_all {sh : TS} {P : TP} (hF : FM sh P) :
    (∀ (d n : Nat) (I : TI) (L : TL) (Q : TQ), 3 ≤ d → LN d 160 [.ref 123] n sh I L P Q = (WFe (I 124) ∧ Q (some (.int (openS (I 124)))) n sh I L P)) ∧
    (∀ (d n : Nat) (I : TI) (L : TL) (Q : TQ), LN d 161 [.ref 123] n sh I L P Q = Q (some (.int (grnS (I 124)))) n sh I L P) ∧
    (∀ (d n : Nat) (I : TI) (L : TL) (Q : TQ), LN d 120 [.ref 123, .int (nI 0)] n sh I L P Q = Q none n sh (cpy2 I 124 0 125 0 138) L P) ∧
    (∀ (d n : Nat) (I : TI) (L : TL) (Q : TQ), LN d 121 [.ref 123, .int (nI 0)] n sh I L P Q = Q none n sh (cpy2 I 125 0 124 0 138) L P) ∧
    (∀ (d n a : Nat) (as : List Value) (I : TI) (L : TL) (Q : TQ), lvM a = true → LN d a as n sh I L P Q = LM d a as n sh I L P Q) := by
  refine ⟨fun d n I L Q h => ?_, fun d n I L Q => ?_, fun d n I L Q => ?_, fun d n I L Q => ?_, fun d n a as I L Q h => ?_⟩
  · show (123 = 123 ∧ FM sh P ∧ WFe (I 124) ∧ 3 ≤ d ∧ _) = _
    exact propext ⟨fun q => ⟨q.2.2.1, q.2.2.2.2⟩, fun q => ⟨rfl, hF, q.1, h, q.2⟩⟩
  · show (123 = 123 ∧ FM sh P ∧ _) = _
    exact propext ⟨fun q => q.2.2, fun q => ⟨rfl, hF, q⟩⟩
  · show (123 = 123 ∧ FM sh P ∧ nI 0 = nI 0 ∧ _) = _
    exact propext ⟨fun q => q.2.2.2, fun q => ⟨rfl, hF, rfl, q⟩⟩
  · show (123 = 123 ∧ FM sh P ∧ nI 0 = nI 0 ∧ _) = _
    exact propext ⟨fun q => q.2.2.2, fun q => ⟨rfl, hF, rfl, q⟩⟩
  · unfold LN
    rw [if_neg (by rintro rfl; revert h; decide), if_neg (by rintro rfl; revert h; decide), if_neg (by rintro rfl; revert h; decide), if_neg (by rintro rfl; revert h; decide)]
