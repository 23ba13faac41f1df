/-! ### the reference: on, keys, way, lead -/
theorem sub_of {y : Int32} {a c : Nat} (h : y - nI a = nI c) : y = nI (a + c) := by
  rw [← nI_add, ← h, Int32.add_comm, Int32.sub_add_cancel]
def okW (N : TN) (y : Int32) : Bool := decide (y = nI 0) || (isC (y - nI 10) || isY N (y - nI 20))
def onF (M : TN) (y : Int32) : Int32 := if y = nI 0 then openS M else if isC (y - nI 10) = true then M (y - nI 10).toNatClampNeg else gs M (y - nI 20).toNatClampNeg 2
def onA (F : TF) (E : Nat → Int32) (N : TN) (x y : Int32) : Int32 := if okW N y = false then -nI 1 else if inR x 0 60 = false then -nI 2 else onF (hoursS F E N x.toNatClampNeg) y
section
variable {G : GE} {d n : Nat} {sh : TS} {I : TI} {L : TL} {P : TP} {Q : TQ} {F : TF} {E : Nat → Int32} {k g r : Nat}
theorem on_Z (hF : FM sh P) {I1 : TI} {M : TN} {m j : Nat} {y v : Int32} (hm : m ≤ 60) (hj : m ≤ j) (hj2 : j ≤ m) (ha : AH I I1 M k g r) (hy : okW M y = true) (hv : onF M y = v) (hd : 38 ≤ d) (hQ : ∀ I', Eo scA I I' → Q (some (.int v)) n sh I' L P) {cc ss : Nat} :
    WP G 169 d Q 47 [some (.ref 123), some (.int (nI m)), some (.int y), some (.int (nI j))] [] cc ss n sh I1 L P := by
  have hd0 : 0 < d := by omega
  have h124 := ha.2.1
  have hWe := ha.we
  have hW := ha.2.2.2.2
  have hk := hW.k6
  have hQ := hQ _ ha.fin
  unfold onF at hv
  by_cases h0 : y = nI 0
  · rw [if_pos h0] at hv
    subst hv h0
    (apply WP_runI (lv := lvN) LN_ok 47 80; simp (disch := first | decide | omega) only [t169_0, t169_1, lift_c, o_iload2, o_ifeq, o_inl, o_isub, o_stat1, rpush_n, rpush_s, o_ifne, o_aload0, o_virt2, o_ireturn, o_iload1, o_stat3, o_istore, s1_0, s1_s, o_iload3, o_icge, o_virt1, o_iinc3, o_goto, o_getref, o_iaload, o_virt3, z0, z1, z2, z10, z20, z31, z60, runI_0, runI_c, runI_n, liftI_n, liftI_y, run_0, run_c, run_n, fxn, fxi, fxr, fxl, fxl0, ↓swi_n, ↓swi_c, nck0, nck1, nck2, nck3, List.length_cons, List.length_nil, Nat.reduceAdd, Nat.reduceSub, Nat.reduceLeDiff, Nat.reduceEqDiff, Nat.reduceLT, reduceIte, ite_true, ite_false, Nat.sub_zero, Nat.zero_le, true_and, and_true, and_self, true_or, or_true, if_true, if_false, true_implies, implies_true, not_true_eq_false, not_false_eq_true, false_implies, forall_const, ne_eq, or_self, and_false, false_and, Lt, Le, Eq', Cp, In, nI_add, nI_mul, nI_sub, nI_sub1, Neg0, bI_eq0, bI_eq1, bI_01, bft, up2_eq, up2_no, Bool.true_eq_false, Bool.false_eq_true, eq_self, m1_ne, m1_ne2, m1_lt, m1_le, lt_m1, m1_le2, bI_t, bI_f, LM_all hF, LN_all hF, FMu hF, hd0, hj, h124, hWe])
    exact hQ
  · rw [if_neg h0] at hv
    by_cases h1 : isC (y - nI 10) = true
    · rw [if_pos h1] at hv
      obtain ⟨c, hc, e⟩ := isC_of h1
      rw [e, Cp _ (by omega)] at hv
      have e := sub_of e
      subst hv e
      have hc1 : ¬ (10 + c = 0) := by omega
      have hc2 : ¬ (20 ≤ 10 + c) := by omega
      (apply WP_runI (lv := lvN) LN_ok 47 80; simp (disch := first | decide | omega) only [t169_0, t169_1, lift_c, o_iload2, o_ifeq, o_inl, o_isub, o_stat1, rpush_n, rpush_s, o_ifne, o_aload0, o_virt2, o_ireturn, o_iload1, o_stat3, o_istore, s1_0, s1_s, o_iload3, o_icge, o_virt1, o_iinc3, o_goto, o_getref, o_iaload, o_virt3, z0, z1, z2, z10, z20, z31, z60, runI_0, runI_c, runI_n, liftI_n, liftI_y, run_0, run_c, run_n, fxn, fxi, fxr, fxl, fxl0, ↓swi_n, ↓swi_c, nck0, nck1, nck2, nck3, List.length_cons, List.length_nil, Nat.reduceAdd, Nat.reduceSub, Nat.reduceLeDiff, Nat.reduceEqDiff, Nat.reduceLT, reduceIte, ite_true, ite_false, Nat.sub_zero, Nat.zero_le, true_and, and_true, and_self, true_or, or_true, if_true, if_false, true_implies, implies_true, not_true_eq_false, not_false_eq_true, false_implies, forall_const, ne_eq, or_self, and_false, false_and, Lt, Le, Eq', Cp, In, nI_add, nI_mul, nI_sub, nI_sub1, Neg0, bI_eq0, bI_eq1, bI_01, bft, up2_eq, up2_no, Bool.true_eq_false, Bool.false_eq_true, eq_self, m1_ne, m1_ne2, m1_lt, m1_le, lt_m1, m1_le2, bI_t, bI_f, LM_all hF, LN_all hF, FMu hF, hd0, hj, h124, hWe, hc1, hc2, Nat.add_sub_cancel_left])
      exact hQ
    · rw [if_neg h1] at hv
      have h2 : isY M (y - nI 20) = true := by
        unfold okW at hy
        rw [decide_eq_false h0, Bool.eq_false_iff.mpr h1] at hy
        exact hy
      obtain ⟨i, hi, e⟩ := isY_of hW h2
      rw [e, Cp _ (by omega)] at hv
      have e := sub_of e
      subst hv e
      have hi1 : ¬ (20 + i = 0) := by omega
      have hi2 : 20 ≤ 20 + i := by omega
      (apply WP_runI (lv := lvN) LN_ok 47 80; simp (disch := first | decide | omega) only [t169_0, t169_1, lift_c, o_iload2, o_ifeq, o_inl, o_isub, o_stat1, rpush_n, rpush_s, o_ifne, o_aload0, o_virt2, o_ireturn, o_iload1, o_stat3, o_istore, s1_0, s1_s, o_iload3, o_icge, o_virt1, o_iinc3, o_goto, o_getref, o_iaload, o_virt3, z0, z1, z2, z10, z20, z31, z60, runI_0, runI_c, runI_n, liftI_n, liftI_y, run_0, run_c, run_n, fxn, fxi, fxr, fxl, fxl0, ↓swi_n, ↓swi_c, nck0, nck1, nck2, nck3, List.length_cons, List.length_nil, Nat.reduceAdd, Nat.reduceSub, Nat.reduceLeDiff, Nat.reduceEqDiff, Nat.reduceLT, reduceIte, ite_true, ite_false, Nat.sub_zero, Nat.zero_le, true_and, and_true, and_self, true_or, or_true, if_true, if_false, true_implies, implies_true, not_true_eq_false, not_false_eq_true, false_implies, forall_const, ne_eq, or_self, and_false, false_and, Lt, Le, Eq', Cp, In, nI_add, nI_mul, nI_sub, nI_sub1, Neg0, bI_eq0, bI_eq1, bI_01, bft, up2_eq, up2_no, Bool.true_eq_false, Bool.false_eq_true, eq_self, m1_ne, m1_ne2, m1_lt, m1_le, lt_m1, m1_le2, bI_t, bI_f, LM_all hF, LN_all hF, FMu hF, hd0, hj, h124, hWe, hi1, hi2, Nat.add_sub_cancel_left])
      exact hQ
theorem isY_hours {N M : TN} {k g r : Nat} (h : WF N k g r) (h2 : WF M k g r) (y : Int32) : isY M y = isY N y := by
  unfold isY
  rw [h.n80, h2.n80]
theorem on_M (hF : FM sh P) (hB : BK I F E k g r) {x y : Int32} (hd : 40 ≤ d) (hQ : ∀ I', Eo scA I I' → Q (some (.int (onA F E (I 124) x y))) n sh I' L P) : Cl G d 169 [.ref 123, .int x, .int y] n sh I L P Q := by
  apply e169
  have hd0 : 0 < d := by omega
  have hWe := hB.we
  have mid : okW (I 124) y = true → ∀ cc ss, WP G 169 d Q 27 [some (.ref 123), some (.int x), some (.int y), none] [] cc ss n sh I L P := by
    intro hy cc ss
    unfold onA at hQ
    rw [if_neg (by rw [hy]; decide)] at hQ
    cases hx : inR x 0 60 with
    | false =>
      have hx2 : decide (nI 0 ≤ x ∧ x ≤ nI 60) = false := hx
      rw [if_pos hx] at hQ
      have hQ := hQ I Eo.rf
      (apply WP_runI (lv := lvN) LN_ok 27 80; simp (disch := first | decide | omega) only [t169_0, t169_1, lift_c, o_iload2, o_ifeq, o_inl, o_isub, o_stat1, rpush_n, rpush_s, o_ifne, o_aload0, o_virt2, o_ireturn, o_iload1, o_stat3, o_istore, s1_0, s1_s, o_iload3, o_icge, o_virt1, o_iinc3, o_goto, o_getref, o_iaload, o_virt3, z0, z1, z2, z10, z20, z31, z60, runI_0, runI_c, runI_n, liftI_n, liftI_y, run_0, run_c, run_n, fxn, fxi, fxr, fxl, fxl0, ↓swi_n, ↓swi_c, nck0, nck1, nck2, nck3, List.length_cons, List.length_nil, Nat.reduceAdd, Nat.reduceSub, Nat.reduceLeDiff, Nat.reduceEqDiff, Nat.reduceLT, reduceIte, ite_true, ite_false, Nat.sub_zero, Nat.zero_le, true_and, and_true, and_self, true_or, or_true, if_true, if_false, true_implies, implies_true, not_true_eq_false, not_false_eq_true, false_implies, forall_const, ne_eq, or_self, and_false, false_and, Lt, Le, Eq', Cp, In, nI_add, nI_mul, nI_sub, nI_sub1, Neg0, bI_eq0, bI_eq1, bI_01, bft, up2_eq, up2_no, Bool.true_eq_false, Bool.false_eq_true, eq_self, m1_ne, m1_ne2, m1_lt, m1_le, lt_m1, m1_le2, bI_t, bI_f, LM_all hF, LN_all hF, FMu hF, hd0, hx2])
      exact hQ
    | true =>
      rw [if_neg (by rw [hx]; decide)] at hQ
      obtain ⟨m, -, hm, rfl⟩ := inR_of (by omega) (by omega) hx
      rw [Cp _ (by omega)] at hQ
      generalize hv : onF (hoursS F E (I 124) m) y = v at hQ
      have loop : ∀ l j I1 cc ss, j + l = m → AH I I1 (hoursS F E (I 124) j) k g r → WP G 169 d Q 47 [some (.ref 123), some (.int (nI m)), some (.int y), some (.int (nI j))] [] cc ss n sh I1 L P := by
        intro l
        induction l with
        | zero =>
          intro j I1 cc ss h ha
          have h : j = m := by omega
          subst h
          refine on_Z hF hm (Nat.le_refl _) (Nat.le_refl _) ha ?_ hv (by omega) hQ
          unfold okW at hy ⊢
          rw [isY_hours hB.1 ha.2.2.2.2]
          exact hy
        | succ l ih =>
          intro j I1 cc ss h ha
          have hj : ¬ m ≤ j := by omega
          (apply WP_runI (lv := lvN) LN_ok 47 80; simp (disch := first | decide | omega) only [t169_0, t169_1, lift_c, o_iload2, o_ifeq, o_inl, o_isub, o_stat1, rpush_n, rpush_s, o_ifne, o_aload0, o_virt2, o_ireturn, o_iload1, o_stat3, o_istore, s1_0, s1_s, o_iload3, o_icge, o_virt1, o_iinc3, o_goto, o_getref, o_iaload, o_virt3, z0, z1, z2, z10, z20, z31, z60, runI_0, runI_c, runI_n, liftI_n, liftI_y, run_0, run_c, run_n, fxn, fxi, fxr, fxl, fxl0, ↓swi_n, ↓swi_c, nck0, nck1, nck2, nck3, List.length_cons, List.length_nil, Nat.reduceAdd, Nat.reduceSub, Nat.reduceLeDiff, Nat.reduceEqDiff, Nat.reduceLT, reduceIte, ite_true, ite_false, Nat.sub_zero, Nat.zero_le, true_and, and_true, and_self, true_or, or_true, if_true, if_false, true_implies, implies_true, not_true_eq_false, not_false_eq_true, false_implies, forall_const, ne_eq, or_self, and_false, false_and, Lt, Le, Eq', Cp, In, nI_add, nI_mul, nI_sub, nI_sub1, Neg0, bI_eq0, bI_eq1, bI_01, bft, up2_eq, up2_no, Bool.true_eq_false, Bool.false_eq_true, eq_self, m1_ne, m1_ne2, m1_lt, m1_le, lt_m1, m1_le2, bI_t, bI_f, LM_all hF, LN_all hF, FMu hF, hd0, hj])
          refine hour_A hF hB ha (by omega) fun I2 ha2 _ => ?_
          have ih := fun cc ss => ih (j + 1) I2 cc ss (by omega) ha2
          (apply WP_runI (lv := lvN) LN_ok 47 80; simp (disch := first | decide | omega) only [t169_0, t169_1, lift_c, o_iload2, o_ifeq, o_inl, o_isub, o_stat1, rpush_n, rpush_s, o_ifne, o_aload0, o_virt2, o_ireturn, o_iload1, o_stat3, o_istore, s1_0, s1_s, o_iload3, o_icge, o_virt1, o_iinc3, o_goto, o_getref, o_iaload, o_virt3, z0, z1, z2, z10, z20, z31, z60, runI_0, runI_c, runI_n, liftI_n, liftI_y, run_0, run_c, run_n, fxn, fxi, fxr, fxl, fxl0, ↓swi_n, ↓swi_c, nck0, nck1, nck2, nck3, List.length_cons, List.length_nil, Nat.reduceAdd, Nat.reduceSub, Nat.reduceLeDiff, Nat.reduceEqDiff, Nat.reduceLT, reduceIte, ite_true, ite_false, Nat.sub_zero, Nat.zero_le, true_and, and_true, and_self, true_or, or_true, if_true, if_false, true_implies, implies_true, not_true_eq_false, not_false_eq_true, false_implies, forall_const, ne_eq, or_self, and_false, false_and, Lt, Le, Eq', Cp, In, nI_add, nI_mul, nI_sub, nI_sub1, Neg0, bI_eq0, bI_eq1, bI_01, bft, up2_eq, up2_no, Bool.true_eq_false, Bool.false_eq_true, eq_self, m1_ne, m1_ne2, m1_lt, m1_le, lt_m1, m1_le2, bI_t, bI_f, LM_all hF, LN_all hF, FMu hF, hd0])
          exact ih _ _
      have ha := AH.start hB
      (apply WP_runI (lv := lvN) LN_ok 47 80; simp (disch := first | decide | omega) only [t169_0, t169_1, lift_c, o_iload2, o_ifeq, o_inl, o_isub, o_stat1, rpush_n, rpush_s, o_ifne, o_aload0, o_virt2, o_ireturn, o_iload1, o_stat3, o_istore, s1_0, s1_s, o_iload3, o_icge, o_virt1, o_iinc3, o_goto, o_getref, o_iaload, o_virt3, z0, z1, z2, z10, z20, z31, z60, runI_0, runI_c, runI_n, liftI_n, liftI_y, run_0, run_c, run_n, fxn, fxi, fxr, fxl, fxl0, ↓swi_n, ↓swi_c, nck0, nck1, nck2, nck3, List.length_cons, List.length_nil, Nat.reduceAdd, Nat.reduceSub, Nat.reduceLeDiff, Nat.reduceEqDiff, Nat.reduceLT, reduceIte, ite_true, ite_false, Nat.sub_zero, Nat.zero_le, true_and, and_true, and_self, true_or, or_true, if_true, if_false, true_implies, implies_true, not_true_eq_false, not_false_eq_true, false_implies, forall_const, ne_eq, or_self, and_false, false_and, Lt, Le, Eq', Cp, In, nI_add, nI_mul, nI_sub, nI_sub1, Neg0, bI_eq0, bI_eq1, bI_01, bft, up2_eq, up2_no, Bool.true_eq_false, Bool.false_eq_true, eq_self, m1_ne, m1_ne2, m1_lt, m1_le, lt_m1, m1_le2, bI_t, bI_f, LM_all hF, LN_all hF, FMu hF, hd0, hm, decide_true])
      generalize cpy2 I 124 0 125 0 138 = I1 at ha ⊢
      exact loop m 0 I1 _ _ (by omega) ha
  by_cases h0 : y = nI 0
  · have mid := mid (by unfold okW; rw [decide_eq_true h0]; rfl)
    (apply WP_runI (lv := lvN) LN_ok 27 80; simp (disch := first | decide | omega) only [t169_0, t169_1, lift_c, o_iload2, o_ifeq, o_inl, o_isub, o_stat1, rpush_n, rpush_s, o_ifne, o_aload0, o_virt2, o_ireturn, o_iload1, o_stat3, o_istore, s1_0, s1_s, o_iload3, o_icge, o_virt1, o_iinc3, o_goto, o_getref, o_iaload, o_virt3, z0, z1, z2, z10, z20, z31, z60, runI_0, runI_c, runI_n, liftI_n, liftI_y, run_0, run_c, run_n, fxn, fxi, fxr, fxl, fxl0, ↓swi_n, ↓swi_c, nck0, nck1, nck2, nck3, List.length_cons, List.length_nil, Nat.reduceAdd, Nat.reduceSub, Nat.reduceLeDiff, Nat.reduceEqDiff, Nat.reduceLT, reduceIte, ite_true, ite_false, Nat.sub_zero, Nat.zero_le, true_and, and_true, and_self, true_or, or_true, if_true, if_false, true_implies, implies_true, not_true_eq_false, not_false_eq_true, false_implies, forall_const, ne_eq, or_self, and_false, false_and, Lt, Le, Eq', Cp, In, nI_add, nI_mul, nI_sub, nI_sub1, Neg0, bI_eq0, bI_eq1, bI_01, bft, up2_eq, up2_no, Bool.true_eq_false, Bool.false_eq_true, eq_self, m1_ne, m1_ne2, m1_lt, m1_le, lt_m1, m1_le2, bI_t, bI_f, LM_all hF, LN_all hF, FMu hF, hd0, h0])
    rw [h0] at mid
    exact mid _ _
  · cases h1 : isC (y - nI 10) with
    | true =>
      have mid := mid (by unfold okW; rw [h1]; simp)
      (apply WP_runI (lv := lvN) LN_ok 27 80; simp (disch := first | decide | omega) only [t169_0, t169_1, lift_c, o_iload2, o_ifeq, o_inl, o_isub, o_stat1, rpush_n, rpush_s, o_ifne, o_aload0, o_virt2, o_ireturn, o_iload1, o_stat3, o_istore, s1_0, s1_s, o_iload3, o_icge, o_virt1, o_iinc3, o_goto, o_getref, o_iaload, o_virt3, z0, z1, z2, z10, z20, z31, z60, runI_0, runI_c, runI_n, liftI_n, liftI_y, run_0, run_c, run_n, fxn, fxi, fxr, fxl, fxl0, ↓swi_n, ↓swi_c, nck0, nck1, nck2, nck3, List.length_cons, List.length_nil, Nat.reduceAdd, Nat.reduceSub, Nat.reduceLeDiff, Nat.reduceEqDiff, Nat.reduceLT, reduceIte, ite_true, ite_false, Nat.sub_zero, Nat.zero_le, true_and, and_true, and_self, true_or, or_true, if_true, if_false, true_implies, implies_true, not_true_eq_false, not_false_eq_true, false_implies, forall_const, ne_eq, or_self, and_false, false_and, Lt, Le, Eq', Cp, In, nI_add, nI_mul, nI_sub, nI_sub1, Neg0, bI_eq0, bI_eq1, bI_01, bft, up2_eq, up2_no, Bool.true_eq_false, Bool.false_eq_true, eq_self, m1_ne, m1_ne2, m1_lt, m1_le, lt_m1, m1_le2, bI_t, bI_f, LM_all hF, LN_all hF, FMu hF, hd0, h0, h1])
      exact mid _ _
    | false =>
      cases h2 : isY (I 124) (y - nI 20) with
      | true =>
        have mid := mid (by unfold okW; rw [h2]; simp)
        (apply WP_runI (lv := lvN) LN_ok 27 80; simp (disch := first | decide | omega) only [t169_0, t169_1, lift_c, o_iload2, o_ifeq, o_inl, o_isub, o_stat1, rpush_n, rpush_s, o_ifne, o_aload0, o_virt2, o_ireturn, o_iload1, o_stat3, o_istore, s1_0, s1_s, o_iload3, o_icge, o_virt1, o_iinc3, o_goto, o_getref, o_iaload, o_virt3, z0, z1, z2, z10, z20, z31, z60, runI_0, runI_c, runI_n, liftI_n, liftI_y, run_0, run_c, run_n, fxn, fxi, fxr, fxl, fxl0, ↓swi_n, ↓swi_c, nck0, nck1, nck2, nck3, List.length_cons, List.length_nil, Nat.reduceAdd, Nat.reduceSub, Nat.reduceLeDiff, Nat.reduceEqDiff, Nat.reduceLT, reduceIte, ite_true, ite_false, Nat.sub_zero, Nat.zero_le, true_and, and_true, and_self, true_or, or_true, if_true, if_false, true_implies, implies_true, not_true_eq_false, not_false_eq_true, false_implies, forall_const, ne_eq, or_self, and_false, false_and, Lt, Le, Eq', Cp, In, nI_add, nI_mul, nI_sub, nI_sub1, Neg0, bI_eq0, bI_eq1, bI_01, bft, up2_eq, up2_no, Bool.true_eq_false, Bool.false_eq_true, eq_self, m1_ne, m1_ne2, m1_lt, m1_le, lt_m1, m1_le2, bI_t, bI_f, LM_all hF, LN_all hF, FMu hF, hd0, h0, h1, h2, hWe])
        exact mid _ _
      | false =>
        have hQ := hQ I Eo.rf
        rw [show onA F E (I 124) x y = -nI 1 from if_pos (by unfold okW; rw [h1, h2, decide_eq_false h0]; rfl)] at hQ
        (apply WP_runI (lv := lvN) LN_ok 27 80; simp (disch := first | decide | omega) only [t169_0, t169_1, lift_c, o_iload2, o_ifeq, o_inl, o_isub, o_stat1, rpush_n, rpush_s, o_ifne, o_aload0, o_virt2, o_ireturn, o_iload1, o_stat3, o_istore, s1_0, s1_s, o_iload3, o_icge, o_virt1, o_iinc3, o_goto, o_getref, o_iaload, o_virt3, z0, z1, z2, z10, z20, z31, z60, runI_0, runI_c, runI_n, liftI_n, liftI_y, run_0, run_c, run_n, fxn, fxi, fxr, fxl, fxl0, ↓swi_n, ↓swi_c, nck0, nck1, nck2, nck3, List.length_cons, List.length_nil, Nat.reduceAdd, Nat.reduceSub, Nat.reduceLeDiff, Nat.reduceEqDiff, Nat.reduceLT, reduceIte, ite_true, ite_false, Nat.sub_zero, Nat.zero_le, true_and, and_true, and_self, true_or, or_true, if_true, if_false, true_implies, implies_true, not_true_eq_false, not_false_eq_true, false_implies, forall_const, ne_eq, or_self, and_false, false_and, Lt, Le, Eq', Cp, In, nI_add, nI_mul, nI_sub, nI_sub1, Neg0, bI_eq0, bI_eq1, bI_01, bft, up2_eq, up2_no, Bool.true_eq_false, Bool.false_eq_true, eq_self, m1_ne, m1_ne2, m1_lt, m1_le, lt_m1, m1_le2, bI_t, bI_f, LM_all hF, LN_all hF, FMu hF, hd0, h0, h1, h2, hWe])
        exact hQ
def pk (w : Int32) (f : Int32) (q : Int32 × Int32) : Int32 × Int32 := if w < q.2 then (f, w) else q
theorem pk_y {w f a b : Int32} (h : w < b) : pk w f (a, b) = (f, w) := if_pos h
theorem pk_n {w f a b : Int32} (h : ¬ w < b) : pk w f (a, b) = (a, b) := if_neg h
/-- min as the machine has it -/
theorem mn_y {w b : Int32} (h : w < b) : (if b < w then b else w) = w := if_neg fun q => by rw [i_lt] at h q; omega
theorem mn_n {w b : Int32} (h : ¬ w < b) : (if b < w then b else w) = b := by
  by_cases q : b < w
  · rw [if_pos q]
  · rw [if_neg q]
    apply Int32.toInt_inj.mp
    rw [i_lt] at h q
    omega
def swapS (N : TN) (i j : Nat) : TN := upN (upN N (26 + 9 * i + 3) (N (26 + 9 * j + 3))) (26 + 9 * j + 3) (N (26 + 9 * i + 3))
def kyJ (F : TF) (E : Nat → Int32) (N : TN) (x y : Int32) (i : Nat) (q : Int32 × Int32) : Nat → Int32 × Int32
  | 0 => q
  | j + 1 => if i < j then pk (lateS (wayL F E (swapS N i j) x y 16 0)) (nI (10 * i + j)) (kyJ F E N x y i q j) else kyJ F E N x y i q j
def kyI (F : TF) (E : Nat → Int32) (N : TN) (x y : Int32) (k : Nat) : Nat → Int32 × Int32
  | 0 => (-nI 5, lateS (wayL F E N x y 16 0))
  | i + 1 => kyJ F E N x y i (kyI F E N x y k i) k
theorem kyJ_y {F : TF} {E : Nat → Int32} {N : TN} {x y : Int32} {i j : Nat} {q : Int32 × Int32} {w a b : Int32} (h : i < j) (hq : kyJ F E N x y i q j = (a, b)) (hw : lateS (wayL F E (swapS N i j) x y 16 0) = w) : kyJ F E N x y i q (j + 1) = pk w (nI (10 * i + j)) (a, b) := by
  rw [kyJ, if_pos h, hw, hq]
theorem kyJ_0 (F : TF) (E : Nat → Int32) (N : TN) (x y : Int32) (i : Nat) (q : Int32 × Int32) : ∀ j, j ≤ i + 1 → kyJ F E N x y i q j = q
  | 0, _ => by rw [kyJ]
  | j + 1, h => by rw [kyJ, if_neg (by omega)]; exact kyJ_0 F E N x y i q j (by omega)
end
