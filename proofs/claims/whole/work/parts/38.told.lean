/-! ### the reference: told, pass, on, opens -/
theorem isC_of {y : Int32} (h : isC y = true) : ∃ c, c < 8 ∧ y = nI c := by
  unfold isC at h
  have h := of_decide_eq_true h
  have h3 : ¬ y < 0 := Int32.not_lt.mpr h.1
  obtain ⟨j, hj, rfl⟩ := nI_of h3
  have h2 := h.2
  rw [Le _ _ (by omega) (by omega)] at h2
  exact ⟨j, by omega, rfl⟩
theorem isC_nI {c : Nat} (h : c < 8) : isC (nI c) = true := by
  unfold isC
  exact decide_eq_true ⟨by rw [Le _ _ (by omega) (by omega)]; omega, by rw [Le _ _ (by omega) (by omega)]; omega⟩
theorem isY_of {N : TN} {k g r : Nat} (hW : WF N k g r) {y : Int32} (h : isY N y = true) : ∃ c, c < k ∧ y = nI c := by
  have hk := hW.k6
  unfold isY at h
  have h := of_decide_eq_true h
  have h3 : ¬ y < 0 := Int32.not_lt.mpr h.1
  obtain ⟨j, hj, rfl⟩ := nI_of h3
  have h2 := h.2
  rw [hW.n80, Lt _ _ (by omega) (by omega)] at h2
  exact ⟨j, by omega, rfl⟩
theorem isG_of {N : TN} {k g r : Nat} (hW : WF N k g r) {y : Int32} (h : isG N y = true) : ∃ c, c < g ∧ y = nI c := by
  have hk := hW.g9
  unfold isG at h
  have h := of_decide_eq_true h
  have h3 : ¬ y < 0 := Int32.not_lt.mpr h.1
  obtain ⟨j, hj, rfl⟩ := nI_of h3
  have h2 := h.2
  rw [hW.n81, Lt _ _ (by omega) (by omega)] at h2
  exact ⟨j, by omega, rfl⟩
def inR (x : Int32) (a b : Nat) : Bool := decide (nI a ≤ x ∧ x ≤ nI b)
theorem inR_of {x : Int32} {a b : Nat} (ha : a < 2 ^ 31) (hb : b < 2 ^ 31) (h : inR x a b = true) : ∃ m, a ≤ m ∧ m ≤ b ∧ x = nI m := by
  unfold inR at h
  have h := of_decide_eq_true h
  have h1 : nI 0 ≤ x := by
    have := h.1
    rw [i_le, nIi _ ha] at this
    rw [i_le, nIi _ (by omega)]
    omega
  have h3 : ¬ x < 0 := Int32.not_lt.mpr h1
  obtain ⟨j, hj, rfl⟩ := nI_of h3
  have h2 := h.2
  have h4 := h.1
  rw [Le _ _ (by omega) (by omega)] at h2 h4
  exact ⟨j, h4, h2, rfl⟩
def toldS (F : TF) (E : Nat → Int32) (N : TN) (x : Int32) : Int32 :=
  if x = nI 0 then N 82 else if x = nI 1 then E (rl N) else if x = nI 2 then openS N else if x = nI 3 then shutL F E N 21 else if x = nI 4 then grnS N else
  if isC (x - nI 10) = true then N (x - nI 10).toNatClampNeg else if isC (x - nI 20) = true then wkS F E N (x - nI 20) 15 else -nI 1
section
variable {G : GE} {d n : Nat} {sh : TS} {I : TI} {L : TL} {P : TP} {Q : TQ} {F : TF} {E : Nat → Int32} {k g r : Nat}
theorem told_M (hF : FM sh P) (hB : BK I F E k g r) {x : Int32} (hd : 40 ≤ d) (hQ : ∀ I', Eo scA I I' → Q (some (.int (toldS F E (I 124) x))) n sh I' L P) : Cl G d 167 [.ref 123, .int x] n sh I L P Q := by
  apply e167
  have hd0 : 0 < d := by omega
  have hWe := hB.we
  unfold toldS at hQ
  (apply WP_runI (lv := lvN) LN_ok 999 80; simp (disch := first | decide | omega) only [t167_0, t167_1, lift_c, o_iload1, o_lookup, o_aload0, o_getref, o_inl, o_iaload, o_ireturn, o_virt1, rpush_n, rpush_s, o_isub, o_stat1, o_ifeq, o_goto, o_virt2, z0, z1, z2, z3, z4, z10, z20, z31, z82, runI_0, runI_c, runI_n, liftI_n, liftI_y, run_0, run_c, run_n, fxn, fxi, fxr, fxl, fxl0, ↓swi_n, ↓swi_c, nck0, nck1, nck2, nck3, List.length_cons, List.length_nil, Nat.reduceAdd, Nat.reduceSub, Nat.reduceLeDiff, Nat.reduceEqDiff, Nat.reduceLT, reduceIte, ite_true, ite_false, Nat.sub_zero, Nat.zero_le, true_and, and_true, and_self, true_or, or_true, if_true, if_false, true_implies, implies_true, not_true_eq_false, not_false_eq_true, false_implies, forall_const, ne_eq, or_self, and_false, false_and, Lt, Le, Eq', Cp, In, nI_add, nI_mul, nI_sub, nI_sub1, Neg0, bI_eq0, bI_eq1, bI_01, bft, up2_eq, up2_no, Bool.true_eq_false, Bool.false_eq_true, eq_self, m1_ne, m1_ne2, m1_lt, m1_le, lt_m1, m1_le2, bI_t, bI_f, LM_all hF, LN_all hF, FMu hF, hd0, hWe])
  refine ⟨fun h => ?_, fun h0 => ⟨fun h => ?_, fun h1 => ⟨fun h => ?_, fun h2 => ⟨fun h => ?_, fun h3 => ⟨fun h => ?_, fun h4 => ?_⟩⟩⟩⟩⟩
  · rw [if_pos h] at hQ
    exact hQ I Eo.rf
  · rw [if_neg h0, if_pos h] at hQ
    refine eatNow_M hF hB.1 hB.2.1 hB.2.2.2 (by omega) fun I1 he => ?_
    have hQ := hQ I1 (he.mono fun _ _ => scR_A)
    (apply WP_runI (lv := lvN) LN_ok 999 80; simp (disch := first | decide | omega) only [t167_0, t167_1, lift_c, o_iload1, o_lookup, o_aload0, o_getref, o_inl, o_iaload, o_ireturn, o_virt1, rpush_n, rpush_s, o_isub, o_stat1, o_ifeq, o_goto, o_virt2, z0, z1, z2, z3, z4, z10, z20, z31, z82, runI_0, runI_c, runI_n, liftI_n, liftI_y, run_0, run_c, run_n, fxn, fxi, fxr, fxl, fxl0, ↓swi_n, ↓swi_c, nck0, nck1, nck2, nck3, List.length_cons, List.length_nil, Nat.reduceAdd, Nat.reduceSub, Nat.reduceLeDiff, Nat.reduceEqDiff, Nat.reduceLT, reduceIte, ite_true, ite_false, Nat.sub_zero, Nat.zero_le, true_and, and_true, and_self, true_or, or_true, if_true, if_false, true_implies, implies_true, not_true_eq_false, not_false_eq_true, false_implies, forall_const, ne_eq, or_self, and_false, false_and, Lt, Le, Eq', Cp, In, nI_add, nI_mul, nI_sub, nI_sub1, Neg0, bI_eq0, bI_eq1, bI_01, bft, up2_eq, up2_no, Bool.true_eq_false, Bool.false_eq_true, eq_self, m1_ne, m1_ne2, m1_lt, m1_le, lt_m1, m1_le2, bI_t, bI_f, LM_all hF, LN_all hF, FMu hF, hd0])
    exact hQ
  · rw [if_neg h0, if_neg h1, if_pos h] at hQ
    exact hQ I Eo.rf
  · rw [if_neg h0, if_neg h1, if_neg h2, if_pos h] at hQ
    refine shut_M hF hB (by omega) fun I1 he => ?_
    have hQ := hQ I1 he
    generalize shutL F E (I 124) 21 = v at hQ ⊢
    (apply WP_runI (lv := lvN) LN_ok 999 80; simp (disch := first | decide | omega) only [t167_0, t167_1, lift_c, o_iload1, o_lookup, o_aload0, o_getref, o_inl, o_iaload, o_ireturn, o_virt1, rpush_n, rpush_s, o_isub, o_stat1, o_ifeq, o_goto, o_virt2, z0, z1, z2, z3, z4, z10, z20, z31, z82, runI_0, runI_c, runI_n, liftI_n, liftI_y, run_0, run_c, run_n, fxn, fxi, fxr, fxl, fxl0, ↓swi_n, ↓swi_c, nck0, nck1, nck2, nck3, List.length_cons, List.length_nil, Nat.reduceAdd, Nat.reduceSub, Nat.reduceLeDiff, Nat.reduceEqDiff, Nat.reduceLT, reduceIte, ite_true, ite_false, Nat.sub_zero, Nat.zero_le, true_and, and_true, and_self, true_or, or_true, if_true, if_false, true_implies, implies_true, not_true_eq_false, not_false_eq_true, false_implies, forall_const, ne_eq, or_self, and_false, false_and, Lt, Le, Eq', Cp, In, nI_add, nI_mul, nI_sub, nI_sub1, Neg0, bI_eq0, bI_eq1, bI_01, bft, up2_eq, up2_no, Bool.true_eq_false, Bool.false_eq_true, eq_self, m1_ne, m1_ne2, m1_lt, m1_le, lt_m1, m1_le2, bI_t, bI_f, LM_all hF, LN_all hF, FMu hF, hd0])
    exact hQ
  · rw [if_neg h0, if_neg h1, if_neg h2, if_neg h3, if_pos h] at hQ
    exact hQ I Eo.rf
  · rw [if_neg h0, if_neg h1, if_neg h2, if_neg h3, if_neg h4] at hQ
    refine ⟨fun h5 => ?_, fun h5 => ?_⟩
    · rw [if_neg (by rw [h5]; decide)] at hQ
      refine ⟨fun h6 => ?_, fun h6 => ?_⟩
      · rw [if_neg (by rw [h6]; decide)] at hQ
        exact hQ I Eo.rf
      · rw [if_pos (by simpa using h6)] at hQ
        refine far_M hF hB (by omega) fun I1 he => ?_
        have hQ := hQ I1 he
        generalize wkS F E (I 124) (x - nI 20) 15 = v at hQ ⊢
        (apply WP_runI (lv := lvN) LN_ok 999 80; simp (disch := first | decide | omega) only [t167_0, t167_1, lift_c, o_iload1, o_lookup, o_aload0, o_getref, o_inl, o_iaload, o_ireturn, o_virt1, rpush_n, rpush_s, o_isub, o_stat1, o_ifeq, o_goto, o_virt2, z0, z1, z2, z3, z4, z10, z20, z31, z82, runI_0, runI_c, runI_n, liftI_n, liftI_y, run_0, run_c, run_n, fxn, fxi, fxr, fxl, fxl0, ↓swi_n, ↓swi_c, nck0, nck1, nck2, nck3, List.length_cons, List.length_nil, Nat.reduceAdd, Nat.reduceSub, Nat.reduceLeDiff, Nat.reduceEqDiff, Nat.reduceLT, reduceIte, ite_true, ite_false, Nat.sub_zero, Nat.zero_le, true_and, and_true, and_self, true_or, or_true, if_true, if_false, true_implies, implies_true, not_true_eq_false, not_false_eq_true, false_implies, forall_const, ne_eq, or_self, and_false, false_and, Lt, Le, Eq', Cp, In, nI_add, nI_mul, nI_sub, nI_sub1, Neg0, bI_eq0, bI_eq1, bI_01, bft, up2_eq, up2_no, Bool.true_eq_false, Bool.false_eq_true, eq_self, m1_ne, m1_ne2, m1_lt, m1_le, lt_m1, m1_le2, bI_t, bI_f, LM_all hF, LN_all hF, FMu hF, hd0])
        exact hQ
    · have h5 : isC (x - nI 10) = true := by simpa using h5
      rw [if_pos h5] at hQ
      obtain ⟨c, hc, e⟩ := isC_of h5
      rw [e, Cp _ (by omega)] at hQ
      rw [e]
      simp (disch := first | decide | omega) only [In, Cp, true_and]
      exact hQ I Eo.rf
def opensS (F : TF) (E : Nat → Int32) (N : TN) (x : Int32) : Int32 := if isG N x = true then soonS F E N x else -nI 1
theorem opens_M (hF : FM sh P) (hB : BK I F E k g r) {x : Int32} (hd : 40 ≤ d) (hQ : ∀ I', Eo scA I I' → Q (some (.int (opensS F E (I 124) x))) n sh I' L P) : Cl G d 170 [.ref 123, .int x] n sh I L P Q := by
  apply e170
  have hd0 : 0 < d := by omega
  have hWe := hB.we
  unfold opensS at hQ
  cases hb : isG (I 124) x with
  | false =>
    rw [if_neg (by rw [hb]; decide)] at hQ
    (apply WP_runI (lv := lvN) LN_ok 999 80; simp (disch := first | decide | omega) only [t170_0, lift_c, o_aload0, o_iload1, o_virt2, rpush_n, rpush_s, o_ifeq, o_goto, o_inl, o_ireturn, z0, z1, z2, z20, z31, runI_0, runI_c, runI_n, liftI_n, liftI_y, run_0, run_c, run_n, fxn, fxi, fxr, fxl, fxl0, ↓swi_n, ↓swi_c, nck0, nck1, nck2, nck3, List.length_cons, List.length_nil, Nat.reduceAdd, Nat.reduceSub, Nat.reduceLeDiff, Nat.reduceEqDiff, Nat.reduceLT, reduceIte, ite_true, ite_false, Nat.sub_zero, Nat.zero_le, true_and, and_true, and_self, true_or, or_true, if_true, if_false, true_implies, implies_true, not_true_eq_false, not_false_eq_true, false_implies, forall_const, ne_eq, or_self, and_false, false_and, Lt, Le, Eq', Cp, In, nI_add, nI_mul, nI_sub, nI_sub1, Neg0, bI_eq0, bI_eq1, bI_01, bft, up2_eq, up2_no, Bool.true_eq_false, Bool.false_eq_true, eq_self, m1_ne, m1_ne2, m1_lt, m1_le, lt_m1, m1_le2, bI_t, bI_f, LM_all hF, LN_all hF, FMu hF, hd0, hWe, hb])
    exact hQ I Eo.rf
  | true =>
    rw [if_pos hb] at hQ
    (apply WP_runI (lv := lvN) LN_ok 999 80; simp (disch := first | decide | omega) only [t170_0, lift_c, o_aload0, o_iload1, o_virt2, rpush_n, rpush_s, o_ifeq, o_goto, o_inl, o_ireturn, z0, z1, z2, z20, z31, runI_0, runI_c, runI_n, liftI_n, liftI_y, run_0, run_c, run_n, fxn, fxi, fxr, fxl, fxl0, ↓swi_n, ↓swi_c, nck0, nck1, nck2, nck3, List.length_cons, List.length_nil, Nat.reduceAdd, Nat.reduceSub, Nat.reduceLeDiff, Nat.reduceEqDiff, Nat.reduceLT, reduceIte, ite_true, ite_false, Nat.sub_zero, Nat.zero_le, true_and, and_true, and_self, true_or, or_true, if_true, if_false, true_implies, implies_true, not_true_eq_false, not_false_eq_true, false_implies, forall_const, ne_eq, or_self, and_false, false_and, Lt, Le, Eq', Cp, In, nI_add, nI_mul, nI_sub, nI_sub1, Neg0, bI_eq0, bI_eq1, bI_01, bft, up2_eq, up2_no, Bool.true_eq_false, Bool.false_eq_true, eq_self, m1_ne, m1_ne2, m1_lt, m1_le, lt_m1, m1_le2, bI_t, bI_f, LM_all hF, LN_all hF, FMu hF, hd0, hWe, hb])
    refine soon_M hF hB (by omega) fun I1 he => ?_
    have hQ := hQ I1 he
    generalize soonS F E (I 124) x = v at hQ ⊢
    (apply WP_runI (lv := lvN) LN_ok 999 80; simp (disch := first | decide | omega) only [t170_0, lift_c, o_aload0, o_iload1, o_virt2, rpush_n, rpush_s, o_ifeq, o_goto, o_inl, o_ireturn, z0, z1, z2, z20, z31, runI_0, runI_c, runI_n, liftI_n, liftI_y, run_0, run_c, run_n, fxn, fxi, fxr, fxl, fxl0, ↓swi_n, ↓swi_c, nck0, nck1, nck2, nck3, List.length_cons, List.length_nil, Nat.reduceAdd, Nat.reduceSub, Nat.reduceLeDiff, Nat.reduceEqDiff, Nat.reduceLT, reduceIte, ite_true, ite_false, Nat.sub_zero, Nat.zero_le, true_and, and_true, and_self, true_or, or_true, if_true, if_false, true_implies, implies_true, not_true_eq_false, not_false_eq_true, false_implies, forall_const, ne_eq, or_self, and_false, false_and, Lt, Le, Eq', Cp, In, nI_add, nI_mul, nI_sub, nI_sub1, Neg0, bI_eq0, bI_eq1, bI_01, bft, up2_eq, up2_no, Bool.true_eq_false, Bool.false_eq_true, eq_self, m1_ne, m1_ne2, m1_lt, m1_le, lt_m1, m1_le2, bI_t, bI_f, LM_all hF, LN_all hF, FMu hF, hd0])
    exact hQ
/-- hours one by one, from a place that loops so -/
theorem hours_H (hF : FM sh P) {I0 : TI} {N : TN} (hB : BK I0 F E k g r) (hN : I0 124 = N) {j : Nat} (he : Eo scH I0 I) (h124 : I 124 = hoursS F E N j) (hd : 36 ≤ d) (hQ : ∀ I', Eo scH I0 I' → I' 124 = hoursS F E N (j + 1) → Q none n sh I' L P) : Cl G d 159 [.ref 123] n sh I L P Q := by
  have hW : WF (I 124) k g r := by rw [h124, ← hN]; exact WF_hours hB.eok hB.1 j
  have hB2 := hB.eo (he.mono fun _ _ => scH_W) hW
  refine hour_M hF hB2.1 hB2.2.1 hB2.2.2.1 hB2.2.2.2 hd fun I' he2 h2 => hQ I' (he.tr he2) ?_
  rw [h2, h124]
  rfl
theorem pass_M (hF : FM sh P) (hB : BK I F E k g r) {x : Int32} (hd : 40 ≤ d) (hb : inR x 0 60 = false → Q (some (.int (-nI 2))) n sh I L P) (hs : inR x 0 60 = true → ¬ I 124 82 + x ≤ nI 9999 → Q (some (.int (-nI 3))) n sh I L P)
    (hQ : ∀ m I', m ≤ 60 → x = nI m → I 124 82 + x ≤ nI 9999 → Eo scH I I' → I' 124 = hoursS F E (I 124) m → Q (some (.int (hoursS F E (I 124) m 82))) n sh I' L P) : Cl G d 168 [.ref 123, .int x] n sh I L P Q := by
  apply e168
  have hd0 : 0 < d := by omega
  cases hx : inR x 0 60 with
  | false =>
    have hx2 : decide (nI 0 ≤ x ∧ x ≤ nI 60) = false := hx
    have hb := hb hx
    (apply WP_runI (lv := lvN) LN_ok 33 80; simp (disch := first | decide | omega) only [t168_0, lift_c, o_iload1, o_inl, o_stat3, rpush_n, rpush_s, o_ifne, o_ireturn, o_aload0, o_getref, o_iaload, o_iadd, o_icle, o_istore, s1_0, s1_s, o_iload2, o_icge, o_virt1, o_iinc2, o_goto, z0, z1, z2, z3, z20, z31, z60, z82, z9999, runI_0, runI_c, runI_n, liftI_n, liftI_y, run_0, run_c, run_n, fxn, fxi, fxr, fxl, fxl0, ↓swi_n, ↓swi_c, nck0, nck1, nck2, nck3, List.length_cons, List.length_nil, Nat.reduceAdd, Nat.reduceSub, Nat.reduceLeDiff, Nat.reduceEqDiff, Nat.reduceLT, reduceIte, ite_true, ite_false, Nat.sub_zero, Nat.zero_le, true_and, and_true, and_self, true_or, or_true, if_true, if_false, true_implies, implies_true, not_true_eq_false, not_false_eq_true, false_implies, forall_const, ne_eq, or_self, and_false, false_and, Lt, Le, Eq', Cp, In, nI_add, nI_mul, nI_sub, nI_sub1, Neg0, bI_eq0, bI_eq1, bI_01, bft, up2_eq, up2_no, Bool.true_eq_false, Bool.false_eq_true, eq_self, m1_ne, m1_ne2, m1_lt, m1_le, lt_m1, m1_le2, bI_t, bI_f, LM_all hF, LN_all hF, FMu hF, hd0, hx2])
    exact hb
  | true =>
    have hx2 : decide (nI 0 ≤ x ∧ x ≤ nI 60) = true := hx
    have hs := hs hx
    obtain ⟨m, -, hm, rfl⟩ := inR_of (by omega) (by omega) hx
    generalize hN : I 124 = N at hs hQ
    have loop : ∀ l j I1 cc ss, j + l = m → Eo scH I I1 → I1 124 = hoursS F E N j → (N 82 + nI m ≤ nI 9999) → WP G 168 d Q 33 [some (.ref 123), some (.int (nI m)), some (.int (nI j))] [] cc ss n sh I1 L P := by
      intro l
      induction l with
      | zero =>
        intro j I1 cc ss h he h124 h9
        have h : j = m := by omega
        subst h
        have hQ := hQ j I1 hm rfl h9 he h124
        (apply WP_runI (lv := lvN) LN_ok 33 80; simp (disch := first | decide | omega) only [t168_0, lift_c, o_iload1, o_inl, o_stat3, rpush_n, rpush_s, o_ifne, o_ireturn, o_aload0, o_getref, o_iaload, o_iadd, o_icle, o_istore, s1_0, s1_s, o_iload2, o_icge, o_virt1, o_iinc2, o_goto, z0, z1, z2, z3, z20, z31, z60, z82, z9999, runI_0, runI_c, runI_n, liftI_n, liftI_y, run_0, run_c, run_n, fxn, fxi, fxr, fxl, fxl0, ↓swi_n, ↓swi_c, nck0, nck1, nck2, nck3, List.length_cons, List.length_nil, Nat.reduceAdd, Nat.reduceSub, Nat.reduceLeDiff, Nat.reduceEqDiff, Nat.reduceLT, reduceIte, ite_true, ite_false, Nat.sub_zero, Nat.zero_le, true_and, and_true, and_self, true_or, or_true, if_true, if_false, true_implies, implies_true, not_true_eq_false, not_false_eq_true, false_implies, forall_const, ne_eq, or_self, and_false, false_and, Lt, Le, Eq', Cp, In, nI_add, nI_mul, nI_sub, nI_sub1, Neg0, bI_eq0, bI_eq1, bI_01, bft, up2_eq, up2_no, Bool.true_eq_false, Bool.false_eq_true, eq_self, m1_ne, m1_ne2, m1_lt, m1_le, lt_m1, m1_le2, bI_t, bI_f, LM_all hF, LN_all hF, FMu hF, hd0, h124, Nat.le_refl])
        exact hQ
      | succ l ih =>
        intro j I1 cc ss h he h124 h9
        have hj : ¬ m ≤ j := by omega
        (apply WP_runI (lv := lvN) LN_ok 33 80; simp (disch := first | decide | omega) only [t168_0, lift_c, o_iload1, o_inl, o_stat3, rpush_n, rpush_s, o_ifne, o_ireturn, o_aload0, o_getref, o_iaload, o_iadd, o_icle, o_istore, s1_0, s1_s, o_iload2, o_icge, o_virt1, o_iinc2, o_goto, z0, z1, z2, z3, z20, z31, z60, z82, z9999, runI_0, runI_c, runI_n, liftI_n, liftI_y, run_0, run_c, run_n, fxn, fxi, fxr, fxl, fxl0, ↓swi_n, ↓swi_c, nck0, nck1, nck2, nck3, List.length_cons, List.length_nil, Nat.reduceAdd, Nat.reduceSub, Nat.reduceLeDiff, Nat.reduceEqDiff, Nat.reduceLT, reduceIte, ite_true, ite_false, Nat.sub_zero, Nat.zero_le, true_and, and_true, and_self, true_or, or_true, if_true, if_false, true_implies, implies_true, not_true_eq_false, not_false_eq_true, false_implies, forall_const, ne_eq, or_self, and_false, false_and, Lt, Le, Eq', Cp, In, nI_add, nI_mul, nI_sub, nI_sub1, Neg0, bI_eq0, bI_eq1, bI_01, bft, up2_eq, up2_no, Bool.true_eq_false, Bool.false_eq_true, eq_self, m1_ne, m1_ne2, m1_lt, m1_le, lt_m1, m1_le2, bI_t, bI_f, LM_all hF, LN_all hF, FMu hF, hd0, hj])
        refine hours_H hF hB hN he h124 (by omega) fun I2 he2 h2 => ?_
        have ih := fun cc ss => ih (j + 1) I2 cc ss (by omega) he2 h2 h9
        (apply WP_runI (lv := lvN) LN_ok 33 80; simp (disch := first | decide | omega) only [t168_0, lift_c, o_iload1, o_inl, o_stat3, rpush_n, rpush_s, o_ifne, o_ireturn, o_aload0, o_getref, o_iaload, o_iadd, o_icle, o_istore, s1_0, s1_s, o_iload2, o_icge, o_virt1, o_iinc2, o_goto, z0, z1, z2, z3, z20, z31, z60, z82, z9999, runI_0, runI_c, runI_n, liftI_n, liftI_y, run_0, run_c, run_n, fxn, fxi, fxr, fxl, fxl0, ↓swi_n, ↓swi_c, nck0, nck1, nck2, nck3, List.length_cons, List.length_nil, Nat.reduceAdd, Nat.reduceSub, Nat.reduceLeDiff, Nat.reduceEqDiff, Nat.reduceLT, reduceIte, ite_true, ite_false, Nat.sub_zero, Nat.zero_le, true_and, and_true, and_self, true_or, or_true, if_true, if_false, true_implies, implies_true, not_true_eq_false, not_false_eq_true, false_implies, forall_const, ne_eq, or_self, and_false, false_and, Lt, Le, Eq', Cp, In, nI_add, nI_mul, nI_sub, nI_sub1, Neg0, bI_eq0, bI_eq1, bI_01, bft, up2_eq, up2_no, Bool.true_eq_false, Bool.false_eq_true, eq_self, m1_ne, m1_ne2, m1_lt, m1_le, lt_m1, m1_le2, bI_t, bI_f, LM_all hF, LN_all hF, FMu hF, hd0])
        exact ih _ _
    (apply WP_runI (lv := lvN) LN_ok 33 80; simp (disch := first | decide | omega) only [t168_0, lift_c, o_iload1, o_inl, o_stat3, rpush_n, rpush_s, o_ifne, o_ireturn, o_aload0, o_getref, o_iaload, o_iadd, o_icle, o_istore, s1_0, s1_s, o_iload2, o_icge, o_virt1, o_iinc2, o_goto, z0, z1, z2, z3, z20, z31, z60, z82, z9999, runI_0, runI_c, runI_n, liftI_n, liftI_y, run_0, run_c, run_n, fxn, fxi, fxr, fxl, fxl0, ↓swi_n, ↓swi_c, nck0, nck1, nck2, nck3, List.length_cons, List.length_nil, Nat.reduceAdd, Nat.reduceSub, Nat.reduceLeDiff, Nat.reduceEqDiff, Nat.reduceLT, reduceIte, ite_true, ite_false, Nat.sub_zero, Nat.zero_le, true_and, and_true, and_self, true_or, or_true, if_true, if_false, true_implies, implies_true, not_true_eq_false, not_false_eq_true, false_implies, forall_const, ne_eq, or_self, and_false, false_and, Lt, Le, Eq', Cp, In, nI_add, nI_mul, nI_sub, nI_sub1, Neg0, bI_eq0, bI_eq1, bI_01, bft, up2_eq, up2_no, Bool.true_eq_false, Bool.false_eq_true, eq_self, m1_ne, m1_ne2, m1_lt, m1_le, lt_m1, m1_le2, bI_t, bI_f, LM_all hF, LN_all hF, FMu hF, hd0, hm, hN, decide_true])
    refine ⟨fun h => ?_, fun h => ?_⟩
    · exact loop m 0 I _ _ (by omega) Eo.rf hN h
    · exact hs h
end
