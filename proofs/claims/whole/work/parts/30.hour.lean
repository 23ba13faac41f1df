/-! ### the reference: where a goose goes, an hour -/
theorem nI_div (a b : Nat) (ha : a < 2 ^ 31) (hb : b < 2 ^ 31) (h0 : 0 < b) : nI a / nI b = nI (a / b) := by
  have h1 : a / b ≤ a := Nat.div_le_self a b
  apply Int32.toInt_inj.mp
  rw [Int32.toInt_div_of_ne_left _ _ (by
    intro e
    have := congrArg Int32.toInt e
    rw [nI_toInt ha] at this
    have h2 : (Int32.minValue).toInt = -2147483648 := by decide
    omega), nI_toInt ha, nI_toInt hb, nI_toInt (by omega)]
  exact (Int.ofNat_tdiv a b).symm
/-- what the reference has beside its row -/
def RG (I : TI) (r : Nat) : Prop := TB I ∧ RV I r
theorem RV.eo {I I' : TI} {r : Nat} {S : Nat → Nat → Prop} (h : RV I r) (he : Eo S I I') (hs : ∀ a j, S a j → ¬ (a = 128 ∨ a = 129)) : RV I' r := fun u hu => by
  obtain ⟨z, h1, h2, h3⟩ := h u hu
  have e : I' 128 = I 128 := funext fun j => he 128 j fun q => hs 128 j q (Or.inl rfl)
  exact ⟨z, h1, (he 129 u fun q => hs 129 u q (Or.inr rfl)).trans h2, by rw [e]; exact h3⟩
theorem RG.eo {I I' : TI} {r : Nat} {S : Nat → Nat → Prop} (h : RG I r) (he : Eo S I I') (hs : ∀ a j, S a j → ¬ (128 ≤ a ∧ a ≤ 129 ∨ 132 ≤ a ∧ a ≤ 134)) : RG I' r :=
  ⟨h.1.eo he fun a j q q2 => hs a j q (Or.inr q2), h.2.eo he fun a j q q2 => hs a j q (Or.inl (by omega))⟩
theorem row_eo {I I' : TI} {S : Nat → Nat → Prop} (he : Eo S I I') (a : Nat) (hs : ∀ j, ¬ S a j) : I' a = I a := funext fun j => he a j (hs j)
theorem scR_124 (j : Nat) : ¬ scR 124 j := fun q => by rcases q with q | q | q <;> omega
theorem scR_128 (j : Nat) : ¬ scR 128 j := fun q => by rcases q with q | q | q <;> omega
theorem scR_129 (j : Nat) : ¬ scR 129 j := fun q => by rcases q with q | q | q <;> omega
theorem scR_g {a j : Nat} (h : scR a j) : ¬ (128 ≤ a ∧ a ≤ 129 ∨ 132 ≤ a ∧ a ≤ 134) := fun q => by rcases h with h | h | h <;> omega
section
variable {G : GE} {d n : Nat} {sh : TS} {I : TI} {L : TL} {P : TP} {Q : TQ}
theorem isEnd_M (hF : FM sh P) {k g r c : Nat} (hW : WF (I 124) k g r) {x : Int32} (hd : 2 ≤ d) (hQ : Q (some (.int (bI (endB (I 124) x c)))) n sh I L P) : Cl G d 154 [.ref 123, .int x, .int (nI c)] n sh I L P Q := by
  apply e154
  have hF' := hF
  have hd0 : 0 < d := by omega
  have hg := hW.g9
  (apply WP_run 999 80; simp (disch := first | decide | omega) only [t154_0, lift_c, o_aload0, o_iload1, o_virt2, rpush_n, rpush_s, o_ifeq, o_inl, o_virt3, o_iload2, o_iceq, o_icne, o_goto, o_ireturn, z0, z1, z2, z20, z31, run_0, run_c, run_n, fxn, fxi, fxr, fxl, fxl0, ↓swi_n, ↓swi_c, nck0, nck1, nck2, nck3, List.length_cons, List.length_nil, Nat.reduceAdd, Nat.reduceSub, Nat.reduceLeDiff, Nat.reduceEqDiff, Nat.reduceLT, reduceIte, ite_true, ite_false, Nat.sub_zero, Nat.zero_le, true_and, and_true, and_self, true_or, or_true, if_true, if_false, true_implies, implies_true, not_true_eq_false, not_false_eq_true, false_implies, forall_const, ne_eq, or_self, and_false, false_and, Lt, Le, Eq', Cp, In, nI_add, nI_mul, nI_sub, nI_sub1, Neg0, bI_eq0, bI_eq1, bI_01, bft, up2_eq, up2_no, Bool.true_eq_false, Bool.false_eq_true, eq_self, m1_ne, m1_ne2, m1_lt, m1_le, lt_m1, m1_le2, bI_t, bI_f, FMu hF, hd0])
  apply isGate_M hF' hW (by omega)
  cases h0 : isG (I 124) x with
  | false =>
    rw [show endB (I 124) x c = false by
      unfold isG at h0
      unfold endB
      rw [h0]
      rfl] at hQ
    (apply WP_run 999 80; simp (disch := first | decide | omega) only [t154_0, lift_c, o_aload0, o_iload1, o_virt2, rpush_n, rpush_s, o_ifeq, o_inl, o_virt3, o_iload2, o_iceq, o_icne, o_goto, o_ireturn, z0, z1, z2, z20, z31, run_0, run_c, run_n, fxn, fxi, fxr, fxl, fxl0, ↓swi_n, ↓swi_c, nck0, nck1, nck2, nck3, List.length_cons, List.length_nil, Nat.reduceAdd, Nat.reduceSub, Nat.reduceLeDiff, Nat.reduceEqDiff, Nat.reduceLT, reduceIte, ite_true, ite_false, Nat.sub_zero, Nat.zero_le, true_and, and_true, and_self, true_or, or_true, if_true, if_false, true_implies, implies_true, not_true_eq_false, not_false_eq_true, false_implies, forall_const, ne_eq, or_self, and_false, false_and, Lt, Le, Eq', Cp, In, nI_add, nI_mul, nI_sub, nI_sub1, Neg0, bI_eq0, bI_eq1, bI_01, bft, up2_eq, up2_no, Bool.true_eq_false, Bool.false_eq_true, eq_self, m1_ne, m1_ne2, m1_lt, m1_le, lt_m1, m1_le2, bI_t, bI_f, FMu hF, hd0])
    exact hQ
  | true =>
    have h1 := h0
    unfold isG at h1
    simp only [decide_eq_true_eq] at h1
    obtain ⟨h2, h3⟩ := h1
    have h2' : ¬ x < 0 := Int32.not_lt.mpr h2
    obtain ⟨j, hj, rfl⟩ := nI_of h2'
    rw [hW.n81, Lt _ _ (by omega) (by omega)] at h3
    have e : endB (I 124) (nI j) c = (decide (ed (I 124) j 0 = nI c) || decide (ed (I 124) j 1 = nI c)) := by
      unfold isG at h0
      unfold endB
      rw [h0, Cp _ (by omega)]
      rfl
    rw [e] at hQ
    (apply WP_run 999 80; simp (disch := first | decide | omega) only [t154_0, lift_c, o_aload0, o_iload1, o_virt2, rpush_n, rpush_s, o_ifeq, o_inl, o_virt3, o_iload2, o_iceq, o_icne, o_goto, o_ireturn, z0, z1, z2, z20, z31, run_0, run_c, run_n, fxn, fxi, fxr, fxl, fxl0, ↓swi_n, ↓swi_c, nck0, nck1, nck2, nck3, List.length_cons, List.length_nil, Nat.reduceAdd, Nat.reduceSub, Nat.reduceLeDiff, Nat.reduceEqDiff, Nat.reduceLT, reduceIte, ite_true, ite_false, Nat.sub_zero, Nat.zero_le, true_and, and_true, and_self, true_or, or_true, if_true, if_false, true_implies, implies_true, not_true_eq_false, not_false_eq_true, false_implies, forall_const, ne_eq, or_self, and_false, false_and, Lt, Le, Eq', Cp, In, nI_add, nI_mul, nI_sub, nI_sub1, Neg0, bI_eq0, bI_eq1, bI_01, bft, up2_eq, up2_no, Bool.true_eq_false, Bool.false_eq_true, eq_self, m1_ne, m1_ne2, m1_lt, m1_le, lt_m1, m1_le2, bI_t, bI_f, FMu hF, hd0])
    refine end_M hF' (w := 0) (by omega) (by decide) ?_
    (apply WP_run 999 80; simp (disch := first | decide | omega) only [t154_0, lift_c, o_aload0, o_iload1, o_virt2, rpush_n, rpush_s, o_ifeq, o_inl, o_virt3, o_iload2, o_iceq, o_icne, o_goto, o_ireturn, z0, z1, z2, z20, z31, run_0, run_c, run_n, fxn, fxi, fxr, fxl, fxl0, ↓swi_n, ↓swi_c, nck0, nck1, nck2, nck3, List.length_cons, List.length_nil, Nat.reduceAdd, Nat.reduceSub, Nat.reduceLeDiff, Nat.reduceEqDiff, Nat.reduceLT, reduceIte, ite_true, ite_false, Nat.sub_zero, Nat.zero_le, true_and, and_true, and_self, true_or, or_true, if_true, if_false, true_implies, implies_true, not_true_eq_false, not_false_eq_true, false_implies, forall_const, ne_eq, or_self, and_false, false_and, Lt, Le, Eq', Cp, In, nI_add, nI_mul, nI_sub, nI_sub1, Neg0, bI_eq0, bI_eq1, bI_01, bft, up2_eq, up2_no, Bool.true_eq_false, Bool.false_eq_true, eq_self, m1_ne, m1_ne2, m1_lt, m1_le, lt_m1, m1_le2, bI_t, bI_f, FMu hF, hd0])
    refine ⟨fun h4 => ?_, fun h4 => ?_⟩
    · rw [decide_eq_true h4, Bool.true_or] at hQ
      exact hQ
    · rw [decide_eq_false h4, Bool.false_or] at hQ
      refine end_M hF' (w := 1) (by omega) (by decide) ?_
      (apply WP_run 999 80; simp (disch := first | decide | omega) only [t154_0, lift_c, o_aload0, o_iload1, o_virt2, rpush_n, rpush_s, o_ifeq, o_inl, o_virt3, o_iload2, o_iceq, o_icne, o_goto, o_ireturn, z0, z1, z2, z20, z31, run_0, run_c, run_n, fxn, fxi, fxr, fxl, fxl0, ↓swi_n, ↓swi_c, nck0, nck1, nck2, nck3, List.length_cons, List.length_nil, Nat.reduceAdd, Nat.reduceSub, Nat.reduceLeDiff, Nat.reduceEqDiff, Nat.reduceLT, reduceIte, ite_true, ite_false, Nat.sub_zero, Nat.zero_le, true_and, and_true, and_self, true_or, or_true, if_true, if_false, true_implies, implies_true, not_true_eq_false, not_false_eq_true, false_implies, forall_const, ne_eq, or_self, and_false, false_and, Lt, Le, Eq', Cp, In, nI_add, nI_mul, nI_sub, nI_sub1, Neg0, bI_eq0, bI_eq1, bI_01, bft, up2_eq, up2_no, Bool.true_eq_false, Bool.false_eq_true, eq_self, m1_ne, m1_ne2, m1_lt, m1_le, lt_m1, m1_le2, bI_t, bI_f, FMu hF, hd0])
      refine ⟨fun h5 => ?_, fun h5 => ?_⟩
      · rw [decide_eq_true h5] at hQ
        exact hQ
      · rw [decide_eq_false h5] at hQ
        exact hQ
def bydV (N : TN) (h j : Nat) : Int32 := if ed N j 0 = nI h then ed N j 1 else if ed N j 1 = nI h then ed N j 0 else -nI 1
theorem beyond_M (hF : FM sh P) {j h : Nat} (hj : j < 9) (hd : 1 ≤ d) (hQ : Q (some (.int (bydV (I 124) h j))) n sh I L P) : Cl G d 156 [.ref 123, .int (nI j), .int (nI h)] n sh I L P Q := by
  apply e156
  have hF' := hF
  have hd0 : 0 < d := by omega
  unfold bydV at hQ
  (apply WP_run 999 80; simp (disch := first | decide | omega) only [t156_0, lift_c, o_aload0, o_iload1, o_inl, o_virt3, rpush_n, rpush_s, o_iload2, o_icne, o_goto, o_ireturn, z0, z1, z2, z20, z31, run_0, run_c, run_n, fxn, fxi, fxr, fxl, fxl0, ↓swi_n, ↓swi_c, nck0, nck1, nck2, nck3, List.length_cons, List.length_nil, Nat.reduceAdd, Nat.reduceSub, Nat.reduceLeDiff, Nat.reduceEqDiff, Nat.reduceLT, reduceIte, ite_true, ite_false, Nat.sub_zero, Nat.zero_le, true_and, and_true, and_self, true_or, or_true, if_true, if_false, true_implies, implies_true, not_true_eq_false, not_false_eq_true, false_implies, forall_const, ne_eq, or_self, and_false, false_and, Lt, Le, Eq', Cp, In, nI_add, nI_mul, nI_sub, nI_sub1, Neg0, bI_eq0, bI_eq1, bI_01, bft, up2_eq, up2_no, Bool.true_eq_false, Bool.false_eq_true, eq_self, m1_ne, m1_ne2, m1_lt, m1_le, lt_m1, m1_le2, bI_t, bI_f, FMu hF, hd0])
  refine end_M hF' (w := 0) hj (by decide) ?_
  (apply WP_run 999 80; simp (disch := first | decide | omega) only [t156_0, lift_c, o_aload0, o_iload1, o_inl, o_virt3, rpush_n, rpush_s, o_iload2, o_icne, o_goto, o_ireturn, z0, z1, z2, z20, z31, run_0, run_c, run_n, fxn, fxi, fxr, fxl, fxl0, ↓swi_n, ↓swi_c, nck0, nck1, nck2, nck3, List.length_cons, List.length_nil, Nat.reduceAdd, Nat.reduceSub, Nat.reduceLeDiff, Nat.reduceEqDiff, Nat.reduceLT, reduceIte, ite_true, ite_false, Nat.sub_zero, Nat.zero_le, true_and, and_true, and_self, true_or, or_true, if_true, if_false, true_implies, implies_true, not_true_eq_false, not_false_eq_true, false_implies, forall_const, ne_eq, or_self, and_false, false_and, Lt, Le, Eq', Cp, In, nI_add, nI_mul, nI_sub, nI_sub1, Neg0, bI_eq0, bI_eq1, bI_01, bft, up2_eq, up2_no, Bool.true_eq_false, Bool.false_eq_true, eq_self, m1_ne, m1_ne2, m1_lt, m1_le, lt_m1, m1_le2, bI_t, bI_f, FMu hF, hd0])
  refine ⟨fun h1 => ?_, fun h1 => ?_⟩
  · rw [if_pos h1] at hQ
    refine end_M hF' (w := 1) hj (by decide) ?_
    (apply WP_run 999 80; simp (disch := first | decide | omega) only [t156_0, lift_c, o_aload0, o_iload1, o_inl, o_virt3, rpush_n, rpush_s, o_iload2, o_icne, o_goto, o_ireturn, z0, z1, z2, z20, z31, run_0, run_c, run_n, fxn, fxi, fxr, fxl, fxl0, ↓swi_n, ↓swi_c, nck0, nck1, nck2, nck3, List.length_cons, List.length_nil, Nat.reduceAdd, Nat.reduceSub, Nat.reduceLeDiff, Nat.reduceEqDiff, Nat.reduceLT, reduceIte, ite_true, ite_false, Nat.sub_zero, Nat.zero_le, true_and, and_true, and_self, true_or, or_true, if_true, if_false, true_implies, implies_true, not_true_eq_false, not_false_eq_true, false_implies, forall_const, ne_eq, or_self, and_false, false_and, Lt, Le, Eq', Cp, In, nI_add, nI_mul, nI_sub, nI_sub1, Neg0, bI_eq0, bI_eq1, bI_01, bft, up2_eq, up2_no, Bool.true_eq_false, Bool.false_eq_true, eq_self, m1_ne, m1_ne2, m1_lt, m1_le, lt_m1, m1_le2, bI_t, bI_f, FMu hF, hd0])
    exact hQ
  · rw [if_neg h1] at hQ
    refine end_M hF' (w := 1) hj (by decide) ?_
    (apply WP_run 999 80; simp (disch := first | decide | omega) only [t156_0, lift_c, o_aload0, o_iload1, o_inl, o_virt3, rpush_n, rpush_s, o_iload2, o_icne, o_goto, o_ireturn, z0, z1, z2, z20, z31, run_0, run_c, run_n, fxn, fxi, fxr, fxl, fxl0, ↓swi_n, ↓swi_c, nck0, nck1, nck2, nck3, List.length_cons, List.length_nil, Nat.reduceAdd, Nat.reduceSub, Nat.reduceLeDiff, Nat.reduceEqDiff, Nat.reduceLT, reduceIte, ite_true, ite_false, Nat.sub_zero, Nat.zero_le, true_and, and_true, and_self, true_or, or_true, if_true, if_false, true_implies, implies_true, not_true_eq_false, not_false_eq_true, false_implies, forall_const, ne_eq, or_self, and_false, false_and, Lt, Le, Eq', Cp, In, nI_add, nI_mul, nI_sub, nI_sub1, Neg0, bI_eq0, bI_eq1, bI_01, bft, up2_eq, up2_no, Bool.true_eq_false, Bool.false_eq_true, eq_self, m1_ne, m1_ne2, m1_lt, m1_le, lt_m1, m1_le2, bI_t, bI_f, FMu hF, hd0])
    refine ⟨fun h2 => ?_, fun h2 => ?_⟩
    · rw [if_pos h2] at hQ
      refine end_M hF' (w := 0) hj (by decide) ?_
      (apply WP_run 999 80; simp (disch := first | decide | omega) only [t156_0, lift_c, o_aload0, o_iload1, o_inl, o_virt3, rpush_n, rpush_s, o_iload2, o_icne, o_goto, o_ireturn, z0, z1, z2, z20, z31, run_0, run_c, run_n, fxn, fxi, fxr, fxl, fxl0, ↓swi_n, ↓swi_c, nck0, nck1, nck2, nck3, List.length_cons, List.length_nil, Nat.reduceAdd, Nat.reduceSub, Nat.reduceLeDiff, Nat.reduceEqDiff, Nat.reduceLT, reduceIte, ite_true, ite_false, Nat.sub_zero, Nat.zero_le, true_and, and_true, and_self, true_or, or_true, if_true, if_false, true_implies, implies_true, not_true_eq_false, not_false_eq_true, false_implies, forall_const, ne_eq, or_self, and_false, false_and, Lt, Le, Eq', Cp, In, nI_add, nI_mul, nI_sub, nI_sub1, Neg0, bI_eq0, bI_eq1, bI_01, bft, up2_eq, up2_no, Bool.true_eq_false, Bool.false_eq_true, eq_self, m1_ne, m1_ne2, m1_lt, m1_le, lt_m1, m1_le2, bI_t, bI_f, FMu hF, hd0])
      exact hQ
    · rw [if_neg h2] at hQ
      exact hQ
theorem pull_M (hF : FM sh P) {k g r i c : Nat} (hW : WF (I 124) k g r) (hG : RG I r) (hi : i < k) (hc : c < 8) (hd : 34 ≤ d)
    (hQ : ∀ I', Eo scR I I' → Q (some (.int (pullS (FF (I 128) (I 129)) (I 124) i c))) n sh I' L P) : Cl G d 155 [.ref 123, .int (nI i), .int (nI c)] n sh I L P Q := by
  apply e155
  have hF' := hF
  have hd0 : 0 < d := by omega
  have hk := hW.k6
  have hi6 : i < 6 := by omega
  have e4 : c - c / 4 * 4 = c % 4 := by omega
  have n2 : ¬ (2 = 0) := by decide
  (apply WP_run 999 80; simp (disch := first | decide | omega) only [t155_0, t155_1, t155_2, lift_c, o_aload0, o_iload1, o_iload2, o_virt3, rpush_n, rpush_s, o_getfield, o_ifeq, o_inl, o_goto, o_isub, o_istore, s1_0, s1_s, o_icne, o_lookup, o_iload3, o_ireturn, o_idiv, o_iload4, o_iadd, o_ifne, o_irem, z0, z1, z2, z3, z4, z5, z6, z10, z20, z31, run_0, run_c, run_n, fxn, fxi, fxr, fxl, fxl0, ↓swi_n, ↓swi_c, nck0, nck1, nck2, nck3, List.length_cons, List.length_nil, Nat.reduceAdd, Nat.reduceSub, Nat.reduceLeDiff, Nat.reduceEqDiff, Nat.reduceLT, reduceIte, ite_true, ite_false, Nat.sub_zero, Nat.zero_le, true_and, and_true, and_self, true_or, or_true, if_true, if_false, true_implies, implies_true, not_true_eq_false, not_false_eq_true, false_implies, forall_const, ne_eq, or_self, and_false, false_and, Lt, Le, Eq', Cp, In, nI_add, nI_mul, nI_sub, nI_sub1, Neg0, bI_eq0, bI_eq1, bI_01, bft, up2_eq, up2_no, Bool.true_eq_false, Bool.false_eq_true, eq_self, m1_ne, m1_ne2, m1_lt, m1_le, lt_m1, m1_le2, bI_t, bI_f, FMu hF, hd0])
  refine readFor_M hF' hW hG.1 hG.2 hi6 hc (by omega) fun I1 he1 h14 h15 => ?_
  have e124 := row_eo he1 124 scR_124
  have hW1 : WF (I1 124) k g r := by rw [e124]; exact hW
  (apply WP_run 999 80; simp (disch := first | decide | omega) only [t155_0, t155_1, t155_2, lift_c, o_aload0, o_iload1, o_iload2, o_virt3, rpush_n, rpush_s, o_getfield, o_ifeq, o_inl, o_goto, o_isub, o_istore, s1_0, s1_s, o_icne, o_lookup, o_iload3, o_ireturn, o_idiv, o_iload4, o_iadd, o_ifne, o_irem, z0, z1, z2, z3, z4, z5, z6, z10, z20, z31, run_0, run_c, run_n, fxn, fxi, fxr, fxl, fxl0, ↓swi_n, ↓swi_c, nck0, nck1, nck2, nck3, List.length_cons, List.length_nil, Nat.reduceAdd, Nat.reduceSub, Nat.reduceLeDiff, Nat.reduceEqDiff, Nat.reduceLT, reduceIte, ite_true, ite_false, Nat.sub_zero, Nat.zero_le, true_and, and_true, and_self, true_or, or_true, if_true, if_false, true_implies, implies_true, not_true_eq_false, not_false_eq_true, false_implies, forall_const, ne_eq, or_self, and_false, false_and, Lt, Le, Eq', Cp, In, nI_add, nI_mul, nI_sub, nI_sub1, Neg0, bI_eq0, bI_eq1, bI_01, bft, up2_eq, up2_no, Bool.true_eq_false, Bool.false_eq_true, eq_self, m1_ne, m1_ne2, m1_lt, m1_le, lt_m1, m1_le2, bI_t, bI_f, FMu hF, hd0, h14])
  refine isAnother_M hF' hW1 hi hc (by omega) ?_
  have hQ1 := hQ I1 he1
  rw [show anoth (I1 124) i c k = anoth (I 124) i c (cn (I 124)) by rw [e124, hW.cn]]
  unfold pullS at hQ1
  simp only at hQ1
  have h14' : I1 123 14 = sumS (FF (I 128) (I 129)) (I 124) i c := h14
  have hgs : ∀ w, gs (I1 124) i w = gs (I 124) i w := fun w => by rw [e124]
  have fin : ∀ gd : Int32, gd = sumS (FF (I 128) (I 129)) (I 124) i c - (if anoth (I 124) i c (cn (I 124)) = true then gs (I 124) i 1 else nI 0) → ∀ cc ss, WP G 155 d Q 30 [some (.ref 123), some (.int (nI i)), some (.int (nI c)), none, none] [.int gd] cc ss n sh I1 L P := by
    intro gd hgd cc ss
    rw [← hgd] at hQ1
    (apply WP_run 999 80; simp (disch := first | decide | omega) only [t155_0, t155_1, t155_2, lift_c, o_aload0, o_iload1, o_iload2, o_virt3, rpush_n, rpush_s, o_getfield, o_ifeq, o_inl, o_goto, o_isub, o_istore, s1_0, s1_s, o_icne, o_lookup, o_iload3, o_ireturn, o_idiv, o_iload4, o_iadd, o_ifne, o_irem, z0, z1, z2, z3, z4, z5, z6, z10, z20, z31, run_0, run_c, run_n, fxn, fxi, fxr, fxl, fxl0, ↓swi_n, ↓swi_c, nck0, nck1, nck2, nck3, List.length_cons, List.length_nil, Nat.reduceAdd, Nat.reduceSub, Nat.reduceLeDiff, Nat.reduceEqDiff, Nat.reduceLT, reduceIte, ite_true, ite_false, Nat.sub_zero, Nat.zero_le, true_and, and_true, and_self, true_or, or_true, if_true, if_false, true_implies, implies_true, not_true_eq_false, not_false_eq_true, false_implies, forall_const, ne_eq, or_self, and_false, false_and, Lt, Le, Eq', Cp, In, nI_add, nI_mul, nI_sub, nI_sub1, Neg0, bI_eq0, bI_eq1, bI_01, bft, up2_eq, up2_no, Bool.true_eq_false, Bool.false_eq_true, eq_self, m1_ne, m1_ne2, m1_lt, m1_le, lt_m1, m1_le2, bI_t, bI_f, FMu hF, hd0])
    refine goose_M hF' (w := 2) hi6 (by decide) ?_
    have fin2 : ∀ od : Int32, od = (if gs (I 124) i 2 = nI c then sumS (FF (I 128) (I 129)) (I 124) i c else nI 0) → ∀ cc ss, WP G 155 d Q 51 [some (.ref 123), some (.int (nI i)), some (.int (nI c)), some (.int gd), some (.int od)] [] cc ss n sh I1 L P := by
      intro od hod cc ss
      rw [← hod] at hQ1
      (apply WP_run 999 80; simp (disch := first | decide | omega) only [t155_0, t155_1, t155_2, lift_c, o_aload0, o_iload1, o_iload2, o_virt3, rpush_n, rpush_s, o_getfield, o_ifeq, o_inl, o_goto, o_isub, o_istore, s1_0, s1_s, o_icne, o_lookup, o_iload3, o_ireturn, o_idiv, o_iload4, o_iadd, o_ifne, o_irem, z0, z1, z2, z3, z4, z5, z6, z10, z20, z31, run_0, run_c, run_n, fxn, fxi, fxr, fxl, fxl0, ↓swi_n, ↓swi_c, nck0, nck1, nck2, nck3, List.length_cons, List.length_nil, Nat.reduceAdd, Nat.reduceSub, Nat.reduceLeDiff, Nat.reduceEqDiff, Nat.reduceLT, reduceIte, ite_true, ite_false, Nat.sub_zero, Nat.zero_le, true_and, and_true, and_self, true_or, or_true, if_true, if_false, true_implies, implies_true, not_true_eq_false, not_false_eq_true, false_implies, forall_const, ne_eq, or_self, and_false, false_and, Lt, Le, Eq', Cp, In, nI_add, nI_mul, nI_sub, nI_sub1, Neg0, bI_eq0, bI_eq1, bI_01, bft, up2_eq, up2_no, Bool.true_eq_false, Bool.false_eq_true, eq_self, m1_ne, m1_ne2, m1_lt, m1_le, lt_m1, m1_le2, bI_t, bI_f, FMu hF, hd0])
      refine goose_M hF' (w := 0) hi6 (by decide) ?_
      rw [hgs]
      (apply WP_run 999 80; simp (disch := first | decide | omega) only [t155_0, t155_1, t155_2, lift_c, o_aload0, o_iload1, o_iload2, o_virt3, rpush_n, rpush_s, o_getfield, o_ifeq, o_inl, o_goto, o_isub, o_istore, s1_0, s1_s, o_icne, o_lookup, o_iload3, o_ireturn, o_idiv, o_iload4, o_iadd, o_ifne, o_irem, z0, z1, z2, z3, z4, z5, z6, z10, z20, z31, run_0, run_c, run_n, fxn, fxi, fxr, fxl, fxl0, ↓swi_n, ↓swi_c, nck0, nck1, nck2, nck3, List.length_cons, List.length_nil, Nat.reduceAdd, Nat.reduceSub, Nat.reduceLeDiff, Nat.reduceEqDiff, Nat.reduceLT, reduceIte, ite_true, ite_false, Nat.sub_zero, Nat.zero_le, true_and, and_true, and_self, true_or, or_true, if_true, if_false, true_implies, implies_true, not_true_eq_false, not_false_eq_true, false_implies, forall_const, ne_eq, or_self, and_false, false_and, Lt, Le, Eq', Cp, In, nI_add, nI_mul, nI_sub, nI_sub1, Neg0, bI_eq0, bI_eq1, bI_01, bft, up2_eq, up2_no, Bool.true_eq_false, Bool.false_eq_true, eq_self, m1_ne, m1_ne2, m1_lt, m1_le, lt_m1, m1_le2, bI_t, bI_f, FMu hF, hd0, h14', n2])
      refine ⟨fun h => ?_, fun h1 => ⟨fun h => ?_, fun h2 => ⟨fun h => ?_, fun h3 => ⟨fun h => ?_, fun h4 => ⟨fun h => ?_, fun h5 => ⟨fun h => ?_, fun h6 => ?_⟩⟩⟩⟩⟩⟩
      · rw [if_pos h] at hQ1
        exact hQ1
      · rw [if_neg h1, if_pos h] at hQ1
        exact hQ1
      · rw [if_neg h1, if_neg h2, if_pos h] at hQ1
        exact hQ1
      · rw [if_neg h1, if_neg h2, if_neg h3, if_pos h] at hQ1
        refine goose_M hF' (w := 3) hi6 (by decide) ?_
        rw [hgs]
        (apply WP_run 999 80; simp (disch := first | decide | omega) only [t155_0, t155_1, t155_2, lift_c, o_aload0, o_iload1, o_iload2, o_virt3, rpush_n, rpush_s, o_getfield, o_ifeq, o_inl, o_goto, o_isub, o_istore, s1_0, s1_s, o_icne, o_lookup, o_iload3, o_ireturn, o_idiv, o_iload4, o_iadd, o_ifne, o_irem, z0, z1, z2, z3, z4, z5, z6, z10, z20, z31, run_0, run_c, run_n, fxn, fxi, fxr, fxl, fxl0, ↓swi_n, ↓swi_c, nck0, nck1, nck2, nck3, List.length_cons, List.length_nil, Nat.reduceAdd, Nat.reduceSub, Nat.reduceLeDiff, Nat.reduceEqDiff, Nat.reduceLT, reduceIte, ite_true, ite_false, Nat.sub_zero, Nat.zero_le, true_and, and_true, and_self, true_or, or_true, if_true, if_false, true_implies, implies_true, not_true_eq_false, not_false_eq_true, false_implies, forall_const, ne_eq, or_self, and_false, false_and, Lt, Le, Eq', Cp, In, nI_add, nI_mul, nI_sub, nI_sub1, Neg0, bI_eq0, bI_eq1, bI_01, bft, up2_eq, up2_no, Bool.true_eq_false, Bool.false_eq_true, eq_self, m1_ne, m1_ne2, m1_lt, m1_le, lt_m1, m1_le2, bI_t, bI_f, FMu hF, hd0, h14'])
        refine isEnd_M hF' hW1 (by omega) ?_
        rw [show endB (I1 124) (gs (I 124) i 3) c = endB (I 124) (gs (I 124) i 3) c by rw [e124]]
        cases h7 : endB (I 124) (gs (I 124) i 3) c with
        | false =>
          rw [h7, if_neg (by decide)] at hQ1
          (apply WP_run 999 80; simp (disch := first | decide | omega) only [t155_0, t155_1, t155_2, lift_c, o_aload0, o_iload1, o_iload2, o_virt3, rpush_n, rpush_s, o_getfield, o_ifeq, o_inl, o_goto, o_isub, o_istore, s1_0, s1_s, o_icne, o_lookup, o_iload3, o_ireturn, o_idiv, o_iload4, o_iadd, o_ifne, o_irem, z0, z1, z2, z3, z4, z5, z6, z10, z20, z31, run_0, run_c, run_n, fxn, fxi, fxr, fxl, fxl0, ↓swi_n, ↓swi_c, nck0, nck1, nck2, nck3, List.length_cons, List.length_nil, Nat.reduceAdd, Nat.reduceSub, Nat.reduceLeDiff, Nat.reduceEqDiff, Nat.reduceLT, reduceIte, ite_true, ite_false, Nat.sub_zero, Nat.zero_le, true_and, and_true, and_self, true_or, or_true, if_true, if_false, true_implies, implies_true, not_true_eq_false, not_false_eq_true, false_implies, forall_const, ne_eq, or_self, and_false, false_and, Lt, Le, Eq', Cp, In, nI_add, nI_mul, nI_sub, nI_sub1, Neg0, bI_eq0, bI_eq1, bI_01, bft, up2_eq, up2_no, Bool.true_eq_false, Bool.false_eq_true, eq_self, m1_ne, m1_ne2, m1_lt, m1_le, lt_m1, m1_le2, bI_t, bI_f, FMu hF, hd0, h14'])
          exact hQ1
        | true =>
          rw [h7, if_pos rfl] at hQ1
          (apply WP_run 999 80; simp (disch := first | decide | omega) only [t155_0, t155_1, t155_2, lift_c, o_aload0, o_iload1, o_iload2, o_virt3, rpush_n, rpush_s, o_getfield, o_ifeq, o_inl, o_goto, o_isub, o_istore, s1_0, s1_s, o_icne, o_lookup, o_iload3, o_ireturn, o_idiv, o_iload4, o_iadd, o_ifne, o_irem, z0, z1, z2, z3, z4, z5, z6, z10, z20, z31, run_0, run_c, run_n, fxn, fxi, fxr, fxl, fxl0, ↓swi_n, ↓swi_c, nck0, nck1, nck2, nck3, List.length_cons, List.length_nil, Nat.reduceAdd, Nat.reduceSub, Nat.reduceLeDiff, Nat.reduceEqDiff, Nat.reduceLT, reduceIte, ite_true, ite_false, Nat.sub_zero, Nat.zero_le, true_and, and_true, and_self, true_or, or_true, if_true, if_false, true_implies, implies_true, not_true_eq_false, not_false_eq_true, false_implies, forall_const, ne_eq, or_self, and_false, false_and, Lt, Le, Eq', Cp, In, nI_add, nI_mul, nI_sub, nI_sub1, Neg0, bI_eq0, bI_eq1, bI_01, bft, up2_eq, up2_no, Bool.true_eq_false, Bool.false_eq_true, eq_self, m1_ne, m1_ne2, m1_lt, m1_le, lt_m1, m1_le2, bI_t, bI_f, FMu hF, hd0, h14'])
          exact hQ1
      · rw [if_neg h1, if_neg h2, if_neg h3, if_neg h4, if_pos h] at hQ1
        refine ⟨fun h7 => ?_, fun h7 => ?_⟩
        · rw [if_pos h7] at hQ1
          exact hQ1
        · rw [if_neg h7] at hQ1
          exact hQ1
      · rw [if_neg h1, if_neg h2, if_neg h3, if_neg h4, if_neg h5, if_pos h] at hQ1
        rw [nI_div c 4 (by omega) (by decide) (by decide), nI_mul, nI_sub _ _ (by omega), nI_add, e4]
        refine goose_M hF' hi6 (by omega) ?_
        rw [hgs]
        (apply WP_run 999 80; simp (disch := first | decide | omega) only [t155_0, t155_1, t155_2, lift_c, o_aload0, o_iload1, o_iload2, o_virt3, rpush_n, rpush_s, o_getfield, o_ifeq, o_inl, o_goto, o_isub, o_istore, s1_0, s1_s, o_icne, o_lookup, o_iload3, o_ireturn, o_idiv, o_iload4, o_iadd, o_ifne, o_irem, z0, z1, z2, z3, z4, z5, z6, z10, z20, z31, run_0, run_c, run_n, fxn, fxi, fxr, fxl, fxl0, ↓swi_n, ↓swi_c, nck0, nck1, nck2, nck3, List.length_cons, List.length_nil, Nat.reduceAdd, Nat.reduceSub, Nat.reduceLeDiff, Nat.reduceEqDiff, Nat.reduceLT, reduceIte, ite_true, ite_false, Nat.sub_zero, Nat.zero_le, true_and, and_true, and_self, true_or, or_true, if_true, if_false, true_implies, implies_true, not_true_eq_false, not_false_eq_true, false_implies, forall_const, ne_eq, or_self, and_false, false_and, Lt, Le, Eq', Cp, In, nI_add, nI_mul, nI_sub, nI_sub1, Neg0, bI_eq0, bI_eq1, bI_01, bft, up2_eq, up2_no, Bool.true_eq_false, Bool.false_eq_true, eq_self, m1_ne, m1_ne2, m1_lt, m1_le, lt_m1, m1_le2, bI_t, bI_f, FMu hF, hd0, h14'])
        exact hQ1
      · rw [if_neg h1, if_neg h2, if_neg h3, if_neg h4, if_neg h5, if_neg h6] at hQ1
        exact hQ1
    (apply WP_run 51 80; simp (disch := first | decide | omega) only [t155_0, t155_1, t155_2, lift_c, o_aload0, o_iload1, o_iload2, o_virt3, rpush_n, rpush_s, o_getfield, o_ifeq, o_inl, o_goto, o_isub, o_istore, s1_0, s1_s, o_icne, o_lookup, o_iload3, o_ireturn, o_idiv, o_iload4, o_iadd, o_ifne, o_irem, z0, z1, z2, z3, z4, z5, z6, z10, z20, z31, run_0, run_c, run_n, fxn, fxi, fxr, fxl, fxl0, ↓swi_n, ↓swi_c, nck0, nck1, nck2, nck3, List.length_cons, List.length_nil, Nat.reduceAdd, Nat.reduceSub, Nat.reduceLeDiff, Nat.reduceEqDiff, Nat.reduceLT, reduceIte, ite_true, ite_false, Nat.sub_zero, Nat.zero_le, true_and, and_true, and_self, true_or, or_true, if_true, if_false, true_implies, implies_true, not_true_eq_false, not_false_eq_true, false_implies, forall_const, ne_eq, or_self, and_false, false_and, Lt, Le, Eq', Cp, In, nI_add, nI_mul, nI_sub, nI_sub1, Neg0, bI_eq0, bI_eq1, bI_01, bft, up2_eq, up2_no, Bool.true_eq_false, Bool.false_eq_true, eq_self, m1_ne, m1_ne2, m1_lt, m1_le, lt_m1, m1_le2, bI_t, bI_f, FMu hF, hd0, h14', hgs])
    refine ⟨fun h => ?_, fun h => ?_⟩
    · exact fin2 _ (by rw [if_pos h]) _ _
    · exact fin2 _ (by rw [if_neg h]) _ _
  cases h0 : anoth (I 124) i c (cn (I 124)) with
  | false =>
    rw [h0] at fin
    (apply WP_run 30 80; simp (disch := first | decide | omega) only [t155_0, t155_1, t155_2, lift_c, o_aload0, o_iload1, o_iload2, o_virt3, rpush_n, rpush_s, o_getfield, o_ifeq, o_inl, o_goto, o_isub, o_istore, s1_0, s1_s, o_icne, o_lookup, o_iload3, o_ireturn, o_idiv, o_iload4, o_iadd, o_ifne, o_irem, z0, z1, z2, z3, z4, z5, z6, z10, z20, z31, run_0, run_c, run_n, fxn, fxi, fxr, fxl, fxl0, ↓swi_n, ↓swi_c, nck0, nck1, nck2, nck3, List.length_cons, List.length_nil, Nat.reduceAdd, Nat.reduceSub, Nat.reduceLeDiff, Nat.reduceEqDiff, Nat.reduceLT, reduceIte, ite_true, ite_false, Nat.sub_zero, Nat.zero_le, true_and, and_true, and_self, true_or, or_true, if_true, if_false, true_implies, implies_true, not_true_eq_false, not_false_eq_true, false_implies, forall_const, ne_eq, or_self, and_false, false_and, Lt, Le, Eq', Cp, In, nI_add, nI_mul, nI_sub, nI_sub1, Neg0, bI_eq0, bI_eq1, bI_01, bft, up2_eq, up2_no, Bool.true_eq_false, Bool.false_eq_true, eq_self, m1_ne, m1_ne2, m1_lt, m1_le, lt_m1, m1_le2, bI_t, bI_f, FMu hF, hd0, h14'])
    exact fin _ (by rw [if_neg (by decide)]; rfl) _ _
  | true =>
    rw [h0] at fin
    (apply WP_run 30 80; simp (disch := first | decide | omega) only [t155_0, t155_1, t155_2, lift_c, o_aload0, o_iload1, o_iload2, o_virt3, rpush_n, rpush_s, o_getfield, o_ifeq, o_inl, o_goto, o_isub, o_istore, s1_0, s1_s, o_icne, o_lookup, o_iload3, o_ireturn, o_idiv, o_iload4, o_iadd, o_ifne, o_irem, z0, z1, z2, z3, z4, z5, z6, z10, z20, z31, run_0, run_c, run_n, fxn, fxi, fxr, fxl, fxl0, ↓swi_n, ↓swi_c, nck0, nck1, nck2, nck3, List.length_cons, List.length_nil, Nat.reduceAdd, Nat.reduceSub, Nat.reduceLeDiff, Nat.reduceEqDiff, Nat.reduceLT, reduceIte, ite_true, ite_false, Nat.sub_zero, Nat.zero_le, true_and, and_true, and_self, true_or, or_true, if_true, if_false, true_implies, implies_true, not_true_eq_false, not_false_eq_true, false_implies, forall_const, ne_eq, or_self, and_false, false_and, Lt, Le, Eq', Cp, In, nI_add, nI_mul, nI_sub, nI_sub1, Neg0, bI_eq0, bI_eq1, bI_01, bft, up2_eq, up2_no, Bool.true_eq_false, Bool.false_eq_true, eq_self, m1_ne, m1_ne2, m1_lt, m1_le, lt_m1, m1_le2, bI_t, bI_f, FMu hF, hd0, h14'])
    refine goose_M hF' (w := 1) hi6 (by decide) ?_
    rw [hgs]
    (apply WP_run 30 80; simp (disch := first | decide | omega) only [t155_0, t155_1, t155_2, lift_c, o_aload0, o_iload1, o_iload2, o_virt3, rpush_n, rpush_s, o_getfield, o_ifeq, o_inl, o_goto, o_isub, o_istore, s1_0, s1_s, o_icne, o_lookup, o_iload3, o_ireturn, o_idiv, o_iload4, o_iadd, o_ifne, o_irem, z0, z1, z2, z3, z4, z5, z6, z10, z20, z31, run_0, run_c, run_n, fxn, fxi, fxr, fxl, fxl0, ↓swi_n, ↓swi_c, nck0, nck1, nck2, nck3, List.length_cons, List.length_nil, Nat.reduceAdd, Nat.reduceSub, Nat.reduceLeDiff, Nat.reduceEqDiff, Nat.reduceLT, reduceIte, ite_true, ite_false, Nat.sub_zero, Nat.zero_le, true_and, and_true, and_self, true_or, or_true, if_true, if_false, true_implies, implies_true, not_true_eq_false, not_false_eq_true, false_implies, forall_const, ne_eq, or_self, and_false, false_and, Lt, Le, Eq', Cp, In, nI_add, nI_mul, nI_sub, nI_sub1, Neg0, bI_eq0, bI_eq1, bI_01, bft, up2_eq, up2_no, Bool.true_eq_false, Bool.false_eq_true, eq_self, m1_ne, m1_ne2, m1_lt, m1_le, lt_m1, m1_le2, bI_t, bI_f, FMu hF, hd0, h14'])
    exact fin _ (by rw [if_pos rfl]; rfl) _ _
end
