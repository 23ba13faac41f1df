/-! ### the reference's reader: factors -/
theorem RC.eo' {I I' : TI} {t : TN} {z : Nat} {p p' : PS} {nm : TN} {S : Nat → Nat → Prop} (h : RC I t z p nm) (he : Eo S I I') (hs : ∀ a j, S a j → a = 123) (hp : PA I' t z p') : RC I' t z p' nm :=
  ⟨hp, h.2.1.eo he (fun a j q => by have := hs a j q; omega), fun j hj => (he 131 j (fun q => by have := hs 131 j q; omega)).trans (h.2.2 j hj)⟩
theorem PA.up13 {I : TI} {t : TN} {z : Nat} {p : PS} (h : PA I t z p) (v : Int32) : PA (up2 I 123 13 v) t z p :=
  ⟨h.z100, fun j hj => by rw [up2_no _ _ _ _ _ _ (by omega)]; exact h.txt hj, by rw [up2_no _ _ _ _ _ _ (by omega)]; exact h.sz, h.le, by rw [up2_no _ _ _ _ _ _ (by omega)]; exact h.a, by rw [up2_no _ _ _ _ _ _ (by omega)]; exact h.w⟩
theorem Eo13 {I J I3 : TI} {x v : Int32} (h : Eo scP I J) (h3 : Eo scP (up2 J 123 13 x) I3) (hv : I 123 13 = v) : Eo scP I (up2 I3 123 13 v) := fun a j q => by
  by_cases e : a = 123 ∧ j = 13
  · rw [e.1, e.2, up2_eq, hv]
  · rw [up2_no _ _ _ _ _ _ e, h3 a j q, up2_no _ _ _ _ _ _ e, h a j q]
def sc13 (a j : Nat) : Prop := a = 123
theorem factor_M {G : GE} (t : TN) (z : Nat) (nm : TN) : ∀ m, m ≤ 4 → RdM G 146 (nI (4 - m)) (5 * m + 3) t z nm (facS t z m)
  | 0, hm4 => by
    intro d n sh I L P Q p hF hp hw hd hQ
    apply e146
    have hF' := hF
    have hd0 : 0 < d := by omega
    (apply WP_run 999 80; simp (disch := first | decide | omega) only [t146_0, t146_1, lift_c, o_aload0, o_getfield, o_inl, o_icge, o_virt2, rpush_n, rpush_s, o_ifeq, o_dupi, o_dupr, o_iadd, o_putfield, o_virt1, o_ifne, o_goto, o_istore, s1_0, s1_s, o_isub, o_iload1, o_ireturn, z0, z1, z2, z4, z20, z31, z33, z40, z41, run_0, run_c, run_n, fxn, fxi, fxr, fxl, fxl0, ↓swi_n, ↓swi_c, nck0, nck1, nck2, nck3, List.length_cons, List.length_nil, Nat.reduceAdd, Nat.reduceSub, Nat.reduceLeDiff, Nat.reduceEqDiff, Nat.reduceLT, reduceIte, ite_true, ite_false, Nat.sub_zero, Nat.zero_le, true_and, and_true, and_self, true_or, or_true, if_true, if_false, true_implies, implies_true, not_true_eq_false, not_false_eq_true, false_implies, forall_const, ne_eq, or_self, and_false, false_and, Lt, Le, Eq', Cp, In, nI_add, nI_mul, nI_sub, nI_sub1, Neg0, bI_eq0, bI_eq1, bI_01, bft, up2_eq, up2_no, Bool.true_eq_false, Bool.false_eq_true, eq_self, m1_ne, m1_ne2, m1_lt, m1_le, lt_m1, m1_le2, bI_t, bI_f, FMu hF, hd0, hw, Nat.le_refl])
    apply test_M hF' hp (by omega)
    intro I' b he hp' hb
    (apply WP_run 999 80; simp (disch := first | decide | omega) only [t146_0, t146_1, lift_c, o_aload0, o_getfield, o_inl, o_icge, o_virt2, rpush_n, rpush_s, o_ifeq, o_dupi, o_dupr, o_iadd, o_putfield, o_virt1, o_ifne, o_goto, o_istore, s1_0, s1_s, o_isub, o_iload1, o_ireturn, z0, z1, z2, z4, z20, z31, z33, z40, z41, run_0, run_c, run_n, fxn, fxi, fxr, fxl, fxl0, ↓swi_n, ↓swi_c, nck0, nck1, nck2, nck3, List.length_cons, List.length_nil, Nat.reduceAdd, Nat.reduceSub, Nat.reduceLeDiff, Nat.reduceEqDiff, Nat.reduceLT, reduceIte, ite_true, ite_false, Nat.sub_zero, Nat.zero_le, true_and, and_true, and_self, true_or, or_true, if_true, if_false, true_implies, implies_true, not_true_eq_false, not_false_eq_true, false_implies, forall_const, ne_eq, or_self, and_false, false_and, Lt, Le, Eq', Cp, In, nI_add, nI_mul, nI_sub, nI_sub1, Neg0, bI_eq0, bI_eq1, bI_01, bft, up2_eq, up2_no, Bool.true_eq_false, Bool.false_eq_true, eq_self, m1_ne, m1_ne2, m1_lt, m1_le, lt_m1, m1_le2, bI_t, bI_f, FMu hF, hd0])
    exact hQ I' b he hp' hb
  | m + 1, hm4 => by
    intro d n sh I L P Q p hF hp hw hd hQ
    apply e146
    have hF' := hF
    have hd0 : 0 < d := by omega
    have hm1 : ¬ 4 ≤ 4 - (m + 1) := by omega
    have hm2 : 4 - (m + 1) + 1 = 4 - m := by omega
    have hm3 : 4 - m - 1 = 4 - (m + 1) := by omega
    have ih := factor_M (G := G) t z nm m (by omega)
    have h1 := hp.1.z100
    have ha := hp.1.a
    (apply WP_run 999 80; simp (disch := first | decide | omega) only [t146_0, t146_1, lift_c, o_aload0, o_getfield, o_inl, o_icge, o_virt2, rpush_n, rpush_s, o_ifeq, o_dupi, o_dupr, o_iadd, o_putfield, o_virt1, o_ifne, o_goto, o_istore, s1_0, s1_s, o_isub, o_iload1, o_ireturn, z0, z1, z2, z4, z20, z31, z33, z40, z41, run_0, run_c, run_n, fxn, fxi, fxr, fxl, fxl0, ↓swi_n, ↓swi_c, nck0, nck1, nck2, nck3, List.length_cons, List.length_nil, Nat.reduceAdd, Nat.reduceSub, Nat.reduceLeDiff, Nat.reduceEqDiff, Nat.reduceLT, reduceIte, ite_true, ite_false, Nat.sub_zero, Nat.zero_le, true_and, and_true, and_self, true_or, or_true, if_true, if_false, true_implies, implies_true, not_true_eq_false, not_false_eq_true, false_implies, forall_const, ne_eq, or_self, and_false, false_and, Lt, Le, Eq', Cp, In, nI_add, nI_mul, nI_sub, nI_sub1, Neg0, bI_eq0, bI_eq1, bI_01, bft, up2_eq, up2_no, Bool.true_eq_false, Bool.false_eq_true, eq_self, m1_ne, m1_ne2, m1_lt, m1_le, lt_m1, m1_le2, bI_t, bI_f, FMu hF, hd0, hw, hm1])
    apply isAt_M hF' hp.1
    cases h0 : atS t z p (nI 33) with
    | true =>
      have e : facS t z (m + 1) p = ((facS t z m (p.1 + 1, p.2)).1, (facS t z m (p.1 + 1, p.2)).2 ++ [(3, 0, nI 0)]) := by rw [facS]; simp [h0]
      rw [e] at hQ
      have hl := atS_lt h0
      have e2 : Eo scP I (up2 I 123 11 (nI (p.1 + 1))) := Eo.up Eo.rf ⟨rfl, Or.inl rfl⟩ _
      have hp2 := (hp.1.inc hl).up13 (nI (4 - m))
      have hR2 : RC (up2 (up2 I 123 11 (nI (p.1 + 1))) 123 13 (nI (4 - m))) t z (p.1 + 1, p.2) nm := hp.eo' (S := sc13) (Eo.up (Eo.up Eo.rf (show sc13 123 11 from rfl) _) (show sc13 123 13 from rfl) _) (fun a j q => q) hp2
      (apply WP_run 999 80; simp (disch := first | decide | omega) only [t146_0, t146_1, lift_c, o_aload0, o_getfield, o_inl, o_icge, o_virt2, rpush_n, rpush_s, o_ifeq, o_dupi, o_dupr, o_iadd, o_putfield, o_virt1, o_ifne, o_goto, o_istore, s1_0, s1_s, o_isub, o_iload1, o_ireturn, z0, z1, z2, z4, z20, z31, z33, z40, z41, run_0, run_c, run_n, fxn, fxi, fxr, fxl, fxl0, ↓swi_n, ↓swi_c, nck0, nck1, nck2, nck3, List.length_cons, List.length_nil, Nat.reduceAdd, Nat.reduceSub, Nat.reduceLeDiff, Nat.reduceEqDiff, Nat.reduceLT, reduceIte, ite_true, ite_false, Nat.sub_zero, Nat.zero_le, true_and, and_true, and_self, true_or, or_true, if_true, if_false, true_implies, implies_true, not_true_eq_false, not_false_eq_true, false_implies, forall_const, ne_eq, or_self, and_false, false_and, Lt, Le, Eq', Cp, In, nI_add, nI_mul, nI_sub, nI_sub1, Neg0, bI_eq0, bI_eq1, bI_01, bft, up2_eq, up2_no, Bool.true_eq_false, Bool.false_eq_true, eq_self, m1_ne, m1_ne2, m1_lt, m1_le, lt_m1, m1_le2, bI_t, bI_f, FMu hF, hd0, hw, ha, hm2])
      refine ih _ _ _ _ _ _ _ _ hF' hR2 (up2_eq _ _ _ _) (by omega) fun I3 b3 he3 hp3 hb3 => ?_
      have h13 : I3 123 13 = nI (4 - m) := (scP_13 he3).trans (up2_eq _ _ _ _)
      have hQ3 := hQ (up2 I3 123 13 (nI (4 - (m + 1)))) (!b3) (Eo13 e2 he3 hw) (hp3.up13 _) (fun q => one_not (hb3 q) _)
      cases b3 <;> ((apply WP_run 999 80; simp (disch := first | decide | omega) only [t146_0, t146_1, lift_c, o_aload0, o_getfield, o_inl, o_icge, o_virt2, rpush_n, rpush_s, o_ifeq, o_dupi, o_dupr, o_iadd, o_putfield, o_virt1, o_ifne, o_goto, o_istore, s1_0, s1_s, o_isub, o_iload1, o_ireturn, z0, z1, z2, z4, z20, z31, z33, z40, z41, run_0, run_c, run_n, fxn, fxi, fxr, fxl, fxl0, ↓swi_n, ↓swi_c, nck0, nck1, nck2, nck3, List.length_cons, List.length_nil, Nat.reduceAdd, Nat.reduceSub, Nat.reduceLeDiff, Nat.reduceEqDiff, Nat.reduceLT, reduceIte, ite_true, ite_false, Nat.sub_zero, Nat.zero_le, true_and, and_true, and_self, true_or, or_true, if_true, if_false, true_implies, implies_true, not_true_eq_false, not_false_eq_true, false_implies, forall_const, ne_eq, or_self, and_false, false_and, Lt, Le, Eq', Cp, In, nI_add, nI_mul, nI_sub, nI_sub1, Neg0, bI_eq0, bI_eq1, bI_01, bft, up2_eq, up2_no, Bool.true_eq_false, Bool.false_eq_true, eq_self, m1_ne, m1_ne2, m1_lt, m1_le, lt_m1, m1_le2, bI_t, bI_f, FMu hF, hd0, h13, hm3]); exact hQ3)
    | false =>
      (apply WP_run 999 80; simp (disch := first | decide | omega) only [t146_0, t146_1, lift_c, o_aload0, o_getfield, o_inl, o_icge, o_virt2, rpush_n, rpush_s, o_ifeq, o_dupi, o_dupr, o_iadd, o_putfield, o_virt1, o_ifne, o_goto, o_istore, s1_0, s1_s, o_isub, o_iload1, o_ireturn, z0, z1, z2, z4, z20, z31, z33, z40, z41, run_0, run_c, run_n, fxn, fxi, fxr, fxl, fxl0, ↓swi_n, ↓swi_c, nck0, nck1, nck2, nck3, List.length_cons, List.length_nil, Nat.reduceAdd, Nat.reduceSub, Nat.reduceLeDiff, Nat.reduceEqDiff, Nat.reduceLT, reduceIte, ite_true, ite_false, Nat.sub_zero, Nat.zero_le, true_and, and_true, and_self, true_or, or_true, if_true, if_false, true_implies, implies_true, not_true_eq_false, not_false_eq_true, false_implies, forall_const, ne_eq, or_self, and_false, false_and, Lt, Le, Eq', Cp, In, nI_add, nI_mul, nI_sub, nI_sub1, Neg0, bI_eq0, bI_eq1, bI_01, bft, up2_eq, up2_no, Bool.true_eq_false, Bool.false_eq_true, eq_self, m1_ne, m1_ne2, m1_lt, m1_le, lt_m1, m1_le2, bI_t, bI_f, FMu hF, hd0, hw, hm1])
      apply isAt_M hF' hp.1
      cases h5 : atS t z p (nI 40) with
      | true =>
        have e : facS t z (m + 1) p = (takS t z (anyS t z (facS t z m) (p.1 + 1, p.2)).1 (nI 41), (anyS t z (facS t z m) (p.1 + 1, p.2)).2) := by rw [facS]; simp [h0, h5]
        rw [e] at hQ
        have hl := atS_lt h5
        have e2 : Eo scP I (up2 I 123 11 (nI (p.1 + 1))) := Eo.up Eo.rf ⟨rfl, Or.inl rfl⟩ _
        have hp2 := (hp.1.inc hl).up13 (nI (4 - m))
        have hR2 : RC (up2 (up2 I 123 11 (nI (p.1 + 1))) 123 13 (nI (4 - m))) t z (p.1 + 1, p.2) nm := hp.eo' (S := sc13) (Eo.up (Eo.up Eo.rf (show sc13 123 11 from rfl) _) (show sc13 123 13 from rfl) _) (fun a j q => q) hp2
        have hA := any_M (botS_le (facS_le t z m)) (both_M (facS_le t z m) ih)
        (apply WP_run 999 80; simp (disch := first | decide | omega) only [t146_0, t146_1, lift_c, o_aload0, o_getfield, o_inl, o_icge, o_virt2, rpush_n, rpush_s, o_ifeq, o_dupi, o_dupr, o_iadd, o_putfield, o_virt1, o_ifne, o_goto, o_istore, s1_0, s1_s, o_isub, o_iload1, o_ireturn, z0, z1, z2, z4, z20, z31, z33, z40, z41, run_0, run_c, run_n, fxn, fxi, fxr, fxl, fxl0, ↓swi_n, ↓swi_c, nck0, nck1, nck2, nck3, List.length_cons, List.length_nil, Nat.reduceAdd, Nat.reduceSub, Nat.reduceLeDiff, Nat.reduceEqDiff, Nat.reduceLT, reduceIte, ite_true, ite_false, Nat.sub_zero, Nat.zero_le, true_and, and_true, and_self, true_or, or_true, if_true, if_false, true_implies, implies_true, not_true_eq_false, not_false_eq_true, false_implies, forall_const, ne_eq, or_self, and_false, false_and, Lt, Le, Eq', Cp, In, nI_add, nI_mul, nI_sub, nI_sub1, Neg0, bI_eq0, bI_eq1, bI_01, bft, up2_eq, up2_no, Bool.true_eq_false, Bool.false_eq_true, eq_self, m1_ne, m1_ne2, m1_lt, m1_le, lt_m1, m1_le2, bI_t, bI_f, FMu hF, hd0, hw, ha, hm2])
        refine hA _ _ _ _ _ _ _ _ hF' hR2 (up2_eq _ _ _ _) (by omega) fun I3 b3 he3 hp3 hb3 => ?_
        have h13 : I3 123 13 = nI (4 - m) := (scP_13 he3).trans (up2_eq _ _ _ _)
        (apply WP_run 999 80; simp (disch := first | decide | omega) only [t146_0, t146_1, lift_c, o_aload0, o_getfield, o_inl, o_icge, o_virt2, rpush_n, rpush_s, o_ifeq, o_dupi, o_dupr, o_iadd, o_putfield, o_virt1, o_ifne, o_goto, o_istore, s1_0, s1_s, o_isub, o_iload1, o_ireturn, z0, z1, z2, z4, z20, z31, z33, z40, z41, run_0, run_c, run_n, fxn, fxi, fxr, fxl, fxl0, ↓swi_n, ↓swi_c, nck0, nck1, nck2, nck3, List.length_cons, List.length_nil, Nat.reduceAdd, Nat.reduceSub, Nat.reduceLeDiff, Nat.reduceEqDiff, Nat.reduceLT, reduceIte, ite_true, ite_false, Nat.sub_zero, Nat.zero_le, true_and, and_true, and_self, true_or, or_true, if_true, if_false, true_implies, implies_true, not_true_eq_false, not_false_eq_true, false_implies, forall_const, ne_eq, or_self, and_false, false_and, Lt, Le, Eq', Cp, In, nI_add, nI_mul, nI_sub, nI_sub1, Neg0, bI_eq0, bI_eq1, bI_01, bft, up2_eq, up2_no, Bool.true_eq_false, Bool.false_eq_true, eq_self, m1_ne, m1_ne2, m1_lt, m1_le, lt_m1, m1_le2, bI_t, bI_f, FMu hF, hd0, h13, hm3])
        apply takes_M hF' (hp3.up13 (nI (4 - (m + 1)))) (by omega)
        intro I4 he4 hp4
        (apply WP_run 999 80; simp (disch := first | decide | omega) only [t146_0, t146_1, lift_c, o_aload0, o_getfield, o_inl, o_icge, o_virt2, rpush_n, rpush_s, o_ifeq, o_dupi, o_dupr, o_iadd, o_putfield, o_virt1, o_ifne, o_goto, o_istore, s1_0, s1_s, o_isub, o_iload1, o_ireturn, z0, z1, z2, z4, z20, z31, z33, z40, z41, run_0, run_c, run_n, fxn, fxi, fxr, fxl, fxl0, ↓swi_n, ↓swi_c, nck0, nck1, nck2, nck3, List.length_cons, List.length_nil, Nat.reduceAdd, Nat.reduceSub, Nat.reduceLeDiff, Nat.reduceEqDiff, Nat.reduceLT, reduceIte, ite_true, ite_false, Nat.sub_zero, Nat.zero_le, true_and, and_true, and_self, true_or, or_true, if_true, if_false, true_implies, implies_true, not_true_eq_false, not_false_eq_true, false_implies, forall_const, ne_eq, or_self, and_false, false_and, Lt, Le, Eq', Cp, In, nI_add, nI_mul, nI_sub, nI_sub1, Neg0, bI_eq0, bI_eq1, bI_01, bft, up2_eq, up2_no, Bool.true_eq_false, Bool.false_eq_true, eq_self, m1_ne, m1_ne2, m1_lt, m1_le, lt_m1, m1_le2, bI_t, bI_f, FMu hF, hd0])
        refine hQ I4 b3 ((Eo13 e2 he3 hw).tr he4) hp4 (fun q => hb3 ?_)
        have q : (takS t z (anyS t z (facS t z m) (p.1 + 1, p.2)).1 (nI 41)).2 = true := q
        unfold takS at q
        split at q
        · exact q
        · simp at q
      | false =>
        have e : facS t z (m + 1) p = tstS t z p := by rw [facS]; simp [h0, h5]
        rw [e] at hQ
        (apply WP_run 999 80; simp (disch := first | decide | omega) only [t146_0, t146_1, lift_c, o_aload0, o_getfield, o_inl, o_icge, o_virt2, rpush_n, rpush_s, o_ifeq, o_dupi, o_dupr, o_iadd, o_putfield, o_virt1, o_ifne, o_goto, o_istore, s1_0, s1_s, o_isub, o_iload1, o_ireturn, z0, z1, z2, z4, z20, z31, z33, z40, z41, run_0, run_c, run_n, fxn, fxi, fxr, fxl, fxl0, ↓swi_n, ↓swi_c, nck0, nck1, nck2, nck3, List.length_cons, List.length_nil, Nat.reduceAdd, Nat.reduceSub, Nat.reduceLeDiff, Nat.reduceEqDiff, Nat.reduceLT, reduceIte, ite_true, ite_false, Nat.sub_zero, Nat.zero_le, true_and, and_true, and_self, true_or, or_true, if_true, if_false, true_implies, implies_true, not_true_eq_false, not_false_eq_true, false_implies, forall_const, ne_eq, or_self, and_false, false_and, Lt, Le, Eq', Cp, In, nI_add, nI_mul, nI_sub, nI_sub1, Neg0, bI_eq0, bI_eq1, bI_01, bft, up2_eq, up2_no, Bool.true_eq_false, Bool.false_eq_true, eq_self, m1_ne, m1_ne2, m1_lt, m1_le, lt_m1, m1_le2, bI_t, bI_f, FMu hF, hd0, hw, hm1])
        apply test_M hF' hp (by omega)
        intro I' b he hp' hb
        (apply WP_run 999 80; simp (disch := first | decide | omega) only [t146_0, t146_1, lift_c, o_aload0, o_getfield, o_inl, o_icge, o_virt2, rpush_n, rpush_s, o_ifeq, o_dupi, o_dupr, o_iadd, o_putfield, o_virt1, o_ifne, o_goto, o_istore, s1_0, s1_s, o_isub, o_iload1, o_ireturn, z0, z1, z2, z4, z20, z31, z33, z40, z41, run_0, run_c, run_n, fxn, fxi, fxr, fxl, fxl0, ↓swi_n, ↓swi_c, nck0, nck1, nck2, nck3, List.length_cons, List.length_nil, Nat.reduceAdd, Nat.reduceSub, Nat.reduceLeDiff, Nat.reduceEqDiff, Nat.reduceLT, reduceIte, ite_true, ite_false, Nat.sub_zero, Nat.zero_le, true_and, and_true, and_self, true_or, or_true, if_true, if_false, true_implies, implies_true, not_true_eq_false, not_false_eq_true, false_implies, forall_const, ne_eq, or_self, and_false, false_and, Lt, Le, Eq', Cp, In, nI_add, nI_mul, nI_sub, nI_sub1, Neg0, bI_eq0, bI_eq1, bI_01, bft, up2_eq, up2_no, Bool.true_eq_false, Bool.false_eq_true, eq_self, m1_ne, m1_ne2, m1_lt, m1_le, lt_m1, m1_le2, bI_t, bI_f, FMu hF, hd0])
        exact hQ I' b he hp' hb
