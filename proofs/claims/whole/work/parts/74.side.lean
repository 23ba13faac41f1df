/-! ### pairs: what lies beside the yards: feed, read -/
def siS (a j : Nat) : Prop := (a = 102 ∧ j = 1) ∨ a = 103 ∨ a = 127 ∨ (a = 123 ∧ j = 5) ∨ a = 108 ∨ a = 109 ∨ (a = 123 ∧ j = 24) ∨ a = 138 ∨ (111 ≤ a ∧ a ≤ 122) ∨ a = 139 ∨ a = 140
def siT (a j : Nat) : Prop := (111 ≤ a ∧ a ≤ 122) ∨ a = 141 ∨ a = 142
theorem IW.side {n : Nat} {sh : TS} {I I' : TI} {L L' : TL} {P : TP} {F : TF} {E : Nat → Int32} {k g r : Nat} (h : IW n sh I L P F E k g r) (hI : Eo siS I I') (ht : IVt I') (hx : IVx I') (hp : IVp I' L') : IW n sh I' L' P F E k g r := by
  obtain ⟨h1, h2, h3, h4, h5, h6, h7, h8, h9, h10, h11, h12, h13⟩ := h
  have e124 : I' 124 = I 124 := funext fun j => hI 124 j (by unfold siS; omega)
  have e128 : I' 128 = I 128 := funext fun j => hI 128 j (by unfold siS; omega)
  have e129 : I' 129 = I 129 := funext fun j => hI 129 j (by unfold siS; omega)
  refine ⟨h1, h2, ⟨by rw [e124]; exact h3.1, h3.2.1.eo hI (fun a j q => by unfold siS at q; omega), by rw [e128, e129]; exact h3.2.2.1, by rw [e128, e129]; exact h3.2.2.2⟩, ?_, ?_, by rw [e124]; exact h6, h7.eo hI fun a j q => by unfold siS at q; omega, h8.eo hI fun a j q => by unfold siS at q; omega, ht, hx, hp, h12.eo hI fun a j q => by unfold siS at q; omega, h13⟩
  · rw [e124]
    exact h4.eo h3.1.k6 hI fun a j q => by unfold siS at q; omega
  · rw [e124]
    exact h5.eo hI fun a j q => by unfold siS at q; omega
section
variable {G : GE} {d : Nat}
theorem feed_P (hd : 50 ≤ d) (x : Int32) : PAIR G d 74 140 [.ref 20, .int x] [.ref 123, .int x] := by
  intro n sh I L P Q hI hQ
  obtain ⟨F, E, k, g, r, hI⟩ := hI
  apply e74
  apply WP_SF
  intro hSF
  have hs2 := hSF.2.2.1
  have hB := hI.cb
  have hG := hB.fg
  have hY22 := hB.y22
  have hY84 := hB.y84
  have h22 : sh 22 = (8, 9) := (FY22u hY22).1
  have hd0 : 0 < d := by omega
  have hk := hI.2.2.1.1.k6
  have hg9 := hI.2.2.1.1.g9
  have hWe := hI.2.2.1.we
  have hF := hI.1
  have h5 := hB.count
  obtain ⟨z, t1, t2, t3, t4⟩ := hI.2.2.2.2.2.2.2.2.1
  cases hx : inR x 0 127 with
  | false =>
    have hx2 : decide (nI 0 ≤ x ∧ x ≤ nI 127) = false := hx
    have bad := hQ (-nI 2) n sh I L P fun Q2 h2 => by
      refine ⟨(FMu hI.1).1, ?_⟩
      have h2 := h2 _ _ _ _ _ ⟨F, E, k, g, r, hI⟩
      apply e140
      (apply WP_runI (lv := lvM) LM_ok 999 20; simp (disch := first | decide | omega) only [t140_0, lift_c, o_iload1, o_inl, o_stat3, rpush_n, rpush_s, o_ifne, o_ireturn, o_aload0, o_getfield, o_icne, o_getref, o_iastore, o_dupi, o_dupr, o_iadd, o_putfield, z0, z1, z2, z4, z20, z31, z100, z127, runI_0, runI_c, runI_n, liftI_n, liftI_y, run_0, run_c, run_n, fxn, fxi, fxr, fxl, fxl0, ↓swi_n, ↓swi_c, nck0, nck1, nck2, nck3, List.length_cons, List.length_nil, Nat.reduceAdd, Nat.reduceSub, Nat.reduceLeDiff, Nat.reduceEqDiff, Nat.reduceLT, reduceIte, ite_true, ite_false, Nat.sub_zero, Nat.zero_le, true_and, and_true, and_self, true_or, or_true, if_true, if_false, true_implies, implies_true, not_true_eq_false, not_false_eq_true, false_implies, forall_const, ne_eq, or_self, and_false, false_and, Lt, Le, Eq', Cp, In, nI_add, nI_mul, nI_sub, nI_sub1, Neg0, bI_eq0, bI_eq1, bI_01, bft, up2_eq, up2_no, Bool.true_eq_false, Bool.false_eq_true, eq_self, m1_ne, m1_ne2, m1_lt, m1_le, lt_m1, m1_le2, bI_t, bI_f, LM_all hF, FMu hF, hx2, hd0])
      exact h2
    rcases inR_no hx with h | ⟨h1, h2⟩
    · (apply WP_runI (lv := lvK) (F := LK) LK_ok 999 20; simp (disch := first | decide | omega) only [t74_0, lift_c, o_iload1, o_iflt, o_inl, o_icle, o_ireturn, o_aload0, o_getref, o_getfield, o_icne, o_iastore, o_dupi, o_dupr, o_iadd, o_putfield, z0, z1, z2, z4, z20, z31, z100, z127, runI_0, runI_c, runI_n, liftI_n, liftI_y, run_0, run_c, run_n, fxn, fxi, fxr, fxl, fxl0, ↓swi_n, ↓swi_c, nck0, nck1, nck2, nck3, List.length_cons, List.length_nil, Nat.reduceAdd, Nat.reduceSub, Nat.reduceLeDiff, Nat.reduceEqDiff, Nat.reduceLT, reduceIte, ite_true, ite_false, Nat.sub_zero, Nat.zero_le, true_and, and_true, and_self, true_or, or_true, if_true, if_false, true_implies, implies_true, not_true_eq_false, not_false_eq_true, false_implies, forall_const, ne_eq, or_self, and_false, false_and, Lt, Le, Eq', Cp, In, nI_add, nI_mul, nI_sub, nI_sub1, Neg0, bI_eq0, bI_eq1, bI_01, bft, up2_eq, up2_no, Bool.true_eq_false, Bool.false_eq_true, eq_self, m1_ne, m1_ne2, m1_lt, m1_le, lt_m1, m1_le2, bI_t, bI_f, LK_st, FGu hG, LK_g hG h22 hs2, h, hd0])
      exact bad
    · have h3 : ¬ x ≤ nI 127 := Int32.not_le.mpr h2
      (apply WP_runI (lv := lvK) (F := LK) LK_ok 999 20; simp (disch := first | decide | omega) only [t74_0, lift_c, o_iload1, o_iflt, o_inl, o_icle, o_ireturn, o_aload0, o_getref, o_getfield, o_icne, o_iastore, o_dupi, o_dupr, o_iadd, o_putfield, z0, z1, z2, z4, z20, z31, z100, z127, runI_0, runI_c, runI_n, liftI_n, liftI_y, run_0, run_c, run_n, fxn, fxi, fxr, fxl, fxl0, ↓swi_n, ↓swi_c, nck0, nck1, nck2, nck3, List.length_cons, List.length_nil, Nat.reduceAdd, Nat.reduceSub, Nat.reduceLeDiff, Nat.reduceEqDiff, Nat.reduceLT, reduceIte, ite_true, ite_false, Nat.sub_zero, Nat.zero_le, true_and, and_true, and_self, true_or, or_true, if_true, if_false, true_implies, implies_true, not_true_eq_false, not_false_eq_true, false_implies, forall_const, ne_eq, or_self, and_false, false_and, Lt, Le, Eq', Cp, In, nI_add, nI_mul, nI_sub, nI_sub1, Neg0, bI_eq0, bI_eq1, bI_01, bft, up2_eq, up2_no, Bool.true_eq_false, Bool.false_eq_true, eq_self, m1_ne, m1_ne2, m1_lt, m1_le, lt_m1, m1_le2, bI_t, bI_f, LK_st, FGu hG, LK_g hG h22 hs2, h1, h3, hd0])
      exact bad
  | true =>
    have hx2 : decide (nI 0 ≤ x ∧ x ≤ nI 127) = true := hx
    obtain ⟨u, -, hu, ex⟩ := inR_of (by omega) (by omega) hx
    obtain ⟨h1, h2'⟩ := inR_yes hx
    have h3 : x ≤ nI 127 := Int32.not_lt.mp h2'
    by_cases hz : z = 100
    · have full := hQ (-nI 4) n sh I L P fun Q2 h2 => by
        refine ⟨(FMu hI.1).1, ?_⟩
        have h2 := h2 _ _ _ _ _ ⟨F, E, k, g, r, hI⟩
        apply e140
        (apply WP_runI (lv := lvM) LM_ok 999 40; simp (disch := first | decide | omega) only [t140_0, lift_c, o_iload1, o_inl, o_stat3, rpush_n, rpush_s, o_ifne, o_ireturn, o_aload0, o_getfield, o_icne, o_getref, o_iastore, o_dupi, o_dupr, o_iadd, o_putfield, z0, z1, z2, z4, z20, z31, z100, z127, runI_0, runI_c, runI_n, liftI_n, liftI_y, run_0, run_c, run_n, fxn, fxi, fxr, fxl, fxl0, ↓swi_n, ↓swi_c, nck0, nck1, nck2, nck3, List.length_cons, List.length_nil, Nat.reduceAdd, Nat.reduceSub, Nat.reduceLeDiff, Nat.reduceEqDiff, Nat.reduceLT, reduceIte, ite_true, ite_false, Nat.sub_zero, Nat.zero_le, true_and, and_true, and_self, true_or, or_true, if_true, if_false, true_implies, implies_true, not_true_eq_false, not_false_eq_true, false_implies, forall_const, ne_eq, or_self, and_false, false_and, Lt, Le, Eq', Cp, In, nI_add, nI_mul, nI_sub, nI_sub1, Neg0, bI_eq0, bI_eq1, bI_01, bft, up2_eq, up2_no, Bool.true_eq_false, Bool.false_eq_true, eq_self, m1_ne, m1_ne2, m1_lt, m1_le, lt_m1, m1_le2, bI_t, bI_f, LM_all hF, FMu hF, hx2, t3, hz, hd0])
        exact h2
      (apply WP_runI (lv := lvK) (F := LK) LK_ok 999 40; simp (disch := first | decide | omega) only [t74_0, lift_c, o_iload1, o_iflt, o_inl, o_icle, o_ireturn, o_aload0, o_getref, o_getfield, o_icne, o_iastore, o_dupi, o_dupr, o_iadd, o_putfield, z0, z1, z2, z4, z20, z31, z100, z127, runI_0, runI_c, runI_n, liftI_n, liftI_y, run_0, run_c, run_n, fxn, fxi, fxr, fxl, fxl0, ↓swi_n, ↓swi_c, nck0, nck1, nck2, nck3, List.length_cons, List.length_nil, Nat.reduceAdd, Nat.reduceSub, Nat.reduceLeDiff, Nat.reduceEqDiff, Nat.reduceLT, reduceIte, ite_true, ite_false, Nat.sub_zero, Nat.zero_le, true_and, and_true, and_self, true_or, or_true, if_true, if_false, true_implies, implies_true, not_true_eq_false, not_false_eq_true, false_implies, forall_const, ne_eq, or_self, and_false, false_and, Lt, Le, Eq', Cp, In, nI_add, nI_mul, nI_sub, nI_sub1, Neg0, bI_eq0, bI_eq1, bI_01, bft, up2_eq, up2_no, Bool.true_eq_false, Bool.false_eq_true, eq_self, m1_ne, m1_ne2, m1_lt, m1_le, lt_m1, m1_le2, bI_t, bI_f, LK_st, FGu hG, LK_g hG h22 hs2, h1, h3, t2, hz, hd0])
      exact full
    · have n103 : nle 20 103 := by show 20 ≤ 103; decide
      have n127 : nle 20 127 := by show 20 ≤ 127; decide
      have hD : IW n sh (up2 (up2 (up2 (up2 I 103 z x) 102 1 (nI (z + 1))) 127 z x) 123 5 (nI (z + 1))) L P F E k g r := by
        have hEo : Eo siS I (up2 (up2 (up2 (up2 I 103 z x) 102 1 (nI (z + 1))) 127 z x) 123 5 (nI (z + 1))) := fun a j q => by
          unfold siS at q
          simp (disch := omega) only [up2_no]
        refine hI.side hEo ⟨z + 1, by omega, by simp (disch := omega) only [up2_no, up2_eq], up2_eq _ _ _ _, fun j hj => ?_⟩ ?_ ?_
        · by_cases e : j = z
          · subst e
            simp (disch := omega) only [up2_no, up2_eq]
            exact ⟨trivial, u, hu, ex⟩
          · simp (disch := omega) only [up2_no]
            exact t4 j (by omega)
        · exact hI.2.2.2.2.2.2.2.2.2.1.eo (S := fun a j => a = 103 ∨ (a = 102 ∧ j = 1) ∨ a = 127 ∨ (a = 123 ∧ j = 5)) (fun a j q => by simp (disch := omega) only [up2_no]) fun a j q => by omega
        · exact hI.2.2.2.2.2.2.2.2.2.2.1.eo (S := fun a j => a = 103 ∨ (a = 102 ∧ j = 1) ∨ a = 127 ∨ (a = 123 ∧ j = 5)) (T := fun _ _ => False) (fun a j q => by simp (disch := omega) only [up2_no]) Eo.rf (fun a j q => by omega) fun a j q => q.elim
      have good := hQ (nI (z + 1)) n sh (up2 (up2 I 103 z x) 102 1 (nI (z + 1))) L P fun Q2 h2 => by
        refine ⟨(FMu hI.1).1, ?_⟩
        have h2 := h2 _ _ _ _ _ ⟨F, E, k, g, r, hD⟩
        apply e140
        (apply WP_runI (lv := lvM) LM_ok 999 60; simp (disch := first | decide | omega) only [t140_0, lift_c, o_iload1, o_inl, o_stat3, rpush_n, rpush_s, o_ifne, o_ireturn, o_aload0, o_getfield, o_icne, o_getref, o_iastore, o_dupi, o_dupr, o_iadd, o_putfield, z0, z1, z2, z4, z20, z31, z100, z127, runI_0, runI_c, runI_n, liftI_n, liftI_y, run_0, run_c, run_n, fxn, fxi, fxr, fxl, fxl0, ↓swi_n, ↓swi_c, nck0, nck1, nck2, nck3, List.length_cons, List.length_nil, Nat.reduceAdd, Nat.reduceSub, Nat.reduceLeDiff, Nat.reduceEqDiff, Nat.reduceLT, reduceIte, ite_true, ite_false, Nat.sub_zero, Nat.zero_le, true_and, and_true, and_self, true_or, or_true, if_true, if_false, true_implies, implies_true, not_true_eq_false, not_false_eq_true, false_implies, forall_const, ne_eq, or_self, and_false, false_and, Lt, Le, Eq', Cp, In, nI_add, nI_mul, nI_sub, nI_sub1, Neg0, bI_eq0, bI_eq1, bI_01, bft, up2_eq, up2_no, Bool.true_eq_false, Bool.false_eq_true, eq_self, m1_ne, m1_ne2, m1_lt, m1_le, lt_m1, m1_le2, bI_t, bI_f, LM_all hF, FMu hF, hx2, t3, hz, n127, hd0])
        exact h2
      clear hD
      (apply WP_runI (lv := lvK) (F := LK) LK_ok 999 60; simp (disch := first | decide | omega) only [t74_0, lift_c, o_iload1, o_iflt, o_inl, o_icle, o_ireturn, o_aload0, o_getref, o_getfield, o_icne, o_iastore, o_dupi, o_dupr, o_iadd, o_putfield, z0, z1, z2, z4, z20, z31, z100, z127, runI_0, runI_c, runI_n, liftI_n, liftI_y, run_0, run_c, run_n, fxn, fxi, fxr, fxl, fxl0, ↓swi_n, ↓swi_c, nck0, nck1, nck2, nck3, List.length_cons, List.length_nil, Nat.reduceAdd, Nat.reduceSub, Nat.reduceLeDiff, Nat.reduceEqDiff, Nat.reduceLT, reduceIte, ite_true, ite_false, Nat.sub_zero, Nat.zero_le, true_and, and_true, and_self, true_or, or_true, if_true, if_false, true_implies, implies_true, not_true_eq_false, not_false_eq_true, false_implies, forall_const, ne_eq, or_self, and_false, false_and, Lt, Le, Eq', Cp, In, nI_add, nI_mul, nI_sub, nI_sub1, Neg0, bI_eq0, bI_eq1, bI_01, bft, up2_eq, up2_no, Bool.true_eq_false, Bool.false_eq_true, eq_self, m1_ne, m1_ne2, m1_lt, m1_le, lt_m1, m1_le2, bI_t, bI_f, LK_st, FGu hG, LK_g hG h22 hs2, h1, h3, t2, hz, n103, hd0])
      exact good
end
