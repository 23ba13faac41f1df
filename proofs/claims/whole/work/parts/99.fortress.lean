/-! ### pairs: fortress -/
def fbS (a j : Nat) : Prop := (a = 123 ∧ (j = 5 ∨ 10 ≤ j ∧ j ≤ 15)) ∨ a = 130
def fgS (r a j : Nat) : Prop := fbS a j ∨ (a = 123 ∧ j = 8) ∨ (a = 128 ∧ 100 * r ≤ j ∧ j < 100 * r + 100) ∨ (a = 129 ∧ j = r) ∨ (a = 124 ∧ j = 83)
section
variable {G : GE} {d : Nat}
theorem fortress_R {n : Nat} {sh : TS} {I : TI} {L : TL} {P : TP} {Q : TQ} {r z : Nat} {t : TN} (hF : FM sh P) (hTB : TB I) (hr : r < 6) (e8 : I 123 8 = nI r) (hz : z ≤ 100) (e5 : I 123 5 = nI z) (ht : ∀ j, j < z → I 127 j = t j) (hd : 34 ≤ d)
    (hQ0 : okS t z = false → ∀ I', Eo fbS I I' → I' 123 5 = nI 0 → Q (some (.int (-nI 10 - nI (reaS t z).1.1))) n sh I' L P)
    (hQ1 : okS t z = true → ∀ I', Eo (fgS r) I I' → I' 123 5 = nI 0 → I' 123 8 = nI (r + 1) → I' 129 r = nI z → (∀ j, j < z → I' 128 (100 * r + j) = t j) → I' 124 83 = nI (r + 1) → Q (some (.int (nI r))) n sh I' L P) : Cl G d 152 [.ref 123] n sh I L P Q := by
  apply e152
  have hd0 : 0 < d := by omega
  have n123 : nle 20 123 := by show 20 ≤ 123; decide
  have n124 : nle 20 124 := by show 20 ≤ 124; decide
  have n128 : nle 20 128 := by show 20 ≤ 128; decide
  have n129 : nle 20 129 := by show 20 ≤ 129; decide
  have n130 : nle 20 130 := by show 20 ≤ 130; decide
  have hr6 : ¬ r = 6 := by omega
  -- the rule is kept
  have keepL : ∀ l j I' cc ss, j + l = z → okS t z = true → Eo (fgS r) I I' → I' 123 5 = nI 0 → I' 123 8 = nI r → I' 123 10 = nI z → (∀ x, x < z → I' 130 x = t x) → (∀ x, x < j → I' 128 (100 * r + x) = t x) → WP G 152 d Q 70 [some (.ref 123), some (.int (nI j))] [] cc ss n sh I' L P := by
    intro l
    induction l with
    | zero =>
      intro j I' cc ss h hok he g5 g8 g10 g130 g128
      have hj : z ≤ j := by omega
      have hjz : j = z := by omega
      have hQ1 := hQ1 hok (up2 (up2 (up2 I' 129 r (nI z)) 123 8 (nI (r + 1))) 124 83 (nI (r + 1))) (((he.up (by unfold fgS; omega) _).up (by unfold fgS; omega) _).up (by unfold fgS; omega) _) (by simp (disch := omega) only [up2_no]; exact g5) (by simp (disch := omega) only [up2_no, up2_eq]) (by simp (disch := omega) only [up2_no, up2_eq]) (fun x hx => by rw [up2_no _ _ _ _ _ _ (by omega), up2_no _ _ _ _ _ _ (by omega), up2_no _ _ _ _ _ _ (by omega)]; exact g128 x (by omega)) (up2_eq _ _ _ _)
      (apply WP_runI (lv := lvM) LM_ok 999 60; simp (disch := first | decide | omega) only [t152_0, t152_1, t152_2, lift_c, o_aload0, o_getfield, o_inl, o_icne, o_ireturn, o_putfield, o_istore, s1_0, s1_s, o_iload1, o_icge, o_getref, o_iaload, o_iastore, o_iinc1, o_goto, o_virt1, rpush_n, rpush_s, o_ifne, o_isub, o_imul, o_iadd, o_dupi, o_dupr, z0, z1, z2, z4, z6, z10, z20, z31, z83, z100, runI_0, runI_c, runI_n, liftI_n, liftI_y, run_0, run_c, run_n, fxn, fxi, fxr, fxl, fxl0, ↓swi_n, ↓swi_c, nck0, nck1, nck2, nck3, List.length_cons, List.length_nil, Nat.reduceAdd, Nat.reduceSub, Nat.reduceLeDiff, Nat.reduceEqDiff, Nat.reduceLT, reduceIte, ite_true, ite_false, Nat.sub_zero, Nat.zero_le, true_and, and_true, and_self, true_or, or_true, if_true, if_false, true_implies, implies_true, not_true_eq_false, not_false_eq_true, false_implies, forall_const, ne_eq, or_self, and_false, false_and, Lt, Le, Eq', Cp, In, nI_add, nI_mul, nI_sub, nI_sub1, Neg0, bI_eq0, bI_eq1, bI_01, bft, up2_eq, up2_no, Bool.true_eq_false, Bool.false_eq_true, eq_self, m1_ne, m1_ne2, m1_lt, m1_le, lt_m1, m1_le2, bI_t, bI_f, LM_all hF, FMu hF, g10, g8, hj, n123, n124, n129, hd0, Nat.add_sub_cancel])
      exact hQ1
    | succ l ih =>
      intro j I' cc ss h hok he g5 g8 g10 g130 g128
      have hj : ¬ z ≤ j := by omega
      have gj := g130 j (by omega)
      have ih := fun cc ss => ih (j + 1) (up2 I' 128 (100 * r + j) (t j)) cc ss (by omega) hok (he.up (by unfold fgS; omega) _) (by rw [up2_no _ _ _ _ _ _ (by omega)]; exact g5) (by rw [up2_no _ _ _ _ _ _ (by omega)]; exact g8) (by rw [up2_no _ _ _ _ _ _ (by omega)]; exact g10) (fun x hx => by rw [up2_no _ _ _ _ _ _ (by omega)]; exact g130 x hx) (fun x hx => by
        by_cases e : x = j
        · rw [e, up2_eq]
        · rw [up2_no _ _ _ _ _ _ (by omega)]
          exact g128 x (by omega))
      generalize t j = w at gj ih
      (apply WP_runI (lv := lvM) LM_ok 70 25; simp (disch := first | decide | omega) only [t152_0, t152_1, t152_2, lift_c, o_aload0, o_getfield, o_inl, o_icne, o_ireturn, o_putfield, o_istore, s1_0, s1_s, o_iload1, o_icge, o_getref, o_iaload, o_iastore, o_iinc1, o_goto, o_virt1, rpush_n, rpush_s, o_ifne, o_isub, o_imul, o_iadd, o_dupi, o_dupr, z0, z1, z2, z4, z6, z10, z20, z31, z83, z100, runI_0, runI_c, runI_n, liftI_n, liftI_y, run_0, run_c, run_n, fxn, fxi, fxr, fxl, fxl0, ↓swi_n, ↓swi_c, nck0, nck1, nck2, nck3, List.length_cons, List.length_nil, Nat.reduceAdd, Nat.reduceSub, Nat.reduceLeDiff, Nat.reduceEqDiff, Nat.reduceLT, reduceIte, ite_true, ite_false, Nat.sub_zero, Nat.zero_le, true_and, and_true, and_self, true_or, or_true, if_true, if_false, true_implies, implies_true, not_true_eq_false, not_false_eq_true, false_implies, forall_const, ne_eq, or_self, and_false, false_and, Lt, Le, Eq', Cp, In, nI_add, nI_mul, nI_sub, nI_sub1, Neg0, bI_eq0, bI_eq1, bI_01, bft, up2_eq, up2_no, Bool.true_eq_false, Bool.false_eq_true, eq_self, m1_ne, m1_ne2, m1_lt, m1_le, lt_m1, m1_le2, bI_t, bI_f, LM_all hF, FMu hF, g10, g8, gj, hj, n128])
      exact ih _ _
  have readL : ∀ l j I' cc ss, j + l = z → Eo fbS I I' → I' 123 10 = nI z → (∀ x, x < j → I' 130 x = t x) → WP G 152 d Q 22 [some (.ref 123), some (.int (nI j))] [] cc ss n sh I' L P := by
    intro l
    induction l with
    | zero =>
      intro j I' cc ss h he g10 g130
      have hj : z ≤ j := by omega
      (apply WP_runI (lv := lvM) LM_ok 999 12; simp (disch := first | decide | omega) only [t152_0, t152_1, t152_2, lift_c, o_aload0, o_getfield, o_inl, o_icne, o_ireturn, o_putfield, o_istore, s1_0, s1_s, o_iload1, o_icge, o_getref, o_iaload, o_iastore, o_iinc1, o_goto, o_virt1, rpush_n, rpush_s, o_ifne, o_isub, o_imul, o_iadd, o_dupi, o_dupr, z0, z1, z2, z4, z6, z10, z20, z31, z83, z100, runI_0, runI_c, runI_n, liftI_n, liftI_y, run_0, run_c, run_n, fxn, fxi, fxr, fxl, fxl0, ↓swi_n, ↓swi_c, nck0, nck1, nck2, nck3, List.length_cons, List.length_nil, Nat.reduceAdd, Nat.reduceSub, Nat.reduceLeDiff, Nat.reduceEqDiff, Nat.reduceLT, reduceIte, ite_true, ite_false, Nat.sub_zero, Nat.zero_le, true_and, and_true, and_self, true_or, or_true, if_true, if_false, true_implies, implies_true, not_true_eq_false, not_false_eq_true, false_implies, forall_const, ne_eq, or_self, and_false, false_and, Lt, Le, Eq', Cp, In, nI_add, nI_mul, nI_sub, nI_sub1, Neg0, bI_eq0, bI_eq1, bI_01, bft, up2_eq, up2_no, Bool.true_eq_false, Bool.false_eq_true, eq_self, m1_ne, m1_ne2, m1_lt, m1_le, lt_m1, m1_le2, bI_t, bI_f, LM_all hF, FMu hF, g10, hj, n123, hd0])
      have he1 : Eo fbS I (up2 I' 123 5 (nI 0)) := he.up (by unfold fbS; omega) _
      have g5 : (up2 I' 123 5 (nI 0)) 123 5 = nI 0 := up2_eq _ _ _ _
      have g10' : (up2 I' 123 5 (nI 0)) 123 10 = nI z := (up2_no _ _ _ _ _ _ (by omega)).trans g10
      have g130' : ∀ x, x < z → (up2 I' 123 5 (nI 0)) 130 x = t x := fun x hx => (up2_no _ _ _ _ _ _ (by omega)).trans (g130 x (by omega))
      have hTB1 : TB (up2 I' 123 5 (nI 0)) := hTB.eo he1 fun a j q => by unfold fbS at q; omega
      generalize up2 I' 123 5 (nI 0) = I1 at he1 g5 g10' g130' hTB1 ⊢
      refine readAll_M (t := t) (nm := I1 131) hF (by omega) hz g130' g10' hTB1 (fun _ _ => rfl) fun I2 he2 hR => ?_
      have hPA := hR.1.1
      have ha := hPA.a
      have E2 : Eo fbS I I2 := he1.tr (he2.mono fun a j q => by have := q.1; have := q.2; unfold fbS; omega)
      have f5 : I2 123 5 = nI 0 := (he2 123 5 fun q => by have := q.2.1; omega).trans g5
      have f8 : I2 123 8 = nI r := (E2 123 8 fun q => by unfold fbS at q; omega).trans e8
      have f10 : I2 123 10 = nI z := (he2 123 10 fun q => by have := q.2.1; omega).trans g10'
      have f130 : ∀ x, x < z → I2 130 x = t x := fun x hx => (he2 130 x fun q => by have := q.1; omega).trans (g130' x hx)
      cases hok : okS t z with
      | false =>
        have hQ0 := hQ0 hok I2 E2 f5
        clear hR hPA keepL
        generalize (reaS t z).1.1 = w at ha hQ0
        (apply WP_runI (lv := lvM) LM_ok 999 12; simp (disch := first | decide | omega) only [t152_0, t152_1, t152_2, lift_c, o_aload0, o_getfield, o_inl, o_icne, o_ireturn, o_putfield, o_istore, s1_0, s1_s, o_iload1, o_icge, o_getref, o_iaload, o_iastore, o_iinc1, o_goto, o_virt1, rpush_n, rpush_s, o_ifne, o_isub, o_imul, o_iadd, o_dupi, o_dupr, z0, z1, z2, z4, z6, z10, z20, z31, z83, z100, runI_0, runI_c, runI_n, liftI_n, liftI_y, run_0, run_c, run_n, fxn, fxi, fxr, fxl, fxl0, ↓swi_n, ↓swi_c, nck0, nck1, nck2, nck3, List.length_cons, List.length_nil, Nat.reduceAdd, Nat.reduceSub, Nat.reduceLeDiff, Nat.reduceEqDiff, Nat.reduceLT, reduceIte, ite_true, ite_false, Nat.sub_zero, Nat.zero_le, true_and, and_true, and_self, true_or, or_true, if_true, if_false, true_implies, implies_true, not_true_eq_false, not_false_eq_true, false_implies, forall_const, ne_eq, or_self, and_false, false_and, Lt, Le, Eq', Cp, In, nI_add, nI_mul, nI_sub, nI_sub1, Neg0, bI_eq0, bI_eq1, bI_01, bft, up2_eq, up2_no, Bool.true_eq_false, Bool.false_eq_true, eq_self, m1_ne, m1_ne2, m1_lt, m1_le, lt_m1, m1_le2, bI_t, bI_f, LM_all hF, FMu hF, ha, hd0])
        exact hQ0
      | true =>
        have hL := fun cc ss => keepL z 0 I2 cc ss (by omega) hok (E2.mono fun _ _ => Or.inl) f5 f8 f10 f130 (fun x hx => by omega)
        clear hR hPA keepL hQ0 hQ1 ha
        (apply WP_runI (lv := lvM) LM_ok 70 8; simp (disch := first | decide | omega) only [t152_0, t152_1, t152_2, lift_c, o_aload0, o_getfield, o_inl, o_icne, o_ireturn, o_putfield, o_istore, s1_0, s1_s, o_iload1, o_icge, o_getref, o_iaload, o_iastore, o_iinc1, o_goto, o_virt1, rpush_n, rpush_s, o_ifne, o_isub, o_imul, o_iadd, o_dupi, o_dupr, z0, z1, z2, z4, z6, z10, z20, z31, z83, z100, runI_0, runI_c, runI_n, liftI_n, liftI_y, run_0, run_c, run_n, fxn, fxi, fxr, fxl, fxl0, ↓swi_n, ↓swi_c, nck0, nck1, nck2, nck3, List.length_cons, List.length_nil, Nat.reduceAdd, Nat.reduceSub, Nat.reduceLeDiff, Nat.reduceEqDiff, Nat.reduceLT, reduceIte, ite_true, ite_false, Nat.sub_zero, Nat.zero_le, true_and, and_true, and_self, true_or, or_true, if_true, if_false, true_implies, implies_true, not_true_eq_false, not_false_eq_true, false_implies, forall_const, ne_eq, or_self, and_false, false_and, Lt, Le, Eq', Cp, In, nI_add, nI_mul, nI_sub, nI_sub1, Neg0, bI_eq0, bI_eq1, bI_01, bft, up2_eq, up2_no, Bool.true_eq_false, Bool.false_eq_true, eq_self, m1_ne, m1_ne2, m1_lt, m1_le, lt_m1, m1_le2, bI_t, bI_f, LM_all hF, FMu hF, hd0])
        exact hL _ _
    | succ l ih =>
      intro j I' cc ss h he g10 g130
      have hj : ¬ z ≤ j := by omega
      have gj : I' 127 j = t j := (he 127 j fun q => by unfold fbS at q; omega).trans (ht j (by omega))
      have ih := fun cc ss => ih (j + 1) (up2 I' 130 j (t j)) cc ss (by omega) (he.up (by unfold fbS; omega) _) (by rw [up2_no _ _ _ _ _ _ (by omega)]; exact g10) (fun x hx => by
        by_cases e : x = j
        · rw [e, up2_eq]
        · rw [up2_no _ _ _ _ _ _ (by omega)]
          exact g130 x (by omega))
      generalize t j = w at gj ih
      (apply WP_runI (lv := lvM) LM_ok 22 20; simp (disch := first | decide | omega) only [t152_0, t152_1, t152_2, lift_c, o_aload0, o_getfield, o_inl, o_icne, o_ireturn, o_putfield, o_istore, s1_0, s1_s, o_iload1, o_icge, o_getref, o_iaload, o_iastore, o_iinc1, o_goto, o_virt1, rpush_n, rpush_s, o_ifne, o_isub, o_imul, o_iadd, o_dupi, o_dupr, z0, z1, z2, z4, z6, z10, z20, z31, z83, z100, runI_0, runI_c, runI_n, liftI_n, liftI_y, run_0, run_c, run_n, fxn, fxi, fxr, fxl, fxl0, ↓swi_n, ↓swi_c, nck0, nck1, nck2, nck3, List.length_cons, List.length_nil, Nat.reduceAdd, Nat.reduceSub, Nat.reduceLeDiff, Nat.reduceEqDiff, Nat.reduceLT, reduceIte, ite_true, ite_false, Nat.sub_zero, Nat.zero_le, true_and, and_true, and_self, true_or, or_true, if_true, if_false, true_implies, implies_true, not_true_eq_false, not_false_eq_true, false_implies, forall_const, ne_eq, or_self, and_false, false_and, Lt, Le, Eq', Cp, In, nI_add, nI_mul, nI_sub, nI_sub1, Neg0, bI_eq0, bI_eq1, bI_01, bft, up2_eq, up2_no, Bool.true_eq_false, Bool.false_eq_true, eq_self, m1_ne, m1_ne2, m1_lt, m1_le, lt_m1, m1_le2, bI_t, bI_f, LM_all hF, FMu hF, g10, gj, hj, n130])
      exact ih _ _
  have hL := fun cc ss => readL z 0 (up2 I 123 10 (nI z)) cc ss (by omega) (Eo.rf.up (by unfold fbS; omega) _) (up2_eq _ _ _ _) (fun x hx => by omega)
  clear readL keepL hQ0 hQ1
  (apply WP_runI (lv := lvM) LM_ok 22 16; simp (disch := first | decide | omega) only [t152_0, t152_1, t152_2, lift_c, o_aload0, o_getfield, o_inl, o_icne, o_ireturn, o_putfield, o_istore, s1_0, s1_s, o_iload1, o_icge, o_getref, o_iaload, o_iastore, o_iinc1, o_goto, o_virt1, rpush_n, rpush_s, o_ifne, o_isub, o_imul, o_iadd, o_dupi, o_dupr, z0, z1, z2, z4, z6, z10, z20, z31, z83, z100, runI_0, runI_c, runI_n, liftI_n, liftI_y, run_0, run_c, run_n, fxn, fxi, fxr, fxl, fxl0, ↓swi_n, ↓swi_c, nck0, nck1, nck2, nck3, List.length_cons, List.length_nil, Nat.reduceAdd, Nat.reduceSub, Nat.reduceLeDiff, Nat.reduceEqDiff, Nat.reduceLT, reduceIte, ite_true, ite_false, Nat.sub_zero, Nat.zero_le, true_and, and_true, and_self, true_or, or_true, if_true, if_false, true_implies, implies_true, not_true_eq_false, not_false_eq_true, false_implies, forall_const, ne_eq, or_self, and_false, false_and, Lt, Le, Eq', Cp, In, nI_add, nI_mul, nI_sub, nI_sub1, Neg0, bI_eq0, bI_eq1, bI_01, bft, up2_eq, up2_no, Bool.true_eq_false, Bool.false_eq_true, eq_self, m1_ne, m1_ne2, m1_lt, m1_le, lt_m1, m1_le2, bI_t, bI_f, LM_all hF, FMu hF, e8, e5, hr6, n123, hd0])
  exact hL _ _
theorem fs_in1 {q r n a j : Nat} (x : rdC q a j ∨ (a = 102 ∧ j = 1) ∨ (a = 20 ∧ j = 5) ∨ n ≤ a) : fsS q r n a j := by
  rcases x with ((x | x) | x) | x | x | x
  · exact Or.inl (Or.inl x.1)
  · exact Or.inl (Or.inr (Or.inl (by unfold rdF at x; omega)))
  · exact Or.inl (Or.inr (Or.inl (by omega)))
  · exact Or.inl (Or.inl x.1)
  · exact Or.inr (Or.inl x)
  · exact Or.inr (Or.inr (Or.inr (Or.inr (Or.inr (Or.inr x)))))
theorem fs_in2 {q r n a j : Nat} (x : fgS r a j) : fsS q r n a j := by
  rcases x with (x | x) | x | x | x | x
  · exact Or.inl (Or.inr (Or.inr (Or.inl x)))
  · exact Or.inl (Or.inr (Or.inr (Or.inr x)))
  · exact Or.inr (Or.inr (Or.inl x))
  · exact Or.inr (Or.inr (Or.inr (Or.inl x)))
  · exact Or.inr (Or.inr (Or.inr (Or.inr (Or.inl x))))
  · exact Or.inr (Or.inr (Or.inr (Or.inr (Or.inr (Or.inl x)))))
theorem fortS_R {n : Nat} {sh sh1 : TS} {I I1 I2 : TI} {L L1 : TL} {P P1 : TP} {F : TF} {E : Nat → Int32} {k g r q z : Nat} (hI : IW n sh I L P F E k g r) (hr5 : r < 6) (hqq : P 102 4 = q) (t1 : z ≤ 100) (t3 : I 123 5 = nI z) (hok : okS (I 127) z = true) (e1 : Eo (rdC q) I I1) (s1 : SA I1 q (reaS (I 127) z).2.1) (e01 : I1 q 0 = (reaS (I 127) z).2.2) (hN : NF n sh I1 L P sh1 I2 L1 P1) (hd : 50 ≤ d) {Q2 : TQ}
    (h2 : ∀ n2 sh2 I2 L2 P2, IV n2 sh2 I2 L2 P2 → Q2 (some (.int (nI r))) n2 sh2 I2 L2 P2) : Cl G d 152 [.ref 123] (n + 4) sh1 (up2 (up2 I2 102 1 (nI 0)) 20 5 (nI (r + 1))) L1 (up2 P1 22 7 q) Q2 := by
  obtain ⟨w1, w2, w3, w4, w5, w6, w7, w8, w9, w10, w11, w12⟩ := hN
  have hF := hI.1
  obtain ⟨c5, c8⟩ := hI.2.2.2.2.2.2.2.1
  have hz13 := hI.2.2.2.2.2.2.2.2.2.2.2.2
  have y1 : q = 104 ∨ 143 ≤ q := by rw [← hqq]; exact hz13.1
  have y2 : q + 4 ≤ n := by rw [← hqq]; exact hz13.2.1
  have y3 : 143 ≤ n := hz13.2.2.1
  clear hz13
  have hTB := hI.2.2.1.2.1.1
  have E0 : Eo (fun a j => rdC q a j ∨ (a = 102 ∧ j = 1) ∨ (a = 20 ∧ j = 5) ∨ n ≤ a) I (up2 (up2 I2 102 1 (nI 0)) 20 5 (nI (r + 1))) := fun a j x => by
    rw [up2_no _ _ _ _ _ _ (by omega), up2_no _ _ _ _ _ _ (by omega), w2 a j (by omega)]
    exact e1 a j fun y => x (Or.inl y)
  have c0 : (up2 (up2 I2 102 1 (nI 0)) 20 5 (nI (r + 1))) 102 1 = nI 0 := by rw [up2_no _ _ _ _ _ _ (by omega), up2_eq]
  have c2 : (up2 (up2 I2 102 1 (nI 0)) 20 5 (nI (r + 1))) 20 5 = nI (r + 1) := up2_eq _ _ _ _
  have cq : ∀ a j, q ≤ a → a ≤ q + 3 → (up2 (up2 I2 102 1 (nI 0)) 20 5 (nI (r + 1))) a j = I1 a j := fun a j x1 x2 => by
    rw [up2_no _ _ _ _ _ _ (by omega), up2_no _ _ _ _ _ _ (by omega)]
    exact w2 a j (by omega)
  have hF2 : FM sh1 (up2 P1 22 7 q) := hF.fr (fun a ha => w1 a (by omega)) (fun j => (up2_no _ _ _ _ _ _ (by omega)).trans (w4 123 j (by omega) (by omega)))
  generalize up2 (up2 I2 102 1 (nI 0)) 20 5 (nI (r + 1)) = I4 at E0 c0 c2 cq h2 ⊢
  have qq : ∀ a j, ¬ (rdC q a j ∨ (a = 102 ∧ j = 1) ∨ (a = 20 ∧ j = 5) ∨ n ≤ a) → I4 a j = I a j := E0
  refine fortress_R (t := I 127) (z := z) hF2 (hTB.eo E0 fun a j x => by unfold rdC rdT rdN rdF at x; omega) hr5 ((qq _ _ (by unfold rdC rdT rdN rdF; omega)).trans c8) t1 ((qq _ _ (by unfold rdC rdT rdN rdF; omega)).trans t3) (fun j hj => qq _ _ (by unfold rdC rdT rdN rdF; omega)) (by omega) (fun h => by rw [hok] at h; cases h) fun _ I5 e5 f5 f8 f129 f128 f83 => ?_
  have qc : ∀ a j, ¬ fgS r a j → I5 a j = I4 a j := e5
  refine h2 _ _ _ _ _ ⟨_, _, k, g, r + 1, hI.fortS (z := z) (t := I 127) hr5 t1 hok w1 (by
    rw [hqq]
    exact (E0.mono fun a j => fs_in1).tr (e5.mono fun a j => fs_in2)) (fun a j x => w3 a j (Nat.lt_of_not_le x)) (fun a j x1 x2 x3 => (up2_no _ _ _ _ _ _ x3).trans (w4 a j x1 x2)) ((up2_no _ _ _ _ _ _ (by omega)).trans w5) (by rw [hqq]; exact up2_eq _ _ _ _) w6 ((up2_no _ _ _ _ _ _ (by omega)).trans w7) ((up2_no _ _ _ _ _ _ (by omega)).trans w8) ((up2_no _ _ _ _ _ _ (by omega)).trans w9) w10 w11 w12 ((qc _ _ (by unfold fgS fbS; omega)).trans c0) f5 ((qc _ _ (by unfold fgS fbS; omega)).trans c2) f8 f129 f128 f83 ?_ ?_⟩
  · rw [hqq]
    obtain ⟨b1, b2, b3⟩ := s1
    refine ⟨b1, ?_, fun j x hx => ?_⟩
    · rw [qc _ _ (by unfold fgS fbS; omega), cq _ _ (by omega) (by omega)]
      exact b2
    · rw [qc _ _ (by unfold fgS fbS; omega), cq _ _ (by omega) (by omega), qc _ _ (by unfold fgS fbS; omega), cq _ _ (by omega) (by omega), qc _ _ (by unfold fgS fbS; omega), cq _ _ (by omega) (by omega)]
      exact b3 j x hx
  · rw [hqq, qc _ _ (by unfold fgS fbS; omega), cq _ _ (by omega) (by omega)]
    exact e01
theorem fortress_P (hd : 50 ≤ d) : PAIR G d 75 152 [.ref 20] [.ref 123] := by
  intro n sh I L P Q hI hQ
  obtain ⟨F, E, k, g, r, hI⟩ := hI
  apply e75
  apply WP_SF
  intro hSF
  have hs2 := hSF.2.2.1
  have hB := hI.cb
  have hG := hB.fg
  have hY22 := hB.y22
  have hY84 := hB.y84
  have h22 : sh 22 = (8, 9) := (FY22u hY22).1
  have hd0 : 0 < d := by omega
  have hk := hI.2.2.1.1.k6
  have hg9 := hI.2.2.1.1.g9
  have hF := hI.1
  have hr6 := hI.2.2.1.1.r6
  obtain ⟨c5, c8⟩ := hI.2.2.2.2.2.2.2.1
  obtain ⟨z, t1, t2, t3, t4⟩ := hI.2.2.2.2.2.2.2.2.1
  by_cases hr : r = 6
  · have full := hQ (-nI 4) n sh I L P fun Q2 h2 => by
      refine ⟨(FMu hI.1).1, ?_⟩
      have h2 := h2 _ _ _ _ _ ⟨F, E, k, g, r, hI⟩
      apply e152
      (apply WP_runI (lv := lvM) LM_ok 999 8; simp (disch := first | decide | omega) only [t152_0, t152_1, t152_2, lift_c, o_aload0, o_getfield, o_inl, o_icne, o_ireturn, o_putfield, o_istore, s1_0, s1_s, o_iload1, o_icge, o_getref, o_iaload, o_iastore, o_iinc1, o_goto, o_virt1, rpush_n, rpush_s, o_ifne, o_isub, o_imul, o_iadd, o_dupi, o_dupr, z0, z1, z2, z4, z6, z10, z20, z31, z83, z100, runI_0, runI_c, runI_n, liftI_n, liftI_y, run_0, run_c, run_n, fxn, fxi, fxr, fxl, fxl0, ↓swi_n, ↓swi_c, nck0, nck1, nck2, nck3, List.length_cons, List.length_nil, Nat.reduceAdd, Nat.reduceSub, Nat.reduceLeDiff, Nat.reduceEqDiff, Nat.reduceLT, reduceIte, ite_true, ite_false, Nat.sub_zero, Nat.zero_le, true_and, and_true, and_self, true_or, or_true, if_true, if_false, true_implies, implies_true, not_true_eq_false, not_false_eq_true, false_implies, forall_const, ne_eq, or_self, and_false, false_and, Lt, Le, Eq', Cp, In, nI_add, nI_mul, nI_sub, nI_sub1, Neg0, bI_eq0, bI_eq1, bI_01, bft, up2_eq, up2_no, Bool.true_eq_false, Bool.false_eq_true, eq_self, m1_ne, m1_ne2, m1_lt, m1_le, lt_m1, m1_le2, bI_t, bI_f, LM_all hF, FMu hF, c8, hr, hd0])
      exact h2
    (apply WP_runI (lv := lvK) (F := LK) LK_ok 999 8; simp (disch := first | decide | omega) only [t75_0, lift_c, o_aload0, o_getfield, o_inl, o_icne, o_ireturn, o_getref, o_virt1, rpush_n, rpush_s, o_astore, s1_0, s1_s, o_putfield, o_aload1, o_ifnonnull, o_isub, o_putref, o_dupi, o_dupr, o_iadd, z0, z1, z2, z4, z6, z10, z20, z31, runI_0, runI_c, runI_n, liftI_n, liftI_y, run_0, run_c, run_n, fxn, fxi, fxr, fxl, fxl0, ↓swi_n, ↓swi_c, nck0, nck1, nck2, nck3, List.length_cons, List.length_nil, Nat.reduceAdd, Nat.reduceSub, Nat.reduceLeDiff, Nat.reduceEqDiff, Nat.reduceLT, reduceIte, ite_true, ite_false, Nat.sub_zero, Nat.zero_le, true_and, and_true, and_self, true_or, or_true, if_true, if_false, true_implies, implies_true, not_true_eq_false, not_false_eq_true, false_implies, forall_const, ne_eq, or_self, and_false, false_and, Lt, Le, Eq', Cp, In, nI_add, nI_mul, nI_sub, nI_sub1, Neg0, bI_eq0, bI_eq1, bI_01, bft, up2_eq, up2_no, Bool.true_eq_false, Bool.false_eq_true, eq_self, m1_ne, m1_ne2, m1_lt, m1_le, lt_m1, m1_le2, bI_t, bI_f, LK_st, FGu hG, LK_g hG h22 hs2, c5, hr, hd0])
    exact full
  · have hr5 : r < 6 := by omega
    have hz13 := hI.2.2.2.2.2.2.2.2.2.2.2.2
    obtain ⟨y1, y2, y3, y4, y5, y6, y7, y8, y9, y10, y11, y12, y13, y14⟩ := hz13
    have hqf : QF sh P (P 102 4) := ⟨rfl, y1, y4, y5, y6, y7, y8, y9, y10⟩
    have n20 : nle 20 20 := by show 20 ≤ 20; decide
    have n22 : nle 20 22 := by show 20 ≤ 22; decide
    have n102 : nle 20 102 := by show 20 ≤ 102; decide
    have hTX : TX (I 127) z := fun j hj => (t4 j hj).2
    have hTB := hI.2.2.1.2.1.1
    have n01 : ¬ neq 0 1 := by show ¬ 0 = 1; omega
    have n00 : neq 0 0 := rfl
    (apply WP_runI (lv := lvK) (F := LK) LK_ok 999 8; simp (disch := first | decide | omega) only [t75_0, lift_c, o_aload0, o_getfield, o_inl, o_icne, o_ireturn, o_getref, o_virt1, rpush_n, rpush_s, o_astore, s1_0, s1_s, o_putfield, o_aload1, o_ifnonnull, o_isub, o_putref, o_dupi, o_dupr, o_iadd, z0, z1, z2, z4, z6, z10, z20, z31, runI_0, runI_c, runI_n, liftI_n, liftI_y, run_0, run_c, run_n, fxn, fxi, fxr, fxl, fxl0, ↓swi_n, ↓swi_c, nck0, nck1, nck2, nck3, List.length_cons, List.length_nil, Nat.reduceAdd, Nat.reduceSub, Nat.reduceLeDiff, Nat.reduceEqDiff, Nat.reduceLT, reduceIte, ite_true, ite_false, Nat.sub_zero, Nat.zero_le, true_and, and_true, and_self, true_or, or_true, if_true, if_false, true_implies, implies_true, not_true_eq_false, not_false_eq_true, false_implies, forall_const, ne_eq, or_self, and_false, false_and, Lt, Le, Eq', Cp, In, nI_add, nI_mul, nI_sub, nI_sub1, Neg0, bI_eq0, bI_eq1, bI_01, bft, up2_eq, up2_no, Bool.true_eq_false, Bool.false_eq_true, eq_self, m1_ne, m1_ne2, m1_lt, m1_le, lt_m1, m1_le2, bI_t, bI_f, LK_st, FGu hG, LK_g hG h22 hs2, c5, hr, hd0])
    refine fortressTold_K (t := I 127) (z := z) hG hqf hTX y3 t1 t2 (fun j hj => (t4 j hj).1) (by omega) (fun hok I1 e1 a1 => ?_) fun hok I1 e1 s1 e01 sh1 I2 L1 P1 hN => ?_
    · have E1 : Eo (ffS (P 102 4)) I (up2 I1 102 1 (nI 0)) := (e1.mono fun a j q => by unfold rdC rdT rdN rdF at q; unfold ffS; omega).up (by unfold ffS; omega) _
      have c0 : (up2 I1 102 1 (nI 0)) 102 1 = nI 0 := up2_eq _ _ _ _
      have a2 : (up2 I1 102 1 (nI 0)) 102 2 = nI (reaS (I 127) z).1.1 := (up2_no _ _ _ _ _ _ (by omega)).trans a1
      have g5 : (up2 I1 102 1 (nI 0)) 123 5 = I 123 5 := (up2_no _ _ _ _ _ _ (by omega)).trans (e1 123 5 fun x => by unfold rdC rdT rdN rdF at x; omega)
      have good := hQ (-nI 10 - nI (reaS (I 127) z).1.1) n sh (up2 I1 102 1 (nI 0)) L P fun Q2 h2 => by
        refine ⟨(FMu hI.1).1, ?_⟩
        generalize up2 I1 102 1 (nI 0) = I2 at E1 c0 g5 h2 ⊢
        have q : ∀ a j, ¬ ffS (P 102 4) a j → I2 a j = I a j := E1
        refine fortress_R (t := I 127) (z := z) hF (hTB.eo E1 fun a j q => by unfold ffS at q; omega) hr5 ((q _ _ (by unfold ffS; omega)).trans c8) t1 ?_ (fun j hj => q _ _ (by unfold ffS; omega)) (by omega) (fun _ I3 e3 f5 => ?_) (fun h => by rw [hok] at h; cases h)
        · exact g5.trans t3
        · exact h2 _ _ _ _ _ ⟨F, E, k, g, r, hI.fortF (E1.tr (e3.mono fun a j q => by unfold fbS at q; unfold ffS; omega)) ((e3 _ _ fun q => by unfold fbS at q; omega).trans c0) f5⟩
      generalize (reaS (I 127) z).1.1 = w at a2 good
      (apply WP_runI (lv := lvK) (F := LK) LK_ok 28 6; simp (disch := first | decide | omega) only [t75_0, lift_c, o_aload0, o_getfield, o_inl, o_icne, o_ireturn, o_getref, o_virt1, rpush_n, rpush_s, o_astore, s1_0, s1_s, o_putfield, o_aload1, o_ifnonnull, o_isub, o_putref, o_dupi, o_dupr, o_iadd, z0, z1, z2, z4, z6, z10, z20, z31, runI_0, runI_c, runI_n, liftI_n, liftI_y, run_0, run_c, run_n, fxn, fxi, fxr, fxl, fxl0, ↓swi_n, ↓swi_c, nck0, nck1, nck2, nck3, List.length_cons, List.length_nil, Nat.reduceAdd, Nat.reduceSub, Nat.reduceLeDiff, Nat.reduceEqDiff, Nat.reduceLT, reduceIte, ite_true, ite_false, Nat.sub_zero, Nat.zero_le, true_and, and_true, and_self, true_or, or_true, if_true, if_false, true_implies, implies_true, not_true_eq_false, not_false_eq_true, false_implies, forall_const, ne_eq, or_self, and_false, false_and, Lt, Le, Eq', Cp, In, nI_add, nI_mul, nI_sub, nI_sub1, Neg0, bI_eq0, bI_eq1, bI_01, bft, up2_eq, up2_no, Bool.true_eq_false, Bool.false_eq_true, eq_self, m1_ne, m1_ne2, m1_lt, m1_le, lt_m1, m1_le2, bI_t, bI_f, LK_st, FGu hG, LK_g hG h22 hs2, hd0, n102])
      generalize up2 I1 102 1 (nI 0) = I2 at a2 good ⊢
      (apply WP_runI (lv := lvK) (F := LK) LK_ok 999 12; simp (disch := first | decide | omega) only [t75_0, lift_c, o_aload0, o_getfield, o_inl, o_icne, o_ireturn, o_getref, o_virt1, rpush_n, rpush_s, o_astore, s1_0, s1_s, o_putfield, o_aload1, o_ifnonnull, o_isub, o_putref, o_dupi, o_dupr, o_iadd, z0, z1, z2, z4, z6, z10, z20, z31, runI_0, runI_c, runI_n, liftI_n, liftI_y, run_0, run_c, run_n, fxn, fxi, fxr, fxl, fxl0, ↓swi_n, ↓swi_c, nck0, nck1, nck2, nck3, List.length_cons, List.length_nil, Nat.reduceAdd, Nat.reduceSub, Nat.reduceLeDiff, Nat.reduceEqDiff, Nat.reduceLT, reduceIte, ite_true, ite_false, Nat.sub_zero, Nat.zero_le, true_and, and_true, and_self, true_or, or_true, if_true, if_false, true_implies, implies_true, not_true_eq_false, not_false_eq_true, false_implies, forall_const, ne_eq, or_self, and_false, false_and, Lt, Le, Eq', Cp, In, nI_add, nI_mul, nI_sub, nI_sub1, Neg0, bI_eq0, bI_eq1, bI_01, bft, up2_eq, up2_no, Bool.true_eq_false, Bool.false_eq_true, eq_self, m1_ne, m1_ne2, m1_lt, m1_le, lt_m1, m1_le2, bI_t, bI_f, LK_st, FGu hG, LK_g hG h22 hs2, a2, n01, n00, hd0])
      exact good
    · have hN0 := hN
      obtain ⟨w1, w2, w3, w4, w5, w6, w7, w8, w9, w10, w11, w12⟩ := hN0
      have hG1 : FG sh1 P1 := hG.fr (fun a ha => w1 a (by omega)) (fun a j ha x1 x2 => w4 a j (by omega) x1)
      have s22 : sh1 22 = (8, 9) := (w1 22 (by omega)).trans h22
      generalize hqq : P 102 4 = q at *
      have nq0 : ¬ neq q 0 := by show ¬ q = 0; omega
      have nq1 : ¬ neq q 1 := by show ¬ q = 1; omega
      have c20 : I2 20 5 = nI r := (w2 20 5 (by omega)).trans ((e1 20 5 fun x => by unfold rdC rdT rdN rdF at x; omega).trans c5)
      have good := hQ (nI r) (n + 4) sh1 (up2 (up2 I2 102 1 (nI 0)) 20 5 (nI (r + 1))) L1 (up2 P1 22 7 q) fun Q2 h2 => And.intro ((w1 123 (by omega)).trans (FMu hI.1).1) <| fortS_R hI hr5 hqq t1 t3 hok e1 s1 e01 hN hd h2
      (apply WP_runI (lv := lvK) (F := LK) LK_ok 999 30; simp (disch := first | decide | omega) only [t75_0, lift_c, o_aload0, o_getfield, o_inl, o_icne, o_ireturn, o_getref, o_virt1, rpush_n, rpush_s, o_astore, s1_0, s1_s, o_putfield, o_aload1, o_ifnonnull, o_isub, o_putref, o_dupi, o_dupr, o_iadd, z0, z1, z2, z4, z6, z10, z20, z31, runI_0, runI_c, runI_n, liftI_n, liftI_y, run_0, run_c, run_n, fxn, fxi, fxr, fxl, fxl0, ↓swi_n, ↓swi_c, nck0, nck1, nck2, nck3, List.length_cons, List.length_nil, Nat.reduceAdd, Nat.reduceSub, Nat.reduceLeDiff, Nat.reduceEqDiff, Nat.reduceLT, reduceIte, ite_true, ite_false, Nat.sub_zero, Nat.zero_le, true_and, and_true, and_self, true_or, or_true, if_true, if_false, true_implies, implies_true, not_true_eq_false, not_false_eq_true, false_implies, forall_const, ne_eq, or_self, and_false, false_and, Lt, Le, Eq', Cp, In, nI_add, nI_mul, nI_sub, nI_sub1, Neg0, bI_eq0, bI_eq1, bI_01, bft, up2_eq, up2_no, Bool.true_eq_false, Bool.false_eq_true, eq_self, m1_ne, m1_ne2, m1_lt, m1_le, lt_m1, m1_le2, bI_t, bI_f, LK_st, FGu hG, LK_g hG h22 hs2, FGu hG1, s22, c20, nq0, nq1, n20, n22, n102, Nat.add_sub_cancel, hd0])
      exact good
end
