/-! ### pairs: image, undo -/
theorem IVz.pb {n : Nat} {sh : TS} {P P' : TP} (h : IVz n sh P) (he : Eo pb7 P P') (h22 : P' 22 7 = P 22 7 ∨ P' 22 7 = P 53 7) (h53 : P' 53 7 = P 53 7 ∨ P' 53 7 = P 22 7) : IVz n sh P' := by
  have e : ∀ a j, ¬ j = 7 → P' a j = P a j := fun a j hj => he a j fun q => hj q.2
  unfold IVz at h ⊢
  rw [e 102 4 (by omega), e (P 102 4) 1 (by omega), e (P 102 4) 2 (by omega), e (P 102 4) 3 (by omega)]
  obtain ⟨a1, a2, a3, a4, a5, a6, a7, a8, a9, a10, a11, a12, a13, a14⟩ := h
  refine ⟨a1, a2, a3, a4, a5, a6, a7, a8, a9, a10, ?_, ?_, ?_, ?_⟩
  · rcases h22 with q | q <;> rw [q] <;> assumption
  · rcases h53 with q | q <;> rw [q] <;> assumption
  · rcases h22 with q | q <;> rw [q] <;> assumption
  · rcases h53 with q | q <;> rw [q] <;> assumption
section
variable {G : GE} {d : Nat}
theorem image_L {n : Nat} {sh : TS} {I : TI} {L : TL} {P : TP} {Q : TQ} (hF : FM sh P) (hQ : ∀ I', (∀ a j, ¬ a = 126 → I' a j = I a j) → (∀ j, j < 138 → I' 126 j = I 124 j) → Q (some (.int (I 124 80))) n sh I' L P) :
    ∀ l m I' cc ss, m + l = 138 → (∀ a j, ¬ a = 126 → I' a j = I a j) → (∀ j, j < m → I' 126 j = I 124 j) → WP G 122 d Q 7 [some (.ref 123), some (.int (nI m))] [] cc ss n sh I' L P := by
  have n126 : nle 20 126 := by show 20 ≤ 126; decide
  intro l
  induction l with
  | zero =>
    intro m I' cc ss h h1 h2
    have hm : m = 138 := by omega
    subst hm
    have hQ := hQ I' h1 h2
    have e := h1 124 80 (by omega)
    generalize I 124 80 = w at e hQ
    (apply WP_runI (lv := lvM) LM_ok 999 20; simp (disch := first | decide | omega) only [t122_0, lift_c, o_aload0, o_inl, o_putbool, o_istore, s1_0, s1_s, o_iload1, o_icge, o_getref, o_iaload, o_iastore, o_iinc1, o_goto, o_ireturn, z0, z1, z2, z20, z31, z80, z138, runI_0, runI_c, runI_n, liftI_n, liftI_y, run_0, run_c, run_n, fxn, fxi, fxr, fxl, fxl0, ↓swi_n, ↓swi_c, nck0, nck1, nck2, nck3, List.length_cons, List.length_nil, Nat.reduceAdd, Nat.reduceSub, Nat.reduceLeDiff, Nat.reduceEqDiff, Nat.reduceLT, reduceIte, ite_true, ite_false, Nat.sub_zero, Nat.zero_le, true_and, and_true, and_self, true_or, or_true, if_true, if_false, true_implies, implies_true, not_true_eq_false, not_false_eq_true, false_implies, forall_const, ne_eq, or_self, and_false, false_and, Lt, Le, Eq', Cp, In, nI_add, nI_mul, nI_sub, nI_sub1, Neg0, bI_eq0, bI_eq1, bI_01, bft, up2_eq, up2_no, Bool.true_eq_false, Bool.false_eq_true, eq_self, m1_ne, m1_ne2, m1_lt, m1_le, lt_m1, m1_le2, bI_t, bI_f, LM_all hF, FMu hF, e])
    exact hQ
  | succ l ih =>
    intro m I' cc ss h h1 h2
    have hm : ¬ 138 ≤ m := by omega
    have e := h1 124 m (by omega)
    have ih := fun cc ss => ih (m + 1) (up2 I' 126 m (I 124 m)) cc ss (by omega) (fun a j q => by rw [up2_no _ _ _ _ _ _ (fun w => q w.1)]; exact h1 a j q) (fun j hj => by
      by_cases w : j = m
      · rw [w, up2_eq]
      · rw [up2_no _ _ _ _ _ _ (by omega)]
        exact h2 j (by omega))
    generalize I 124 m = w at e ih
    (apply WP_runI (lv := lvM) LM_ok 7 20; simp (disch := first | decide | omega) only [t122_0, lift_c, o_aload0, o_inl, o_putbool, o_istore, s1_0, s1_s, o_iload1, o_icge, o_getref, o_iaload, o_iastore, o_iinc1, o_goto, o_ireturn, z0, z1, z2, z20, z31, z80, z138, runI_0, runI_c, runI_n, liftI_n, liftI_y, run_0, run_c, run_n, fxn, fxi, fxr, fxl, fxl0, ↓swi_n, ↓swi_c, nck0, nck1, nck2, nck3, List.length_cons, List.length_nil, Nat.reduceAdd, Nat.reduceSub, Nat.reduceLeDiff, Nat.reduceEqDiff, Nat.reduceLT, reduceIte, ite_true, ite_false, Nat.sub_zero, Nat.zero_le, true_and, and_true, and_self, true_or, or_true, if_true, if_false, true_implies, implies_true, not_true_eq_false, not_false_eq_true, false_implies, forall_const, ne_eq, or_self, and_false, false_and, Lt, Le, Eq', Cp, In, nI_add, nI_mul, nI_sub, nI_sub1, Neg0, bI_eq0, bI_eq1, bI_01, bft, up2_eq, up2_no, Bool.true_eq_false, Bool.false_eq_true, eq_self, m1_ne, m1_ne2, m1_lt, m1_le, lt_m1, m1_le2, bI_t, bI_f, LM_all hF, FMu hF, e, hm, n126])
    exact ih _ _
theorem undo_L {n : Nat} {sh : TS} {I : TI} {L : TL} {P : TP} {Q : TQ} (hF : FM sh P) (hQ : ∀ I', (∀ a j, ¬ a = 124 → I' a j = I a j) → (∀ j, j < 138 → I' 124 j = I 126 j) → Q (some (.int (I 126 80))) n sh I' L P) :
    ∀ l m I' cc ss, m + l = 138 → (∀ a j, ¬ a = 124 → I' a j = I a j) → (∀ j, j < m → I' 124 j = I 126 j) → WP G 123 d Q 12 [some (.ref 123), some (.int (nI m))] [] cc ss n sh I' L P := by
  have n124 : nle 20 124 := by show 20 ≤ 124; decide
  intro l
  induction l with
  | zero =>
    intro m I' cc ss h h1 h2
    have hm : m = 138 := by omega
    subst hm
    have hQ := hQ I' h1 h2
    have e := h2 80 (by omega)
    generalize I 126 80 = w at e hQ
    (apply WP_runI (lv := lvM) LM_ok 999 20; simp (disch := first | decide | omega) only [t123_0, lift_c, o_aload0, o_getfield, o_ifne, o_inl, o_ireturn, o_istore, s1_0, s1_s, o_iload1, o_icge, o_getref, o_iaload, o_iastore, o_iinc1, o_goto, z0, z1, z2, z3, z20, z31, z80, z138, runI_0, runI_c, runI_n, liftI_n, liftI_y, run_0, run_c, run_n, fxn, fxi, fxr, fxl, fxl0, ↓swi_n, ↓swi_c, nck0, nck1, nck2, nck3, List.length_cons, List.length_nil, Nat.reduceAdd, Nat.reduceSub, Nat.reduceLeDiff, Nat.reduceEqDiff, Nat.reduceLT, reduceIte, ite_true, ite_false, Nat.sub_zero, Nat.zero_le, true_and, and_true, and_self, true_or, or_true, if_true, if_false, true_implies, implies_true, not_true_eq_false, not_false_eq_true, false_implies, forall_const, ne_eq, or_self, and_false, false_and, Lt, Le, Eq', Cp, In, nI_add, nI_mul, nI_sub, nI_sub1, Neg0, bI_eq0, bI_eq1, bI_01, bft, up2_eq, up2_no, Bool.true_eq_false, Bool.false_eq_true, eq_self, m1_ne, m1_ne2, m1_lt, m1_le, lt_m1, m1_le2, bI_t, bI_f, LM_all hF, FMu hF, e])
    exact hQ
  | succ l ih =>
    intro m I' cc ss h h1 h2
    have hm : ¬ 138 ≤ m := by omega
    have e := h1 126 m (by omega)
    have ih := fun cc ss => ih (m + 1) (up2 I' 124 m (I 126 m)) cc ss (by omega) (fun a j q => by rw [up2_no _ _ _ _ _ _ (fun w => q w.1)]; exact h1 a j q) (fun j hj => by
      by_cases w : j = m
      · rw [w, up2_eq]
      · rw [up2_no _ _ _ _ _ _ (by omega)]
        exact h2 j (by omega))
    generalize I 126 m = w at e ih
    (apply WP_runI (lv := lvM) LM_ok 12 20; simp (disch := first | decide | omega) only [t123_0, lift_c, o_aload0, o_getfield, o_ifne, o_inl, o_ireturn, o_istore, s1_0, s1_s, o_iload1, o_icge, o_getref, o_iaload, o_iastore, o_iinc1, o_goto, z0, z1, z2, z3, z20, z31, z80, z138, runI_0, runI_c, runI_n, liftI_n, liftI_y, run_0, run_c, run_n, fxn, fxi, fxr, fxl, fxl0, ↓swi_n, ↓swi_c, nck0, nck1, nck2, nck3, List.length_cons, List.length_nil, Nat.reduceAdd, Nat.reduceSub, Nat.reduceLeDiff, Nat.reduceEqDiff, Nat.reduceLT, reduceIte, ite_true, ite_false, Nat.sub_zero, Nat.zero_le, true_and, and_true, and_self, true_or, or_true, if_true, if_false, true_implies, implies_true, not_true_eq_false, not_false_eq_true, false_implies, forall_const, ne_eq, or_self, and_false, false_and, Lt, Le, Eq', Cp, In, nI_add, nI_mul, nI_sub, nI_sub1, Neg0, bI_eq0, bI_eq1, bI_01, bft, up2_eq, up2_no, Bool.true_eq_false, Bool.false_eq_true, eq_self, m1_ne, m1_ne2, m1_lt, m1_le, lt_m1, m1_le2, bI_t, bI_f, LM_all hF, FMu hF, e, hm, n124])
    exact ih _ _
theorem image_P (hd : 50 ≤ d) : PAIR G d 92 122 [.ref 20] [.ref 123] := by
  intro n sh I L P Q hI hQ
  obtain ⟨F, E, k, g, r, hI⟩ := hI
  apply e92
  apply WP_SF
  intro hSF
  have hs2 := hSF.2.2.1
  have hB := hI.cb
  have hG := hB.fg
  have hY22 := hB.y22
  have hY84 := hB.y84
  have h22 : sh 22 = (8, 9) := (FY22u hY22).1
  have hd0 : 0 < d := by omega
  have hk := hI.2.2.1.1.k6
  have hg9 := hI.2.2.1.1.g9
  have hWe := hI.2.2.1.we
  have hF := hI.1
  have hW := hI.2.2.1.1
  have hD := hI.2.2.2.1
  have hS := hI.2.2.2.2.2.1
  have n20 : nle 20 20 := by show 20 ≤ 20; decide
  have n123 : nle 20 123 := by show 20 ≤ 123; decide
  (apply WP_runI (lv := lvK) (F := LK) LK_ok 999 20; simp (disch := first | decide | omega) only [t92_0, lift_c, o_aload0, o_getref, o_virt2, rpush_n, rpush_s, o_inl, o_putbool, o_getfield, o_ireturn, z0, z1, z2, z20, z31, runI_0, runI_c, runI_n, liftI_n, liftI_y, run_0, run_c, run_n, fxn, fxi, fxr, fxl, fxl0, ↓swi_n, ↓swi_c, nck0, nck1, nck2, nck3, List.length_cons, List.length_nil, Nat.reduceAdd, Nat.reduceSub, Nat.reduceLeDiff, Nat.reduceEqDiff, Nat.reduceLT, reduceIte, ite_true, ite_false, Nat.sub_zero, Nat.zero_le, true_and, and_true, and_self, true_or, or_true, if_true, if_false, true_implies, implies_true, not_true_eq_false, not_false_eq_true, false_implies, forall_const, ne_eq, or_self, and_false, false_and, Lt, Le, Eq', Cp, In, nI_add, nI_mul, nI_sub, nI_sub1, Neg0, bI_eq0, bI_eq1, bI_01, bft, up2_eq, up2_no, Bool.true_eq_false, Bool.false_eq_true, eq_self, m1_ne, m1_ne2, m1_lt, m1_le, lt_m1, m1_le2, bI_t, bI_f, LK_st, FGu hG, LK_g hG h22 hs2, hd0])
  refine keepW_K hI.2.1 hW hD hI.2.2.2.2.1 hS (by omega) fun I1 L1 e1 l1 hD1 hR1 => ?_
  have he : Eo pb7 P (up2 P 53 7 (P 22 7)) := Eo.rf.up ⟨Or.inr rfl, rfl⟩ _
  have hz : IVz n sh (up2 P 53 7 (P 22 7)) := hI.2.2.2.2.2.2.2.2.2.2.2.2.pb he (Or.inl (up2_no _ _ _ _ _ _ (by omega))) (Or.inr (up2_eq _ _ _ _))
  have hD2 : YD sh I (up2 P 53 7 (P 22 7)) 22 (I 124) F E k g := hD.p7 (by omega) (by omega)
  have hA1 := hI.2.1.pb he
  have hF1 := hF.pb he
  generalize up2 P 53 7 (P 22 7) = P1 at he hz hD1 hD2 hA1 hF1 ⊢
  have e22 : I1 22 5 = nI k := (e1 22 5 fun q => by have := q.1; omega).trans hD.count
  have good := hQ (nI k) n sh (up2 I1 20 2 (nI 1)) L1 P1 fun Q2 h2 => by
    refine ⟨(FMu hI.1).1, ?_⟩
    have E1 : Eo pS I (up2 (up2 I1 20 2 (nI 1)) 123 3 (nI 1)) := ((e1.mono fun a j q => by have q1 := q.1; have q2 := q.2; unfold pS; omega).up (by unfold pS; omega) _).up (by unfold pS; omega) _
    have E2 : Eo (fun a j => (a = 20 ∧ j = 2) ∨ (a = 123 ∧ j = 3)) I1 (up2 (up2 I1 20 2 (nI 1)) 123 3 (nI 1)) := (Eo.rf.up (by omega) _).up (by omega) _
    have g20 : (up2 (up2 I1 20 2 (nI 1)) 123 3 (nI 1)) 20 2 = nI 1 := by rw [up2_no _ _ _ _ _ _ (by omega), up2_eq]
    have g123 : (up2 (up2 I1 20 2 (nI 1)) 123 3 (nI 1)) 123 3 = nI 1 := up2_eq _ _ _ _
    have e124 : ∀ j, (up2 (up2 I1 20 2 (nI 1)) 123 3 (nI 1)) 124 j = I 124 j := fun j => by
      rw [up2_no _ _ _ _ _ _ (by omega), up2_no _ _ _ _ _ _ (by omega)]
      exact e1 124 j fun q => by have := q.2; omega
    have main : ∀ cc ss, WP G 122 d Q2 7 [some (.ref 123), some (.int (nI 0))] [] cc ss n sh (up2 (up2 I1 20 2 (nI 1)) 123 3 (nI 1)) L1 P1 := by
      generalize up2 (up2 I1 20 2 (nI 1)) 123 3 (nI 1) = I2 at E1 E2 g20 g123 e124 ⊢
      intro cc ss
      refine image_L hF1 (fun I3 q1 q2 => ?_) 138 0 I2 cc ss (by omega) (fun _ _ _ => rfl) (fun j hj => by omega)
      have e126 : ∀ j, j < 138 → I3 126 j = I 124 j := fun j hj => (q2 j hj).trans (e124 j)
      have e124' : I3 124 = I 124 := funext fun j => (q1 124 j (by omega)).trans (e124 j)
      have E3 : Eo (fun a j => (a = 20 ∧ j = 2) ∨ (a = 123 ∧ j = 3) ∨ a = 126) I1 I3 := (E2.mono fun a j q => by omega).tr (fun a j q => q1 a j (by omega))
      have E4 : Eo pS I I3 := E1.tr fun a j q => q1 a j fun w => q (by unfold pS; omega)
      have hR3 : RK I3 (I 124) := RK.eo (S := fun a j => (a = 20 ∧ j = 2) ∨ (a = 123 ∧ j = 3) ∨ a = 126) hR1 E3 fun a j q => by omega
      have hK : IVk sh I3 P1 F E r := ⟨by rw [q1 20 2 (by omega), q1 123 3 (by omega), g20, g123], Or.inr ⟨by rw [q1 123 3 (by omega)]; exact g123, k, g, hW.cg e126, (hD1.eo hk E3 fun a j q => by omega).cg hk hg9 e126, RX.cg hR3 hS e126, hS.cg e126⟩⟩
      have hN := hI.re E4 (l1.mono fun a j q => by have q1 := q.1; have q2 := q.2; unfold pL; omega) hF1 hA1 (by rw [e124']; exact hW) (by rw [e124']; exact hD2.eo hk (S := fun a j => (53 ≤ a ∧ a ≤ 82) ∨ (a = 20 ∧ j = 2) ∨ (a = 123 ∧ j = 3) ∨ a = 126) ((e1.mono fun a j q => by have q1 := q.1; have q2 := q.2; omega).tr (E3.mono fun a j q => by omega)) fun a j q => by omega) (by rw [e124']; exact hI.2.2.2.2.1.eo (S := fun a j => (53 ≤ a ∧ a ≤ 82) ∨ (a = 20 ∧ j = 2) ∨ (a = 123 ∧ j = 3) ∨ a = 126) ((e1.mono fun a j q => by have q1 := q.1; have q2 := q.2; omega).tr (E3.mono fun a j q => by omega)) fun a j q => by omega) (by rw [e124']; exact hS) hK hz
      have h2 := h2 _ _ _ _ _ ⟨F, E, k, g, r, hN⟩
      rw [e124 80, hW.n80]
      exact h2
    apply e122
    clear E1 E2 g20 g123 e124
    (apply WP_runI (lv := lvM) LM_ok 7 20; simp (disch := first | decide | omega) only [t122_0, lift_c, o_aload0, o_inl, o_putbool, o_istore, s1_0, s1_s, o_iload1, o_icge, o_getref, o_iaload, o_iastore, o_iinc1, o_goto, o_ireturn, z0, z1, z2, z20, z31, z80, z138, runI_0, runI_c, runI_n, liftI_n, liftI_y, run_0, run_c, run_n, fxn, fxi, fxr, fxl, fxl0, ↓swi_n, ↓swi_c, nck0, nck1, nck2, nck3, List.length_cons, List.length_nil, Nat.reduceAdd, Nat.reduceSub, Nat.reduceLeDiff, Nat.reduceEqDiff, Nat.reduceLT, reduceIte, ite_true, ite_false, Nat.sub_zero, Nat.zero_le, true_and, and_true, and_self, true_or, or_true, if_true, if_false, true_implies, implies_true, not_true_eq_false, not_false_eq_true, false_implies, forall_const, ne_eq, or_self, and_false, false_and, Lt, Le, Eq', Cp, In, nI_add, nI_mul, nI_sub, nI_sub1, Neg0, bI_eq0, bI_eq1, bI_01, bft, up2_eq, up2_no, Bool.true_eq_false, Bool.false_eq_true, eq_self, m1_ne, m1_ne2, m1_lt, m1_le, lt_m1, m1_le2, bI_t, bI_f, LM_all hF, FMu hF1, n123, hd0])
    exact main _ _
  (apply WP_runI (lv := lvK) (F := LK) LK_ok 999 20; simp (disch := first | decide | omega) only [t92_0, lift_c, o_aload0, o_getref, o_virt2, rpush_n, rpush_s, o_inl, o_putbool, o_getfield, o_ireturn, z0, z1, z2, z20, z31, runI_0, runI_c, runI_n, liftI_n, liftI_y, run_0, run_c, run_n, fxn, fxi, fxr, fxl, fxl0, ↓swi_n, ↓swi_c, nck0, nck1, nck2, nck3, List.length_cons, List.length_nil, Nat.reduceAdd, Nat.reduceSub, Nat.reduceLeDiff, Nat.reduceEqDiff, Nat.reduceLT, reduceIte, ite_true, ite_false, Nat.sub_zero, Nat.zero_le, true_and, and_true, and_self, true_or, or_true, if_true, if_false, true_implies, implies_true, not_true_eq_false, not_false_eq_true, false_implies, forall_const, ne_eq, or_self, and_false, false_and, Lt, Le, Eq', Cp, In, nI_add, nI_mul, nI_sub, nI_sub1, Neg0, bI_eq0, bI_eq1, bI_01, bft, up2_eq, up2_no, Bool.true_eq_false, Bool.false_eq_true, eq_self, m1_ne, m1_ne2, m1_lt, m1_le, lt_m1, m1_le2, bI_t, bI_f, LK_st, FGu hG, LK_g hG h22 hs2, FGu hA1.1, e22, n20, h22, hd0])
  exact good
theorem undo_P (hd : 50 ≤ d) : PAIR G d 93 123 [.ref 20] [.ref 123] := by
  intro n sh I L P Q hI hQ
  obtain ⟨F, E, k, g, r, hI⟩ := hI
  apply e93
  apply WP_SF
  intro hSF
  have hs2 := hSF.2.2.1
  have hB := hI.cb
  have hG := hB.fg
  have hY22 := hB.y22
  have hY84 := hB.y84
  have h22 : sh 22 = (8, 9) := (FY22u hY22).1
  have hd0 : 0 < d := by omega
  have hk := hI.2.2.1.1.k6
  have hg9 := hI.2.2.1.1.g9
  have hF := hI.1
  have hk2 := hI.2.2.2.2.2.2.1
  obtain ⟨k1, k2⟩ := hk2
  rcases k2 with ⟨k2, -⟩ | ⟨k2, k', g', hW', hD', hR', hS'⟩
  · rw [k2] at k1
    have bad := hQ (-nI 3) n sh I L P fun Q2 h2 => by
      refine ⟨(FMu hI.1).1, ?_⟩
      have h2 := h2 _ _ _ _ _ ⟨F, E, k, g, r, hI⟩
      apply e123
      (apply WP_runI (lv := lvM) LM_ok 999 20; simp (disch := first | decide | omega) only [t123_0, lift_c, o_aload0, o_getfield, o_ifne, o_inl, o_ireturn, o_istore, s1_0, s1_s, o_iload1, o_icge, o_getref, o_iaload, o_iastore, o_iinc1, o_goto, z0, z1, z2, z3, z20, z31, z80, z138, runI_0, runI_c, runI_n, liftI_n, liftI_y, run_0, run_c, run_n, fxn, fxi, fxr, fxl, fxl0, ↓swi_n, ↓swi_c, nck0, nck1, nck2, nck3, List.length_cons, List.length_nil, Nat.reduceAdd, Nat.reduceSub, Nat.reduceLeDiff, Nat.reduceEqDiff, Nat.reduceLT, reduceIte, ite_true, ite_false, Nat.sub_zero, Nat.zero_le, true_and, and_true, and_self, true_or, or_true, if_true, if_false, true_implies, implies_true, not_true_eq_false, not_false_eq_true, false_implies, forall_const, ne_eq, or_self, and_false, false_and, Lt, Le, Eq', Cp, In, nI_add, nI_mul, nI_sub, nI_sub1, Neg0, bI_eq0, bI_eq1, bI_01, bft, up2_eq, up2_no, Bool.true_eq_false, Bool.false_eq_true, eq_self, m1_ne, m1_ne2, m1_lt, m1_le, lt_m1, m1_le2, bI_t, bI_f, LM_all hF, FMu hF, k2, hd0])
      exact h2
    (apply WP_runI (lv := lvK) (F := LK) LK_ok 999 20; simp (disch := first | decide | omega) only [t93_0, lift_c, o_aload0, o_getfield, o_ifne, o_inl, o_ireturn, o_getref, o_virt2, rpush_n, rpush_s, z0, z1, z2, z3, z20, z31, runI_0, runI_c, runI_n, liftI_n, liftI_y, run_0, run_c, run_n, fxn, fxi, fxr, fxl, fxl0, ↓swi_n, ↓swi_c, nck0, nck1, nck2, nck3, List.length_cons, List.length_nil, Nat.reduceAdd, Nat.reduceSub, Nat.reduceLeDiff, Nat.reduceEqDiff, Nat.reduceLT, reduceIte, ite_true, ite_false, Nat.sub_zero, Nat.zero_le, true_and, and_true, and_self, true_or, or_true, if_true, if_false, true_implies, implies_true, not_true_eq_false, not_false_eq_true, false_implies, forall_const, ne_eq, or_self, and_false, false_and, Lt, Le, Eq', Cp, In, nI_add, nI_mul, nI_sub, nI_sub1, Neg0, bI_eq0, bI_eq1, bI_01, bft, up2_eq, up2_no, Bool.true_eq_false, Bool.false_eq_true, eq_self, m1_ne, m1_ne2, m1_lt, m1_le, lt_m1, m1_le2, bI_t, bI_f, LK_st, FGu hG, LK_g hG h22 hs2, k1, hd0])
    exact bad
  · rw [k2] at k1
    have n10 : ¬ nI 1 = nI 0 := by decide
    (apply WP_runI (lv := lvK) (F := LK) LK_ok 999 20; simp (disch := first | decide | omega) only [t93_0, lift_c, o_aload0, o_getfield, o_ifne, o_inl, o_ireturn, o_getref, o_virt2, rpush_n, rpush_s, z0, z1, z2, z3, z20, z31, runI_0, runI_c, runI_n, liftI_n, liftI_y, run_0, run_c, run_n, fxn, fxi, fxr, fxl, fxl0, ↓swi_n, ↓swi_c, nck0, nck1, nck2, nck3, List.length_cons, List.length_nil, Nat.reduceAdd, Nat.reduceSub, Nat.reduceLeDiff, Nat.reduceEqDiff, Nat.reduceLT, reduceIte, ite_true, ite_false, Nat.sub_zero, Nat.zero_le, true_and, and_true, and_self, true_or, or_true, if_true, if_false, true_implies, implies_true, not_true_eq_false, not_false_eq_true, false_implies, forall_const, ne_eq, or_self, and_false, false_and, Lt, Le, Eq', Cp, In, nI_add, nI_mul, nI_sub, nI_sub1, Neg0, bI_eq0, bI_eq1, bI_01, bft, up2_eq, up2_no, Bool.true_eq_false, Bool.false_eq_true, eq_self, m1_ne, m1_ne2, m1_lt, m1_le, lt_m1, m1_le2, bI_t, bI_f, LK_st, FGu hG, LK_g hG h22 hs2, k1, n10, hd0])
    refine backW_K hI.2.1 hW' hD' hR' hS' (by omega) fun I1 L1 e1 l1 hD1 hR1 => ?_
    have he : Eo pb7 P (up2 P 22 7 (P 53 7)) := Eo.rf.up ⟨Or.inl rfl, rfl⟩ _
    have hz : IVz n sh (up2 P 22 7 (P 53 7)) := hI.2.2.2.2.2.2.2.2.2.2.2.2.pb he (Or.inr (up2_eq _ _ _ _)) (Or.inl (up2_no _ _ _ _ _ _ (by omega)))
    have hD2 : YD sh I (up2 P 22 7 (P 53 7)) 53 (I 126) F E k' g' := hD'.p7 (by omega) (by omega)
    have hA1 := hI.2.1.pb he
    have hF1 := hF.pb he
    generalize up2 P 22 7 (P 53 7) = P1 at he hz hD1 hD2 hA1 hF1 ⊢
    have e22 : I1 22 5 = nI k' := hD1.count
    have hk' := hW'.k6
    have hg' := hW'.g9
    have q0 : ∀ a j, ¬ (22 ≤ a ∧ a ≤ 51) → I1 a j = I a j := fun a j q => e1 a j q
    have good := hQ (nI k') n sh I1 L1 P1 fun Q2 h2 => by
      refine ⟨(FMu hI.1).1, ?_⟩
      have g123 : I1 123 3 = nI 1 := (q0 _ _ (by omega)).trans k2
      have main : ∀ cc ss, WP G 123 d Q2 12 [some (.ref 123), some (.int (nI 0))] [] cc ss n sh I1 L1 P1 := by
        intro cc ss
        refine undo_L hF1 (fun I3 q1 q2 => ?_) 138 0 I1 cc ss (by omega) (fun _ _ _ => rfl) (fun j hj => by omega)
        have e126 : I1 126 = I 126 := funext fun j => q0 126 j (by omega)
        have e124 : ∀ j, j < 138 → I3 124 j = I 126 j := fun j hj => (q2 j hj).trans (q0 126 j (by omega))
        have e126' : I3 126 = I 126 := funext fun j => (q1 126 j (by omega)).trans (q0 126 j (by omega))
        have E3 : Eo (fun a _ => (22 ≤ a ∧ a ≤ 51) ∨ a = 124) I I3 := fun a j q => (q1 a j (by omega)).trans (q0 a j (by omega))
        have hK : IVk sh I3 P1 F E r := ⟨by rw [q1 20 2 (by omega), q1 123 3 (by omega), q0 20 2 (by omega), q0 123 3 (by omega), k1, k2], Or.inr ⟨by rw [q1 123 3 (by omega)]; exact g123, k', g', by rw [e126']; exact hW', by rw [e126']; exact hD2.eo hk' E3 fun a j q => by omega, by rw [e126']; exact RK.eo hR' E3 fun a j q => by omega, by rw [e126']; exact hS'⟩⟩
        have hR3 : RD I3 (I 126) := RD.eo (S := fun a _ => a = 124) hR1 (fun a j q => q1 a j q) fun a j q => by omega
        have hN := hI.re (E3.mono fun a j q => by unfold pS; omega) (l1.mono fun a j q => by have q1 := q.1; have q2 := q.2; unfold pL; omega) hF1 hA1 (hW'.cg e124) ((hD1.eo hk' (S := fun a _ => a = 124) (fun a j q => q1 a j q) fun a j q => by omega).cg hk' hg' e124) (RX.cg hR3 hS' e124) (hS'.cg e124) hK hz
        have h2 := h2 _ _ _ _ _ ⟨F, E, k', g', r, hN⟩
        rw [e126, hW'.n80]
        exact h2
      apply e123
      (apply WP_runI (lv := lvM) LM_ok 12 20; simp (disch := first | decide | omega) only [t123_0, lift_c, o_aload0, o_getfield, o_ifne, o_inl, o_ireturn, o_istore, s1_0, s1_s, o_iload1, o_icge, o_getref, o_iaload, o_iastore, o_iinc1, o_goto, z0, z1, z2, z3, z20, z31, z80, z138, runI_0, runI_c, runI_n, liftI_n, liftI_y, run_0, run_c, run_n, fxn, fxi, fxr, fxl, fxl0, ↓swi_n, ↓swi_c, nck0, nck1, nck2, nck3, List.length_cons, List.length_nil, Nat.reduceAdd, Nat.reduceSub, Nat.reduceLeDiff, Nat.reduceEqDiff, Nat.reduceLT, reduceIte, ite_true, ite_false, Nat.sub_zero, Nat.zero_le, true_and, and_true, and_self, true_or, or_true, if_true, if_false, true_implies, implies_true, not_true_eq_false, not_false_eq_true, false_implies, forall_const, ne_eq, or_self, and_false, false_and, Lt, Le, Eq', Cp, In, nI_add, nI_mul, nI_sub, nI_sub1, Neg0, bI_eq0, bI_eq1, bI_01, bft, up2_eq, up2_no, Bool.true_eq_false, Bool.false_eq_true, eq_self, m1_ne, m1_ne2, m1_lt, m1_le, lt_m1, m1_le2, bI_t, bI_f, LM_all hF, FMu hF1, g123, n10, hd0])
      exact main _ _
    (apply WP_runI (lv := lvK) (F := LK) LK_ok 999 20; simp (disch := first | decide | omega) only [t93_0, lift_c, o_aload0, o_getfield, o_ifne, o_inl, o_ireturn, o_getref, o_virt2, rpush_n, rpush_s, z0, z1, z2, z3, z20, z31, runI_0, runI_c, runI_n, liftI_n, liftI_y, run_0, run_c, run_n, fxn, fxi, fxr, fxl, fxl0, ↓swi_n, ↓swi_c, nck0, nck1, nck2, nck3, List.length_cons, List.length_nil, Nat.reduceAdd, Nat.reduceSub, Nat.reduceLeDiff, Nat.reduceEqDiff, Nat.reduceLT, reduceIte, ite_true, ite_false, Nat.sub_zero, Nat.zero_le, true_and, and_true, and_self, true_or, or_true, if_true, if_false, true_implies, implies_true, not_true_eq_false, not_false_eq_true, false_implies, forall_const, ne_eq, or_self, and_false, false_and, Lt, Le, Eq', Cp, In, nI_add, nI_mul, nI_sub, nI_sub1, Neg0, bI_eq0, bI_eq1, bI_01, bft, up2_eq, up2_no, Bool.true_eq_false, Bool.false_eq_true, eq_self, m1_ne, m1_ne2, m1_lt, m1_le, lt_m1, m1_le2, bI_t, bI_f, LK_st, FGu hG, LK_g hG h22 hs2, FGu hA1.1, e22, h22, hd0])
    exact good
end
