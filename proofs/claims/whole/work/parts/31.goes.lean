/-! ### the reference: where a goose goes -/
theorem byd_eq {N : TN} {h c j : Nat} (hc : c < 8) : (bydV N h j = nI c) = (byd N h c j = true) := by
  unfold bydV byd
  split
  · simp
  · split
    · simp
    · rw [m1_ne2 c (by omega)]
      simp
theorem ct_eq {N : TN} {k g r i : Nat} (hW : WF N k g r) (hi : i < k) : gs N i 2 = nI (ct N i) ∧ ct N i < 8 := by
  obtain ⟨c, h1, h2⟩ := hW.court hi
  have e : ct N i = c := by show (gs N i 2).toNatClampNeg = c; rw [h2, Cp _ (by omega)]
  rw [e]
  exact ⟨h2, h1⟩
theorem goL_lt {F : TF} {N : TN} {i : Nat} (h : ct N i < 8) : ∀ c, c ≤ 8 → (goL F N i c).1 < 8
  | 0, _ => h
  | c + 1, hc => by
    unfold goL
    split
    · show c < 8
      omega
    · exact goL_lt h c (by omega)
theorem goL_s (F : TF) (N : TN) (i c : Nat) : goL F N i (c + 1) = if may N (ct N i) c = true ∧ (goL F N i c).2 < pullS F N i c then (c, pullS F N i c) else goL F N i c := by rw [goL]
theorem goL_y {F : TF} {N : TN} {i c b h : Nat} {mo : Int32} (hh : neq (ct N i) h) (hb : goL F N i c = (b, mo)) (q : may N h c = true ∧ mo < pullS F N i c) : goL F N i (c + 1) = (c, pullS F N i c) := by
  rw [goL_s]
  exact if_pos ⟨by rw [show ct N i = h from hh]; exact q.1, by rw [hb]; exact q.2⟩
theorem goL_n {F : TF} {N : TN} {i c b h : Nat} {mo : Int32} (hh : neq (ct N i) h) (hb : goL F N i c = (b, mo)) (q : ¬ (may N h c = true ∧ mo < pullS F N i c)) : goL F N i (c + 1) = (b, mo) := by
  rw [goL_s]
  exact (if_neg fun e => q ⟨by rw [show ct N i = h from hh] at e; exact e.1, by rw [hb] at e; exact e.2⟩).trans hb
theorem goS_eq (F : TF) (N : TN) (i : Nat) : goS F N i = (goL F N i 8).1 := by unfold goS; rfl
theorem goS_c {F : TF} {N : TN} {i c b : Nat} {mo : Int32} (hc : c = 8) (hb : goL F N i c = (b, mo)) : goS F N i = b := by
  rw [goS_eq, ← hc, hb]
section
variable {G : GE} {d n : Nat} {sh : TS} {L : TL} {P : TP} {Q : TQ}
theorem goes_I (hF : FM sh P) {I : TI} {k g r i h c : Nat} (hW : WF (I 124) k g r) (hc : c < 8) (hd : 2 ≤ d) {b : Nat} {mo : Int32}
    (hQ : ∀ cc ss, WP G 157 d Q 75 [some (.ref 123), some (.int (nI i)), some (.int (nI h)), some (.int (nI b)), some (.int mo), some (.int (nI c)), some (.int (bI (may (I 124) h c))), some (.int (nI g))] [] cc ss n sh I L P) : ∀ m j cc ss, j + m = g →
    WP G 157 d Q 33 [some (.ref 123), some (.int (nI i)), some (.int (nI h)), some (.int (nI b)), some (.int mo), some (.int (nI c)), some (.int (bI (anyB (byd (I 124) h c) j))), some (.int (nI j))] [] cc ss n sh I L P
  | 0, j, cc, ss, hj => by
    have hj : j = g := by omega
    subst hj
    have h9 := hW.g9
    have h81 := hW.n81
    have hQ := hQ cc ss
    unfold may at hQ
    rw [hW.gn] at hQ
    (apply WP_run 75 80; simp (disch := first | decide | omega) only [t157_0, t157_1, lift_c, o_aload0, o_iload1, o_inl, o_virt3, rpush_n, rpush_s, o_istore, s1_0, s1_s, o_iload2, o_iload5, o_icge, o_iload7, o_getref, o_iaload, o_iload6, o_ifne, o_icne, o_goto, o_iinc7, o_ifeq, o_iload4, o_icle, o_iinc5, o_iload3, o_ireturn, z0, z1, z2, z8, z20, z31, z81, run_0, run_c, run_n, fxn, fxi, fxr, fxl, fxl0, ↓swi_n, ↓swi_c, nck0, nck1, nck2, nck3, List.length_cons, List.length_nil, Nat.reduceAdd, Nat.reduceSub, Nat.reduceLeDiff, Nat.reduceEqDiff, Nat.reduceLT, reduceIte, ite_true, ite_false, Nat.sub_zero, Nat.zero_le, true_and, and_true, and_self, true_or, or_true, if_true, if_false, true_implies, implies_true, not_true_eq_false, not_false_eq_true, false_implies, forall_const, ne_eq, or_self, and_false, false_and, Lt, Le, Eq', Cp, In, nI_add, nI_mul, nI_sub, nI_sub1, Neg0, bI_eq0, bI_eq1, bI_01, bft, up2_eq, up2_no, Bool.true_eq_false, Bool.false_eq_true, eq_self, m1_ne, m1_ne2, m1_lt, m1_le, lt_m1, m1_le2, bI_t, bI_f, FMu hF, h81, Nat.le_refl])
    exact hQ
  | m + 1, j, cc, ss, hj => by
    have hF' := hF
    have h9 := hW.g9
    have h81 := hW.n81
    have hd0 : 0 < d := by omega
    have hj2 : ¬ g ≤ j := by omega
    have ih := goes_I hF' hW hc hd hQ m (j + 1) cc ss (by omega)
    cases hb : anyB (byd (I 124) h c) j with
    | true =>
      rw [show anyB (byd (I 124) h c) (j + 1) = true by simp [anyB, hb]] at ih
      (apply WP_run 33 80; simp (disch := first | decide | omega) only [t157_0, t157_1, lift_c, o_aload0, o_iload1, o_inl, o_virt3, rpush_n, rpush_s, o_istore, s1_0, s1_s, o_iload2, o_iload5, o_icge, o_iload7, o_getref, o_iaload, o_iload6, o_ifne, o_icne, o_goto, o_iinc7, o_ifeq, o_iload4, o_icle, o_iinc5, o_iload3, o_ireturn, z0, z1, z2, z8, z20, z31, z81, run_0, run_c, run_n, fxn, fxi, fxr, fxl, fxl0, ↓swi_n, ↓swi_c, nck0, nck1, nck2, nck3, List.length_cons, List.length_nil, Nat.reduceAdd, Nat.reduceSub, Nat.reduceLeDiff, Nat.reduceEqDiff, Nat.reduceLT, reduceIte, ite_true, ite_false, Nat.sub_zero, Nat.zero_le, true_and, and_true, and_self, true_or, or_true, if_true, if_false, true_implies, implies_true, not_true_eq_false, not_false_eq_true, false_implies, forall_const, ne_eq, or_self, and_false, false_and, Lt, Le, Eq', Cp, In, nI_add, nI_mul, nI_sub, nI_sub1, Neg0, bI_eq0, bI_eq1, bI_01, bft, up2_eq, up2_no, Bool.true_eq_false, Bool.false_eq_true, eq_self, m1_ne, m1_ne2, m1_lt, m1_le, lt_m1, m1_le2, bI_t, bI_f, FMu hF, hd0, h81, hj2])
      exact ih
    | false =>
      rw [show anyB (byd (I 124) h c) (j + 1) = byd (I 124) h c j by simp [anyB, hb]] at ih
      (apply WP_run 33 80; simp (disch := first | decide | omega) only [t157_0, t157_1, lift_c, o_aload0, o_iload1, o_inl, o_virt3, rpush_n, rpush_s, o_istore, s1_0, s1_s, o_iload2, o_iload5, o_icge, o_iload7, o_getref, o_iaload, o_iload6, o_ifne, o_icne, o_goto, o_iinc7, o_ifeq, o_iload4, o_icle, o_iinc5, o_iload3, o_ireturn, z0, z1, z2, z8, z20, z31, z81, run_0, run_c, run_n, fxn, fxi, fxr, fxl, fxl0, ↓swi_n, ↓swi_c, nck0, nck1, nck2, nck3, List.length_cons, List.length_nil, Nat.reduceAdd, Nat.reduceSub, Nat.reduceLeDiff, Nat.reduceEqDiff, Nat.reduceLT, reduceIte, ite_true, ite_false, Nat.sub_zero, Nat.zero_le, true_and, and_true, and_self, true_or, or_true, if_true, if_false, true_implies, implies_true, not_true_eq_false, not_false_eq_true, false_implies, forall_const, ne_eq, or_self, and_false, false_and, Lt, Le, Eq', Cp, In, nI_add, nI_mul, nI_sub, nI_sub1, Neg0, bI_eq0, bI_eq1, bI_01, bft, up2_eq, up2_no, Bool.true_eq_false, Bool.false_eq_true, eq_self, m1_ne, m1_ne2, m1_lt, m1_le, lt_m1, m1_le2, bI_t, bI_f, FMu hF, hd0, h81, hj2])
      refine beyond_M hF' (by omega) (by omega) ?_
      have e := byd_eq (N := I 124) (h := h) (j := j) hc
      cases hb2 : byd (I 124) h c j with
      | true =>
        rw [hb2] at ih
        (apply WP_run 33 80; simp (disch := first | decide | omega) only [t157_0, t157_1, lift_c, o_aload0, o_iload1, o_inl, o_virt3, rpush_n, rpush_s, o_istore, s1_0, s1_s, o_iload2, o_iload5, o_icge, o_iload7, o_getref, o_iaload, o_iload6, o_ifne, o_icne, o_goto, o_iinc7, o_ifeq, o_iload4, o_icle, o_iinc5, o_iload3, o_ireturn, z0, z1, z2, z8, z20, z31, z81, run_0, run_c, run_n, fxn, fxi, fxr, fxl, fxl0, ↓swi_n, ↓swi_c, nck0, nck1, nck2, nck3, List.length_cons, List.length_nil, Nat.reduceAdd, Nat.reduceSub, Nat.reduceLeDiff, Nat.reduceEqDiff, Nat.reduceLT, reduceIte, ite_true, ite_false, Nat.sub_zero, Nat.zero_le, true_and, and_true, and_self, true_or, or_true, if_true, if_false, true_implies, implies_true, not_true_eq_false, not_false_eq_true, false_implies, forall_const, ne_eq, or_self, and_false, false_and, Lt, Le, Eq', Cp, In, nI_add, nI_mul, nI_sub, nI_sub1, Neg0, bI_eq0, bI_eq1, bI_01, bft, up2_eq, up2_no, Bool.true_eq_false, Bool.false_eq_true, eq_self, m1_ne, m1_ne2, m1_lt, m1_le, lt_m1, m1_le2, bI_t, bI_f, FMu hF, hd0, e, hb2])
        exact ih
      | false =>
        rw [hb2] at ih
        (apply WP_run 33 80; simp (disch := first | decide | omega) only [t157_0, t157_1, lift_c, o_aload0, o_iload1, o_inl, o_virt3, rpush_n, rpush_s, o_istore, s1_0, s1_s, o_iload2, o_iload5, o_icge, o_iload7, o_getref, o_iaload, o_iload6, o_ifne, o_icne, o_goto, o_iinc7, o_ifeq, o_iload4, o_icle, o_iinc5, o_iload3, o_ireturn, z0, z1, z2, z8, z20, z31, z81, run_0, run_c, run_n, fxn, fxi, fxr, fxl, fxl0, ↓swi_n, ↓swi_c, nck0, nck1, nck2, nck3, List.length_cons, List.length_nil, Nat.reduceAdd, Nat.reduceSub, Nat.reduceLeDiff, Nat.reduceEqDiff, Nat.reduceLT, reduceIte, ite_true, ite_false, Nat.sub_zero, Nat.zero_le, true_and, and_true, and_self, true_or, or_true, if_true, if_false, true_implies, implies_true, not_true_eq_false, not_false_eq_true, false_implies, forall_const, ne_eq, or_self, and_false, false_and, Lt, Le, Eq', Cp, In, nI_add, nI_mul, nI_sub, nI_sub1, Neg0, bI_eq0, bI_eq1, bI_01, bft, up2_eq, up2_no, Bool.true_eq_false, Bool.false_eq_true, eq_self, m1_ne, m1_ne2, m1_lt, m1_le, lt_m1, m1_le2, bI_t, bI_f, FMu hF, hd0, e, hb2])
        exact ih
def goesP (G : GE) (d n : Nat) (sh : TS) (L : TL) (P : TP) (Q : TQ) (F : TF) (N R S : TN) (r i h : Nat) (c : Nat) : Prop := ∀ (I : TI) (o6 o7 : Option Value) (b : Nat) (mo : Int32) (cc ss : Nat), I 124 = N → I 128 = R → I 129 = S → RG I r → (∀ k, fx k o6 = o6) → (∀ k, fx k o7 = o7) → goL F N i c = (b, mo) →
    (∀ I', Eo scR I I' → ∀ b, goS F N i = b → Q (some (.int (nI b))) n sh I' L P) →
    WP G 157 d Q 20 [some (.ref 123), some (.int (nI i)), some (.int (nI h)), some (.int (nI b)), some (.int mo), some (.int (nI c)), o6, o7] [] cc ss n sh I L P
set_option maxHeartbeats 60000 in
theorem goes_Z (hF : FM sh P) {F : TF} {N R S : TN} {r i h c : Nat} (hc : c = 8) : goesP G d n sh L P Q F N R S r i h c := by
  intro I o6 o7 b mo cc ss h124 h128 h129 hG h6 h7 hb hQ
  have hQ := hQ I Eo.rf b (goS_c hc hb)
  clear hb
  have hc8 : 8 ≤ c := by omega
  (apply WP_run 999 80; simp (disch := first | decide | omega) only [t157_0, t157_1, lift_c, o_aload0, o_iload1, o_inl, o_virt3, rpush_n, rpush_s, o_istore, s1_0, s1_s, o_iload2, o_iload5, o_icge, o_iload7, o_getref, o_iaload, o_iload6, o_ifne, o_icne, o_goto, o_iinc7, o_ifeq, o_iload4, o_icle, o_iinc5, o_iload3, o_ireturn, z0, z1, z2, z8, z20, z31, z81, run_0, run_c, run_n, fxn, fxi, fxr, fxl, fxl0, ↓swi_n, ↓swi_c, nck0, nck1, nck2, nck3, List.length_cons, List.length_nil, Nat.reduceAdd, Nat.reduceSub, Nat.reduceLeDiff, Nat.reduceEqDiff, Nat.reduceLT, reduceIte, ite_true, ite_false, Nat.sub_zero, Nat.zero_le, true_and, and_true, and_self, true_or, or_true, if_true, if_false, true_implies, implies_true, not_true_eq_false, not_false_eq_true, false_implies, forall_const, ne_eq, or_self, and_false, false_and, Lt, Le, Eq', Cp, In, nI_add, nI_mul, nI_sub, nI_sub1, Neg0, bI_eq0, bI_eq1, bI_01, bft, up2_eq, up2_no, Bool.true_eq_false, Bool.false_eq_true, eq_self, m1_ne, m1_ne2, m1_lt, m1_le, lt_m1, m1_le2, bI_t, bI_f, FMu hF, hc8, h6, h7])
  exact hQ
set_option maxHeartbeats 60000 in
theorem goes_S (hF : FM sh P) {F : TF} {N R S : TN} (hFF : FF R S = F) {k g r i h c : Nat} (hW : WF N k g r) (hi : i < k) (hh : neq (ct N i) h) (hd : 35 ≤ d) (hc : c < 8) (ih : goesP G d n sh L P Q F N R S r i h (c + 1)) : goesP G d n sh L P Q F N R S r i h c := by
  intro I o6 o7 b mo cc ss h124 h128 h129 hG h6 h7 hb hQ
  have hd0 : 0 < d := by omega
  have hc2 : ¬ 8 ≤ c := by omega
  have hWI : WF (I 124) k g r := by rw [h124]; exact hW
  have hd2 : 34 ≤ d - 1 := by omega
  have hsf := goL_y hh hb
  have hsn := goL_n hh hb
  clear hb hh
  (apply WP_run 33 80; simp (disch := first | decide | omega) only [t157_0, t157_1, lift_c, o_aload0, o_iload1, o_inl, o_virt3, rpush_n, rpush_s, o_istore, s1_0, s1_s, o_iload2, o_iload5, o_icge, o_iload7, o_getref, o_iaload, o_iload6, o_ifne, o_icne, o_goto, o_iinc7, o_ifeq, o_iload4, o_icle, o_iinc5, o_iload3, o_ireturn, z0, z1, z2, z8, z20, z31, z81, run_0, run_c, run_n, fxn, fxi, fxr, fxl, fxl0, ↓swi_n, ↓swi_c, nck0, nck1, nck2, nck3, List.length_cons, List.length_nil, Nat.reduceAdd, Nat.reduceSub, Nat.reduceLeDiff, Nat.reduceEqDiff, Nat.reduceLT, reduceIte, ite_true, ite_false, Nat.sub_zero, Nat.zero_le, true_and, and_true, and_self, true_or, or_true, if_true, if_false, true_implies, implies_true, not_true_eq_false, not_false_eq_true, false_implies, forall_const, ne_eq, or_self, and_false, false_and, Lt, Le, Eq', Cp, In, nI_add, nI_mul, nI_sub, nI_sub1, Neg0, bI_eq0, bI_eq1, bI_01, bft, up2_eq, up2_no, Bool.true_eq_false, Bool.false_eq_true, eq_self, m1_ne, m1_ne2, m1_lt, m1_le, lt_m1, m1_le2, bI_t, bI_f, FMu hF, h6, h7, hc2])
  refine goes_I hF hWI hc (by omega) (fun cc ss => ?_) g 0 _ _ (by omega)
  rw [h124]
  cases hm : may N h c with
  | false =>
    rw [hm] at hsn
    have ih := ih I (some (.int (nI 0))) (some (.int (nI 0))) b mo cc ss h124 h128 h129 hG (fun k => fxi k _) (fun k => fxi k _) (hsn fun q => by cases q.1) hQ
    clear hsn hsf hQ
    (apply WP_run 20 80; simp (disch := first | decide | omega) only [t157_0, t157_1, lift_c, o_aload0, o_iload1, o_inl, o_virt3, rpush_n, rpush_s, o_istore, s1_0, s1_s, o_iload2, o_iload5, o_icge, o_iload7, o_getref, o_iaload, o_iload6, o_ifne, o_icne, o_goto, o_iinc7, o_ifeq, o_iload4, o_icle, o_iinc5, o_iload3, o_ireturn, z0, z1, z2, z8, z20, z31, z81, run_0, run_c, run_n, fxn, fxi, fxr, fxl, fxl0, ↓swi_n, ↓swi_c, nck0, nck1, nck2, nck3, List.length_cons, List.length_nil, Nat.reduceAdd, Nat.reduceSub, Nat.reduceLeDiff, Nat.reduceEqDiff, Nat.reduceLT, reduceIte, ite_true, ite_false, Nat.sub_zero, Nat.zero_le, true_and, and_true, and_self, true_or, or_true, if_true, if_false, true_implies, implies_true, not_true_eq_false, not_false_eq_true, false_implies, forall_const, ne_eq, or_self, and_false, false_and, Lt, Le, Eq', Cp, In, nI_add, nI_mul, nI_sub, nI_sub1, Neg0, bI_eq0, bI_eq1, bI_01, bft, up2_eq, up2_no, Bool.true_eq_false, Bool.false_eq_true, eq_self, m1_ne, m1_ne2, m1_lt, m1_le, lt_m1, m1_le2, bI_t, bI_f, FMu hF, hd0, h6, h7])
    exact ih
  | true =>
    rw [hm] at hsn hsf
    (apply WP_run 20 80; simp (disch := first | decide | omega) only [t157_0, t157_1, lift_c, o_aload0, o_iload1, o_inl, o_virt3, rpush_n, rpush_s, o_istore, s1_0, s1_s, o_iload2, o_iload5, o_icge, o_iload7, o_getref, o_iaload, o_iload6, o_ifne, o_icne, o_goto, o_iinc7, o_ifeq, o_iload4, o_icle, o_iinc5, o_iload3, o_ireturn, z0, z1, z2, z8, z20, z31, z81, run_0, run_c, run_n, fxn, fxi, fxr, fxl, fxl0, ↓swi_n, ↓swi_c, nck0, nck1, nck2, nck3, List.length_cons, List.length_nil, Nat.reduceAdd, Nat.reduceSub, Nat.reduceLeDiff, Nat.reduceEqDiff, Nat.reduceLT, reduceIte, ite_true, ite_false, Nat.sub_zero, Nat.zero_le, true_and, and_true, and_self, true_or, or_true, if_true, if_false, true_implies, implies_true, not_true_eq_false, not_false_eq_true, false_implies, forall_const, ne_eq, or_self, and_false, false_and, Lt, Le, Eq', Cp, In, nI_add, nI_mul, nI_sub, nI_sub1, Neg0, bI_eq0, bI_eq1, bI_01, bft, up2_eq, up2_no, Bool.true_eq_false, Bool.false_eq_true, eq_self, m1_ne, m1_ne2, m1_lt, m1_le, lt_m1, m1_le2, bI_t, bI_f, FMu hF, hd0, h6, h7])
    refine pull_M hF hWI hG hi hc hd2 fun I1 he1 => ?_
    rw [h124, h128, h129, hFF]
    have ih := fun b mo e => ih I1 (some (.int (nI 1))) (some (.int (pullS F N i c))) b mo cc ss ((row_eo he1 124 scR_124).trans h124) ((row_eo he1 128 scR_128).trans h128) ((row_eo he1 129 scR_129).trans h129)
      (hG.eo he1 fun _ _ => scR_g) (fun k => fxi k _) (fun k => fxi k _) e (fun I' he => hQ I' (he1.tr he))
    clear hQ
    generalize pullS F N i c = pv at hsn hsf ih ⊢
    (apply WP_run 20 80; simp (disch := first | decide | omega) only [t157_0, t157_1, lift_c, o_aload0, o_iload1, o_inl, o_virt3, rpush_n, rpush_s, o_istore, s1_0, s1_s, o_iload2, o_iload5, o_icge, o_iload7, o_getref, o_iaload, o_iload6, o_ifne, o_icne, o_goto, o_iinc7, o_ifeq, o_iload4, o_icle, o_iinc5, o_iload3, o_ireturn, z0, z1, z2, z8, z20, z31, z81, run_0, run_c, run_n, fxn, fxi, fxr, fxl, fxl0, ↓swi_n, ↓swi_c, nck0, nck1, nck2, nck3, List.length_cons, List.length_nil, Nat.reduceAdd, Nat.reduceSub, Nat.reduceLeDiff, Nat.reduceEqDiff, Nat.reduceLT, reduceIte, ite_true, ite_false, Nat.sub_zero, Nat.zero_le, true_and, and_true, and_self, true_or, or_true, if_true, if_false, true_implies, implies_true, not_true_eq_false, not_false_eq_true, false_implies, forall_const, ne_eq, or_self, and_false, false_and, Lt, Le, Eq', Cp, In, nI_add, nI_mul, nI_sub, nI_sub1, Neg0, bI_eq0, bI_eq1, bI_01, bft, up2_eq, up2_no, Bool.true_eq_false, Bool.false_eq_true, eq_self, m1_ne, m1_ne2, m1_lt, m1_le, lt_m1, m1_le2, bI_t, bI_f, FMu hF, hd0, h6, h7])
    refine ⟨fun h => ?_, fun h => ?_⟩
    · exact ih _ _ (hsn fun q => absurd q.2 (Int32.not_lt.mpr h))
    · exact ih _ _ (hsf ⟨rfl, Int32.not_le.mp h⟩)
set_option maxHeartbeats 60000 in
theorem goes_L (hF : FM sh P) {F : TF} {N R S : TN} (hFF : FF R S = F) {k g r i h : Nat} (hW : WF N k g r) (hi : i < k) (hh : neq (ct N i) h) (hd : 35 ≤ d) : ∀ m c, c + m = 8 → goesP G d n sh L P Q F N R S r i h c
  | 0, c, hc => goes_Z hF hc
  | m + 1, c, hc => goes_S hF hFF hW hi hh hd (by omega) (goes_L hF hFF hW hi hh hd m (c + 1) (by omega))
theorem goesTo_M (hF : FM sh P) {I : TI} {k g r i : Nat} (hW : WF (I 124) k g r) (hG : RG I r) (hi : i < k) (hd : 35 ≤ d)
    (hQ : ∀ I', Eo scR I I' → Q (some (.int (nI (goS (FF (I 128) (I 129)) (I 124) i)))) n sh I' L P) : Cl G d 157 [.ref 123, .int (nI i)] n sh I L P Q := by
  apply e157
  have hF' := hF
  have hd0 : 0 < d := by omega
  have h6 := hW.k6
  obtain ⟨h1, h2⟩ := ct_eq hW hi
  (apply WP_run 20 80; simp (disch := first | decide | omega) only [t157_0, t157_1, lift_c, o_aload0, o_iload1, o_inl, o_virt3, rpush_n, rpush_s, o_istore, s1_0, s1_s, o_iload2, o_iload5, o_icge, o_iload7, o_getref, o_iaload, o_iload6, o_ifne, o_icne, o_goto, o_iinc7, o_ifeq, o_iload4, o_icle, o_iinc5, o_iload3, o_ireturn, z0, z1, z2, z8, z20, z31, z81, run_0, run_c, run_n, fxn, fxi, fxr, fxl, fxl0, ↓swi_n, ↓swi_c, nck0, nck1, nck2, nck3, List.length_cons, List.length_nil, Nat.reduceAdd, Nat.reduceSub, Nat.reduceLeDiff, Nat.reduceEqDiff, Nat.reduceLT, reduceIte, ite_true, ite_false, Nat.sub_zero, Nat.zero_le, true_and, and_true, and_self, true_or, or_true, if_true, if_false, true_implies, implies_true, not_true_eq_false, not_false_eq_true, false_implies, forall_const, ne_eq, or_self, and_false, false_and, Lt, Le, Eq', Cp, In, nI_add, nI_mul, nI_sub, nI_sub1, Neg0, bI_eq0, bI_eq1, bI_01, bft, up2_eq, up2_no, Bool.true_eq_false, Bool.false_eq_true, eq_self, m1_ne, m1_ne2, m1_lt, m1_le, lt_m1, m1_le2, bI_t, bI_f, FMu hF, hd0])
  refine goose_M hF' (w := 2) (by omega) (by decide) ?_
  (apply WP_run 20 80; simp (disch := first | decide | omega) only [t157_0, t157_1, lift_c, o_aload0, o_iload1, o_inl, o_virt3, rpush_n, rpush_s, o_istore, s1_0, s1_s, o_iload2, o_iload5, o_icge, o_iload7, o_getref, o_iaload, o_iload6, o_ifne, o_icne, o_goto, o_iinc7, o_ifeq, o_iload4, o_icle, o_iinc5, o_iload3, o_ireturn, z0, z1, z2, z8, z20, z31, z81, run_0, run_c, run_n, fxn, fxi, fxr, fxl, fxl0, ↓swi_n, ↓swi_c, nck0, nck1, nck2, nck3, List.length_cons, List.length_nil, Nat.reduceAdd, Nat.reduceSub, Nat.reduceLeDiff, Nat.reduceEqDiff, Nat.reduceLT, reduceIte, ite_true, ite_false, Nat.sub_zero, Nat.zero_le, true_and, and_true, and_self, true_or, or_true, if_true, if_false, true_implies, implies_true, not_true_eq_false, not_false_eq_true, false_implies, forall_const, ne_eq, or_self, and_false, false_and, Lt, Le, Eq', Cp, In, nI_add, nI_mul, nI_sub, nI_sub1, Neg0, bI_eq0, bI_eq1, bI_01, bft, up2_eq, up2_no, Bool.true_eq_false, Bool.false_eq_true, eq_self, m1_ne, m1_ne2, m1_lt, m1_le, lt_m1, m1_le2, bI_t, bI_f, FMu hF, hd0, h1])
  refine pull_M hF' hW hG hi h2 (by omega) fun I1 he1 => ?_
  have hL := goes_L (G := G) (n := n) (L := L) (Q := Q) hF' (R := I 128) (S := I 129) rfl hW hi (show neq _ _ from rfl) hd 8 0 (by omega) I1 none none _ _ 0 0 (row_eo he1 124 scR_124) (row_eo he1 128 scR_128) (row_eo he1 129 scR_129) (hG.eo he1 fun _ _ => scR_g) (fun k => fxn k) (fun k => fxn k) rfl (fun I' he b hb => by rw [← hb]; exact hQ I' (he1.tr he))
  (apply WP_run 20 80; simp (disch := first | decide | omega) only [t157_0, t157_1, lift_c, o_aload0, o_iload1, o_inl, o_virt3, rpush_n, rpush_s, o_istore, s1_0, s1_s, o_iload2, o_iload5, o_icge, o_iload7, o_getref, o_iaload, o_iload6, o_ifne, o_icne, o_goto, o_iinc7, o_ifeq, o_iload4, o_icle, o_iinc5, o_iload3, o_ireturn, z0, z1, z2, z8, z20, z31, z81, run_0, run_c, run_n, fxn, fxi, fxr, fxl, fxl0, ↓swi_n, ↓swi_c, nck0, nck1, nck2, nck3, List.length_cons, List.length_nil, Nat.reduceAdd, Nat.reduceSub, Nat.reduceLeDiff, Nat.reduceEqDiff, Nat.reduceLT, reduceIte, ite_true, ite_false, Nat.sub_zero, Nat.zero_le, true_and, and_true, and_self, true_or, or_true, if_true, if_false, true_implies, implies_true, not_true_eq_false, not_false_eq_true, false_implies, forall_const, ne_eq, or_self, and_false, false_and, Lt, Le, Eq', Cp, In, nI_add, nI_mul, nI_sub, nI_sub1, Neg0, bI_eq0, bI_eq1, bI_01, bft, up2_eq, up2_no, Bool.true_eq_false, Bool.false_eq_true, eq_self, m1_ne, m1_ne2, m1_lt, m1_le, lt_m1, m1_le2, bI_t, bI_f, FMu hF, hd0])
  exact hL
end
