/-! ### the reference's reader: factors and their chains -/
theorem takS_le (t : TN) (z : Nat) (p : PS) (c : Int32) : p.1 ≤ (takS t z p c).1 := by
  unfold takS
  split
  · exact Nat.le_succ _
  · exact Nat.le_refl _
theorem numS_le (t : TN) (z : Nat) (p : PS) : p.1 ≤ (numS t z p).1.1 := by
  unfold numS
  split
  · split
    · exact Nat.le_add_right _ _
    · exact Nat.le_succ _
  · exact Nat.le_refl _
theorem tstS_le (t : TN) (z : Nat) (p : PS) : p.1 ≤ (tstS t z p).1.1 := by
  unfold tstS
  split
  · exact Nat.le_refl _
  · exact Nat.le_trans (Nat.le_succ _) (Nat.le_trans (takS_le t z (p.1 + 1, p.2) _) (numS_le t z _))
/-- reading goes forward -/
def fwd (f : PS → PS × List SP) : Prop := ∀ p, p.1 ≤ (f p).1.1
theorem lopS_le {t : TN} {z : Nat} {f : PS → PS × List SP} (hf : fwd f) (c : Int32) (o : Nat) : ∀ (m : Nat) (q : PS × List SP), q.1.1 ≤ (lopS t z f c o m q).1.1
  | 0, q => Nat.le_refl _
  | m + 1, q => by
    unfold lopS
    split
    · exact Nat.le_trans (Nat.le_succ _) (Nat.le_trans (hf (q.1.1 + 1, q.1.2)) (lopS_le hf c o m ((f (q.1.1 + 1, q.1.2)).1, q.2 ++ ((f (q.1.1 + 1, q.1.2)).2 ++ [(o, 0, nI 0)]))))
    · exact Nat.le_refl _
theorem botS_le {t : TN} {z : Nat} {f : PS → PS × List SP} (hf : fwd f) : fwd (botS t z f) := fun p => Nat.le_trans (hf p) (lopS_le hf _ _ _ _)
theorem anyS_le {t : TN} {z : Nat} {f : PS → PS × List SP} (hf : fwd f) : fwd (anyS t z f) := fun p => Nat.le_trans (botS_le hf p) (lopS_le (botS_le hf) _ _ _ _)
theorem facS_le (t : TN) (z : Nat) : ∀ m, fwd (facS t z m)
  | 0, p => tstS_le t z p
  | m + 1, p => by
    unfold facS
    split
    · exact Nat.le_trans (Nat.le_succ _) (facS_le t z m (p.1 + 1, p.2))
    · split
      · exact Nat.le_trans (Nat.le_succ _) (Nat.le_trans (anyS_le (facS_le t z m) (p.1 + 1, p.2)) (takS_le t z _ _))
      · exact tstS_le t z p
/-- a method of the reference's reader does what f does -/
def RdM (G : GE) (y : Nat) (w : Int32) (dd : Nat) (t : TN) (z : Nat) (nm : TN) (f : PS → PS × List SP) : Prop :=
  ∀ (d n : Nat) (sh : TS) (I : TI) (L : TL) (P : TP) (Q : TQ) (p : PS), FM sh P → RC I t z p nm → I 123 13 = w → dd ≤ d →
    (∀ I' b, Eo scP I I' → PA I' t z (f p).1 → ((f p).1.2 = true → one nm (f p).2 b) → Q (some (.int (bI b))) n sh I' L P) → Cl G d y [.ref 123] n sh I L P Q
theorem scP_13 {I I' : TI} (h : Eo scP I I') : I' 123 13 = I 123 13 := h 123 13 fun q => by rcases q.2 with q | q <;> cases q
section
variable {G : GE} {d n : Nat} {sh : TS} {I : TI} {L : TL} {P : TP} {Q : TQ} {t : TN} {z : Nat} {nm : TN} {w : Int32} {dd : Nat} {f : PS → PS × List SP}
theorem both_L (hF : FM sh P) (hf : fwd f) (hM : RdM G 146 w dd t z nm f) (hd : dd + 2 ≤ d) : ∀ (m : Nat) (I : TI) (q : PS × List SP) (b : Bool) (o : Option Value) (cc ss : Nat), (∀ k, fx k o = o) → RC I t z q.1 nm → I 123 13 = w → z ≤ q.1.1 + m → (q.1.2 = true → one nm q.2 b) →
    (∀ I' b, Eo scP I I' → PA I' t z (lopS t z f (nI 38) 4 m q).1 → ((lopS t z f (nI 38) 4 m q).1.2 = true → one nm (lopS t z f (nI 38) 4 m q).2 b) → Q (some (.int (bI b))) n sh I' L P) →
    WP G 147 d Q 5 [some (.ref 123), some (.int (bI b)), o] [] cc ss n sh I L P
  | 0, I, q, b, o, cc, ss, ho, hp, hw, hz, hb, hQ => by
    have hF' := hF
    have hd0 : 0 < d := by omega
    (apply WP_run 5 80; simp (disch := first | decide | omega) only [t147_0, lift_c, o_aload0, o_virt1, rpush_n, rpush_s, o_istore, s1_0, s1_s, o_inl, o_virt2, o_ifeq, o_dupi, o_dupr, o_getfield, o_iadd, o_putfield, o_iload1, o_iload2, o_goto, o_ireturn, z0, z1, z2, z20, z31, z38, run_0, run_c, run_n, fxn, fxi, fxr, fxl, fxl0, ↓swi_n, ↓swi_c, nck0, nck1, nck2, nck3, List.length_cons, List.length_nil, Nat.reduceAdd, Nat.reduceSub, Nat.reduceLeDiff, Nat.reduceEqDiff, Nat.reduceLT, reduceIte, ite_true, ite_false, Nat.sub_zero, Nat.zero_le, true_and, and_true, and_self, true_or, or_true, if_true, if_false, true_implies, implies_true, not_true_eq_false, not_false_eq_true, false_implies, forall_const, ne_eq, or_self, and_false, false_and, Lt, Le, Eq', Cp, In, nI_add, nI_mul, nI_sub, nI_sub1, Neg0, bI_eq0, bI_eq1, bI_01, bft, up2_eq, up2_no, Bool.true_eq_false, Bool.false_eq_true, eq_self, m1_ne, m1_ne2, m1_lt, m1_le, lt_m1, m1_le2, bI_t, bI_f, FMu hF, hd0, ho])
    apply isAt_M hF' hp.1
    have h0 : atS t z q.1 (nI 38) = false := by
      cases h : atS t z q.1 (nI 38) with
      | false => rfl
      | true => have := atS_lt h; omega
    (apply WP_run 5 80; simp (disch := first | decide | omega) only [t147_0, lift_c, o_aload0, o_virt1, rpush_n, rpush_s, o_istore, s1_0, s1_s, o_inl, o_virt2, o_ifeq, o_dupi, o_dupr, o_getfield, o_iadd, o_putfield, o_iload1, o_iload2, o_goto, o_ireturn, z0, z1, z2, z20, z31, z38, run_0, run_c, run_n, fxn, fxi, fxr, fxl, fxl0, ↓swi_n, ↓swi_c, nck0, nck1, nck2, nck3, List.length_cons, List.length_nil, Nat.reduceAdd, Nat.reduceSub, Nat.reduceLeDiff, Nat.reduceEqDiff, Nat.reduceLT, reduceIte, ite_true, ite_false, Nat.sub_zero, Nat.zero_le, true_and, and_true, and_self, true_or, or_true, if_true, if_false, true_implies, implies_true, not_true_eq_false, not_false_eq_true, false_implies, forall_const, ne_eq, or_self, and_false, false_and, Lt, Le, Eq', Cp, In, nI_add, nI_mul, nI_sub, nI_sub1, Neg0, bI_eq0, bI_eq1, bI_01, bft, up2_eq, up2_no, Bool.true_eq_false, Bool.false_eq_true, eq_self, m1_ne, m1_ne2, m1_lt, m1_le, lt_m1, m1_le2, bI_t, bI_f, FMu hF, hd0, ho, h0])
    exact hQ I b Eo.rf hp.1 hb
  | m + 1, I, q, b, o, cc, ss, ho, hp, hw, hz, hb, hQ => by
    have hF' := hF
    have hd0 : 0 < d := by omega
    have ha := hp.1.a
    have h1 := hp.1.z100
    have h3 := hp.1.le
    (apply WP_run 5 80; simp (disch := first | decide | omega) only [t147_0, lift_c, o_aload0, o_virt1, rpush_n, rpush_s, o_istore, s1_0, s1_s, o_inl, o_virt2, o_ifeq, o_dupi, o_dupr, o_getfield, o_iadd, o_putfield, o_iload1, o_iload2, o_goto, o_ireturn, z0, z1, z2, z20, z31, z38, run_0, run_c, run_n, fxn, fxi, fxr, fxl, fxl0, ↓swi_n, ↓swi_c, nck0, nck1, nck2, nck3, List.length_cons, List.length_nil, Nat.reduceAdd, Nat.reduceSub, Nat.reduceLeDiff, Nat.reduceEqDiff, Nat.reduceLT, reduceIte, ite_true, ite_false, Nat.sub_zero, Nat.zero_le, true_and, and_true, and_self, true_or, or_true, if_true, if_false, true_implies, implies_true, not_true_eq_false, not_false_eq_true, false_implies, forall_const, ne_eq, or_self, and_false, false_and, Lt, Le, Eq', Cp, In, nI_add, nI_mul, nI_sub, nI_sub1, Neg0, bI_eq0, bI_eq1, bI_01, bft, up2_eq, up2_no, Bool.true_eq_false, Bool.false_eq_true, eq_self, m1_ne, m1_ne2, m1_lt, m1_le, lt_m1, m1_le2, bI_t, bI_f, FMu hF, hd0, ho])
    apply isAt_M hF' hp.1
    cases h0 : atS t z q.1 (nI 38) with
    | false =>
      have e : lopS t z f (nI 38) 4 (m + 1) q = q := by unfold lopS; simp [h0]
      rw [e] at hQ
      (apply WP_run 5 80; simp (disch := first | decide | omega) only [t147_0, lift_c, o_aload0, o_virt1, rpush_n, rpush_s, o_istore, s1_0, s1_s, o_inl, o_virt2, o_ifeq, o_dupi, o_dupr, o_getfield, o_iadd, o_putfield, o_iload1, o_iload2, o_goto, o_ireturn, z0, z1, z2, z20, z31, z38, run_0, run_c, run_n, fxn, fxi, fxr, fxl, fxl0, ↓swi_n, ↓swi_c, nck0, nck1, nck2, nck3, List.length_cons, List.length_nil, Nat.reduceAdd, Nat.reduceSub, Nat.reduceLeDiff, Nat.reduceEqDiff, Nat.reduceLT, reduceIte, ite_true, ite_false, Nat.sub_zero, Nat.zero_le, true_and, and_true, and_self, true_or, or_true, if_true, if_false, true_implies, implies_true, not_true_eq_false, not_false_eq_true, false_implies, forall_const, ne_eq, or_self, and_false, false_and, Lt, Le, Eq', Cp, In, nI_add, nI_mul, nI_sub, nI_sub1, Neg0, bI_eq0, bI_eq1, bI_01, bft, up2_eq, up2_no, Bool.true_eq_false, Bool.false_eq_true, eq_self, m1_ne, m1_ne2, m1_lt, m1_le, lt_m1, m1_le2, bI_t, bI_f, FMu hF, hd0, ho])
      exact hQ I b Eo.rf hp.1 hb
    | true =>
      have e : lopS t z f (nI 38) 4 (m + 1) q = lopS t z f (nI 38) 4 m ((f (q.1.1 + 1, q.1.2)).1, q.2 ++ ((f (q.1.1 + 1, q.1.2)).2 ++ [(4, 0, nI 0)])) := by rw [lopS]; simp [h0]
      rw [e] at hQ
      have hl := atS_lt h0
      have hw0 := atS_w h0
      have hp2 := hp.1.inc hl
      have e2 : Eo scP I (up2 I 123 11 (nI (q.1.1 + 1))) := Eo.up Eo.rf ⟨rfl, Or.inl rfl⟩ _
      have hR2 := hp.eo e2 hp2
      (apply WP_run 5 80; simp (disch := first | decide | omega) only [t147_0, lift_c, o_aload0, o_virt1, rpush_n, rpush_s, o_istore, s1_0, s1_s, o_inl, o_virt2, o_ifeq, o_dupi, o_dupr, o_getfield, o_iadd, o_putfield, o_iload1, o_iload2, o_goto, o_ireturn, z0, z1, z2, z20, z31, z38, run_0, run_c, run_n, fxn, fxi, fxr, fxl, fxl0, ↓swi_n, ↓swi_c, nck0, nck1, nck2, nck3, List.length_cons, List.length_nil, Nat.reduceAdd, Nat.reduceSub, Nat.reduceLeDiff, Nat.reduceEqDiff, Nat.reduceLT, reduceIte, ite_true, ite_false, Nat.sub_zero, Nat.zero_le, true_and, and_true, and_self, true_or, or_true, if_true, if_false, true_implies, implies_true, not_true_eq_false, not_false_eq_true, false_implies, forall_const, ne_eq, or_self, and_false, false_and, Lt, Le, Eq', Cp, In, nI_add, nI_mul, nI_sub, nI_sub1, Neg0, bI_eq0, bI_eq1, bI_01, bft, up2_eq, up2_no, Bool.true_eq_false, Bool.false_eq_true, eq_self, m1_ne, m1_ne2, m1_lt, m1_le, lt_m1, m1_le2, bI_t, bI_f, FMu hF, hd0, ho, ha])
      refine hM _ _ _ _ _ _ _ _ hF' hR2 ((scP_13 e2).trans hw) (by omega) fun I3 b3 he3 hp3 hb3 => ?_
      have ih := both_L hF' hf hM hd m I3 ((f (q.1.1 + 1, q.1.2)).1, q.2 ++ ((f (q.1.1 + 1, q.1.2)).2 ++ [(4, 0, nI 0)])) (b && b3) (some (.int (bI b3))) cc ss (fun k => fxi k _) (hR2.eo he3 hp3) ((scP_13 he3).trans ((scP_13 e2).trans hw))
        (by have := hf (q.1.1 + 1, q.1.2); have : q.1.1 + 1 ≤ (f (q.1.1 + 1, q.1.2)).1.1 := this; show z ≤ (f (q.1.1 + 1, q.1.2)).1.1 + m; omega) (fun h => one_and (hb hw0) (hb3 h) _) (fun I' b he => hQ I' b (e2.tr (he3.tr he)))
      cases b <;> cases b3 <;> ((apply WP_run 5 80; simp (disch := first | decide | omega) only [t147_0, lift_c, o_aload0, o_virt1, rpush_n, rpush_s, o_istore, s1_0, s1_s, o_inl, o_virt2, o_ifeq, o_dupi, o_dupr, o_getfield, o_iadd, o_putfield, o_iload1, o_iload2, o_goto, o_ireturn, z0, z1, z2, z20, z31, z38, run_0, run_c, run_n, fxn, fxi, fxr, fxl, fxl0, ↓swi_n, ↓swi_c, nck0, nck1, nck2, nck3, List.length_cons, List.length_nil, Nat.reduceAdd, Nat.reduceSub, Nat.reduceLeDiff, Nat.reduceEqDiff, Nat.reduceLT, reduceIte, ite_true, ite_false, Nat.sub_zero, Nat.zero_le, true_and, and_true, and_self, true_or, or_true, if_true, if_false, true_implies, implies_true, not_true_eq_false, not_false_eq_true, false_implies, forall_const, ne_eq, or_self, and_false, false_and, Lt, Le, Eq', Cp, In, nI_add, nI_mul, nI_sub, nI_sub1, Neg0, bI_eq0, bI_eq1, bI_01, bft, up2_eq, up2_no, Bool.true_eq_false, Bool.false_eq_true, eq_self, m1_ne, m1_ne2, m1_lt, m1_le, lt_m1, m1_le2, bI_t, bI_f, FMu hF, hd0, ho]); exact ih)
theorem both_M (hf : fwd f) (hM : RdM G 146 w dd t z nm f) : RdM G 147 w (dd + 2) t z nm (botS t z f) := by
  intro d n sh I L P Q p hF hp hw hd hQ
  apply e147
  have hd0 : 0 < d := by omega
  have hF' := hF
  (apply WP_run 5 80; simp (disch := first | decide | omega) only [t147_0, lift_c, o_aload0, o_virt1, rpush_n, rpush_s, o_istore, s1_0, s1_s, o_inl, o_virt2, o_ifeq, o_dupi, o_dupr, o_getfield, o_iadd, o_putfield, o_iload1, o_iload2, o_goto, o_ireturn, z0, z1, z2, z20, z31, z38, run_0, run_c, run_n, fxn, fxi, fxr, fxl, fxl0, ↓swi_n, ↓swi_c, nck0, nck1, nck2, nck3, List.length_cons, List.length_nil, Nat.reduceAdd, Nat.reduceSub, Nat.reduceLeDiff, Nat.reduceEqDiff, Nat.reduceLT, reduceIte, ite_true, ite_false, Nat.sub_zero, Nat.zero_le, true_and, and_true, and_self, true_or, or_true, if_true, if_false, true_implies, implies_true, not_true_eq_false, not_false_eq_true, false_implies, forall_const, ne_eq, or_self, and_false, false_and, Lt, Le, Eq', Cp, In, nI_add, nI_mul, nI_sub, nI_sub1, Neg0, bI_eq0, bI_eq1, bI_01, bft, up2_eq, up2_no, Bool.true_eq_false, Bool.false_eq_true, eq_self, m1_ne, m1_ne2, m1_lt, m1_le, lt_m1, m1_le2, bI_t, bI_f, FMu hF, hd0])
  refine hM _ _ _ _ _ _ _ _ hF' hp hw (by omega) fun I3 b3 he3 hp3 hb3 => ?_
  have hL := both_L (n := n) (L := L) (Q := Q) hF' hf hM hd z I3 (f p) b3 none 0 0 (fun k => fxn k) (hp.eo he3 hp3) ((scP_13 he3).trans hw) (by omega) hb3 (fun I' b he => hQ I' b (he3.tr he))
  (apply WP_run 5 80; simp (disch := first | decide | omega) only [t147_0, lift_c, o_aload0, o_virt1, rpush_n, rpush_s, o_istore, s1_0, s1_s, o_inl, o_virt2, o_ifeq, o_dupi, o_dupr, o_getfield, o_iadd, o_putfield, o_iload1, o_iload2, o_goto, o_ireturn, z0, z1, z2, z20, z31, z38, run_0, run_c, run_n, fxn, fxi, fxr, fxl, fxl0, ↓swi_n, ↓swi_c, nck0, nck1, nck2, nck3, List.length_cons, List.length_nil, Nat.reduceAdd, Nat.reduceSub, Nat.reduceLeDiff, Nat.reduceEqDiff, Nat.reduceLT, reduceIte, ite_true, ite_false, Nat.sub_zero, Nat.zero_le, true_and, and_true, and_self, true_or, or_true, if_true, if_false, true_implies, implies_true, not_true_eq_false, not_false_eq_true, false_implies, forall_const, ne_eq, or_self, and_false, false_and, Lt, Le, Eq', Cp, In, nI_add, nI_mul, nI_sub, nI_sub1, Neg0, bI_eq0, bI_eq1, bI_01, bft, up2_eq, up2_no, Bool.true_eq_false, Bool.false_eq_true, eq_self, m1_ne, m1_ne2, m1_lt, m1_le, lt_m1, m1_le2, bI_t, bI_f, FMu hF, hd0])
  exact hL
theorem any_L (hF : FM sh P) (hf : fwd f) (hM : RdM G 147 w dd t z nm f) (hd : dd + 2 ≤ d) : ∀ (m : Nat) (I : TI) (q : PS × List SP) (b : Bool) (o : Option Value) (cc ss : Nat), (∀ k, fx k o = o) → RC I t z q.1 nm → I 123 13 = w → z ≤ q.1.1 + m → (q.1.2 = true → one nm q.2 b) →
    (∀ I' b, Eo scP I I' → PA I' t z (lopS t z f (nI 124) 5 m q).1 → ((lopS t z f (nI 124) 5 m q).1.2 = true → one nm (lopS t z f (nI 124) 5 m q).2 b) → Q (some (.int (bI b))) n sh I' L P) →
    WP G 148 d Q 5 [some (.ref 123), some (.int (bI b)), o] [] cc ss n sh I L P
  | 0, I, q, b, o, cc, ss, ho, hp, hw, hz, hb, hQ => by
    have hF' := hF
    have hd0 : 0 < d := by omega
    (apply WP_run 5 80; simp (disch := first | decide | omega) only [t148_0, lift_c, o_aload0, o_virt1, rpush_n, rpush_s, o_istore, s1_0, s1_s, o_inl, o_virt2, o_ifeq, o_dupi, o_dupr, o_getfield, o_iadd, o_putfield, o_iload1, o_ifne, o_iload2, o_goto, o_ireturn, z0, z1, z2, z20, z31, z124, run_0, run_c, run_n, fxn, fxi, fxr, fxl, fxl0, ↓swi_n, ↓swi_c, nck0, nck1, nck2, nck3, List.length_cons, List.length_nil, Nat.reduceAdd, Nat.reduceSub, Nat.reduceLeDiff, Nat.reduceEqDiff, Nat.reduceLT, reduceIte, ite_true, ite_false, Nat.sub_zero, Nat.zero_le, true_and, and_true, and_self, true_or, or_true, if_true, if_false, true_implies, implies_true, not_true_eq_false, not_false_eq_true, false_implies, forall_const, ne_eq, or_self, and_false, false_and, Lt, Le, Eq', Cp, In, nI_add, nI_mul, nI_sub, nI_sub1, Neg0, bI_eq0, bI_eq1, bI_01, bft, up2_eq, up2_no, Bool.true_eq_false, Bool.false_eq_true, eq_self, m1_ne, m1_ne2, m1_lt, m1_le, lt_m1, m1_le2, bI_t, bI_f, FMu hF, hd0, ho])
    apply isAt_M hF' hp.1
    have h0 : atS t z q.1 (nI 124) = false := by
      cases h : atS t z q.1 (nI 124) with
      | false => rfl
      | true => have := atS_lt h; omega
    (apply WP_run 5 80; simp (disch := first | decide | omega) only [t148_0, lift_c, o_aload0, o_virt1, rpush_n, rpush_s, o_istore, s1_0, s1_s, o_inl, o_virt2, o_ifeq, o_dupi, o_dupr, o_getfield, o_iadd, o_putfield, o_iload1, o_ifne, o_iload2, o_goto, o_ireturn, z0, z1, z2, z20, z31, z124, run_0, run_c, run_n, fxn, fxi, fxr, fxl, fxl0, ↓swi_n, ↓swi_c, nck0, nck1, nck2, nck3, List.length_cons, List.length_nil, Nat.reduceAdd, Nat.reduceSub, Nat.reduceLeDiff, Nat.reduceEqDiff, Nat.reduceLT, reduceIte, ite_true, ite_false, Nat.sub_zero, Nat.zero_le, true_and, and_true, and_self, true_or, or_true, if_true, if_false, true_implies, implies_true, not_true_eq_false, not_false_eq_true, false_implies, forall_const, ne_eq, or_self, and_false, false_and, Lt, Le, Eq', Cp, In, nI_add, nI_mul, nI_sub, nI_sub1, Neg0, bI_eq0, bI_eq1, bI_01, bft, up2_eq, up2_no, Bool.true_eq_false, Bool.false_eq_true, eq_self, m1_ne, m1_ne2, m1_lt, m1_le, lt_m1, m1_le2, bI_t, bI_f, FMu hF, hd0, ho, h0])
    exact hQ I b Eo.rf hp.1 hb
  | m + 1, I, q, b, o, cc, ss, ho, hp, hw, hz, hb, hQ => by
    have hF' := hF
    have hd0 : 0 < d := by omega
    have ha := hp.1.a
    have h1 := hp.1.z100
    have h3 := hp.1.le
    (apply WP_run 5 80; simp (disch := first | decide | omega) only [t148_0, lift_c, o_aload0, o_virt1, rpush_n, rpush_s, o_istore, s1_0, s1_s, o_inl, o_virt2, o_ifeq, o_dupi, o_dupr, o_getfield, o_iadd, o_putfield, o_iload1, o_ifne, o_iload2, o_goto, o_ireturn, z0, z1, z2, z20, z31, z124, run_0, run_c, run_n, fxn, fxi, fxr, fxl, fxl0, ↓swi_n, ↓swi_c, nck0, nck1, nck2, nck3, List.length_cons, List.length_nil, Nat.reduceAdd, Nat.reduceSub, Nat.reduceLeDiff, Nat.reduceEqDiff, Nat.reduceLT, reduceIte, ite_true, ite_false, Nat.sub_zero, Nat.zero_le, true_and, and_true, and_self, true_or, or_true, if_true, if_false, true_implies, implies_true, not_true_eq_false, not_false_eq_true, false_implies, forall_const, ne_eq, or_self, and_false, false_and, Lt, Le, Eq', Cp, In, nI_add, nI_mul, nI_sub, nI_sub1, Neg0, bI_eq0, bI_eq1, bI_01, bft, up2_eq, up2_no, Bool.true_eq_false, Bool.false_eq_true, eq_self, m1_ne, m1_ne2, m1_lt, m1_le, lt_m1, m1_le2, bI_t, bI_f, FMu hF, hd0, ho])
    apply isAt_M hF' hp.1
    cases h0 : atS t z q.1 (nI 124) with
    | false =>
      have e : lopS t z f (nI 124) 5 (m + 1) q = q := by unfold lopS; simp [h0]
      rw [e] at hQ
      (apply WP_run 5 80; simp (disch := first | decide | omega) only [t148_0, lift_c, o_aload0, o_virt1, rpush_n, rpush_s, o_istore, s1_0, s1_s, o_inl, o_virt2, o_ifeq, o_dupi, o_dupr, o_getfield, o_iadd, o_putfield, o_iload1, o_ifne, o_iload2, o_goto, o_ireturn, z0, z1, z2, z20, z31, z124, run_0, run_c, run_n, fxn, fxi, fxr, fxl, fxl0, ↓swi_n, ↓swi_c, nck0, nck1, nck2, nck3, List.length_cons, List.length_nil, Nat.reduceAdd, Nat.reduceSub, Nat.reduceLeDiff, Nat.reduceEqDiff, Nat.reduceLT, reduceIte, ite_true, ite_false, Nat.sub_zero, Nat.zero_le, true_and, and_true, and_self, true_or, or_true, if_true, if_false, true_implies, implies_true, not_true_eq_false, not_false_eq_true, false_implies, forall_const, ne_eq, or_self, and_false, false_and, Lt, Le, Eq', Cp, In, nI_add, nI_mul, nI_sub, nI_sub1, Neg0, bI_eq0, bI_eq1, bI_01, bft, up2_eq, up2_no, Bool.true_eq_false, Bool.false_eq_true, eq_self, m1_ne, m1_ne2, m1_lt, m1_le, lt_m1, m1_le2, bI_t, bI_f, FMu hF, hd0, ho])
      exact hQ I b Eo.rf hp.1 hb
    | true =>
      have e : lopS t z f (nI 124) 5 (m + 1) q = lopS t z f (nI 124) 5 m ((f (q.1.1 + 1, q.1.2)).1, q.2 ++ ((f (q.1.1 + 1, q.1.2)).2 ++ [(5, 0, nI 0)])) := by rw [lopS]; simp [h0]
      rw [e] at hQ
      have hl := atS_lt h0
      have hw0 := atS_w h0
      have hp2 := hp.1.inc hl
      have e2 : Eo scP I (up2 I 123 11 (nI (q.1.1 + 1))) := Eo.up Eo.rf ⟨rfl, Or.inl rfl⟩ _
      have hR2 := hp.eo e2 hp2
      (apply WP_run 5 80; simp (disch := first | decide | omega) only [t148_0, lift_c, o_aload0, o_virt1, rpush_n, rpush_s, o_istore, s1_0, s1_s, o_inl, o_virt2, o_ifeq, o_dupi, o_dupr, o_getfield, o_iadd, o_putfield, o_iload1, o_ifne, o_iload2, o_goto, o_ireturn, z0, z1, z2, z20, z31, z124, run_0, run_c, run_n, fxn, fxi, fxr, fxl, fxl0, ↓swi_n, ↓swi_c, nck0, nck1, nck2, nck3, List.length_cons, List.length_nil, Nat.reduceAdd, Nat.reduceSub, Nat.reduceLeDiff, Nat.reduceEqDiff, Nat.reduceLT, reduceIte, ite_true, ite_false, Nat.sub_zero, Nat.zero_le, true_and, and_true, and_self, true_or, or_true, if_true, if_false, true_implies, implies_true, not_true_eq_false, not_false_eq_true, false_implies, forall_const, ne_eq, or_self, and_false, false_and, Lt, Le, Eq', Cp, In, nI_add, nI_mul, nI_sub, nI_sub1, Neg0, bI_eq0, bI_eq1, bI_01, bft, up2_eq, up2_no, Bool.true_eq_false, Bool.false_eq_true, eq_self, m1_ne, m1_ne2, m1_lt, m1_le, lt_m1, m1_le2, bI_t, bI_f, FMu hF, hd0, ho, ha])
      refine hM _ _ _ _ _ _ _ _ hF' hR2 ((scP_13 e2).trans hw) (by omega) fun I3 b3 he3 hp3 hb3 => ?_
      have ih := any_L hF' hf hM hd m I3 ((f (q.1.1 + 1, q.1.2)).1, q.2 ++ ((f (q.1.1 + 1, q.1.2)).2 ++ [(5, 0, nI 0)])) (b || b3) (some (.int (bI b3))) cc ss (fun k => fxi k _) (hR2.eo he3 hp3) ((scP_13 he3).trans ((scP_13 e2).trans hw))
        (by have := hf (q.1.1 + 1, q.1.2); have : q.1.1 + 1 ≤ (f (q.1.1 + 1, q.1.2)).1.1 := this; show z ≤ (f (q.1.1 + 1, q.1.2)).1.1 + m; omega) (fun h => one_or (hb hw0) (hb3 h) _) (fun I' b he => hQ I' b (e2.tr (he3.tr he)))
      cases b <;> cases b3 <;> ((apply WP_run 5 80; simp (disch := first | decide | omega) only [t148_0, lift_c, o_aload0, o_virt1, rpush_n, rpush_s, o_istore, s1_0, s1_s, o_inl, o_virt2, o_ifeq, o_dupi, o_dupr, o_getfield, o_iadd, o_putfield, o_iload1, o_ifne, o_iload2, o_goto, o_ireturn, z0, z1, z2, z20, z31, z124, run_0, run_c, run_n, fxn, fxi, fxr, fxl, fxl0, ↓swi_n, ↓swi_c, nck0, nck1, nck2, nck3, List.length_cons, List.length_nil, Nat.reduceAdd, Nat.reduceSub, Nat.reduceLeDiff, Nat.reduceEqDiff, Nat.reduceLT, reduceIte, ite_true, ite_false, Nat.sub_zero, Nat.zero_le, true_and, and_true, and_self, true_or, or_true, if_true, if_false, true_implies, implies_true, not_true_eq_false, not_false_eq_true, false_implies, forall_const, ne_eq, or_self, and_false, false_and, Lt, Le, Eq', Cp, In, nI_add, nI_mul, nI_sub, nI_sub1, Neg0, bI_eq0, bI_eq1, bI_01, bft, up2_eq, up2_no, Bool.true_eq_false, Bool.false_eq_true, eq_self, m1_ne, m1_ne2, m1_lt, m1_le, lt_m1, m1_le2, bI_t, bI_f, FMu hF, hd0, ho]); exact ih)
theorem any_M (hf : fwd f) (hM : RdM G 147 w dd t z nm f) : RdM G 148 w (dd + 2) t z nm (fun p => lopS t z f (nI 124) 5 z (f p)) := by
  intro d n sh I L P Q p hF hp hw hd hQ
  apply e148
  have hd0 : 0 < d := by omega
  have hF' := hF
  (apply WP_run 5 80; simp (disch := first | decide | omega) only [t148_0, lift_c, o_aload0, o_virt1, rpush_n, rpush_s, o_istore, s1_0, s1_s, o_inl, o_virt2, o_ifeq, o_dupi, o_dupr, o_getfield, o_iadd, o_putfield, o_iload1, o_ifne, o_iload2, o_goto, o_ireturn, z0, z1, z2, z20, z31, z124, run_0, run_c, run_n, fxn, fxi, fxr, fxl, fxl0, ↓swi_n, ↓swi_c, nck0, nck1, nck2, nck3, List.length_cons, List.length_nil, Nat.reduceAdd, Nat.reduceSub, Nat.reduceLeDiff, Nat.reduceEqDiff, Nat.reduceLT, reduceIte, ite_true, ite_false, Nat.sub_zero, Nat.zero_le, true_and, and_true, and_self, true_or, or_true, if_true, if_false, true_implies, implies_true, not_true_eq_false, not_false_eq_true, false_implies, forall_const, ne_eq, or_self, and_false, false_and, Lt, Le, Eq', Cp, In, nI_add, nI_mul, nI_sub, nI_sub1, Neg0, bI_eq0, bI_eq1, bI_01, bft, up2_eq, up2_no, Bool.true_eq_false, Bool.false_eq_true, eq_self, m1_ne, m1_ne2, m1_lt, m1_le, lt_m1, m1_le2, bI_t, bI_f, FMu hF, hd0])
  refine hM _ _ _ _ _ _ _ _ hF' hp hw (by omega) fun I3 b3 he3 hp3 hb3 => ?_
  have hL := any_L (n := n) (L := L) (Q := Q) hF' hf hM hd z I3 (f p) b3 none 0 0 (fun k => fxn k) (hp.eo he3 hp3) ((scP_13 he3).trans hw) (by omega) hb3 (fun I' b he => hQ I' b (he3.tr he))
  (apply WP_run 5 80; simp (disch := first | decide | omega) only [t148_0, lift_c, o_aload0, o_virt1, rpush_n, rpush_s, o_istore, s1_0, s1_s, o_inl, o_virt2, o_ifeq, o_dupi, o_dupr, o_getfield, o_iadd, o_putfield, o_iload1, o_ifne, o_iload2, o_goto, o_ireturn, z0, z1, z2, z20, z31, z124, run_0, run_c, run_n, fxn, fxi, fxr, fxl, fxl0, ↓swi_n, ↓swi_c, nck0, nck1, nck2, nck3, List.length_cons, List.length_nil, Nat.reduceAdd, Nat.reduceSub, Nat.reduceLeDiff, Nat.reduceEqDiff, Nat.reduceLT, reduceIte, ite_true, ite_false, Nat.sub_zero, Nat.zero_le, true_and, and_true, and_self, true_or, or_true, if_true, if_false, true_implies, implies_true, not_true_eq_false, not_false_eq_true, false_implies, forall_const, ne_eq, or_self, and_false, false_and, Lt, Le, Eq', Cp, In, nI_add, nI_mul, nI_sub, nI_sub1, Neg0, bI_eq0, bI_eq1, bI_01, bft, up2_eq, up2_no, Bool.true_eq_false, Bool.false_eq_true, eq_self, m1_ne, m1_ne2, m1_lt, m1_le, lt_m1, m1_le2, bI_t, bI_f, FMu hF, hd0])
  exact hL
end
