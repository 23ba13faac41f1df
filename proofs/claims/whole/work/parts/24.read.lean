/-! ### the reference's reader: numbers, tests, factors -/
theorem digS_lt {t : TN} {z : Nat} {p : PS} (h : digS t z p = true) : p.1 < z := by
  simp [digS] at h; exact h.2.1
theorem digS_w {t : TN} {z : Nat} {p : PS} (h : digS t z p = true) : p.2 = true := by
  simp [digS] at h; exact h.1
section
variable {G : GE} {d n : Nat} {sh : TS} {I : TI} {L : TL} {P : TP} {Q : TQ} {t : TN} {z : Nat} {p : PS}
theorem number_M (hF : FM sh P) (hp : PA I t z p) (hd : 1 ≤ d) (hQ : ∀ I', Eo scP I I' → PA I' t z (numS t z p).1 → Q (some (.int (numS t z p).2)) n sh I' L P) : Cl G d 144 [.ref 123] n sh I L P Q := by
  apply e144
  have hF' := hF
  have hd0 : 0 < d := by omega
  have h1 := hp.z100
  have h4 := hp.a
  (apply WP_run 999 80; simp (disch := first | decide | omega) only [t144_0, t144_1, lift_c, o_aload0, o_virt1, rpush_n, rpush_s, o_ifne, o_inl, o_putbool, o_ireturn, o_getref, o_getfield, o_iaload, o_isub, o_istore, s1_0, s1_s, o_dupi, o_dupr, o_iadd, o_putfield, o_ifeq, o_iload1, o_imul, z0, z1, z2, z10, z20, z31, z48, run_0, run_c, run_n, fxn, fxi, fxr, fxl, fxl0, ↓swi_n, ↓swi_c, nck0, nck1, nck2, nck3, List.length_cons, List.length_nil, Nat.reduceAdd, Nat.reduceSub, Nat.reduceLeDiff, Nat.reduceEqDiff, Nat.reduceLT, reduceIte, ite_true, ite_false, Nat.sub_zero, Nat.zero_le, true_and, and_true, and_self, true_or, or_true, if_true, if_false, true_implies, implies_true, not_true_eq_false, not_false_eq_true, false_implies, forall_const, ne_eq, or_self, and_false, false_and, Lt, Le, Eq', Cp, In, nI_add, nI_mul, nI_sub, nI_sub1, Neg0, bI_eq0, bI_eq1, bI_01, bft, up2_eq, up2_no, Bool.true_eq_false, Bool.false_eq_true, eq_self, m1_ne, m1_ne2, m1_lt, m1_le, lt_m1, m1_le2, bI_t, bI_f, FMu hF, hd0])
  apply isDigit_M hF' hp
  cases hb : digS t z p with
  | false =>
    have e : numS t z p = ((p.1, false), nI 0) := by simp [numS, hb]
    rw [e] at hQ
    (apply WP_run 999 80; simp (disch := first | decide | omega) only [t144_0, t144_1, lift_c, o_aload0, o_virt1, rpush_n, rpush_s, o_ifne, o_inl, o_putbool, o_ireturn, o_getref, o_getfield, o_iaload, o_isub, o_istore, s1_0, s1_s, o_dupi, o_dupr, o_iadd, o_putfield, o_ifeq, o_iload1, o_imul, z0, z1, z2, z10, z20, z31, z48, run_0, run_c, run_n, fxn, fxi, fxr, fxl, fxl0, ↓swi_n, ↓swi_c, nck0, nck1, nck2, nck3, List.length_cons, List.length_nil, Nat.reduceAdd, Nat.reduceSub, Nat.reduceLeDiff, Nat.reduceEqDiff, Nat.reduceLT, reduceIte, ite_true, ite_false, Nat.sub_zero, Nat.zero_le, true_and, and_true, and_self, true_or, or_true, if_true, if_false, true_implies, implies_true, not_true_eq_false, not_false_eq_true, false_implies, forall_const, ne_eq, or_self, and_false, false_and, Lt, Le, Eq', Cp, In, nI_add, nI_mul, nI_sub, nI_sub1, Neg0, bI_eq0, bI_eq1, bI_01, bft, up2_eq, up2_no, Bool.true_eq_false, Bool.false_eq_true, eq_self, m1_ne, m1_ne2, m1_lt, m1_le, lt_m1, m1_le2, bI_t, bI_f, FMu hF, hd0])
    exact hQ _ (Eo.up Eo.rf ⟨rfl, Or.inr rfl⟩ _) hp.bad
  | true =>
    have hl := digS_lt hb
    have h7 := hp.txt hl
    have hp2 := hp.inc hl
    (apply WP_run 999 80; simp (disch := first | decide | omega) only [t144_0, t144_1, lift_c, o_aload0, o_virt1, rpush_n, rpush_s, o_ifne, o_inl, o_putbool, o_ireturn, o_getref, o_getfield, o_iaload, o_isub, o_istore, s1_0, s1_s, o_dupi, o_dupr, o_iadd, o_putfield, o_ifeq, o_iload1, o_imul, z0, z1, z2, z10, z20, z31, z48, run_0, run_c, run_n, fxn, fxi, fxr, fxl, fxl0, ↓swi_n, ↓swi_c, nck0, nck1, nck2, nck3, List.length_cons, List.length_nil, Nat.reduceAdd, Nat.reduceSub, Nat.reduceLeDiff, Nat.reduceEqDiff, Nat.reduceLT, reduceIte, ite_true, ite_false, Nat.sub_zero, Nat.zero_le, true_and, and_true, and_self, true_or, or_true, if_true, if_false, true_implies, implies_true, not_true_eq_false, not_false_eq_true, false_implies, forall_const, ne_eq, or_self, and_false, false_and, Lt, Le, Eq', Cp, In, nI_add, nI_mul, nI_sub, nI_sub1, Neg0, bI_eq0, bI_eq1, bI_01, bft, up2_eq, up2_no, Bool.true_eq_false, Bool.false_eq_true, eq_self, m1_ne, m1_ne2, m1_lt, m1_le, lt_m1, m1_le2, bI_t, bI_f, FMu hF, hd0, h4, h7])
    apply isDigit_M hF' hp2
    cases hb2 : digS t z (p.1 + 1, p.2) with
    | false =>
      have e : numS t z p = ((p.1 + 1, p.2), t p.1 - nI 48) := by simp [numS, hb, hb2]
      rw [e] at hQ
      (apply WP_run 999 80; simp (disch := first | decide | omega) only [t144_0, t144_1, lift_c, o_aload0, o_virt1, rpush_n, rpush_s, o_ifne, o_inl, o_putbool, o_ireturn, o_getref, o_getfield, o_iaload, o_isub, o_istore, s1_0, s1_s, o_dupi, o_dupr, o_iadd, o_putfield, o_ifeq, o_iload1, o_imul, z0, z1, z2, z10, z20, z31, z48, run_0, run_c, run_n, fxn, fxi, fxr, fxl, fxl0, ↓swi_n, ↓swi_c, nck0, nck1, nck2, nck3, List.length_cons, List.length_nil, Nat.reduceAdd, Nat.reduceSub, Nat.reduceLeDiff, Nat.reduceEqDiff, Nat.reduceLT, reduceIte, ite_true, ite_false, Nat.sub_zero, Nat.zero_le, true_and, and_true, and_self, true_or, or_true, if_true, if_false, true_implies, implies_true, not_true_eq_false, not_false_eq_true, false_implies, forall_const, ne_eq, or_self, and_false, false_and, Lt, Le, Eq', Cp, In, nI_add, nI_mul, nI_sub, nI_sub1, Neg0, bI_eq0, bI_eq1, bI_01, bft, up2_eq, up2_no, Bool.true_eq_false, Bool.false_eq_true, eq_self, m1_ne, m1_ne2, m1_lt, m1_le, lt_m1, m1_le2, bI_t, bI_f, FMu hF, hd0])
      exact hQ _ (Eo.up Eo.rf ⟨rfl, Or.inl rfl⟩ _) hp2
    | true =>
      have hl2 := digS_lt hb2
      have h8 := hp.txt hl2
      have h9 := hp2.inc hl2
      have hl3 : p.1 + 1 < z := hl2
      have e : numS t z p = ((p.1 + 2, p.2), nI 10 * (t p.1 - nI 48) + t (p.1 + 1) - nI 48) := by simp [numS, hb, hb2]
      rw [e] at hQ
      (apply WP_run 999 80; simp (disch := first | decide | omega) only [t144_0, t144_1, lift_c, o_aload0, o_virt1, rpush_n, rpush_s, o_ifne, o_inl, o_putbool, o_ireturn, o_getref, o_getfield, o_iaload, o_isub, o_istore, s1_0, s1_s, o_dupi, o_dupr, o_iadd, o_putfield, o_ifeq, o_iload1, o_imul, z0, z1, z2, z10, z20, z31, z48, run_0, run_c, run_n, fxn, fxi, fxr, fxl, fxl0, ↓swi_n, ↓swi_c, nck0, nck1, nck2, nck3, List.length_cons, List.length_nil, Nat.reduceAdd, Nat.reduceSub, Nat.reduceLeDiff, Nat.reduceEqDiff, Nat.reduceLT, reduceIte, ite_true, ite_false, Nat.sub_zero, Nat.zero_le, true_and, and_true, and_self, true_or, or_true, if_true, if_false, true_implies, implies_true, not_true_eq_false, not_false_eq_true, false_implies, forall_const, ne_eq, or_self, and_false, false_and, Lt, Le, Eq', Cp, In, nI_add, nI_mul, nI_sub, nI_sub1, Neg0, bI_eq0, bI_eq1, bI_01, bft, up2_eq, up2_no, Bool.true_eq_false, Bool.false_eq_true, eq_self, m1_ne, m1_ne2, m1_lt, m1_le, lt_m1, m1_le2, bI_t, bI_f, FMu hF, hd0, h8])
      exact hQ _ (Eo.up (Eo.up Eo.rf ⟨rfl, Or.inl rfl⟩ _) ⟨rfl, Or.inl rfl⟩ _) h9
end
/-- the tables, the names -/
def TB (I : TI) : Prop := (∀ j, j < 6 → I 132 j = letC j) ∧ I 133 0 = nI 108 ∧ I 133 1 = nI 115 ∧ I 133 2 = nI 101 ∧
  I 134 0 = nI 108 ∧ I 134 1 = nI 117 ∧ I 134 2 = nI 114 ∧ I 134 3 = nI 101 ∧ I 134 4 = nI 0 ∧ I 134 5 = nI 115 ∧ I 134 6 = nI 99 ∧ I 134 7 = nI 97 ∧ I 134 8 = nI 114 ∧ I 134 9 = nI 101 ∧
  I 134 10 = nI 101 ∧ I 134 11 = nI 97 ∧ I 134 12 = nI 116 ∧ I 134 13 = nI 0 ∧ I 134 14 = nI 0
def RC (I : TI) (t : TN) (z : Nat) (p : PS) (nm : TN) : Prop := PA I t z p ∧ TB I ∧ ∀ j, j < 6 → I 131 j = nm j
theorem TB.eo {I I' : TI} {S : Nat → Nat → Prop} (h : TB I) (he : Eo S I I') (hs : ∀ a j, S a j → ¬ (132 ≤ a ∧ a ≤ 134)) : TB I' := by
  have e : ∀ a j, 132 ≤ a → a ≤ 134 → I' a j = I a j := fun a j h1 h2 => he a j fun q => hs a j q ⟨h1, h2⟩
  unfold TB at h ⊢
  rw [e 133 0 (by omega) (by omega), e 133 1 (by omega) (by omega), e 133 2 (by omega) (by omega)]
  refine ⟨fun j hj => (e 132 j (by omega) (by omega)).trans (h.1 j hj), h.2.1, h.2.2.1, h.2.2.2.1, ?_⟩
  simp only [e 134 _ (show 132 ≤ 134 by omega) (show 134 ≤ 134 by omega)]
  exact h.2.2.2.2
theorem scP_not {a j : Nat} (h : scP a j) : a = 123 := h.1
theorem RC.eo {I I' : TI} {t : TN} {z : Nat} {p p' : PS} {nm : TN} (h : RC I t z p nm) (he : Eo scP I I') (hp : PA I' t z p') : RC I' t z p' nm :=
  ⟨hp, h.2.1.eo he (fun a j q => by have := q.1; omega), fun j hj => (he 131 j (fun q => by have := q.1; omega)).trans (h.2.2 j hj)⟩
def onI : Option Nat → Int32
  | none => -nI 1
  | some k => nI k
theorem letL_lt {t : TN} {z : Nat} {p : PS} : ∀ {m k : Nat}, letL t z p m = some k → k < m ∧ p.1 < z
  | 0, _, h => by simp [letL] at h
  | m + 1, k, h => by
    unfold letL at h
    split at h
    · rename_i h2
      have := atS_lt h2
      cases h
      exact ⟨by omega, this⟩
    · have := letL_lt h
      exact ⟨by omega, this.2⟩
section
variable {G : GE} {d n : Nat} {sh : TS} {I : TI} {L : TL} {P : TP} {Q : TQ} {t : TN} {z : Nat} {p : PS} {nm : TN}
theorem test_L (hF : FM sh P) (hp : RC I t z p nm) (hd : 1 ≤ d) (hQ : ∀ cc ss, WP G 145 d Q 35 [some (.ref 123), some (.int (onI (letL t z p 6))), some (.int (nI 6)), none] [] cc ss n sh I L P) : ∀ m j cc ss, j + m = 6 →
    WP G 145 d Q 4 [some (.ref 123), some (.int (onI (letL t z p j))), some (.int (nI j)), none] [] cc ss n sh I L P
  | 0, j, cc, ss, h => by
    have h : j = 6 := by omega
    subst h
    (apply WP_run 35 80; simp (disch := first | decide | omega) only [t145_0, t145_1, t145_2, lift_c, o_inl, o_istore, s1_0, s1_s, o_iload2, o_icge, o_aload0, o_getref, o_caload, o_virt2, rpush_n, rpush_s, o_ifeq, o_goto, o_iload1, o_iinc2, o_icne, o_putbool, o_ireturn, o_dupi, o_dupr, o_getfield, o_iadd, o_putfield, o_ifge, o_ifle, o_virt1, o_iaload, o_iload3, o_icle, z0, z1, z2, z6, z20, z31, z60, z61, z62, run_0, run_c, run_n, fxn, fxi, fxr, fxl, fxl0, ↓swi_n, ↓swi_c, nck0, nck1, nck2, nck3, List.length_cons, List.length_nil, Nat.reduceAdd, Nat.reduceSub, Nat.reduceLeDiff, Nat.reduceEqDiff, Nat.reduceLT, reduceIte, ite_true, ite_false, Nat.sub_zero, Nat.zero_le, true_and, and_true, and_self, true_or, or_true, if_true, if_false, true_implies, implies_true, not_true_eq_false, not_false_eq_true, false_implies, forall_const, ne_eq, or_self, and_false, false_and, Lt, Le, Eq', Cp, In, nI_add, nI_mul, nI_sub, nI_sub1, Neg0, bI_eq0, bI_eq1, bI_01, bft, up2_eq, up2_no, Bool.true_eq_false, Bool.false_eq_true, eq_self, m1_ne, m1_ne2, m1_lt, m1_le, lt_m1, m1_le2, bI_t, bI_f, Nat.le_refl])
    exact hQ _ _
  | m + 1, j, cc, ss, h => by
    have hF' := hF
    have hj : ¬ 6 ≤ j := by omega
    have hd0 : 0 < d := by omega
    have hc := hp.2.1.1 j (by omega)
    have ih := test_L hF' hp hd hQ m (j + 1) cc ss (by omega)
    (apply WP_run 4 80; simp (disch := first | decide | omega) only [t145_0, t145_1, t145_2, lift_c, o_inl, o_istore, s1_0, s1_s, o_iload2, o_icge, o_aload0, o_getref, o_caload, o_virt2, rpush_n, rpush_s, o_ifeq, o_goto, o_iload1, o_iinc2, o_icne, o_putbool, o_ireturn, o_dupi, o_dupr, o_getfield, o_iadd, o_putfield, o_ifge, o_ifle, o_virt1, o_iaload, o_iload3, o_icle, z0, z1, z2, z6, z20, z31, z60, z61, z62, run_0, run_c, run_n, fxn, fxi, fxr, fxl, fxl0, ↓swi_n, ↓swi_c, nck0, nck1, nck2, nck3, List.length_cons, List.length_nil, Nat.reduceAdd, Nat.reduceSub, Nat.reduceLeDiff, Nat.reduceEqDiff, Nat.reduceLT, reduceIte, ite_true, ite_false, Nat.sub_zero, Nat.zero_le, true_and, and_true, and_self, true_or, or_true, if_true, if_false, true_implies, implies_true, not_true_eq_false, not_false_eq_true, false_implies, forall_const, ne_eq, or_self, and_false, false_and, Lt, Le, Eq', Cp, In, nI_add, nI_mul, nI_sub, nI_sub1, Neg0, bI_eq0, bI_eq1, bI_01, bft, up2_eq, up2_no, Bool.true_eq_false, Bool.false_eq_true, eq_self, m1_ne, m1_ne2, m1_lt, m1_le, lt_m1, m1_le2, bI_t, bI_f, FMu hF, hd0, hj, hc])
    apply isAt_M hF' hp.1
    cases hb : atS t z p (letC j) with
    | false =>
      rw [show letL t z p (j + 1) = letL t z p j by simp [letL, hb]] at ih
      (apply WP_run 4 80; simp (disch := first | decide | omega) only [t145_0, t145_1, t145_2, lift_c, o_inl, o_istore, s1_0, s1_s, o_iload2, o_icge, o_aload0, o_getref, o_caload, o_virt2, rpush_n, rpush_s, o_ifeq, o_goto, o_iload1, o_iinc2, o_icne, o_putbool, o_ireturn, o_dupi, o_dupr, o_getfield, o_iadd, o_putfield, o_ifge, o_ifle, o_virt1, o_iaload, o_iload3, o_icle, z0, z1, z2, z6, z20, z31, z60, z61, z62, run_0, run_c, run_n, fxn, fxi, fxr, fxl, fxl0, ↓swi_n, ↓swi_c, nck0, nck1, nck2, nck3, List.length_cons, List.length_nil, Nat.reduceAdd, Nat.reduceSub, Nat.reduceLeDiff, Nat.reduceEqDiff, Nat.reduceLT, reduceIte, ite_true, ite_false, Nat.sub_zero, Nat.zero_le, true_and, and_true, and_self, true_or, or_true, if_true, if_false, true_implies, implies_true, not_true_eq_false, not_false_eq_true, false_implies, forall_const, ne_eq, or_self, and_false, false_and, Lt, Le, Eq', Cp, In, nI_add, nI_mul, nI_sub, nI_sub1, Neg0, bI_eq0, bI_eq1, bI_01, bft, up2_eq, up2_no, Bool.true_eq_false, Bool.false_eq_true, eq_self, m1_ne, m1_ne2, m1_lt, m1_le, lt_m1, m1_le2, bI_t, bI_f, FMu hF])
      exact ih
    | true =>
      rw [show letL t z p (j + 1) = some j by simp [letL, hb]] at ih
      (apply WP_run 4 80; simp (disch := first | decide | omega) only [t145_0, t145_1, t145_2, lift_c, o_inl, o_istore, s1_0, s1_s, o_iload2, o_icge, o_aload0, o_getref, o_caload, o_virt2, rpush_n, rpush_s, o_ifeq, o_goto, o_iload1, o_iinc2, o_icne, o_putbool, o_ireturn, o_dupi, o_dupr, o_getfield, o_iadd, o_putfield, o_ifge, o_ifle, o_virt1, o_iaload, o_iload3, o_icle, z0, z1, z2, z6, z20, z31, z60, z61, z62, run_0, run_c, run_n, fxn, fxi, fxr, fxl, fxl0, ↓swi_n, ↓swi_c, nck0, nck1, nck2, nck3, List.length_cons, List.length_nil, Nat.reduceAdd, Nat.reduceSub, Nat.reduceLeDiff, Nat.reduceEqDiff, Nat.reduceLT, reduceIte, ite_true, ite_false, Nat.sub_zero, Nat.zero_le, true_and, and_true, and_self, true_or, or_true, if_true, if_false, true_implies, implies_true, not_true_eq_false, not_false_eq_true, false_implies, forall_const, ne_eq, or_self, and_false, false_and, Lt, Le, Eq', Cp, In, nI_add, nI_mul, nI_sub, nI_sub1, Neg0, bI_eq0, bI_eq1, bI_01, bft, up2_eq, up2_no, Bool.true_eq_false, Bool.false_eq_true, eq_self, m1_ne, m1_ne2, m1_lt, m1_le, lt_m1, m1_le2, bI_t, bI_f, FMu hF])
      exact ih
def sgV (o : Nat) : Int32 := if o = 0 then -nI 1 else if o = 2 then nI 1 else nI 0
def cmpS (o : Nat) (x y : Int32) : Bool := if o = 0 then decide (x < y) else if o = 1 then decide (x = y) else decide (y < x)
theorem test_T (hF : FM sh P) (hp : RC I t z p nm) (hd : 2 ≤ d) {o k : Nat} (ho : o < 3) (hk : k < 6) (hQ : ∀ I', Eo scP I I' → PA I' t z (numS t z (takS t z p (sgC o))).1 → Q (some (.int (bI (cmpS o (nm k) (numS t z (takS t z p (sgC o))).2)))) n sh I' L P) {cc ss : Nat} :
    WP G 145 d Q 85 [some (.ref 123), some (.int (nI k)), some (.int (sgV o)), none] [] cc ss n sh I L P := by
  have hF' := hF
  have hd0 : 0 < d := by omega
  have ho : o = 0 ∨ o = 1 ∨ o = 2 := by omega
  rcases ho with rfl | rfl | rfl
  all_goals
    (apply WP_run 999 80; simp (disch := first | decide | omega) only [t145_0, t145_1, t145_2, lift_c, o_inl, o_istore, s1_0, s1_s, o_iload2, o_icge, o_aload0, o_getref, o_caload, o_virt2, rpush_n, rpush_s, o_ifeq, o_goto, o_iload1, o_iinc2, o_icne, o_putbool, o_ireturn, o_dupi, o_dupr, o_getfield, o_iadd, o_putfield, o_ifge, o_ifle, o_virt1, o_iaload, o_iload3, o_icle, z0, z1, z2, z6, z20, z31, z60, z61, z62, run_0, run_c, run_n, fxn, fxi, fxr, fxl, fxl0, ↓swi_n, ↓swi_c, nck0, nck1, nck2, nck3, List.length_cons, List.length_nil, Nat.reduceAdd, Nat.reduceSub, Nat.reduceLeDiff, Nat.reduceEqDiff, Nat.reduceLT, reduceIte, ite_true, ite_false, Nat.sub_zero, Nat.zero_le, true_and, and_true, and_self, true_or, or_true, if_true, if_false, true_implies, implies_true, not_true_eq_false, not_false_eq_true, false_implies, forall_const, ne_eq, or_self, and_false, false_and, Lt, Le, Eq', Cp, In, nI_add, nI_mul, nI_sub, nI_sub1, Neg0, bI_eq0, bI_eq1, bI_01, bft, up2_eq, up2_no, Bool.true_eq_false, Bool.false_eq_true, eq_self, m1_ne, m1_ne2, m1_lt, m1_le, lt_m1, m1_le2, bI_t, bI_f, FMu hF, sgV, hd0])
    apply takes_M hF' hp.1 (by omega)
    intro I1 he1 hp1
    have hR1 := hp.eo he1 hp1
    (apply WP_run 999 80; simp (disch := first | decide | omega) only [t145_0, t145_1, t145_2, lift_c, o_inl, o_istore, s1_0, s1_s, o_iload2, o_icge, o_aload0, o_getref, o_caload, o_virt2, rpush_n, rpush_s, o_ifeq, o_goto, o_iload1, o_iinc2, o_icne, o_putbool, o_ireturn, o_dupi, o_dupr, o_getfield, o_iadd, o_putfield, o_ifge, o_ifle, o_virt1, o_iaload, o_iload3, o_icle, z0, z1, z2, z6, z20, z31, z60, z61, z62, run_0, run_c, run_n, fxn, fxi, fxr, fxl, fxl0, ↓swi_n, ↓swi_c, nck0, nck1, nck2, nck3, List.length_cons, List.length_nil, Nat.reduceAdd, Nat.reduceSub, Nat.reduceLeDiff, Nat.reduceEqDiff, Nat.reduceLT, reduceIte, ite_true, ite_false, Nat.sub_zero, Nat.zero_le, true_and, and_true, and_self, true_or, or_true, if_true, if_false, true_implies, implies_true, not_true_eq_false, not_false_eq_true, false_implies, forall_const, ne_eq, or_self, and_false, false_and, Lt, Le, Eq', Cp, In, nI_add, nI_mul, nI_sub, nI_sub1, Neg0, bI_eq0, bI_eq1, bI_01, bft, up2_eq, up2_no, Bool.true_eq_false, Bool.false_eq_true, eq_self, m1_ne, m1_ne2, m1_lt, m1_le, lt_m1, m1_le2, bI_t, bI_f, FMu hF, sgV, hd0])
    apply number_M hF' hp1 (by omega)
    intro I2 he2 hp2
    have hR2 := hR1.eo he2 hp2
    have hn := hR2.2.2 k hk
    have hQ2 := hQ I2 (he1.tr he2) hp2
    (apply WP_run 999 80; simp (disch := first | decide | omega) only [t145_0, t145_1, t145_2, lift_c, o_inl, o_istore, s1_0, s1_s, o_iload2, o_icge, o_aload0, o_getref, o_caload, o_virt2, rpush_n, rpush_s, o_ifeq, o_goto, o_iload1, o_iinc2, o_icne, o_putbool, o_ireturn, o_dupi, o_dupr, o_getfield, o_iadd, o_putfield, o_ifge, o_ifle, o_virt1, o_iaload, o_iload3, o_icle, z0, z1, z2, z6, z20, z31, z60, z61, z62, run_0, run_c, run_n, fxn, fxi, fxr, fxl, fxl0, ↓swi_n, ↓swi_c, nck0, nck1, nck2, nck3, List.length_cons, List.length_nil, Nat.reduceAdd, Nat.reduceSub, Nat.reduceLeDiff, Nat.reduceEqDiff, Nat.reduceLT, reduceIte, ite_true, ite_false, Nat.sub_zero, Nat.zero_le, true_and, and_true, and_self, true_or, or_true, if_true, if_false, true_implies, implies_true, not_true_eq_false, not_false_eq_true, false_implies, forall_const, ne_eq, or_self, and_false, false_and, Lt, Le, Eq', Cp, In, nI_add, nI_mul, nI_sub, nI_sub1, Neg0, bI_eq0, bI_eq1, bI_01, bft, up2_eq, up2_no, Bool.true_eq_false, Bool.false_eq_true, eq_self, m1_ne, m1_ne2, m1_lt, m1_le, lt_m1, m1_le2, bI_t, bI_f, FMu hF, sgV, hd0, hn])
  · refine ⟨fun h => ?_, fun h => ?_⟩
    · rw [show cmpS 0 (nm k) (numS t z (takS t z p (sgC 0))).2 = false by simp [cmpS]; exact h] at hQ2
      exact hQ2
    · rw [show cmpS 0 (nm k) (numS t z (takS t z p (sgC 0))).2 = true by simp [cmpS]; exact Int32.not_le.mp h] at hQ2
      exact hQ2
  · refine ⟨fun h => ?_, fun h => ?_⟩
    · rw [show cmpS 1 (nm k) (numS t z (takS t z p (sgC 1))).2 = true by simp [cmpS]; exact h] at hQ2
      exact hQ2
    · rw [show cmpS 1 (nm k) (numS t z (takS t z p (sgC 1))).2 = false by simp [cmpS]; exact h] at hQ2
      exact hQ2
  · refine ⟨fun h => ?_, fun h => ?_⟩
    · rw [show cmpS 2 (nm k) (numS t z (takS t z p (sgC 2))).2 = false by simp [cmpS]; exact h] at hQ2
      exact hQ2
    · rw [show cmpS 2 (nm k) (numS t z (takS t z p (sgC 2))).2 = true by simp [cmpS]; exact Int32.not_le.mp h] at hQ2
      exact hQ2
theorem one_tst {o k : Nat} {x : Int32} (ho : o < 3) : one nm [(o, k, x)] (cmpS o (nm k) x) := fun s => by
  have ho : o = 0 ∨ o = 1 ∨ o = 2 := by omega
  rcases ho with rfl | rfl | rfl <;> rfl
theorem sgn_lt : sgn t z p < 3 := by
  unfold sgn
  split
  · omega
  · split <;> omega
theorem test_M (hF : FM sh P) (hp : RC I t z p nm) (hd : 2 ≤ d) (hQ : ∀ I' b, Eo scP I I' → PA I' t z (tstS t z p).1 → ((tstS t z p).1.2 = true → one nm (tstS t z p).2 b) → Q (some (.int (bI b))) n sh I' L P) : Cl G d 145 [.ref 123] n sh I L P Q := by
  apply e145
  (apply WP_run 4 80; simp (disch := first | decide | omega) only [t145_0, t145_1, t145_2, lift_c, o_inl, o_istore, s1_0, s1_s, o_iload2, o_icge, o_aload0, o_getref, o_caload, o_virt2, rpush_n, rpush_s, o_ifeq, o_goto, o_iload1, o_iinc2, o_icne, o_putbool, o_ireturn, o_dupi, o_dupr, o_getfield, o_iadd, o_putfield, o_ifge, o_ifle, o_virt1, o_iaload, o_iload3, o_icle, z0, z1, z2, z6, z20, z31, z60, z61, z62, run_0, run_c, run_n, fxn, fxi, fxr, fxl, fxl0, ↓swi_n, ↓swi_c, nck0, nck1, nck2, nck3, List.length_cons, List.length_nil, Nat.reduceAdd, Nat.reduceSub, Nat.reduceLeDiff, Nat.reduceEqDiff, Nat.reduceLT, reduceIte, ite_true, ite_false, Nat.sub_zero, Nat.zero_le, true_and, and_true, and_self, true_or, or_true, if_true, if_false, true_implies, implies_true, not_true_eq_false, not_false_eq_true, false_implies, forall_const, ne_eq, or_self, and_false, false_and, Lt, Le, Eq', Cp, In, nI_add, nI_mul, nI_sub, nI_sub1, Neg0, bI_eq0, bI_eq1, bI_01, bft, up2_eq, up2_no, Bool.true_eq_false, Bool.false_eq_true, eq_self, m1_ne, m1_ne2, m1_lt, m1_le, lt_m1, m1_le2, bI_t, bI_f])
  refine test_L hF hp (by omega) (fun cc ss => ?_) 6 0 _ _ (by omega)
  have hF' := hF
  have hd0 : 0 < d := by omega
  have h1 := hp.1.z100
  have h4 := hp.1.a
  cases hl : letL t z p 6 with
  | none =>
    have e : tstS t z p = ((p.1, false), []) := by simp [tstS, hl]
    rw [e] at hQ
    (apply WP_run 999 80; simp (disch := first | decide | omega) only [t145_0, t145_1, t145_2, lift_c, o_inl, o_istore, s1_0, s1_s, o_iload2, o_icge, o_aload0, o_getref, o_caload, o_virt2, rpush_n, rpush_s, o_ifeq, o_goto, o_iload1, o_iinc2, o_icne, o_putbool, o_ireturn, o_dupi, o_dupr, o_getfield, o_iadd, o_putfield, o_ifge, o_ifle, o_virt1, o_iaload, o_iload3, o_icle, z0, z1, z2, z6, z20, z31, z60, z61, z62, run_0, run_c, run_n, fxn, fxi, fxr, fxl, fxl0, ↓swi_n, ↓swi_c, nck0, nck1, nck2, nck3, List.length_cons, List.length_nil, Nat.reduceAdd, Nat.reduceSub, Nat.reduceLeDiff, Nat.reduceEqDiff, Nat.reduceLT, reduceIte, ite_true, ite_false, Nat.sub_zero, Nat.zero_le, true_and, and_true, and_self, true_or, or_true, if_true, if_false, true_implies, implies_true, not_true_eq_false, not_false_eq_true, false_implies, forall_const, ne_eq, or_self, and_false, false_and, Lt, Le, Eq', Cp, In, nI_add, nI_mul, nI_sub, nI_sub1, Neg0, bI_eq0, bI_eq1, bI_01, bft, up2_eq, up2_no, Bool.true_eq_false, Bool.false_eq_true, eq_self, m1_ne, m1_ne2, m1_lt, m1_le, lt_m1, m1_le2, bI_t, bI_f, FMu hF, onI])
    exact hQ _ false (Eo.up Eo.rf ⟨rfl, Or.inr rfl⟩ _) hp.1.bad (fun q => by simp at q)
  | some k =>
    obtain ⟨hk, hlt⟩ := letL_lt hl
    have hp2 := hp.1.inc hlt
    have e2 : Eo scP I (up2 I 123 11 (nI (p.1 + 1))) := Eo.up Eo.rf ⟨rfl, Or.inl rfl⟩ _
    have hR2 := hp.eo e2 hp2
    (apply WP_run 999 80; simp (disch := first | decide | omega) only [t145_0, t145_1, t145_2, lift_c, o_inl, o_istore, s1_0, s1_s, o_iload2, o_icge, o_aload0, o_getref, o_caload, o_virt2, rpush_n, rpush_s, o_ifeq, o_goto, o_iload1, o_iinc2, o_icne, o_putbool, o_ireturn, o_dupi, o_dupr, o_getfield, o_iadd, o_putfield, o_ifge, o_ifle, o_virt1, o_iaload, o_iload3, o_icle, z0, z1, z2, z6, z20, z31, z60, z61, z62, run_0, run_c, run_n, fxn, fxi, fxr, fxl, fxl0, ↓swi_n, ↓swi_c, nck0, nck1, nck2, nck3, List.length_cons, List.length_nil, Nat.reduceAdd, Nat.reduceSub, Nat.reduceLeDiff, Nat.reduceEqDiff, Nat.reduceLT, reduceIte, ite_true, ite_false, Nat.sub_zero, Nat.zero_le, true_and, and_true, and_self, true_or, or_true, if_true, if_false, true_implies, implies_true, not_true_eq_false, not_false_eq_true, false_implies, forall_const, ne_eq, or_self, and_false, false_and, Lt, Le, Eq', Cp, In, nI_add, nI_mul, nI_sub, nI_sub1, Neg0, bI_eq0, bI_eq1, bI_01, bft, up2_eq, up2_no, Bool.true_eq_false, Bool.false_eq_true, eq_self, m1_ne, m1_ne2, m1_lt, m1_le, lt_m1, m1_le2, bI_t, bI_f, FMu hF, onI, hd0, h4])
    apply isAt_M hF' hp2
    have e : tstS t z p = ((numS t z (takS t z (p.1 + 1, p.2) (sgC (sgn t z (p.1 + 1, p.2))))).1, [(sgn t z (p.1 + 1, p.2), k, (numS t z (takS t z (p.1 + 1, p.2) (sgC (sgn t z (p.1 + 1, p.2))))).2)]) := by simp [tstS, hl]
    rw [e] at hQ
    have hT := fun cc ss => test_T (G := G) hF' hR2 hd (sgn_lt (t := t) (z := z) (p := (p.1 + 1, p.2))) hk (fun I' he hpp => hQ I' _ (e2.tr he) hpp fun _ => one_tst sgn_lt) (cc := cc) (ss := ss)
    cases hb : atS t z (p.1 + 1, p.2) (nI 60) with
    | true =>
      rw [show sgn t z (p.1 + 1, p.2) = 0 by simp [sgn, hb]] at hT
      (apply WP_run 85 80; simp (disch := first | decide | omega) only [t145_0, t145_1, t145_2, lift_c, o_inl, o_istore, s1_0, s1_s, o_iload2, o_icge, o_aload0, o_getref, o_caload, o_virt2, rpush_n, rpush_s, o_ifeq, o_goto, o_iload1, o_iinc2, o_icne, o_putbool, o_ireturn, o_dupi, o_dupr, o_getfield, o_iadd, o_putfield, o_ifge, o_ifle, o_virt1, o_iaload, o_iload3, o_icle, z0, z1, z2, z6, z20, z31, z60, z61, z62, run_0, run_c, run_n, fxn, fxi, fxr, fxl, fxl0, ↓swi_n, ↓swi_c, nck0, nck1, nck2, nck3, List.length_cons, List.length_nil, Nat.reduceAdd, Nat.reduceSub, Nat.reduceLeDiff, Nat.reduceEqDiff, Nat.reduceLT, reduceIte, ite_true, ite_false, Nat.sub_zero, Nat.zero_le, true_and, and_true, and_self, true_or, or_true, if_true, if_false, true_implies, implies_true, not_true_eq_false, not_false_eq_true, false_implies, forall_const, ne_eq, or_self, and_false, false_and, Lt, Le, Eq', Cp, In, nI_add, nI_mul, nI_sub, nI_sub1, Neg0, bI_eq0, bI_eq1, bI_01, bft, up2_eq, up2_no, Bool.true_eq_false, Bool.false_eq_true, eq_self, m1_ne, m1_ne2, m1_lt, m1_le, lt_m1, m1_le2, bI_t, bI_f, FMu hF, hd0])
      exact hT _ _
    | false =>
      (apply WP_run 85 80; simp (disch := first | decide | omega) only [t145_0, t145_1, t145_2, lift_c, o_inl, o_istore, s1_0, s1_s, o_iload2, o_icge, o_aload0, o_getref, o_caload, o_virt2, rpush_n, rpush_s, o_ifeq, o_goto, o_iload1, o_iinc2, o_icne, o_putbool, o_ireturn, o_dupi, o_dupr, o_getfield, o_iadd, o_putfield, o_ifge, o_ifle, o_virt1, o_iaload, o_iload3, o_icle, z0, z1, z2, z6, z20, z31, z60, z61, z62, run_0, run_c, run_n, fxn, fxi, fxr, fxl, fxl0, ↓swi_n, ↓swi_c, nck0, nck1, nck2, nck3, List.length_cons, List.length_nil, Nat.reduceAdd, Nat.reduceSub, Nat.reduceLeDiff, Nat.reduceEqDiff, Nat.reduceLT, reduceIte, ite_true, ite_false, Nat.sub_zero, Nat.zero_le, true_and, and_true, and_self, true_or, or_true, if_true, if_false, true_implies, implies_true, not_true_eq_false, not_false_eq_true, false_implies, forall_const, ne_eq, or_self, and_false, false_and, Lt, Le, Eq', Cp, In, nI_add, nI_mul, nI_sub, nI_sub1, Neg0, bI_eq0, bI_eq1, bI_01, bft, up2_eq, up2_no, Bool.true_eq_false, Bool.false_eq_true, eq_self, m1_ne, m1_ne2, m1_lt, m1_le, lt_m1, m1_le2, bI_t, bI_f, FMu hF, hd0])
      apply isAt_M hF' hp2
      cases hb2 : atS t z (p.1 + 1, p.2) (nI 62) with
      | true =>
        rw [show sgn t z (p.1 + 1, p.2) = 2 by simp [sgn, hb, hb2]] at hT
        (apply WP_run 85 80; simp (disch := first | decide | omega) only [t145_0, t145_1, t145_2, lift_c, o_inl, o_istore, s1_0, s1_s, o_iload2, o_icge, o_aload0, o_getref, o_caload, o_virt2, rpush_n, rpush_s, o_ifeq, o_goto, o_iload1, o_iinc2, o_icne, o_putbool, o_ireturn, o_dupi, o_dupr, o_getfield, o_iadd, o_putfield, o_ifge, o_ifle, o_virt1, o_iaload, o_iload3, o_icle, z0, z1, z2, z6, z20, z31, z60, z61, z62, run_0, run_c, run_n, fxn, fxi, fxr, fxl, fxl0, ↓swi_n, ↓swi_c, nck0, nck1, nck2, nck3, List.length_cons, List.length_nil, Nat.reduceAdd, Nat.reduceSub, Nat.reduceLeDiff, Nat.reduceEqDiff, Nat.reduceLT, reduceIte, ite_true, ite_false, Nat.sub_zero, Nat.zero_le, true_and, and_true, and_self, true_or, or_true, if_true, if_false, true_implies, implies_true, not_true_eq_false, not_false_eq_true, false_implies, forall_const, ne_eq, or_self, and_false, false_and, Lt, Le, Eq', Cp, In, nI_add, nI_mul, nI_sub, nI_sub1, Neg0, bI_eq0, bI_eq1, bI_01, bft, up2_eq, up2_no, Bool.true_eq_false, Bool.false_eq_true, eq_self, m1_ne, m1_ne2, m1_lt, m1_le, lt_m1, m1_le2, bI_t, bI_f, FMu hF, hd0])
        exact hT _ _
      | false =>
        rw [show sgn t z (p.1 + 1, p.2) = 1 by simp [sgn, hb, hb2]] at hT
        (apply WP_run 85 80; simp (disch := first | decide | omega) only [t145_0, t145_1, t145_2, lift_c, o_inl, o_istore, s1_0, s1_s, o_iload2, o_icge, o_aload0, o_getref, o_caload, o_virt2, rpush_n, rpush_s, o_ifeq, o_goto, o_iload1, o_iinc2, o_icne, o_putbool, o_ireturn, o_dupi, o_dupr, o_getfield, o_iadd, o_putfield, o_ifge, o_ifle, o_virt1, o_iaload, o_iload3, o_icle, z0, z1, z2, z6, z20, z31, z60, z61, z62, run_0, run_c, run_n, fxn, fxi, fxr, fxl, fxl0, ↓swi_n, ↓swi_c, nck0, nck1, nck2, nck3, List.length_cons, List.length_nil, Nat.reduceAdd, Nat.reduceSub, Nat.reduceLeDiff, Nat.reduceEqDiff, Nat.reduceLT, reduceIte, ite_true, ite_false, Nat.sub_zero, Nat.zero_le, true_and, and_true, and_self, true_or, or_true, if_true, if_false, true_implies, implies_true, not_true_eq_false, not_false_eq_true, false_implies, forall_const, ne_eq, or_self, and_false, false_and, Lt, Le, Eq', Cp, In, nI_add, nI_mul, nI_sub, nI_sub1, Neg0, bI_eq0, bI_eq1, bI_01, bft, up2_eq, up2_no, Bool.true_eq_false, Bool.false_eq_true, eq_self, m1_ne, m1_ne2, m1_lt, m1_le, lt_m1, m1_le2, bI_t, bI_f, FMu hF, hd0])
        exact hT _ _
end
