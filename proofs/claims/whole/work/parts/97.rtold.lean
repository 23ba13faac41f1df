/-! ### the class's reader: a fortress told -/
theorem upS_eq (f : TS) (q : Nat) (v : Nat × Nat) : upS f q v q = v := if_pos rfl
theorem upS_no (f : TS) (q : Nat) (v : Nat × Nat) (a : Nat) (h : ¬ a = q) : upS f q v a = f a := if_neg h
theorem clr_eq {α : Type} (f : Nat → Nat → α) (q : Nat) (x : α) (b : Nat) : clr f q x q b = x := if_pos rfl
theorem clr_no {α : Type} (f : Nat → Nat → α) (q : Nat) (x : α) (a b : Nat) (h : ¬ a = q) : clr f q x a b = f a b := if_neg h
section
variable {G : GE} {d n : Nat} {sh : TS} {I : TI} {L : TL} {P : TP} {Q : TQ} {q : Nat}
theorem initF_K (hs : sh q = (2, 5)) (hq : 20 ≤ q) (hn : q < n) (hd : 1 ≤ d)
    (hQ : ∀ sh' I' L' P', (∀ a, a < n → sh' a = sh a) → (∀ a j, a < n → ¬ (a = q ∧ (j = 0 ∨ j = 4)) → I' a j = I a j) → (∀ a j, a < n → L' a j = L a j) → (∀ a j, a < n → ¬ (a = q ∧ 1 ≤ j ∧ j ≤ 3) → P' a j = P a j) →
      P' q 1 = n → P' q 2 = n + 1 → P' q 3 = n + 2 → sh' n = (100, 100) → sh' (n + 1) = (100, 100) → sh' (n + 2) = (100, 100) → Q none (n + 3) sh' I' L' P') : Cl G d 22 [.ref q] n sh I L P Q := by
  apply e22
  have hd0 : 0 < d := by omega
  have n2 : nle 2 q := by show 2 ≤ q; omega
  have nq : nle 20 q := by show 20 ≤ q; omega
  have m0 : ¬ neq n 1 := by show ¬ n = 1; omega
  have m1 : ¬ neq (n + 1) 1 := by show ¬ n + 1 = 1; omega
  have m2 : ¬ neq (n + 1 + 1) 1 := by show ¬ n + 1 + 1 = 1; omega
  have m3 : ¬ neq (n + 2) 1 := by show ¬ n + 2 = 1; omega
  (apply WP_runI (lv := lvK) (F := LK) LK_ok 999 40; simp (disch := first | decide | omega) only [t22_0, lift_c, o_aload0, o_dsub, o_inl, o_putfield, o_anewarray, o_putref, o_return, z0, z1, z2, z20, z31, z100, runI_0, runI_c, runI_n, liftI_n, liftI_y, run_0, run_c, run_n, fxn, fxi, fxr, fxl, fxl0, ↓swi_n, ↓swi_c, nck0, nck1, nck2, nck3, List.length_cons, List.length_nil, Nat.reduceAdd, Nat.reduceSub, Nat.reduceLeDiff, Nat.reduceEqDiff, Nat.reduceLT, reduceIte, ite_true, ite_false, Nat.sub_zero, Nat.zero_le, true_and, and_true, and_self, true_or, or_true, if_true, if_false, true_implies, implies_true, not_true_eq_false, not_false_eq_true, false_implies, forall_const, ne_eq, or_self, and_false, false_and, Lt, Le, Eq', Cp, In, nI_add, nI_mul, nI_sub, nI_sub1, Neg0, bI_eq0, bI_eq1, bI_01, bft, up2_eq, up2_no, Bool.true_eq_false, Bool.false_eq_true, eq_self, m1_ne, m1_ne2, m1_lt, m1_le, lt_m1, m1_le2, bI_t, bI_f, LK_st, hs, n2, nq, m0, m1, m2, m3, hd0, upS_no, Nat.not_lt_zero])
  refine hQ _ _ _ _ (fun a ha => ?_) (fun a j ha h => ?_) (fun a j ha => ?_) (fun a j ha h => ?_) ?_ ?_ ?_ ?_ ?_ ?_
  · simp (disch := omega) only [upS_no]
  · simp (disch := omega) only [up2_no, clr_no]
  · simp (disch := omega) only [clr_no]
  · simp (disch := omega) only [up2_no, clr_no]
  · simp (disch := omega) only [up2_no, up2_eq, clr_no]
  · simp (disch := omega) only [up2_no, up2_eq, clr_no]
  · simp (disch := omega) only [up2_eq]
  · simp (disch := omega) only [upS_no, upS_eq]
  · simp (disch := omega) only [upS_no, upS_eq]
  · simp (disch := omega) only [upS_eq]
theorem clearF_K (hs : sh q = (2, 5)) (hq : 20 ≤ q) (hQ : Q none n sh (up2 (up2 I q 0 (nI 1)) q 4 (nI 0)) L P) : Cl G d 23 [.ref q] n sh I L P Q := by
  apply e23
  have nq : nle 20 q := by show 20 ≤ q; omega
  (apply WP_runI (lv := lvK) (F := LK) LK_ok 999 20; simp (disch := first | decide | omega) only [t23_0, lift_c, o_aload0, o_inl, o_putfield, o_return, z0, z1, z2, z20, z31, runI_0, runI_c, runI_n, liftI_n, liftI_y, run_0, run_c, run_n, fxn, fxi, fxr, fxl, fxl0, ↓swi_n, ↓swi_c, nck0, nck1, nck2, nck3, List.length_cons, List.length_nil, Nat.reduceAdd, Nat.reduceSub, Nat.reduceLeDiff, Nat.reduceEqDiff, Nat.reduceLT, reduceIte, ite_true, ite_false, Nat.sub_zero, Nat.zero_le, true_and, and_true, and_self, true_or, or_true, if_true, if_false, true_implies, implies_true, not_true_eq_false, not_false_eq_true, false_implies, forall_const, ne_eq, or_self, and_false, false_and, Lt, Le, Eq', Cp, In, nI_add, nI_mul, nI_sub, nI_sub1, Neg0, bI_eq0, bI_eq1, bI_01, bft, up2_eq, up2_no, Bool.true_eq_false, Bool.false_eq_true, eq_self, m1_ne, m1_ne2, m1_lt, m1_le, lt_m1, m1_le2, bI_t, bI_f, LK_st, hs, nq])
  exact hQ
/-- a new spare fortress at n, the rest as it was -/
def NF (n : Nat) (sh : TS) (I : TI) (L : TL) (P : TP) (sh' : TS) (I' : TI) (L' : TL) (P' : TP) : Prop :=
  (∀ a, a < n → sh' a = sh a) ∧ (∀ a j, a < n → I' a j = I a j) ∧ (∀ a j, a < n → L' a j = L a j) ∧ (∀ a j, a < n → ¬ (a = 102 ∧ j = 4) → P' a j = P a j) ∧ P' 102 4 = n ∧ sh' n = (2, 5) ∧ P' n 1 = n + 1 ∧ P' n 2 = n + 2 ∧ P' n 3 = n + 3 ∧ sh' (n + 1) = (100, 100) ∧ sh' (n + 2) = (100, 100) ∧ sh' (n + 3) = (100, 100)
theorem reaL_f {t : TN} {z : Nat} : ∀ (m : Nat) (r : RS), r.1.2 = false → reaL t z m r = r
  | 0, _, _ => rfl
  | m + 1, r, h => by rw [reaL, atS_f h, if_neg (by decide)]
theorem reaL_z {t : TN} {z : Nat} : ∀ (m : Nat) (r : RS), r.1.1 = z → reaL t z m r = r
  | 0, _, _ => rfl
  | m + 1, r, h => by
    have h1 : ¬ atS t z r.1 (nI 59) = true := fun q => by have := atS_lt q; omega
    rw [reaL, if_neg h1]
theorem told_L (hG : FG sh P) (hq : QF sh P q) {t : TN} {z : Nat} (hT : TX t z) (hn : 143 ≤ n) (hd : 26 ≤ d) : ∀ (m j p : Nat) (r : List SP × Int32) (I : TI), j + m = 10 → 1 ≤ j → RA I t z p → SA I q r.1 → I q 0 = r.2 → r.1.length ≤ p →
    ((reaL t z m (addC ((p, true), r) (claS t z (p, true)))).1.2 = false ∨ ¬ (reaL t z m (addC ((p, true), r) (claS t z (p, true)))).1.1 = z → ∀ I', Eo (rdC q) I I' → I' 102 2 = nI (reaL t z m (addC ((p, true), r) (claS t z (p, true)))).1.1 → Q (some (.ref 0)) n sh I' L P) →
    ((reaL t z m (addC ((p, true), r) (claS t z (p, true)))).1.2 = true → (reaL t z m (addC ((p, true), r) (claS t z (p, true)))).1.1 = z → ∀ I', Eo (rdC q) I I' → SA I' q (reaL t z m (addC ((p, true), r) (claS t z (p, true)))).2.1 → I' q 0 = (reaL t z m (addC ((p, true), r) (claS t z (p, true)))).2.2 → ∀ sh1 I1 L1 P1, NF n sh I' L P sh1 I1 L1 P1 → Q (some (.ref q)) (n + 4) sh1 I1 L1 P1) →
    WP G 30 d Q 14 [some (.ref 102), some (.int (nI j)), none] [] 4 305 n sh I L P := by
  have hd0 : 0 < d := by omega
  have q0 := hq.2.1
  have q4 := hq.1
  have qs := hq.2.2.1
  have nq1 : ¬ neq q 1 := by show ¬ q = 1; omega
  have nn1 : ¬ neq n 1 := by show ¬ n = 1; omega
  have n01 : ¬ neq 0 1 := by show ¬ 0 = 1; omega
  have n2n : nle 2 n := by show 2 ≤ n; omega
  have n102 : nle 20 102 := by show 20 ≤ 102; decide
  intro m
  induction m with
  | zero =>
    intro j p r I h hj1 hA hs h0 hap hQ0 hQ1
    have h100 := hA.z100
    have hj : ¬ 10 < j := by omega
    have hj2 : j = 10 := by omega
    (apply WP_runI (lv := lvK) (F := LK) LK_ok 999 6; simp (disch := first | decide | omega) only [t30_0, t30_1, lift_c, o_aload0, o_inl, o_putfield, o_getref, o_virt1, rpush_n, rpush_s, o_istore, s1_0, s1_s, o_iload1, o_icgt, o_ifeq, o_getfield, o_icne, o_astore, o_new, o_dupi, o_dupr, o_spec1, o_putref, o_aload2, o_areturn, o_iceq, o_virt2, o_ifne, o_iinc1, o_goto, z0, z1, z2, z10, z20, z31, z59, runI_0, runI_c, runI_n, liftI_n, liftI_y, run_0, run_c, run_n, fxn, fxi, fxr, fxl, fxl0, ↓swi_n, ↓swi_c, nck0, nck1, nck2, nck3, List.length_cons, List.length_nil, Nat.reduceAdd, Nat.reduceSub, Nat.reduceLeDiff, Nat.reduceEqDiff, Nat.reduceLT, reduceIte, ite_true, ite_false, Nat.sub_zero, Nat.zero_le, true_and, and_true, and_self, true_or, or_true, if_true, if_false, true_implies, implies_true, not_true_eq_false, not_false_eq_true, false_implies, forall_const, ne_eq, or_self, and_false, false_and, Lt, Le, Eq', Cp, In, nI_add, nI_mul, nI_sub, nI_sub1, Neg0, bI_eq0, bI_eq1, bI_01, bft, up2_eq, up2_no, Bool.true_eq_false, Bool.false_eq_true, eq_self, m1_ne, m1_ne2, m1_lt, m1_le, lt_m1, m1_le2, bI_t, bI_f, LK_st, FGu hG, hj, hd0])
    refine readClause_K hG hq hT hA hs hap (by omega) fun I2 he2 hA2 hs2 => ?_
    have hall := claS_all (t := t) (z := z) (p := (p, true))
    have hall : (claS t z (p, true)).1.2 = true → p + (claS t z (p, true)).2.1.length ≤ (claS t z (p, true)).1.1 := fun w => (hall w).1
    generalize claS t z (p, true) = w at hQ0 hQ1 hA2 hs2 hall ⊢
    obtain ⟨⟨w1, w2⟩, w3, w4⟩ := w
    cases w2 with
    | false =>
      rw [reaL_f 0 (addC ((p, true), r) ((w1, false), w3, w4)) rfl] at hQ0
      have hQ0 := hQ0 (Or.inl rfl) I2 he2 hA2.a
      (apply WP_runI (lv := lvK) (F := LK) LK_ok 999 6; simp (disch := first | decide | omega) only [t30_0, t30_1, lift_c, o_aload0, o_inl, o_putfield, o_getref, o_virt1, rpush_n, rpush_s, o_istore, s1_0, s1_s, o_iload1, o_icgt, o_ifeq, o_getfield, o_icne, o_astore, o_new, o_dupi, o_dupr, o_spec1, o_putref, o_aload2, o_areturn, o_iceq, o_virt2, o_ifne, o_iinc1, o_goto, z0, z1, z2, z10, z20, z31, z59, runI_0, runI_c, runI_n, liftI_n, liftI_y, run_0, run_c, run_n, fxn, fxi, fxr, fxl, fxl0, ↓swi_n, ↓swi_c, nck0, nck1, nck2, nck3, List.length_cons, List.length_nil, Nat.reduceAdd, Nat.reduceSub, Nat.reduceLeDiff, Nat.reduceEqDiff, Nat.reduceLT, reduceIte, ite_true, ite_false, Nat.sub_zero, Nat.zero_le, true_and, and_true, and_self, true_or, or_true, if_true, if_false, true_implies, implies_true, not_true_eq_false, not_false_eq_true, false_implies, forall_const, ne_eq, or_self, and_false, false_and, Lt, Le, Eq', Cp, In, nI_add, nI_mul, nI_sub, nI_sub1, Neg0, bI_eq0, bI_eq1, bI_01, bft, up2_eq, up2_no, Bool.true_eq_false, Bool.false_eq_true, eq_self, m1_ne, m1_ne2, m1_lt, m1_le, lt_m1, m1_le2, bI_t, bI_f, LK_st, hd0, n01])
      exact hQ0
    | true =>
      obtain ⟨hs2, h02⟩ := hs2 rfl
      have hall : p + w3.length ≤ w1 := hall rfl
      have ha2 := hA2.a
      have hz2 := hA2.sz
      have hle := hA2.le
      have ha2 : I2 102 2 = nI w1 := ha2
      have hle : w1 ≤ z := hle
      by_cases hwz : w1 = z
      · rw [reaL_z 0 (addC ((p, true), r) ((w1, true), w3, w4)) hwz] at hQ1
        have hQ1 := hQ1 rfl hwz I2 he2 hs2 (by rw [h02, h0]; rfl)
        (apply WP_runI (lv := lvK) (F := LK) LK_ok 999 16; simp (disch := first | decide | omega) only [t30_0, t30_1, lift_c, o_aload0, o_inl, o_putfield, o_getref, o_virt1, rpush_n, rpush_s, o_istore, s1_0, s1_s, o_iload1, o_icgt, o_ifeq, o_getfield, o_icne, o_astore, o_new, o_dupi, o_dupr, o_spec1, o_putref, o_aload2, o_areturn, o_iceq, o_virt2, o_ifne, o_iinc1, o_goto, z0, z1, z2, z10, z20, z31, z59, runI_0, runI_c, runI_n, liftI_n, liftI_y, run_0, run_c, run_n, fxn, fxi, fxr, fxl, fxl0, ↓swi_n, ↓swi_c, nck0, nck1, nck2, nck3, List.length_cons, List.length_nil, Nat.reduceAdd, Nat.reduceSub, Nat.reduceLeDiff, Nat.reduceEqDiff, Nat.reduceLT, reduceIte, ite_true, ite_false, Nat.sub_zero, Nat.zero_le, true_and, and_true, and_self, true_or, or_true, if_true, if_false, true_implies, implies_true, not_true_eq_false, not_false_eq_true, false_implies, forall_const, ne_eq, or_self, and_false, false_and, Lt, Le, Eq', Cp, In, nI_add, nI_mul, nI_sub, nI_sub1, Neg0, bI_eq0, bI_eq1, bI_01, bft, up2_eq, up2_no, Bool.true_eq_false, Bool.false_eq_true, eq_self, m1_ne, m1_ne2, m1_lt, m1_le, lt_m1, m1_le2, bI_t, bI_f, LK_st, FGu hG, ha2, hz2, hwz, q4, nn1, n2n, n102, hd0])
        refine initF_K (upS_eq _ _ _) (by omega) (Nat.lt_succ_self n) (by omega) fun sh1 I3 L1 P1 a1 a2 a3 a4 a5 a6 a7 a8 a9 a10 => ?_
        have s102 : sh1 102 = (4, 5) := by rw [a1 102 (by omega), upS_no _ _ _ _ (by omega)]; exact (FGu hG).2.2.2.2.2.2.2.2.2.2.2.2.2.2.2.2.2.2.2.1
        have hQ1 := hQ1 sh1 I3 L1 (up2 P1 102 4 n) ⟨fun a ha => (a1 a (by omega)).trans (upS_no _ _ _ _ (by omega)), fun a j ha => (a2 a j (by omega) (by omega)).trans (clr_no _ _ _ _ _ (by omega)), fun a j ha => (a3 a j (by omega)).trans (clr_no _ _ _ _ _ (by omega)), fun a j ha hh => by
            rw [up2_no _ _ _ _ _ _ hh]
            exact (a4 a j (by omega) (by omega)).trans (clr_no _ _ _ _ _ (by omega)), up2_eq _ _ _ _, (a1 n (by omega)).trans (upS_eq _ _ _), (up2_no _ _ _ _ _ _ (by omega)).trans a5, (up2_no _ _ _ _ _ _ (by omega)).trans a6, (up2_no _ _ _ _ _ _ (by omega)).trans a7, a8, a9, a10⟩
        (apply WP_runI (lv := lvK) (F := LK) LK_ok 999 8; simp (disch := first | decide | omega) only [t30_0, t30_1, lift_c, o_aload0, o_inl, o_putfield, o_getref, o_virt1, rpush_n, rpush_s, o_istore, s1_0, s1_s, o_iload1, o_icgt, o_ifeq, o_getfield, o_icne, o_astore, o_new, o_dupi, o_dupr, o_spec1, o_putref, o_aload2, o_areturn, o_iceq, o_virt2, o_ifne, o_iinc1, o_goto, z0, z1, z2, z10, z20, z31, z59, runI_0, runI_c, runI_n, liftI_n, liftI_y, run_0, run_c, run_n, fxn, fxi, fxr, fxl, fxl0, ↓swi_n, ↓swi_c, nck0, nck1, nck2, nck3, List.length_cons, List.length_nil, Nat.reduceAdd, Nat.reduceSub, Nat.reduceLeDiff, Nat.reduceEqDiff, Nat.reduceLT, reduceIte, ite_true, ite_false, Nat.sub_zero, Nat.zero_le, true_and, and_true, and_self, true_or, or_true, if_true, if_false, true_implies, implies_true, not_true_eq_false, not_false_eq_true, false_implies, forall_const, ne_eq, or_self, and_false, false_and, Lt, Le, Eq', Cp, In, nI_add, nI_mul, nI_sub, nI_sub1, Neg0, bI_eq0, bI_eq1, bI_01, bft, up2_eq, up2_no, Bool.true_eq_false, Bool.false_eq_true, eq_self, m1_ne, m1_ne2, m1_lt, m1_le, lt_m1, m1_le2, bI_t, bI_f, LK_st, s102, nn1, nq1, n102, hd0])
        exact hQ1
      · have hQ0 := hQ0 (Or.inr hwz) I2 he2 ha2
        (apply WP_runI (lv := lvK) (F := LK) LK_ok 999 14; simp (disch := first | decide | omega) only [t30_0, t30_1, lift_c, o_aload0, o_inl, o_putfield, o_getref, o_virt1, rpush_n, rpush_s, o_istore, s1_0, s1_s, o_iload1, o_icgt, o_ifeq, o_getfield, o_icne, o_astore, o_new, o_dupi, o_dupr, o_spec1, o_putref, o_aload2, o_areturn, o_iceq, o_virt2, o_ifne, o_iinc1, o_goto, z0, z1, z2, z10, z20, z31, z59, runI_0, runI_c, runI_n, liftI_n, liftI_y, run_0, run_c, run_n, fxn, fxi, fxr, fxl, fxl0, ↓swi_n, ↓swi_c, nck0, nck1, nck2, nck3, List.length_cons, List.length_nil, Nat.reduceAdd, Nat.reduceSub, Nat.reduceLeDiff, Nat.reduceEqDiff, Nat.reduceLT, reduceIte, ite_true, ite_false, Nat.sub_zero, Nat.zero_le, true_and, and_true, and_self, true_or, or_true, if_true, if_false, true_implies, implies_true, not_true_eq_false, not_false_eq_true, false_implies, forall_const, ne_eq, or_self, and_false, false_and, Lt, Le, Eq', Cp, In, nI_add, nI_mul, nI_sub, nI_sub1, Neg0, bI_eq0, bI_eq1, bI_01, bft, up2_eq, up2_no, Bool.true_eq_false, Bool.false_eq_true, eq_self, m1_ne, m1_ne2, m1_lt, m1_le, lt_m1, m1_le2, bI_t, bI_f, LK_st, FGu hG, ha2, hz2, hwz, hj2, hd0, n01])
        exact hQ0
  | succ m ih =>
    intro j p r I h hj1 hA hs h0 hap hQ0 hQ1
    have h100 := hA.z100
    have hj : ¬ 10 < j := by omega
    have hj2 : ¬ j = 10 := by omega
    (apply WP_runI (lv := lvK) (F := LK) LK_ok 999 6; simp (disch := first | decide | omega) only [t30_0, t30_1, lift_c, o_aload0, o_inl, o_putfield, o_getref, o_virt1, rpush_n, rpush_s, o_istore, s1_0, s1_s, o_iload1, o_icgt, o_ifeq, o_getfield, o_icne, o_astore, o_new, o_dupi, o_dupr, o_spec1, o_putref, o_aload2, o_areturn, o_iceq, o_virt2, o_ifne, o_iinc1, o_goto, z0, z1, z2, z10, z20, z31, z59, runI_0, runI_c, runI_n, liftI_n, liftI_y, run_0, run_c, run_n, fxn, fxi, fxr, fxl, fxl0, ↓swi_n, ↓swi_c, nck0, nck1, nck2, nck3, List.length_cons, List.length_nil, Nat.reduceAdd, Nat.reduceSub, Nat.reduceLeDiff, Nat.reduceEqDiff, Nat.reduceLT, reduceIte, ite_true, ite_false, Nat.sub_zero, Nat.zero_le, true_and, and_true, and_self, true_or, or_true, if_true, if_false, true_implies, implies_true, not_true_eq_false, not_false_eq_true, false_implies, forall_const, ne_eq, or_self, and_false, false_and, Lt, Le, Eq', Cp, In, nI_add, nI_mul, nI_sub, nI_sub1, Neg0, bI_eq0, bI_eq1, bI_01, bft, up2_eq, up2_no, Bool.true_eq_false, Bool.false_eq_true, eq_self, m1_ne, m1_ne2, m1_lt, m1_le, lt_m1, m1_le2, bI_t, bI_f, LK_st, FGu hG, hj, hd0])
    refine readClause_K hG hq hT hA hs hap (by omega) fun I2 he2 hA2 hs2 => ?_
    have hall := claS_all (t := t) (z := z) (p := (p, true))
    have hall : (claS t z (p, true)).1.2 = true → p + (claS t z (p, true)).2.1.length ≤ (claS t z (p, true)).1.1 := fun w => (hall w).1
    generalize claS t z (p, true) = w at hQ0 hQ1 hA2 hs2 hall ⊢
    obtain ⟨⟨w1, w2⟩, w3, w4⟩ := w
    cases w2 with
    | false =>
      rw [reaL_f (m + 1) (addC ((p, true), r) ((w1, false), w3, w4)) rfl] at hQ0
      have hQ0 := hQ0 (Or.inl rfl) I2 he2 hA2.a
      (apply WP_runI (lv := lvK) (F := LK) LK_ok 999 6; simp (disch := first | decide | omega) only [t30_0, t30_1, lift_c, o_aload0, o_inl, o_putfield, o_getref, o_virt1, rpush_n, rpush_s, o_istore, s1_0, s1_s, o_iload1, o_icgt, o_ifeq, o_getfield, o_icne, o_astore, o_new, o_dupi, o_dupr, o_spec1, o_putref, o_aload2, o_areturn, o_iceq, o_virt2, o_ifne, o_iinc1, o_goto, z0, z1, z2, z10, z20, z31, z59, runI_0, runI_c, runI_n, liftI_n, liftI_y, run_0, run_c, run_n, fxn, fxi, fxr, fxl, fxl0, ↓swi_n, ↓swi_c, nck0, nck1, nck2, nck3, List.length_cons, List.length_nil, Nat.reduceAdd, Nat.reduceSub, Nat.reduceLeDiff, Nat.reduceEqDiff, Nat.reduceLT, reduceIte, ite_true, ite_false, Nat.sub_zero, Nat.zero_le, true_and, and_true, and_self, true_or, or_true, if_true, if_false, true_implies, implies_true, not_true_eq_false, not_false_eq_true, false_implies, forall_const, ne_eq, or_self, and_false, false_and, Lt, Le, Eq', Cp, In, nI_add, nI_mul, nI_sub, nI_sub1, Neg0, bI_eq0, bI_eq1, bI_01, bft, up2_eq, up2_no, Bool.true_eq_false, Bool.false_eq_true, eq_self, m1_ne, m1_ne2, m1_lt, m1_le, lt_m1, m1_le2, bI_t, bI_f, LK_st, hd0, n01])
      exact hQ0
    | true =>
      obtain ⟨hs2, h02⟩ := hs2 rfl
      have hall : p + w3.length ≤ w1 := hall rfl
      have ha2 := hA2.a
      have hz2 := hA2.sz
      have hle := hA2.le
      have ha2 : I2 102 2 = nI w1 := ha2
      have hle : w1 ≤ z := hle
      by_cases hwz : w1 = z
      · rw [reaL_z (m + 1) (addC ((p, true), r) ((w1, true), w3, w4)) hwz] at hQ1
        have hQ1 := hQ1 rfl hwz I2 he2 hs2 (by rw [h02, h0]; rfl)
        (apply WP_runI (lv := lvK) (F := LK) LK_ok 999 16; simp (disch := first | decide | omega) only [t30_0, t30_1, lift_c, o_aload0, o_inl, o_putfield, o_getref, o_virt1, rpush_n, rpush_s, o_istore, s1_0, s1_s, o_iload1, o_icgt, o_ifeq, o_getfield, o_icne, o_astore, o_new, o_dupi, o_dupr, o_spec1, o_putref, o_aload2, o_areturn, o_iceq, o_virt2, o_ifne, o_iinc1, o_goto, z0, z1, z2, z10, z20, z31, z59, runI_0, runI_c, runI_n, liftI_n, liftI_y, run_0, run_c, run_n, fxn, fxi, fxr, fxl, fxl0, ↓swi_n, ↓swi_c, nck0, nck1, nck2, nck3, List.length_cons, List.length_nil, Nat.reduceAdd, Nat.reduceSub, Nat.reduceLeDiff, Nat.reduceEqDiff, Nat.reduceLT, reduceIte, ite_true, ite_false, Nat.sub_zero, Nat.zero_le, true_and, and_true, and_self, true_or, or_true, if_true, if_false, true_implies, implies_true, not_true_eq_false, not_false_eq_true, false_implies, forall_const, ne_eq, or_self, and_false, false_and, Lt, Le, Eq', Cp, In, nI_add, nI_mul, nI_sub, nI_sub1, Neg0, bI_eq0, bI_eq1, bI_01, bft, up2_eq, up2_no, Bool.true_eq_false, Bool.false_eq_true, eq_self, m1_ne, m1_ne2, m1_lt, m1_le, lt_m1, m1_le2, bI_t, bI_f, LK_st, FGu hG, ha2, hz2, hwz, q4, nn1, n2n, n102, hd0])
        refine initF_K (upS_eq _ _ _) (by omega) (Nat.lt_succ_self n) (by omega) fun sh1 I3 L1 P1 a1 a2 a3 a4 a5 a6 a7 a8 a9 a10 => ?_
        have s102 : sh1 102 = (4, 5) := by rw [a1 102 (by omega), upS_no _ _ _ _ (by omega)]; exact (FGu hG).2.2.2.2.2.2.2.2.2.2.2.2.2.2.2.2.2.2.2.1
        have hQ1 := hQ1 sh1 I3 L1 (up2 P1 102 4 n) ⟨fun a ha => (a1 a (by omega)).trans (upS_no _ _ _ _ (by omega)), fun a j ha => (a2 a j (by omega) (by omega)).trans (clr_no _ _ _ _ _ (by omega)), fun a j ha => (a3 a j (by omega)).trans (clr_no _ _ _ _ _ (by omega)), fun a j ha hh => by
            rw [up2_no _ _ _ _ _ _ hh]
            exact (a4 a j (by omega) (by omega)).trans (clr_no _ _ _ _ _ (by omega)), up2_eq _ _ _ _, (a1 n (by omega)).trans (upS_eq _ _ _), (up2_no _ _ _ _ _ _ (by omega)).trans a5, (up2_no _ _ _ _ _ _ (by omega)).trans a6, (up2_no _ _ _ _ _ _ (by omega)).trans a7, a8, a9, a10⟩
        (apply WP_runI (lv := lvK) (F := LK) LK_ok 999 8; simp (disch := first | decide | omega) only [t30_0, t30_1, lift_c, o_aload0, o_inl, o_putfield, o_getref, o_virt1, rpush_n, rpush_s, o_istore, s1_0, s1_s, o_iload1, o_icgt, o_ifeq, o_getfield, o_icne, o_astore, o_new, o_dupi, o_dupr, o_spec1, o_putref, o_aload2, o_areturn, o_iceq, o_virt2, o_ifne, o_iinc1, o_goto, z0, z1, z2, z10, z20, z31, z59, runI_0, runI_c, runI_n, liftI_n, liftI_y, run_0, run_c, run_n, fxn, fxi, fxr, fxl, fxl0, ↓swi_n, ↓swi_c, nck0, nck1, nck2, nck3, List.length_cons, List.length_nil, Nat.reduceAdd, Nat.reduceSub, Nat.reduceLeDiff, Nat.reduceEqDiff, Nat.reduceLT, reduceIte, ite_true, ite_false, Nat.sub_zero, Nat.zero_le, true_and, and_true, and_self, true_or, or_true, if_true, if_false, true_implies, implies_true, not_true_eq_false, not_false_eq_true, false_implies, forall_const, ne_eq, or_self, and_false, false_and, Lt, Le, Eq', Cp, In, nI_add, nI_mul, nI_sub, nI_sub1, Neg0, bI_eq0, bI_eq1, bI_01, bft, up2_eq, up2_no, Bool.true_eq_false, Bool.false_eq_true, eq_self, m1_ne, m1_ne2, m1_lt, m1_le, lt_m1, m1_le2, bI_t, bI_f, LK_st, s102, nn1, nq1, n102, hd0])
        exact hQ1
      · (apply WP_runI (lv := lvK) (F := LK) LK_ok 999 12; simp (disch := first | decide | omega) only [t30_0, t30_1, lift_c, o_aload0, o_inl, o_putfield, o_getref, o_virt1, rpush_n, rpush_s, o_istore, s1_0, s1_s, o_iload1, o_icgt, o_ifeq, o_getfield, o_icne, o_astore, o_new, o_dupi, o_dupr, o_spec1, o_putref, o_aload2, o_areturn, o_iceq, o_virt2, o_ifne, o_iinc1, o_goto, z0, z1, z2, z10, z20, z31, z59, runI_0, runI_c, runI_n, liftI_n, liftI_y, run_0, run_c, run_n, fxn, fxi, fxr, fxl, fxl0, ↓swi_n, ↓swi_c, nck0, nck1, nck2, nck3, List.length_cons, List.length_nil, Nat.reduceAdd, Nat.reduceSub, Nat.reduceLeDiff, Nat.reduceEqDiff, Nat.reduceLT, reduceIte, ite_true, ite_false, Nat.sub_zero, Nat.zero_le, true_and, and_true, and_self, true_or, or_true, if_true, if_false, true_implies, implies_true, not_true_eq_false, not_false_eq_true, false_implies, forall_const, ne_eq, or_self, and_false, false_and, Lt, Le, Eq', Cp, In, nI_add, nI_mul, nI_sub, nI_sub1, Neg0, bI_eq0, bI_eq1, bI_01, bft, up2_eq, up2_no, Bool.true_eq_false, Bool.false_eq_true, eq_self, m1_ne, m1_ne2, m1_lt, m1_le, lt_m1, m1_le2, bI_t, bI_f, LK_st, FGu hG, ha2, hz2, hwz, hj2, hd0])
        refine readSign_K hG hA2 (by omega) (fun hc hA3 => ?_) fun hc => ?_
        · have e : reaL t z (m + 1) (addC ((p, true), r) ((w1, true), w3, w4)) = reaL t z m (addC ((w1 + 1, true), (addC ((p, true), r) ((w1, true), w3, w4)).2) (claS t z (w1 + 1, true))) := by
            rw [reaL]
            exact if_pos hc
          rw [e] at hQ0 hQ1
          have he3 : Eo rdN I2 (up2 I2 102 2 (nI (w1 + 1))) := Eo.rf.up ⟨rfl, Or.inl rfl⟩ _
          have hA3 : RA (up2 I2 102 2 (nI (w1 + 1))) t z (w1 + 1) := hA3
          have h03 : (up2 I2 102 2 (nI (w1 + 1))) q 0 = I2 q 0 := up2_no _ _ _ _ _ _ (by omega)
          have hs3 := hs2.eoN q0 he3
          generalize up2 I2 102 2 (nI (w1 + 1)) = I3 at he3 hA3 h03 hs3 ⊢
          have E3 : Eo (rdC q) I I3 := he2.tr (he3.mono fun _ _ x => Or.inl (Or.inl x))
          have ih := ih (j + 1) (w1 + 1) (addC ((p, true), r) ((w1, true), w3, w4)).2 I3 (by omega) (by omega) hA3 hs3 (by rw [h03, h02, h0]; rfl) (by
            show (r.1 ++ w3).length ≤ w1 + 1
            rw [List.length_append]
            omega) (fun h I' he' h2 => hQ0 h I' (E3.tr he') h2) (fun h1 h2 I' he' => hQ1 h1 h2 I' (E3.tr he'))
          clear hQ0 hQ1
          (apply WP_runI (lv := lvK) (F := LK) LK_ok 14 6; simp (disch := first | decide | omega) only [t30_0, t30_1, lift_c, o_aload0, o_inl, o_putfield, o_getref, o_virt1, rpush_n, rpush_s, o_istore, s1_0, s1_s, o_iload1, o_icgt, o_ifeq, o_getfield, o_icne, o_astore, o_new, o_dupi, o_dupr, o_spec1, o_putref, o_aload2, o_areturn, o_iceq, o_virt2, o_ifne, o_iinc1, o_goto, z0, z1, z2, z10, z20, z31, z59, runI_0, runI_c, runI_n, liftI_n, liftI_y, run_0, run_c, run_n, fxn, fxi, fxr, fxl, fxl0, ↓swi_n, ↓swi_c, nck0, nck1, nck2, nck3, List.length_cons, List.length_nil, Nat.reduceAdd, Nat.reduceSub, Nat.reduceLeDiff, Nat.reduceEqDiff, Nat.reduceLT, reduceIte, ite_true, ite_false, Nat.sub_zero, Nat.zero_le, true_and, and_true, and_self, true_or, or_true, if_true, if_false, true_implies, implies_true, not_true_eq_false, not_false_eq_true, false_implies, forall_const, ne_eq, or_self, and_false, false_and, Lt, Le, Eq', Cp, In, nI_add, nI_mul, nI_sub, nI_sub1, Neg0, bI_eq0, bI_eq1, bI_01, bft, up2_eq, up2_no, Bool.true_eq_false, Bool.false_eq_true, eq_self, m1_ne, m1_ne2, m1_lt, m1_le, lt_m1, m1_le2, bI_t, bI_f, LK_st, hd0])
          exact ih
        · have e : reaL t z (m + 1) (addC ((p, true), r) ((w1, true), w3, w4)) = addC ((p, true), r) ((w1, true), w3, w4) := by
            rw [reaL]
            exact if_neg (by rw [show (addC ((p, true), r) ((w1, true), w3, w4)).1 = (w1, true) from rfl, show atS t z (w1, true) (nI 59) = false from hc]; decide)
          rw [e] at hQ0
          have hQ0 := hQ0 (Or.inr hwz) I2 he2 ha2
          (apply WP_runI (lv := lvK) (F := LK) LK_ok 999 6; simp (disch := first | decide | omega) only [t30_0, t30_1, lift_c, o_aload0, o_inl, o_putfield, o_getref, o_virt1, rpush_n, rpush_s, o_istore, s1_0, s1_s, o_iload1, o_icgt, o_ifeq, o_getfield, o_icne, o_astore, o_new, o_dupi, o_dupr, o_spec1, o_putref, o_aload2, o_areturn, o_iceq, o_virt2, o_ifne, o_iinc1, o_goto, z0, z1, z2, z10, z20, z31, z59, runI_0, runI_c, runI_n, liftI_n, liftI_y, run_0, run_c, run_n, fxn, fxi, fxr, fxl, fxl0, ↓swi_n, ↓swi_c, nck0, nck1, nck2, nck3, List.length_cons, List.length_nil, Nat.reduceAdd, Nat.reduceSub, Nat.reduceLeDiff, Nat.reduceEqDiff, Nat.reduceLT, reduceIte, ite_true, ite_false, Nat.sub_zero, Nat.zero_le, true_and, and_true, and_self, true_or, or_true, if_true, if_false, true_implies, implies_true, not_true_eq_false, not_false_eq_true, false_implies, forall_const, ne_eq, or_self, and_false, false_and, Lt, Le, Eq', Cp, In, nI_add, nI_mul, nI_sub, nI_sub1, Neg0, bI_eq0, bI_eq1, bI_01, bft, up2_eq, up2_no, Bool.true_eq_false, Bool.false_eq_true, eq_self, m1_ne, m1_ne2, m1_lt, m1_le, lt_m1, m1_le2, bI_t, bI_f, LK_st, hd0, n01])
          exact hQ0
theorem fortressTold_K (hG : FG sh P) (hq : QF sh P q) {t : TN} {z : Nat} (hT : TX t z) (hn : 143 ≤ n) (hz : z ≤ 100) (hsz : I 102 1 = nI z) (ht : ∀ j, j < z → I 103 j = t j) (hd : 26 ≤ d)
    (hQ0 : okS t z = false → ∀ I', Eo (rdC q) I I' → I' 102 2 = nI (reaS t z).1.1 → Q (some (.ref 0)) n sh I' L P)
    (hQ1 : okS t z = true → ∀ I', Eo (rdC q) I I' → SA I' q (reaS t z).2.1 → I' q 0 = (reaS t z).2.2 → ∀ sh1 I1 L1 P1, NF n sh I' L P sh1 I1 L1 P1 → Q (some (.ref q)) (n + 4) sh1 I1 L1 P1) : Cl G d 30 [.ref 102] n sh I L P Q := by
  apply e30
  have hd0 : 0 < d := by omega
  have q0 := hq.2.1
  have q4 := hq.1
  have qs := hq.2.2.1
  have n102 : nle 20 102 := by show 20 ≤ 102; decide
  have he : Eo (rdC q) I (up2 (up2 (up2 I 102 2 (nI 0)) q 0 (nI 1)) q 4 (nI 0)) := ((Eo.rf.up (Or.inl (Or.inl ⟨rfl, Or.inl rfl⟩)) _).up (Or.inr ⟨rfl, rfl⟩) _).up (Or.inl (Or.inr (Or.inl ⟨rfl, rfl⟩))) _
  have hA : RA (up2 (up2 (up2 I 102 2 (nI 0)) q 0 (nI 1)) q 4 (nI 0)) t z 0 := ⟨hz, by simp (disch := omega) only [up2_no]; exact hsz, fun j hj => by simp (disch := omega) only [up2_no]; exact ht j hj, Nat.zero_le _, by simp (disch := omega) only [up2_no, up2_eq]⟩
  have hs : SA (up2 (up2 (up2 I 102 2 (nI 0)) q 0 (nI 1)) q 4 (nI 0)) q [] := ⟨by decide, up2_eq _ _ _ _, fun j x hx => by cases hx⟩
  have h0 : (up2 (up2 (up2 I 102 2 (nI 0)) q 0 (nI 1)) q 4 (nI 0)) q 0 = nI 1 := by simp (disch := omega) only [up2_no, up2_eq]
  (apply WP_runI (lv := lvK) (F := LK) LK_ok 999 9; simp (disch := first | decide | omega) only [t30_0, t30_1, lift_c, o_aload0, o_inl, o_putfield, o_getref, o_virt1, rpush_n, rpush_s, o_istore, s1_0, s1_s, o_iload1, o_icgt, o_ifeq, o_getfield, o_icne, o_astore, o_new, o_dupi, o_dupr, o_spec1, o_putref, o_aload2, o_areturn, o_iceq, o_virt2, o_ifne, o_iinc1, o_goto, z0, z1, z2, z10, z20, z31, z59, runI_0, runI_c, runI_n, liftI_n, liftI_y, run_0, run_c, run_n, fxn, fxi, fxr, fxl, fxl0, ↓swi_n, ↓swi_c, nck0, nck1, nck2, nck3, List.length_cons, List.length_nil, Nat.reduceAdd, Nat.reduceSub, Nat.reduceLeDiff, Nat.reduceEqDiff, Nat.reduceLT, reduceIte, ite_true, ite_false, Nat.sub_zero, Nat.zero_le, true_and, and_true, and_self, true_or, or_true, if_true, if_false, true_implies, implies_true, not_true_eq_false, not_false_eq_true, false_implies, forall_const, ne_eq, or_self, and_false, false_and, Lt, Le, Eq', Cp, In, nI_add, nI_mul, nI_sub, nI_sub1, Neg0, bI_eq0, bI_eq1, bI_01, bft, up2_eq, up2_no, Bool.true_eq_false, Bool.false_eq_true, eq_self, m1_ne, m1_ne2, m1_lt, m1_le, lt_m1, m1_le2, bI_t, bI_f, LK_st, FGu hG, q4, qs, n102, hd0])
  refine clearF_K qs (by omega) ?_
  generalize up2 (up2 (up2 I 102 2 (nI 0)) q 0 (nI 1)) q 4 (nI 0) = I1 at he hA hs h0 ⊢
  have hL := told_L (G := G) (d := d) (n := n) (L := L) (Q := Q) hG hq hT hn hd 9 1 0 ([], nI 1) I1 (by omega) (by omega) hA hs h0 (Nat.le_refl _)
    (fun h I' he' h2 => hQ0 (by
      unfold okS
      rcases h with h | h
      · rw [show (reaS t z).1.2 = false from h, Bool.false_and]
      · rw [decide_eq_false (show ¬ (reaS t z).1.1 = z from h), Bool.and_false]) I' (he.tr he') h2)
    (fun h1 h2 I' he' h3 h4 sh1 I2 L1 P1 hN => hQ1 (by
      unfold okS
      rw [show (reaS t z).1.2 = true from h1, Bool.true_and]
      exact decide_eq_true h2) I' (he.tr he') h3 h4 sh1 I2 L1 P1 hN)
  clear hQ0 hQ1
  (apply WP_runI (lv := lvK) (F := LK) LK_ok 14 6; simp (disch := first | decide | omega) only [t30_0, t30_1, lift_c, o_aload0, o_inl, o_putfield, o_getref, o_virt1, rpush_n, rpush_s, o_istore, s1_0, s1_s, o_iload1, o_icgt, o_ifeq, o_getfield, o_icne, o_astore, o_new, o_dupi, o_dupr, o_spec1, o_putref, o_aload2, o_areturn, o_iceq, o_virt2, o_ifne, o_iinc1, o_goto, z0, z1, z2, z10, z20, z31, z59, runI_0, runI_c, runI_n, liftI_n, liftI_y, run_0, run_c, run_n, fxn, fxi, fxr, fxl, fxl0, ↓swi_n, ↓swi_c, nck0, nck1, nck2, nck3, List.length_cons, List.length_nil, Nat.reduceAdd, Nat.reduceSub, Nat.reduceLeDiff, Nat.reduceEqDiff, Nat.reduceLT, reduceIte, ite_true, ite_false, Nat.sub_zero, Nat.zero_le, true_and, and_true, and_self, true_or, or_true, if_true, if_false, true_implies, implies_true, not_true_eq_false, not_false_eq_true, false_implies, forall_const, ne_eq, or_self, and_false, false_and, Lt, Le, Eq', Cp, In, nI_add, nI_mul, nI_sub, nI_sub1, Neg0, bI_eq0, bI_eq1, bI_01, bft, up2_eq, up2_no, Bool.true_eq_false, Bool.false_eq_true, eq_self, m1_ne, m1_ne2, m1_lt, m1_le, lt_m1, m1_le2, bI_t, bI_f, LK_st, hd0])
  exact hL
end
