/-! ### the class's reader: a clause -/
def rdC (q a j : Nat) : Prop := rdT q a j ∨ (a = q ∧ j = 0)
theorem fac_f {t : TN} {z p : Nat} : ∀ m, facS t z m (p, false) = ((p, false), [])
  | 0 => by
    have h : letL t z (p, false) 6 = none := by
      rw [letL_6]
      simp only [atS_f (p := (p, false)) rfl]
      rfl
    show tstS t z (p, false) = _
    unfold tstS
    rw [h]
  | m + 1 => by
    rw [facS, atS_f rfl, if_neg (by decide), atS_f rfl, if_neg (by decide)]
    exact fac_f (t := t) (z := z) (p := p) 0
theorem any_f {t : TN} {z p : Nat} (m : Nat) : anyS t z (facS t z m) (p, false) = ((p, false), []) := by
  have hb : botS t z (facS t z m) (p, false) = ((p, false), []) := by
    unfold botS
    rw [fac_f, lopS_f z _ rfl]
  unfold anyS
  rw [hb, lopS_f z _ rfl]
theorem rdT_0 {q : Nat} (hq : q = 104 ∨ 143 ≤ q) {I I' : TI} (he : Eo (rdT q) I I') : I' q 0 = I q 0 := he _ _ fun w => by
  unfold rdT rdN rdF at w
  omega
section
variable {G : GE} {d n : Nat} {sh : TS} {I : TI} {L : TL} {P : TP} {Q : TQ} {t : TN} {z p q : Nat}
theorem clauseT_K (hG : FG sh P) (hq : QF sh P q) (hT : TX t z) {a : List SP} (hA : RA I t z p) (hs : SA I q a) (hap : a.length ≤ p) {b : Bool} {i m o : Nat} (hb : (b = true ∧ i = 1 ∧ m = 6 ∧ o = 7) ∨ (b = false ∧ i = 2 ∧ m = 5 ∧ o = 6)) (hd : 24 ≤ d)
    (hQ : ∀ I', Eo (rdC q) I I' → RA I' t z (anyS t z (facS t z 4) (takS t z (numS t z (takL t z (wdL i m 0) (p, true))).1 (nI 32))).1.1 → ((anyS t z (facS t z 4) (takS t z (numS t z (takL t z (wdL i m 0) (p, true))).1 (nI 32))).1.2 = true → SA I' q (a ++ ((anyS t z (facS t z 4) (takS t z (numS t z (takL t z (wdL i m 0) (p, true))).1 (nI 32))).2 ++ [(o, 0, (numS t z (takL t z (wdL i m 0) (p, true))).2)])) ∧ I' q 0 = I q 0) → Q (some (.int (bI (anyS t z (facS t z 4) (takS t z (numS t z (takL t z (wdL i m 0) (p, true))).1 (nI 32))).1.2))) n sh I' L P) (cc ss : Nat) :
    WP G 31 d Q 59 [some (.ref 102), some (.int (bI b)), none] [.ref (4 + i), .ref 102] cc ss n sh I L P := by
  have hd0 : 0 < d := by omega
  have q0 := hq.2.1
  have q4 := hq.1
  have qs := hq.2.2.1
  have h100 := hA.z100
  have hle := hA.le
  have hi5 : i < 5 := by omega
  have hmm : strN.getD i 0 = m := by rcases hb with ⟨-, rfl, rfl, -⟩ | ⟨-, rfl, rfl, -⟩ <;> rfl
  have sN : ∀ I', Eo (rdT q) I I' → Eo (rdC q) I I' := fun I' h => h.mono fun _ _ => Or.inl
  (apply WP_runI (lv := lvK) (F := LK) LK_ok 999 4; simp (disch := first | decide | omega) only [t31_0, t31_1, lift_c, o_aload0, o_inl, o_virt2, rpush_n, rpush_s, o_ifeq, o_virt1, o_ifne, o_ireturn, o_getref, o_getfield, o_putfield, o_istore, s1_0, s1_s, o_iload1, o_goto, o_iload2, o_virt4, z0, z1, z2, z4, z5, z6, z7, z20, z31, z32, z101, z115, runI_0, runI_c, runI_n, liftI_n, liftI_y, run_0, run_c, run_n, fxn, fxi, fxr, fxl, fxl0, ↓swi_n, ↓swi_c, nck0, nck1, nck2, nck3, List.length_cons, List.length_nil, Nat.reduceAdd, Nat.reduceSub, Nat.reduceLeDiff, Nat.reduceEqDiff, Nat.reduceLT, reduceIte, ite_true, ite_false, Nat.sub_zero, Nat.zero_le, true_and, and_true, and_self, true_or, or_true, if_true, if_false, true_implies, implies_true, not_true_eq_false, not_false_eq_true, false_implies, forall_const, ne_eq, or_self, and_false, false_and, Lt, Le, Eq', Cp, In, nI_add, nI_mul, nI_sub, nI_sub1, Neg0, bI_eq0, bI_eq1, bI_01, bft, up2_eq, up2_no, Bool.true_eq_false, Bool.false_eq_true, eq_self, m1_ne, m1_ne2, m1_lt, m1_le, lt_m1, m1_le2, bI_t, bI_f, LK_st, FGu hG, hd0])
  refine readWord_K hG hA hi5 hmm (by omega) (by omega) fun I2 he2 hA2 => ?_
  have hu := takL_le t z (wdL i m 0) (p, true)
  have hu : p ≤ (takL t z (wdL i m 0) (p, true)).1 := hu
  generalize takL t z (wdL i m 0) (p, true) = u at hQ hA2 hu ⊢
  obtain ⟨u1, u2⟩ := u
  cases u2 with
  | false =>
    rw [numS_f, takS_no (p := (u1, false)) (atS_f rfl), any_f] at hQ
    have hQ := hQ I2 (sN _ (he2.mono fun _ _ => Or.inl)) hA2 (fun w => by cases w)
    (apply WP_runI (lv := lvK) (F := LK) LK_ok 999 6; simp (disch := first | decide | omega) only [t31_0, t31_1, lift_c, o_aload0, o_inl, o_virt2, rpush_n, rpush_s, o_ifeq, o_virt1, o_ifne, o_ireturn, o_getref, o_getfield, o_putfield, o_istore, s1_0, s1_s, o_iload1, o_goto, o_iload2, o_virt4, z0, z1, z2, z4, z5, z6, z7, z20, z31, z32, z101, z115, runI_0, runI_c, runI_n, liftI_n, liftI_y, run_0, run_c, run_n, fxn, fxi, fxr, fxl, fxl0, ↓swi_n, ↓swi_c, nck0, nck1, nck2, nck3, List.length_cons, List.length_nil, Nat.reduceAdd, Nat.reduceSub, Nat.reduceLeDiff, Nat.reduceEqDiff, Nat.reduceLT, reduceIte, ite_true, ite_false, Nat.sub_zero, Nat.zero_le, true_and, and_true, and_self, true_or, or_true, if_true, if_false, true_implies, implies_true, not_true_eq_false, not_false_eq_true, false_implies, forall_const, ne_eq, or_self, and_false, false_and, Lt, Le, Eq', Cp, In, nI_add, nI_mul, nI_sub, nI_sub1, Neg0, bI_eq0, bI_eq1, bI_01, bft, up2_eq, up2_no, Bool.true_eq_false, Bool.false_eq_true, eq_self, m1_ne, m1_ne2, m1_lt, m1_le, lt_m1, m1_le2, bI_t, bI_f, LK_st, hd0])
    exact hQ
  | true =>
    (apply WP_runI (lv := lvK) (F := LK) LK_ok 999 6; simp (disch := first | decide | omega) only [t31_0, t31_1, lift_c, o_aload0, o_inl, o_virt2, rpush_n, rpush_s, o_ifeq, o_virt1, o_ifne, o_ireturn, o_getref, o_getfield, o_putfield, o_istore, s1_0, s1_s, o_iload1, o_goto, o_iload2, o_virt4, z0, z1, z2, z4, z5, z6, z7, z20, z31, z32, z101, z115, runI_0, runI_c, runI_n, liftI_n, liftI_y, run_0, run_c, run_n, fxn, fxi, fxr, fxl, fxl0, ↓swi_n, ↓swi_c, nck0, nck1, nck2, nck3, List.length_cons, List.length_nil, Nat.reduceAdd, Nat.reduceSub, Nat.reduceLeDiff, Nat.reduceEqDiff, Nat.reduceLT, reduceIte, ite_true, ite_false, Nat.sub_zero, Nat.zero_le, true_and, and_true, and_self, true_or, or_true, if_true, if_false, true_implies, implies_true, not_true_eq_false, not_false_eq_true, false_implies, forall_const, ne_eq, or_self, and_false, false_and, Lt, Le, Eq', Cp, In, nI_add, nI_mul, nI_sub, nI_sub1, Neg0, bI_eq0, bI_eq1, bI_01, bft, up2_eq, up2_no, Bool.true_eq_false, Bool.false_eq_true, eq_self, m1_ne, m1_ne2, m1_lt, m1_le, lt_m1, m1_le2, bI_t, bI_f, LK_st, FGu hG, hd0])
    refine readNumber_K hG hA2 (by omega) fun I3 he3 hA3 h3 => ?_
    have hv := numS_le t z (u1, true)
    have hv : u1 ≤ (numS t z (u1, true)).1.1 := hv
    generalize numS t z (u1, true) = v at hQ hA3 h3 hv ⊢
    obtain ⟨⟨v1, v2⟩, v3⟩ := v
    have E3 : Eo rdN I I3 := he2.tr he3
    cases v2 with
    | false =>
      rw [takS_no (p := (v1, false)) (atS_f rfl), any_f] at hQ
      have hQ := hQ I3 (sN _ (E3.mono fun _ _ => Or.inl)) hA3 (fun w => by cases w)
      (apply WP_runI (lv := lvK) (F := LK) LK_ok 999 6; simp (disch := first | decide | omega) only [t31_0, t31_1, lift_c, o_aload0, o_inl, o_virt2, rpush_n, rpush_s, o_ifeq, o_virt1, o_ifne, o_ireturn, o_getref, o_getfield, o_putfield, o_istore, s1_0, s1_s, o_iload1, o_goto, o_iload2, o_virt4, z0, z1, z2, z4, z5, z6, z7, z20, z31, z32, z101, z115, runI_0, runI_c, runI_n, liftI_n, liftI_y, run_0, run_c, run_n, fxn, fxi, fxr, fxl, fxl0, ↓swi_n, ↓swi_c, nck0, nck1, nck2, nck3, List.length_cons, List.length_nil, Nat.reduceAdd, Nat.reduceSub, Nat.reduceLeDiff, Nat.reduceEqDiff, Nat.reduceLT, reduceIte, ite_true, ite_false, Nat.sub_zero, Nat.zero_le, true_and, and_true, and_self, true_or, or_true, if_true, if_false, true_implies, implies_true, not_true_eq_false, not_false_eq_true, false_implies, forall_const, ne_eq, or_self, and_false, false_and, Lt, Le, Eq', Cp, In, nI_add, nI_mul, nI_sub, nI_sub1, Neg0, bI_eq0, bI_eq1, bI_01, bft, up2_eq, up2_no, Bool.true_eq_false, Bool.false_eq_true, eq_self, m1_ne, m1_ne2, m1_lt, m1_le, lt_m1, m1_le2, bI_t, bI_f, LK_st, hd0])
      exact hQ
    | true =>
      have h3 : I3 102 3 = v3 := h3 rfl
      have hv : u1 ≤ v1 := hv
      have hu : p ≤ u1 := hu
      (apply WP_runI (lv := lvK) (F := LK) LK_ok 999 9; simp (disch := first | decide | omega) only [t31_0, t31_1, lift_c, o_aload0, o_inl, o_virt2, rpush_n, rpush_s, o_ifeq, o_virt1, o_ifne, o_ireturn, o_getref, o_getfield, o_putfield, o_istore, s1_0, s1_s, o_iload1, o_goto, o_iload2, o_virt4, z0, z1, z2, z4, z5, z6, z7, z20, z31, z32, z101, z115, runI_0, runI_c, runI_n, liftI_n, liftI_y, run_0, run_c, run_n, fxn, fxi, fxr, fxl, fxl0, ↓swi_n, ↓swi_c, nck0, nck1, nck2, nck3, List.length_cons, List.length_nil, Nat.reduceAdd, Nat.reduceSub, Nat.reduceLeDiff, Nat.reduceEqDiff, Nat.reduceLT, reduceIte, ite_true, ite_false, Nat.sub_zero, Nat.zero_le, true_and, and_true, and_self, true_or, or_true, if_true, if_false, true_implies, implies_true, not_true_eq_false, not_false_eq_true, false_implies, forall_const, ne_eq, or_self, and_false, false_and, Lt, Le, Eq', Cp, In, nI_add, nI_mul, nI_sub, nI_sub1, Neg0, bI_eq0, bI_eq1, bI_01, bft, up2_eq, up2_no, Bool.true_eq_false, Bool.false_eq_true, eq_self, m1_ne, m1_ne2, m1_lt, m1_le, lt_m1, m1_le2, bI_t, bI_f, LK_st, FGu hG, h3, hd0])
      refine readSign_K hG hA3 (by omega) (fun hc hA4 => ?_) fun hc => ?_
      · rw [takS_ya (p := (v1, true)) hc] at hQ
        have he4 : Eo rdN I3 (up2 I3 102 2 (nI (v1 + 1))) := Eo.rf.up ⟨rfl, Or.inl rfl⟩ _
        have hs4 := hs.eoN q0 (E3.tr he4)
        have E4 : Eo rdN I (up2 I3 102 2 (nI (v1 + 1))) := E3.tr he4
        have hA4 : RA (up2 I3 102 2 (nI (v1 + 1))) t z (v1 + 1) := hA4
        generalize up2 I3 102 2 (nI (v1 + 1)) = I4 at hA4 hs4 E4 ⊢
        (apply WP_runI (lv := lvK) (F := LK) LK_ok 999 6; simp (disch := first | decide | omega) only [t31_0, t31_1, lift_c, o_aload0, o_inl, o_virt2, rpush_n, rpush_s, o_ifeq, o_virt1, o_ifne, o_ireturn, o_getref, o_getfield, o_putfield, o_istore, s1_0, s1_s, o_iload1, o_goto, o_iload2, o_virt4, z0, z1, z2, z4, z5, z6, z7, z20, z31, z32, z101, z115, runI_0, runI_c, runI_n, liftI_n, liftI_y, run_0, run_c, run_n, fxn, fxi, fxr, fxl, fxl0, ↓swi_n, ↓swi_c, nck0, nck1, nck2, nck3, List.length_cons, List.length_nil, Nat.reduceAdd, Nat.reduceSub, Nat.reduceLeDiff, Nat.reduceEqDiff, Nat.reduceLT, reduceIte, ite_true, ite_false, Nat.sub_zero, Nat.zero_le, true_and, and_true, and_self, true_or, or_true, if_true, if_false, true_implies, implies_true, not_true_eq_false, not_false_eq_true, false_implies, forall_const, ne_eq, or_self, and_false, false_and, Lt, Le, Eq', Cp, In, nI_add, nI_mul, nI_sub, nI_sub1, Neg0, bI_eq0, bI_eq1, bI_01, bft, up2_eq, up2_no, Bool.true_eq_false, Bool.false_eq_true, eq_self, m1_ne, m1_ne2, m1_lt, m1_le, lt_m1, m1_le2, bI_t, bI_f, LK_st, FGu hG, hd0])
        refine any_K t z _ _ _ _ _ _ _ (v1 + 1) q a hG hq hT hA4 hs4 (by omega) (by omega) fun I5 he5 hA5 hs5 => ?_
        have hl : (anyS t z (facS t z 4) (v1 + 1, true)).1.2 = true → v1 + 1 + (anyS t z (facS t z 4) (v1 + 1, true)).2.length ≤ (anyS t z (facS t z 4) (v1 + 1, true)).1.1 := anyS_len (facS_len 4) (v1 + 1, true)
        have hQ : ∀ I', Eo (rdC q) I I' → RA I' t z (anyS t z (facS t z 4) (v1 + 1, true)).1.1 → ((anyS t z (facS t z 4) (v1 + 1, true)).1.2 = true → SA I' q (a ++ ((anyS t z (facS t z 4) (v1 + 1, true)).2 ++ [(o, 0, v3)])) ∧ I' q 0 = I q 0) → Q (some (.int (bI (anyS t z (facS t z 4) (v1 + 1, true)).1.2))) n sh I' L P := hQ
        generalize anyS t z (facS t z 4) (v1 + 1, true) = y at hQ hA5 hs5 hl ⊢
        obtain ⟨⟨y1, y2⟩, y3⟩ := y
        have E5 : Eo (rdT q) I I5 := (E4.mono fun _ _ => Or.inl).tr he5
        cases y2 with
        | false =>
          have hQ := hQ I5 (sN _ E5) hA5 (fun w => by cases w)
          (apply WP_runI (lv := lvK) (F := LK) LK_ok 999 6; simp (disch := first | decide | omega) only [t31_0, t31_1, lift_c, o_aload0, o_inl, o_virt2, rpush_n, rpush_s, o_ifeq, o_virt1, o_ifne, o_ireturn, o_getref, o_getfield, o_putfield, o_istore, s1_0, s1_s, o_iload1, o_goto, o_iload2, o_virt4, z0, z1, z2, z4, z5, z6, z7, z20, z31, z32, z101, z115, runI_0, runI_c, runI_n, liftI_n, liftI_y, run_0, run_c, run_n, fxn, fxi, fxr, fxl, fxl0, ↓swi_n, ↓swi_c, nck0, nck1, nck2, nck3, List.length_cons, List.length_nil, Nat.reduceAdd, Nat.reduceSub, Nat.reduceLeDiff, Nat.reduceEqDiff, Nat.reduceLT, reduceIte, ite_true, ite_false, Nat.sub_zero, Nat.zero_le, true_and, and_true, and_self, true_or, or_true, if_true, if_false, true_implies, implies_true, not_true_eq_false, not_false_eq_true, false_implies, forall_const, ne_eq, or_self, and_false, false_and, Lt, Le, Eq', Cp, In, nI_add, nI_mul, nI_sub, nI_sub1, Neg0, bI_eq0, bI_eq1, bI_01, bft, up2_eq, up2_no, Bool.true_eq_false, Bool.false_eq_true, eq_self, m1_ne, m1_ne2, m1_lt, m1_le, lt_m1, m1_le2, bI_t, bI_f, LK_st, hd0])
          exact hQ
        | true =>
          have hl : v1 + 1 + y3.length ≤ y1 := hl rfl
          have hy : y1 ≤ z := hA5.le
          have hs5 : SA I5 q (a ++ y3) := hs5 rfl
          have hlen : (a ++ y3).length < 100 := by rw [List.length_append]; omega
          have fin : ∀ cc ss, Cl G (d - 1) 24 [.ref q, .int (nI o), .int (nI 0), .int v3] n sh I5 L P (fun v n' sh' I' L' P' => WP G 31 d Q 118 [some (.ref 102), some (.int (bI b)), some (.int v3)] (rpush v []) cc ss n' sh' I' L' P') := by
            intro cc ss
            refine addF_K hq hs5 hlen fun I6 he6 hs6 => ?_
            have E6 : Eo (rdT q) I I6 := E5.tr (he6.mono fun _ _ => Or.inr)
            have hQ := hQ I6 (sN _ E6) (hA5.eoF q0 he6) (fun _ => ⟨by rw [List.append_assoc] at hs6; exact hs6, rdT_0 q0 E6⟩)
            (apply WP_runI (lv := lvK) (F := LK) LK_ok 999 6; simp (disch := first | decide | omega) only [t31_0, t31_1, lift_c, o_aload0, o_inl, o_virt2, rpush_n, rpush_s, o_ifeq, o_virt1, o_ifne, o_ireturn, o_getref, o_getfield, o_putfield, o_istore, s1_0, s1_s, o_iload1, o_goto, o_iload2, o_virt4, z0, z1, z2, z4, z5, z6, z7, z20, z31, z32, z101, z115, runI_0, runI_c, runI_n, liftI_n, liftI_y, run_0, run_c, run_n, fxn, fxi, fxr, fxl, fxl0, ↓swi_n, ↓swi_c, nck0, nck1, nck2, nck3, List.length_cons, List.length_nil, Nat.reduceAdd, Nat.reduceSub, Nat.reduceLeDiff, Nat.reduceEqDiff, Nat.reduceLT, reduceIte, ite_true, ite_false, Nat.sub_zero, Nat.zero_le, true_and, and_true, and_self, true_or, or_true, if_true, if_false, true_implies, implies_true, not_true_eq_false, not_false_eq_true, false_implies, forall_const, ne_eq, or_self, and_false, false_and, Lt, Le, Eq', Cp, In, nI_add, nI_mul, nI_sub, nI_sub1, Neg0, bI_eq0, bI_eq1, bI_01, bft, up2_eq, up2_no, Bool.true_eq_false, Bool.false_eq_true, eq_self, m1_ne, m1_ne2, m1_lt, m1_le, lt_m1, m1_le2, bI_t, bI_f, LK_st, hd0])
            exact hQ
          rcases hb with ⟨rfl, -, -, rfl⟩ | ⟨rfl, -, -, rfl⟩
          · (apply WP_runI (lv := lvK) (F := LK) LK_ok 999 12; simp (disch := first | decide | omega) only [t31_0, t31_1, lift_c, o_aload0, o_inl, o_virt2, rpush_n, rpush_s, o_ifeq, o_virt1, o_ifne, o_ireturn, o_getref, o_getfield, o_putfield, o_istore, s1_0, s1_s, o_iload1, o_goto, o_iload2, o_virt4, z0, z1, z2, z4, z5, z6, z7, z20, z31, z32, z101, z115, runI_0, runI_c, runI_n, liftI_n, liftI_y, run_0, run_c, run_n, fxn, fxi, fxr, fxl, fxl0, ↓swi_n, ↓swi_c, nck0, nck1, nck2, nck3, List.length_cons, List.length_nil, Nat.reduceAdd, Nat.reduceSub, Nat.reduceLeDiff, Nat.reduceEqDiff, Nat.reduceLT, reduceIte, ite_true, ite_false, Nat.sub_zero, Nat.zero_le, true_and, and_true, and_self, true_or, or_true, if_true, if_false, true_implies, implies_true, not_true_eq_false, not_false_eq_true, false_implies, forall_const, ne_eq, or_self, and_false, false_and, Lt, Le, Eq', Cp, In, nI_add, nI_mul, nI_sub, nI_sub1, Neg0, bI_eq0, bI_eq1, bI_01, bft, up2_eq, up2_no, Bool.true_eq_false, Bool.false_eq_true, eq_self, m1_ne, m1_ne2, m1_lt, m1_le, lt_m1, m1_le2, bI_t, bI_f, LK_st, FGu hG, q4, qs, hd0])
            exact fin _ _
          · (apply WP_runI (lv := lvK) (F := LK) LK_ok 999 12; simp (disch := first | decide | omega) only [t31_0, t31_1, lift_c, o_aload0, o_inl, o_virt2, rpush_n, rpush_s, o_ifeq, o_virt1, o_ifne, o_ireturn, o_getref, o_getfield, o_putfield, o_istore, s1_0, s1_s, o_iload1, o_goto, o_iload2, o_virt4, z0, z1, z2, z4, z5, z6, z7, z20, z31, z32, z101, z115, runI_0, runI_c, runI_n, liftI_n, liftI_y, run_0, run_c, run_n, fxn, fxi, fxr, fxl, fxl0, ↓swi_n, ↓swi_c, nck0, nck1, nck2, nck3, List.length_cons, List.length_nil, Nat.reduceAdd, Nat.reduceSub, Nat.reduceLeDiff, Nat.reduceEqDiff, Nat.reduceLT, reduceIte, ite_true, ite_false, Nat.sub_zero, Nat.zero_le, true_and, and_true, and_self, true_or, or_true, if_true, if_false, true_implies, implies_true, not_true_eq_false, not_false_eq_true, false_implies, forall_const, ne_eq, or_self, and_false, false_and, Lt, Le, Eq', Cp, In, nI_add, nI_mul, nI_sub, nI_sub1, Neg0, bI_eq0, bI_eq1, bI_01, bft, up2_eq, up2_no, Bool.true_eq_false, Bool.false_eq_true, eq_self, m1_ne, m1_ne2, m1_lt, m1_le, lt_m1, m1_le2, bI_t, bI_f, LK_st, FGu hG, q4, qs, hd0])
            exact fin _ _
      · rw [takS_no (p := (v1, true)) hc, any_f] at hQ
        have hQ := hQ I3 (sN _ (E3.mono fun _ _ => Or.inl)) hA3 (fun w => by cases w)
        (apply WP_runI (lv := lvK) (F := LK) LK_ok 999 6; simp (disch := first | decide | omega) only [t31_0, t31_1, lift_c, o_aload0, o_inl, o_virt2, rpush_n, rpush_s, o_ifeq, o_virt1, o_ifne, o_ireturn, o_getref, o_getfield, o_putfield, o_istore, s1_0, s1_s, o_iload1, o_goto, o_iload2, o_virt4, z0, z1, z2, z4, z5, z6, z7, z20, z31, z32, z101, z115, runI_0, runI_c, runI_n, liftI_n, liftI_y, run_0, run_c, run_n, fxn, fxi, fxr, fxl, fxl0, ↓swi_n, ↓swi_c, nck0, nck1, nck2, nck3, List.length_cons, List.length_nil, Nat.reduceAdd, Nat.reduceSub, Nat.reduceLeDiff, Nat.reduceEqDiff, Nat.reduceLT, reduceIte, ite_true, ite_false, Nat.sub_zero, Nat.zero_le, true_and, and_true, and_self, true_or, or_true, if_true, if_false, true_implies, implies_true, not_true_eq_false, not_false_eq_true, false_implies, forall_const, ne_eq, or_self, and_false, false_and, Lt, Le, Eq', Cp, In, nI_add, nI_mul, nI_sub, nI_sub1, Neg0, bI_eq0, bI_eq1, bI_01, bft, up2_eq, up2_no, Bool.true_eq_false, Bool.false_eq_true, eq_self, m1_ne, m1_ne2, m1_lt, m1_le, lt_m1, m1_le2, bI_t, bI_f, LK_st, hd0])
        exact hQ
theorem wd_0 : wdL 0 4 0 = [nI 101, nI 97, nI 116, nI 32] := by decide
theorem wd_1 : wdL 1 6 0 = [nI 115, nI 99, nI 97, nI 114, nI 101, nI 32] := by decide
theorem wd_2 : wdL 2 5 0 = [nI 108, nI 117, nI 114, nI 101, nI 32] := by decide
theorem readClause_K (hG : FG sh P) (hq : QF sh P q) (hT : TX t z) {a : List SP} (hA : RA I t z p) (hs : SA I q a) (hap : a.length ≤ p) (hd : 24 ≤ d)
    (hQ : ∀ I', Eo (rdC q) I I' → RA I' t z (claS t z (p, true)).1.1 → ((claS t z (p, true)).1.2 = true → SA I' q (a ++ (claS t z (p, true)).2.1) ∧ I' q 0 = oet (claS t z (p, true)).2.2 (I q 0)) → Q (some (.int (bI (claS t z (p, true)).1.2))) n sh I' L P) : Cl G d 31 [.ref 102] n sh I L P Q := by
  apply e31
  have hd0 : 0 < d := by omega
  have q0 := hq.2.1
  have q4 := hq.1
  have qs := hq.2.2.1
  have nq : nle 20 q := by show 20 ≤ q; omega
  (apply WP_runI (lv := lvK) (F := LK) LK_ok 999 5; simp (disch := first | decide | omega) only [t31_0, t31_1, lift_c, o_aload0, o_inl, o_virt2, rpush_n, rpush_s, o_ifeq, o_virt1, o_ifne, o_ireturn, o_getref, o_getfield, o_putfield, o_istore, s1_0, s1_s, o_iload1, o_goto, o_iload2, o_virt4, z0, z1, z2, z4, z5, z6, z7, z20, z31, z32, z101, z115, runI_0, runI_c, runI_n, liftI_n, liftI_y, run_0, run_c, run_n, fxn, fxi, fxr, fxl, fxl0, ↓swi_n, ↓swi_c, nck0, nck1, nck2, nck3, List.length_cons, List.length_nil, Nat.reduceAdd, Nat.reduceSub, Nat.reduceLeDiff, Nat.reduceEqDiff, Nat.reduceLT, reduceIte, ite_true, ite_false, Nat.sub_zero, Nat.zero_le, true_and, and_true, and_self, true_or, or_true, if_true, if_false, true_implies, implies_true, not_true_eq_false, not_false_eq_true, false_implies, forall_const, ne_eq, or_self, and_false, false_and, Lt, Le, Eq', Cp, In, nI_add, nI_mul, nI_sub, nI_sub1, Neg0, bI_eq0, bI_eq1, bI_01, bft, up2_eq, up2_no, Bool.true_eq_false, Bool.false_eq_true, eq_self, m1_ne, m1_ne2, m1_lt, m1_le, lt_m1, m1_le2, bI_t, bI_f, LK_st, FGu hG, hd0])
  refine isNext_K hG hA ?_
  cases h1 : atS t z (p, true) (nI 101) with
  | true =>
    have e : claS t z (p, true) = ((numS t z (takL t z (wdL 0 4 0) (p, true))).1, [], some (numS t z (takL t z (wdL 0 4 0) (p, true))).2) := by unfold claS; rw [if_pos h1, wd_0]
    rw [e] at hQ
    (apply WP_runI (lv := lvK) (F := LK) LK_ok 999 7; simp (disch := first | decide | omega) only [t31_0, t31_1, lift_c, o_aload0, o_inl, o_virt2, rpush_n, rpush_s, o_ifeq, o_virt1, o_ifne, o_ireturn, o_getref, o_getfield, o_putfield, o_istore, s1_0, s1_s, o_iload1, o_goto, o_iload2, o_virt4, z0, z1, z2, z4, z5, z6, z7, z20, z31, z32, z101, z115, runI_0, runI_c, runI_n, liftI_n, liftI_y, run_0, run_c, run_n, fxn, fxi, fxr, fxl, fxl0, ↓swi_n, ↓swi_c, nck0, nck1, nck2, nck3, List.length_cons, List.length_nil, Nat.reduceAdd, Nat.reduceSub, Nat.reduceLeDiff, Nat.reduceEqDiff, Nat.reduceLT, reduceIte, ite_true, ite_false, Nat.sub_zero, Nat.zero_le, true_and, and_true, and_self, true_or, or_true, if_true, if_false, true_implies, implies_true, not_true_eq_false, not_false_eq_true, false_implies, forall_const, ne_eq, or_self, and_false, false_and, Lt, Le, Eq', Cp, In, nI_add, nI_mul, nI_sub, nI_sub1, Neg0, bI_eq0, bI_eq1, bI_01, bft, up2_eq, up2_no, Bool.true_eq_false, Bool.false_eq_true, eq_self, m1_ne, m1_ne2, m1_lt, m1_le, lt_m1, m1_le2, bI_t, bI_f, LK_st, FGu hG, hd0])
    refine readWord_K (i := 0) (m := 4) hG hA (by omega) rfl (by omega) (by omega) fun I2 he2 hA2 => ?_
    generalize takL t z (wdL 0 4 0) (p, true) = u at hQ hA2 ⊢
    obtain ⟨u1, u2⟩ := u
    cases u2 with
    | false =>
      rw [numS_f] at hQ
      have hQ := hQ I2 (he2.mono fun _ _ q => Or.inl (Or.inl q)) hA2 (fun w => by cases w)
      (apply WP_runI (lv := lvK) (F := LK) LK_ok 999 6; simp (disch := first | decide | omega) only [t31_0, t31_1, lift_c, o_aload0, o_inl, o_virt2, rpush_n, rpush_s, o_ifeq, o_virt1, o_ifne, o_ireturn, o_getref, o_getfield, o_putfield, o_istore, s1_0, s1_s, o_iload1, o_goto, o_iload2, o_virt4, z0, z1, z2, z4, z5, z6, z7, z20, z31, z32, z101, z115, runI_0, runI_c, runI_n, liftI_n, liftI_y, run_0, run_c, run_n, fxn, fxi, fxr, fxl, fxl0, ↓swi_n, ↓swi_c, nck0, nck1, nck2, nck3, List.length_cons, List.length_nil, Nat.reduceAdd, Nat.reduceSub, Nat.reduceLeDiff, Nat.reduceEqDiff, Nat.reduceLT, reduceIte, ite_true, ite_false, Nat.sub_zero, Nat.zero_le, true_and, and_true, and_self, true_or, or_true, if_true, if_false, true_implies, implies_true, not_true_eq_false, not_false_eq_true, false_implies, forall_const, ne_eq, or_self, and_false, false_and, Lt, Le, Eq', Cp, In, nI_add, nI_mul, nI_sub, nI_sub1, Neg0, bI_eq0, bI_eq1, bI_01, bft, up2_eq, up2_no, Bool.true_eq_false, Bool.false_eq_true, eq_self, m1_ne, m1_ne2, m1_lt, m1_le, lt_m1, m1_le2, bI_t, bI_f, LK_st, hd0])
      exact hQ
    | true =>
      (apply WP_runI (lv := lvK) (F := LK) LK_ok 999 6; simp (disch := first | decide | omega) only [t31_0, t31_1, lift_c, o_aload0, o_inl, o_virt2, rpush_n, rpush_s, o_ifeq, o_virt1, o_ifne, o_ireturn, o_getref, o_getfield, o_putfield, o_istore, s1_0, s1_s, o_iload1, o_goto, o_iload2, o_virt4, z0, z1, z2, z4, z5, z6, z7, z20, z31, z32, z101, z115, runI_0, runI_c, runI_n, liftI_n, liftI_y, run_0, run_c, run_n, fxn, fxi, fxr, fxl, fxl0, ↓swi_n, ↓swi_c, nck0, nck1, nck2, nck3, List.length_cons, List.length_nil, Nat.reduceAdd, Nat.reduceSub, Nat.reduceLeDiff, Nat.reduceEqDiff, Nat.reduceLT, reduceIte, ite_true, ite_false, Nat.sub_zero, Nat.zero_le, true_and, and_true, and_self, true_or, or_true, if_true, if_false, true_implies, implies_true, not_true_eq_false, not_false_eq_true, false_implies, forall_const, ne_eq, or_self, and_false, false_and, Lt, Le, Eq', Cp, In, nI_add, nI_mul, nI_sub, nI_sub1, Neg0, bI_eq0, bI_eq1, bI_01, bft, up2_eq, up2_no, Bool.true_eq_false, Bool.false_eq_true, eq_self, m1_ne, m1_ne2, m1_lt, m1_le, lt_m1, m1_le2, bI_t, bI_f, LK_st, FGu hG, hd0])
      refine readNumber_K hG hA2 (by omega) fun I3 he3 hA3 h3 => ?_
      generalize numS t z (u1, true) = v at hQ hA3 h3 ⊢
      obtain ⟨⟨v1, v2⟩, v3⟩ := v
      have E3 : Eo rdN I I3 := he2.tr he3
      cases v2 with
      | false =>
        have hQ := hQ I3 (E3.mono fun _ _ q => Or.inl (Or.inl q)) hA3 (fun w => by cases w)
        (apply WP_runI (lv := lvK) (F := LK) LK_ok 999 6; simp (disch := first | decide | omega) only [t31_0, t31_1, lift_c, o_aload0, o_inl, o_virt2, rpush_n, rpush_s, o_ifeq, o_virt1, o_ifne, o_ireturn, o_getref, o_getfield, o_putfield, o_istore, s1_0, s1_s, o_iload1, o_goto, o_iload2, o_virt4, z0, z1, z2, z4, z5, z6, z7, z20, z31, z32, z101, z115, runI_0, runI_c, runI_n, liftI_n, liftI_y, run_0, run_c, run_n, fxn, fxi, fxr, fxl, fxl0, ↓swi_n, ↓swi_c, nck0, nck1, nck2, nck3, List.length_cons, List.length_nil, Nat.reduceAdd, Nat.reduceSub, Nat.reduceLeDiff, Nat.reduceEqDiff, Nat.reduceLT, reduceIte, ite_true, ite_false, Nat.sub_zero, Nat.zero_le, true_and, and_true, and_self, true_or, or_true, if_true, if_false, true_implies, implies_true, not_true_eq_false, not_false_eq_true, false_implies, forall_const, ne_eq, or_self, and_false, false_and, Lt, Le, Eq', Cp, In, nI_add, nI_mul, nI_sub, nI_sub1, Neg0, bI_eq0, bI_eq1, bI_01, bft, up2_eq, up2_no, Bool.true_eq_false, Bool.false_eq_true, eq_self, m1_ne, m1_ne2, m1_lt, m1_le, lt_m1, m1_le2, bI_t, bI_f, LK_st, hd0])
        exact hQ
      | true =>
        have h3 : I3 102 3 = v3 := h3 rfl
        have hs3 := hs.eoN q0 E3
        have e0 : ∀ a j, ¬ (a = q ∧ j = 0) → (up2 I3 q 0 v3) a j = I3 a j := fun a j w => up2_no _ _ _ _ _ _ w
        have hQ := hQ (up2 I3 q 0 v3) ((E3.mono fun _ _ q => Or.inl (Or.inl q)).up (Or.inr ⟨rfl, rfl⟩) _)
          ⟨hA3.1, (e0 _ _ (by omega)).trans hA3.sz, fun j hj => (e0 _ _ (by omega)).trans (hA3.txt hj), hA3.le, (e0 _ _ (by omega)).trans hA3.a⟩
          (fun _ => ⟨by
            show SA (up2 I3 q 0 v3) q (a ++ [])
            rw [List.append_nil]
            refine ⟨hs3.1, (e0 _ _ (by omega)).trans hs3.2.1, fun j x hx => ?_⟩
            rw [e0 _ _ (by omega), e0 _ _ (by omega), e0 _ _ (by omega)]
            exact hs3.2.2 j x hx, up2_eq _ _ _ _⟩)
        (apply WP_runI (lv := lvK) (F := LK) LK_ok 999 12; simp (disch := first | decide | omega) only [t31_0, t31_1, lift_c, o_aload0, o_inl, o_virt2, rpush_n, rpush_s, o_ifeq, o_virt1, o_ifne, o_ireturn, o_getref, o_getfield, o_putfield, o_istore, s1_0, s1_s, o_iload1, o_goto, o_iload2, o_virt4, z0, z1, z2, z4, z5, z6, z7, z20, z31, z32, z101, z115, runI_0, runI_c, runI_n, liftI_n, liftI_y, run_0, run_c, run_n, fxn, fxi, fxr, fxl, fxl0, ↓swi_n, ↓swi_c, nck0, nck1, nck2, nck3, List.length_cons, List.length_nil, Nat.reduceAdd, Nat.reduceSub, Nat.reduceLeDiff, Nat.reduceEqDiff, Nat.reduceLT, reduceIte, ite_true, ite_false, Nat.sub_zero, Nat.zero_le, true_and, and_true, and_self, true_or, or_true, if_true, if_false, true_implies, implies_true, not_true_eq_false, not_false_eq_true, false_implies, forall_const, ne_eq, or_self, and_false, false_and, Lt, Le, Eq', Cp, In, nI_add, nI_mul, nI_sub, nI_sub1, Neg0, bI_eq0, bI_eq1, bI_01, bft, up2_eq, up2_no, Bool.true_eq_false, Bool.false_eq_true, eq_self, m1_ne, m1_ne2, m1_lt, m1_le, lt_m1, m1_le2, bI_t, bI_f, LK_st, FGu hG, q4, qs, h3, nq, hd0])
        exact hQ
  | false =>
    (apply WP_runI (lv := lvK) (F := LK) LK_ok 999 7; simp (disch := first | decide | omega) only [t31_0, t31_1, lift_c, o_aload0, o_inl, o_virt2, rpush_n, rpush_s, o_ifeq, o_virt1, o_ifne, o_ireturn, o_getref, o_getfield, o_putfield, o_istore, s1_0, s1_s, o_iload1, o_goto, o_iload2, o_virt4, z0, z1, z2, z4, z5, z6, z7, z20, z31, z32, z101, z115, runI_0, runI_c, runI_n, liftI_n, liftI_y, run_0, run_c, run_n, fxn, fxi, fxr, fxl, fxl0, ↓swi_n, ↓swi_c, nck0, nck1, nck2, nck3, List.length_cons, List.length_nil, Nat.reduceAdd, Nat.reduceSub, Nat.reduceLeDiff, Nat.reduceEqDiff, Nat.reduceLT, reduceIte, ite_true, ite_false, Nat.sub_zero, Nat.zero_le, true_and, and_true, and_self, true_or, or_true, if_true, if_false, true_implies, implies_true, not_true_eq_false, not_false_eq_true, false_implies, forall_const, ne_eq, or_self, and_false, false_and, Lt, Le, Eq', Cp, In, nI_add, nI_mul, nI_sub, nI_sub1, Neg0, bI_eq0, bI_eq1, bI_01, bft, up2_eq, up2_no, Bool.true_eq_false, Bool.false_eq_true, eq_self, m1_ne, m1_ne2, m1_lt, m1_le, lt_m1, m1_le2, bI_t, bI_f, LK_st, FGu hG, hd0])
    refine isNext_K hG hA ?_
    cases h2 : atS t z (p, true) (nI 115) with
    | true =>
      have e : claS t z (p, true) = ((anyS t z (facS t z 4) (takS t z (numS t z (takL t z (wdL 1 6 0) (p, true))).1 (nI 32))).1, (anyS t z (facS t z 4) (takS t z (numS t z (takL t z (wdL 1 6 0) (p, true))).1 (nI 32))).2 ++ [(7, 0, (numS t z (takL t z (wdL 1 6 0) (p, true))).2)], none) := by
        unfold claS
        rw [if_neg (by rw [h1]; decide), if_pos h2, wd_1]
      rw [e] at hQ
      have hT2 := clauseT_K (G := G) (d := d) (n := n) (L := L) (Q := Q) (b := true) (i := 1) (m := 6) (o := 7) hG hq hT hA hs hap (Or.inl ⟨rfl, rfl, rfl, rfl⟩) hd hQ
      clear hQ
      (apply WP_runI (lv := lvK) (F := LK) LK_ok 59 8; simp (disch := first | decide | omega) only [t31_0, t31_1, lift_c, o_aload0, o_inl, o_virt2, rpush_n, rpush_s, o_ifeq, o_virt1, o_ifne, o_ireturn, o_getref, o_getfield, o_putfield, o_istore, s1_0, s1_s, o_iload1, o_goto, o_iload2, o_virt4, z0, z1, z2, z4, z5, z6, z7, z20, z31, z32, z101, z115, runI_0, runI_c, runI_n, liftI_n, liftI_y, run_0, run_c, run_n, fxn, fxi, fxr, fxl, fxl0, ↓swi_n, ↓swi_c, nck0, nck1, nck2, nck3, List.length_cons, List.length_nil, Nat.reduceAdd, Nat.reduceSub, Nat.reduceLeDiff, Nat.reduceEqDiff, Nat.reduceLT, reduceIte, ite_true, ite_false, Nat.sub_zero, Nat.zero_le, true_and, and_true, and_self, true_or, or_true, if_true, if_false, true_implies, implies_true, not_true_eq_false, not_false_eq_true, false_implies, forall_const, ne_eq, or_self, and_false, false_and, Lt, Le, Eq', Cp, In, nI_add, nI_mul, nI_sub, nI_sub1, Neg0, bI_eq0, bI_eq1, bI_01, bft, up2_eq, up2_no, Bool.true_eq_false, Bool.false_eq_true, eq_self, m1_ne, m1_ne2, m1_lt, m1_le, lt_m1, m1_le2, bI_t, bI_f, LK_st, FGu hG, hd0])
      exact hT2 _ _
    | false =>
      have hT2 := clauseT_K (G := G) (d := d) (n := n) (L := L) (Q := Q) (b := false) (i := 2) (m := 5) (o := 6) hG hq hT hA hs hap (Or.inr ⟨rfl, rfl, rfl, rfl⟩) hd (fun I' he hA' hs' => by
        by_cases h3 : atS t z (p, true) (nI 108) = true
        · have e : claS t z (p, true) = ((anyS t z (facS t z 4) (takS t z (numS t z (takL t z (wdL 2 5 0) (p, true))).1 (nI 32))).1, (anyS t z (facS t z 4) (takS t z (numS t z (takL t z (wdL 2 5 0) (p, true))).1 (nI 32))).2 ++ [(6, 0, (numS t z (takL t z (wdL 2 5 0) (p, true))).2)], none) := by
            unfold claS
            rw [if_neg (by rw [h1]; decide), if_neg (by rw [h2]; decide), if_pos h3, wd_2]
          rw [e] at hQ
          exact hQ I' he hA' hs'
        · have h3 : atS t z (p, true) (nI 108) = false := by simpa using h3
          have e : claS t z (p, true) = ((p, false), [], none) := by
            unfold claS
            rw [if_neg (by rw [h1]; decide), if_neg (by rw [h2]; decide), if_neg (by rw [h3]; decide)]
          have ew : takL t z (wdL 2 5 0) (p, true) = (p, false) := by
            rw [wd_2, takL, takS_no h3, takL_f]
          rw [e] at hQ
          rw [ew, numS_f, takS_no (p := (p, false)) (atS_f rfl), any_f] at hA' ⊢
          exact hQ I' he hA' (fun w => by cases w))
      clear hQ
      (apply WP_runI (lv := lvK) (F := LK) LK_ok 59 8; simp (disch := first | decide | omega) only [t31_0, t31_1, lift_c, o_aload0, o_inl, o_virt2, rpush_n, rpush_s, o_ifeq, o_virt1, o_ifne, o_ireturn, o_getref, o_getfield, o_putfield, o_istore, s1_0, s1_s, o_iload1, o_goto, o_iload2, o_virt4, z0, z1, z2, z4, z5, z6, z7, z20, z31, z32, z101, z115, runI_0, runI_c, runI_n, liftI_n, liftI_y, run_0, run_c, run_n, fxn, fxi, fxr, fxl, fxl0, ↓swi_n, ↓swi_c, nck0, nck1, nck2, nck3, List.length_cons, List.length_nil, Nat.reduceAdd, Nat.reduceSub, Nat.reduceLeDiff, Nat.reduceEqDiff, Nat.reduceLT, reduceIte, ite_true, ite_false, Nat.sub_zero, Nat.zero_le, true_and, and_true, and_self, true_or, or_true, if_true, if_false, true_implies, implies_true, not_true_eq_false, not_false_eq_true, false_implies, forall_const, ne_eq, or_self, and_false, false_and, Lt, Le, Eq', Cp, In, nI_add, nI_mul, nI_sub, nI_sub1, Neg0, bI_eq0, bI_eq1, bI_01, bft, up2_eq, up2_no, Bool.true_eq_false, Bool.false_eq_true, eq_self, m1_ne, m1_ne2, m1_lt, m1_le, lt_m1, m1_le2, bI_t, bI_f, LK_st, FGu hG, hd0])
      exact hT2 _ _
end
