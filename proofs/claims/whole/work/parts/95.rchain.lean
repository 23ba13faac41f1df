/-! ### the class's reader: tests, factors, both, either -/
def rdT (q a j : Nat) : Prop := rdN a j ∨ rdF q a j
theorem lopS_f {t : TN} {z : Nat} {f : PS → PS × List SP} {c : Int32} {o : Nat} : ∀ (m : Nat) (q : PS × List SP), q.1.2 = false → lopS t z f c o m q = q
  | 0, _, _ => rfl
  | m + 1, q, h => by rw [lopS, atS_f h, if_neg (by decide)]
section
variable {t : TN} {z p q : Nat}
theorem RA.eoF {I I' : TI} (h : RA I t z p) (hq : q = 104 ∨ 143 ≤ q) (he : Eo (rdF q) I I') : RA I' t z p := by
  have e : ∀ a j, a ≤ 103 → I' a j = I a j := fun a j ha => he a j fun w => by unfold rdF at w; omega
  exact ⟨h.1, (e _ _ (by omega)).trans h.sz, fun j hj => (e _ _ (by omega)).trans (h.txt hj), h.le, (e _ _ (by omega)).trans h.a⟩
theorem SA.eoN {I I' : TI} {a : List SP} (h : SA I q a) (hq : q = 104 ∨ 143 ≤ q) (he : Eo rdN I I') : SA I' q a := by
  have e : ∀ b j, 103 < b → I' b j = I b j := fun b j hb => he b j fun w => by unfold rdN at w; omega
  refine ⟨h.1, (e _ _ (by omega)).trans h.2.1, fun j x hx => ?_⟩
  rw [e _ _ (by omega), e _ _ (by omega), e _ _ (by omega)]
  exact h.2.2 j x hx
theorem letL_6 (x : PS) : letL t z x 6 = if atS t z x (nI 104) = true then some 5 else if atS t z x (nI 103) = true then some 4 else if atS t z x (nI 99) = true then some 3 else if atS t z x (nI 118) = true then some 2 else if atS t z x (nI 107) = true then some 1 else if atS t z x (nI 112) = true then some 0 else none := rfl
theorem ix_6 (c : Int32) : ixB 3 c 6 0 = if nI 112 = c then nI 0 else if nI 107 = c then nI 1 else if nI 118 = c then nI 2 else if nI 99 = c then nI 3 else if nI 103 = c then nI 4 else if nI 104 = c then nI 5 else -nI 1 := rfl
theorem ix_3 (c : Int32) : ixB 4 c 3 0 = if nI 60 = c then nI 0 else if nI 61 = c then nI 1 else if nI 62 = c then nI 2 else -nI 1 := rfl
theorem let_ix (hp : p < z) : (∃ k, k < 6 ∧ letL t z (p, true) 6 = some k ∧ ixB 3 (t p) 6 0 = nI k) ∨ (letL t z (p, true) 6 = none ∧ ixB 3 (t p) 6 0 = -nI 1) := by
  rw [letL_6, ix_6]
  simp only [atS_c hp, decide_eq_true_eq]
  generalize t p = c
  by_cases h0 : c = nI 112
  · subst h0
    exact Or.inl ⟨0, by decide⟩
  by_cases h1 : c = nI 107
  · subst h1
    exact Or.inl ⟨1, by decide⟩
  by_cases h2 : c = nI 118
  · subst h2
    exact Or.inl ⟨2, by decide⟩
  by_cases h3 : c = nI 99
  · subst h3
    exact Or.inl ⟨3, by decide⟩
  by_cases h4 : c = nI 103
  · subst h4
    exact Or.inl ⟨4, by decide⟩
  by_cases h5 : c = nI 104
  · subst h5
    exact Or.inl ⟨5, by decide⟩
  rw [if_neg h5, if_neg h4, if_neg h3, if_neg h2, if_neg h1, if_neg h0, if_neg fun e => h0 e.symm, if_neg fun e => h1 e.symm, if_neg fun e => h2 e.symm, if_neg fun e => h3 e.symm, if_neg fun e => h4 e.symm, if_neg fun e => h5 e.symm]
  exact Or.inr ⟨rfl, rfl⟩
theorem m1_nI {k : Nat} (h : k < 2 ^ 31) (e : nI k = -nI 1) : False := by rw [m1_ne k h] at e; exact e
theorem tst_no (h : ¬ p < z ∨ ixB 3 (t p) 6 0 = -nI 1) : tstS t z (p, true) = ((p, false), []) := by
  have hl : letL t z (p, true) 6 = none := by
    by_cases hp : p < z
    · rcases let_ix (t := t) hp with ⟨k, hk, -, e⟩ | ⟨e, -⟩
      · rcases h with h | h
        · exact absurd hp h
        · exact (m1_nI (by omega) (e.symm.trans h)).elim
      · exact e
    · rw [letL_6]
      simp only [atS_n hp]
      rfl
  unfold tstS
  rw [hl]
theorem tst_k (hp : p < z) {k : Nat} (hk : k < 6) (e : ixB 3 (t p) 6 0 = nI k) : letL t z (p, true) 6 = some k := by
  rcases let_ix (t := t) hp with ⟨k', hk', e1, e2⟩ | ⟨-, e2⟩
  · rw [e2, nI_eq (by omega) (by omega)] at e
    rw [e1, e]
  · exact (m1_nI (by omega) (e.symm.trans e2)).elim
theorem sg_ix (hp : p < z) : (∃ s, s < 3 ∧ sgn t z (p, true) = s ∧ ixB 4 (t p) 3 0 = nI s ∧ takS t z (p, true) (sgC (sgn t z (p, true))) = (p + 1, true)) ∨ (ixB 4 (t p) 3 0 = -nI 1 ∧ takS t z (p, true) (sgC (sgn t z (p, true))) = (p, false)) := by
  have ht : ∀ c, t p = c → takS t z (p, true) c = (p + 1, true) := fun c e => takS_ya (by rw [atS_c hp]; exact decide_eq_true e)
  have hn : ∀ c, ¬ t p = c → takS t z (p, true) c = (p, false) := fun c e => takS_no (by rw [atS_c hp]; exact decide_eq_false e)
  unfold sgn
  rw [ix_3, atS_c hp, atS_c hp]
  by_cases h0 : t p = nI 60
  · rw [decide_eq_true h0, if_pos rfl, if_pos h0.symm]
    exact Or.inl ⟨0, by decide, rfl, rfl, ht _ h0⟩
  by_cases h1 : t p = nI 61
  · have h2 : ¬ t p = nI 62 := by rw [h1]; decide
    rw [decide_eq_false h0, decide_eq_false h2, if_neg (by decide), if_neg (by decide), if_neg fun e => h0 e.symm, if_pos h1.symm]
    exact Or.inl ⟨1, by decide, rfl, rfl, ht _ h1⟩
  by_cases h2 : t p = nI 62
  · rw [decide_eq_false h0, decide_eq_true h2, if_neg (by decide), if_pos rfl, if_neg fun e => h0 e.symm, if_neg fun e => h1 e.symm, if_pos h2.symm]
    exact Or.inl ⟨2, by decide, rfl, rfl, ht _ h2⟩
  · rw [decide_eq_false h0, decide_eq_false h2, if_neg (by decide), if_neg (by decide), if_neg fun e => h0 e.symm, if_neg fun e => h1 e.symm, if_neg fun e => h2 e.symm]
    exact Or.inr ⟨rfl, hn _ h1⟩
theorem sg_no {k : Nat} (hl : letL t z (p, true) 6 = some k) (h : ¬ p + 1 < z ∨ ixB 4 (t (p + 1)) 3 0 = -nI 1) : (tstS t z (p, true)).1 = (p + 1, false) := by
  have ht : takS t z (p + 1, true) (sgC (sgn t z (p + 1, true))) = (p + 1, false) := by
    by_cases hp : p + 1 < z
    · rcases sg_ix (t := t) hp with ⟨s, hs, -, e, -⟩ | ⟨-, e⟩
      · rcases h with h | h
        · exact absurd hp h
        · exact (m1_nI (by omega) (e.symm.trans h)).elim
      · exact e
    · exact takS_no (atS_n hp _)
  unfold tstS
  rw [hl]
  show (numS t z (takS t z (p + 1, true) (sgC (sgn t z (p + 1, true))))).1 = _
  rw [ht, numS_f]
theorem sg_s {k s : Nat} (hl : letL t z (p, true) 6 = some k) (hp : p + 1 < z) (hs : s < 3) (e : ixB 4 (t (p + 1)) 3 0 = nI s) : tstS t z (p, true) = ((numS t z (p + 2, true)).1, [(s, k, (numS t z (p + 2, true)).2)]) := by
  rcases sg_ix (t := t) hp with ⟨s', hs', e1, e2, e3⟩ | ⟨e2, -⟩
  · rw [e2, nI_eq (by omega) (by omega)] at e
    unfold tstS
    rw [hl]
    show ((numS t z (takS t z (p + 1, true) (sgC (sgn t z (p + 1, true))))).1, [(sgn t z (p + 1, true), k, (numS t z (takS t z (p + 1, true) (sgC (sgn t z (p + 1, true))))).2)]) = _
    rw [e3, e1, e]
  · exact (m1_nI (by omega) (e.symm.trans e2)).elim
end
/-- a method of the class's reader does what f does -/
def RdK (G : GE) (y : Nat) (w : Int32) (dd : Nat) (t : TN) (z : Nat) (f : PS → PS × List SP) : Prop :=
  ∀ (d n : Nat) (sh : TS) (I : TI) (L : TL) (P : TP) (Q : TQ) (p q : Nat) (a : List SP), FG sh P → QF sh P q → TX t z → RA I t z p → SA I q a → a.length ≤ p → dd ≤ d →
    (∀ I', Eo (rdT q) I I' → RA I' t z (f (p, true)).1.1 → ((f (p, true)).1.2 = true → SA I' q (a ++ (f (p, true)).2)) → Q (some (.int (bI (f (p, true)).1.2))) n sh I' L P) → Cl G d y [.ref 102, .int w] n sh I L P Q
section
variable {G : GE} {d n : Nat} {sh : TS} {I : TI} {L : TL} {P : TP} {Q : TQ} {t : TN} {z p q : Nat} {w : Int32} {dd : Nat} {f : PS → PS × List SP}
theorem testF_K (hG : FG sh P) (hq : QF sh P q) (hT : TX t z) {a : List SP} (hA : RA I t z p) (hs : SA I q a) (hap : a.length ≤ p) (hd : 7 ≤ d)
    (hQ : ∀ I', Eo (rdT q) I I' → RA I' t z (tstS t z (p, true)).1.1 → ((tstS t z (p, true)).1.2 = true → SA I' q (a ++ (tstS t z (p, true)).2)) → Q (some (.int (bI (tstS t z (p, true)).1.2))) n sh I' L P) (cc ss : Nat) : WP G 34 d Q 77 [some (.ref 102), some (.int w), none, none] [] cc ss n sh I L P := by
  have hd0 : 0 < d := by omega
  have q0 := hq.2.1
  have q4 := hq.1
  have qs := hq.2.2.1
  have h100 := hA.z100
  have hle := hA.le
  (apply WP_runI (lv := lvK) (F := LK) LK_ok 999 6; simp (disch := first | decide | omega) only [t34_0, t34_1, lift_c, o_iload1, o_inl, o_icge, o_aload0, o_virt2, rpush_n, rpush_s, o_ifeq, o_iadd, o_ifne, o_ireturn, o_getref, o_virt4, o_goto, o_istore, s1_0, s1_s, o_iload2, o_ifge, o_iload3, o_iflt, o_virt1, o_getfield, z0, z1, z2, z3, z4, z7, z8, z20, z31, z33, z40, z41, runI_0, runI_c, runI_n, liftI_n, liftI_y, run_0, run_c, run_n, fxn, fxi, fxr, fxl, fxl0, ↓swi_n, ↓swi_c, nck0, nck1, nck2, nck3, List.length_cons, List.length_nil, Nat.reduceAdd, Nat.reduceSub, Nat.reduceLeDiff, Nat.reduceEqDiff, Nat.reduceLT, reduceIte, ite_true, ite_false, Nat.sub_zero, Nat.zero_le, true_and, and_true, and_self, true_or, or_true, if_true, if_false, true_implies, implies_true, not_true_eq_false, not_false_eq_true, false_implies, forall_const, ne_eq, or_self, and_false, false_and, Lt, Le, Eq', Cp, In, nI_add, nI_mul, nI_sub, nI_sub1, Neg0, bI_eq0, bI_eq1, bI_01, bft, up2_eq, up2_no, Bool.true_eq_false, Bool.false_eq_true, eq_self, m1_ne, m1_ne2, m1_lt, m1_le, lt_m1, m1_le2, bI_t, bI_f, LK_st, FGu hG, hd0])
  refine readOneOf_K (i := 3) (m := 6) hG hA hT (by omega) rfl (by omega) (by omega) (fun k hp hk e hA2 => ?_) fun h => ?_
  · have hl := tst_k hp hk e
    have he2 : Eo rdN I (up2 I 102 2 (nI (p + 1))) := Eo.rf.up ⟨rfl, Or.inl rfl⟩ _
    have hs2 := hs.eoN q0 he2
    generalize up2 I 102 2 (nI (p + 1)) = I2 at hA2 he2 hs2 ⊢
    (apply WP_runI (lv := lvK) (F := LK) LK_ok 999 9; simp (disch := first | decide | omega) only [t34_0, t34_1, lift_c, o_iload1, o_inl, o_icge, o_aload0, o_virt2, rpush_n, rpush_s, o_ifeq, o_iadd, o_ifne, o_ireturn, o_getref, o_virt4, o_goto, o_istore, s1_0, s1_s, o_iload2, o_ifge, o_iload3, o_iflt, o_virt1, o_getfield, z0, z1, z2, z3, z4, z7, z8, z20, z31, z33, z40, z41, runI_0, runI_c, runI_n, liftI_n, liftI_y, run_0, run_c, run_n, fxn, fxi, fxr, fxl, fxl0, ↓swi_n, ↓swi_c, nck0, nck1, nck2, nck3, List.length_cons, List.length_nil, Nat.reduceAdd, Nat.reduceSub, Nat.reduceLeDiff, Nat.reduceEqDiff, Nat.reduceLT, reduceIte, ite_true, ite_false, Nat.sub_zero, Nat.zero_le, true_and, and_true, and_self, true_or, or_true, if_true, if_false, true_implies, implies_true, not_true_eq_false, not_false_eq_true, false_implies, forall_const, ne_eq, or_self, and_false, false_and, Lt, Le, Eq', Cp, In, nI_add, nI_mul, nI_sub, nI_sub1, Neg0, bI_eq0, bI_eq1, bI_01, bft, up2_eq, up2_no, Bool.true_eq_false, Bool.false_eq_true, eq_self, m1_ne, m1_ne2, m1_lt, m1_le, lt_m1, m1_le2, bI_t, bI_f, LK_st, FGu hG, hd0, Nat.not_lt_zero])
    refine readOneOf_K (i := 4) (m := 3) hG hA2 hT (by omega) rfl (by omega) (by omega) (fun s hp2 hs3 e2 hA3 => ?_) fun h => ?_
    · rw [sg_s hl hp2 hs3 e2] at hQ
      have he3 : Eo rdN I2 (up2 I2 102 2 (nI (p + 1 + 1))) := Eo.rf.up ⟨rfl, Or.inl rfl⟩ _
      generalize up2 I2 102 2 (nI (p + 1 + 1)) = I3 at hA3 he3 ⊢
      (apply WP_runI (lv := lvK) (F := LK) LK_ok 999 9; simp (disch := first | decide | omega) only [t34_0, t34_1, lift_c, o_iload1, o_inl, o_icge, o_aload0, o_virt2, rpush_n, rpush_s, o_ifeq, o_iadd, o_ifne, o_ireturn, o_getref, o_virt4, o_goto, o_istore, s1_0, s1_s, o_iload2, o_ifge, o_iload3, o_iflt, o_virt1, o_getfield, z0, z1, z2, z3, z4, z7, z8, z20, z31, z33, z40, z41, runI_0, runI_c, runI_n, liftI_n, liftI_y, run_0, run_c, run_n, fxn, fxi, fxr, fxl, fxl0, ↓swi_n, ↓swi_c, nck0, nck1, nck2, nck3, List.length_cons, List.length_nil, Nat.reduceAdd, Nat.reduceSub, Nat.reduceLeDiff, Nat.reduceEqDiff, Nat.reduceLT, reduceIte, ite_true, ite_false, Nat.sub_zero, Nat.zero_le, true_and, and_true, and_self, true_or, or_true, if_true, if_false, true_implies, implies_true, not_true_eq_false, not_false_eq_true, false_implies, forall_const, ne_eq, or_self, and_false, false_and, Lt, Le, Eq', Cp, In, nI_add, nI_mul, nI_sub, nI_sub1, Neg0, bI_eq0, bI_eq1, bI_01, bft, up2_eq, up2_no, Bool.true_eq_false, Bool.false_eq_true, eq_self, m1_ne, m1_ne2, m1_lt, m1_le, lt_m1, m1_le2, bI_t, bI_f, LK_st, FGu hG, hd0, Nat.not_lt_zero])
      refine readNumber_K hG hA3 (by omega) fun I4 he4 hA4 h3 => ?_
      have hle4 := numS_le t z (p + 1 + 1, true)
      have hA4 : RA I4 t z (numS t z (p + 2, true)).1.1 := hA4
      have hle4 : p + 2 ≤ (numS t z (p + 2, true)).1.1 := hle4
      have h3 : (numS t z (p + 2, true)).1.2 = true → I4 102 3 = (numS t z (p + 2, true)).2 := h3
      show WP G 34 d Q _ _ (rpush (some (.int (bI (numS t z (p + 2, true)).1.2))) _) _ _ _ _ _ _ _
      generalize numS t z (p + 2, true) = r at hQ hA4 hle4 h3 ⊢
      obtain ⟨⟨r1, r2⟩, r3⟩ := r
      cases r2 with
      | false =>
        have hQ := hQ I4 (((he2.tr he3).tr he4).mono fun _ _ => Or.inl) hA4 (fun w => by cases w)
        (apply WP_runI (lv := lvK) (F := LK) LK_ok 999 9; simp (disch := first | decide | omega) only [t34_0, t34_1, lift_c, o_iload1, o_inl, o_icge, o_aload0, o_virt2, rpush_n, rpush_s, o_ifeq, o_iadd, o_ifne, o_ireturn, o_getref, o_virt4, o_goto, o_istore, s1_0, s1_s, o_iload2, o_ifge, o_iload3, o_iflt, o_virt1, o_getfield, z0, z1, z2, z3, z4, z7, z8, z20, z31, z33, z40, z41, runI_0, runI_c, runI_n, liftI_n, liftI_y, run_0, run_c, run_n, fxn, fxi, fxr, fxl, fxl0, ↓swi_n, ↓swi_c, nck0, nck1, nck2, nck3, List.length_cons, List.length_nil, Nat.reduceAdd, Nat.reduceSub, Nat.reduceLeDiff, Nat.reduceEqDiff, Nat.reduceLT, reduceIte, ite_true, ite_false, Nat.sub_zero, Nat.zero_le, true_and, and_true, and_self, true_or, or_true, if_true, if_false, true_implies, implies_true, not_true_eq_false, not_false_eq_true, false_implies, forall_const, ne_eq, or_self, and_false, false_and, Lt, Le, Eq', Cp, In, nI_add, nI_mul, nI_sub, nI_sub1, Neg0, bI_eq0, bI_eq1, bI_01, bft, up2_eq, up2_no, Bool.true_eq_false, Bool.false_eq_true, eq_self, m1_ne, m1_ne2, m1_lt, m1_le, lt_m1, m1_le2, bI_t, bI_f, LK_st, hd0])
        exact hQ
      | true =>
        have h3 := h3 rfl
        have hs4 := (hs2.eoN q0 he3).eoN q0 he4
        have hr := hA4.le
        have hle4 : p + 2 ≤ r1 := hle4
        have hr : r1 ≤ z := hr
        (apply WP_runI (lv := lvK) (F := LK) LK_ok 999 12; simp (disch := first | decide | omega) only [t34_0, t34_1, lift_c, o_iload1, o_inl, o_icge, o_aload0, o_virt2, rpush_n, rpush_s, o_ifeq, o_iadd, o_ifne, o_ireturn, o_getref, o_virt4, o_goto, o_istore, s1_0, s1_s, o_iload2, o_ifge, o_iload3, o_iflt, o_virt1, o_getfield, z0, z1, z2, z3, z4, z7, z8, z20, z31, z33, z40, z41, runI_0, runI_c, runI_n, liftI_n, liftI_y, run_0, run_c, run_n, fxn, fxi, fxr, fxl, fxl0, ↓swi_n, ↓swi_c, nck0, nck1, nck2, nck3, List.length_cons, List.length_nil, Nat.reduceAdd, Nat.reduceSub, Nat.reduceLeDiff, Nat.reduceEqDiff, Nat.reduceLT, reduceIte, ite_true, ite_false, Nat.sub_zero, Nat.zero_le, true_and, and_true, and_self, true_or, or_true, if_true, if_false, true_implies, implies_true, not_true_eq_false, not_false_eq_true, false_implies, forall_const, ne_eq, or_self, and_false, false_and, Lt, Le, Eq', Cp, In, nI_add, nI_mul, nI_sub, nI_sub1, Neg0, bI_eq0, bI_eq1, bI_01, bft, up2_eq, up2_no, Bool.true_eq_false, Bool.false_eq_true, eq_self, m1_ne, m1_ne2, m1_lt, m1_le, lt_m1, m1_le2, bI_t, bI_f, LK_st, FGu hG, q4, qs, h3, hd0])
        refine addF_K hq hs4 (by omega) fun I5 he5 hs5 => ?_
        have hQ := hQ I5 ((((he2.tr he3).tr he4).mono fun _ _ => Or.inl).tr (he5.mono fun _ _ => Or.inr)) (hA4.eoF q0 he5) (fun _ => hs5)
        (apply WP_runI (lv := lvK) (F := LK) LK_ok 999 9; simp (disch := first | decide | omega) only [t34_0, t34_1, lift_c, o_iload1, o_inl, o_icge, o_aload0, o_virt2, rpush_n, rpush_s, o_ifeq, o_iadd, o_ifne, o_ireturn, o_getref, o_virt4, o_goto, o_istore, s1_0, s1_s, o_iload2, o_ifge, o_iload3, o_iflt, o_virt1, o_getfield, z0, z1, z2, z3, z4, z7, z8, z20, z31, z33, z40, z41, runI_0, runI_c, runI_n, liftI_n, liftI_y, run_0, run_c, run_n, fxn, fxi, fxr, fxl, fxl0, ↓swi_n, ↓swi_c, nck0, nck1, nck2, nck3, List.length_cons, List.length_nil, Nat.reduceAdd, Nat.reduceSub, Nat.reduceLeDiff, Nat.reduceEqDiff, Nat.reduceLT, reduceIte, ite_true, ite_false, Nat.sub_zero, Nat.zero_le, true_and, and_true, and_self, true_or, or_true, if_true, if_false, true_implies, implies_true, not_true_eq_false, not_false_eq_true, false_implies, forall_const, ne_eq, or_self, and_false, false_and, Lt, Le, Eq', Cp, In, nI_add, nI_mul, nI_sub, nI_sub1, Neg0, bI_eq0, bI_eq1, bI_01, bft, up2_eq, up2_no, Bool.true_eq_false, Bool.false_eq_true, eq_self, m1_ne, m1_ne2, m1_lt, m1_le, lt_m1, m1_le2, bI_t, bI_f, LK_st, hd0])
        exact hQ
    · have hw := sg_no hl h
      have hQ := hQ I2 (he2.mono fun _ _ => Or.inl) (by rw [hw]; exact hA2) (fun w => by rw [hw] at w; cases w)
      rw [hw] at hQ
      (apply WP_runI (lv := lvK) (F := LK) LK_ok 999 9; simp (disch := first | decide | omega) only [t34_0, t34_1, lift_c, o_iload1, o_inl, o_icge, o_aload0, o_virt2, rpush_n, rpush_s, o_ifeq, o_iadd, o_ifne, o_ireturn, o_getref, o_virt4, o_goto, o_istore, s1_0, s1_s, o_iload2, o_ifge, o_iload3, o_iflt, o_virt1, o_getfield, z0, z1, z2, z3, z4, z7, z8, z20, z31, z33, z40, z41, runI_0, runI_c, runI_n, liftI_n, liftI_y, run_0, run_c, run_n, fxn, fxi, fxr, fxl, fxl0, ↓swi_n, ↓swi_c, nck0, nck1, nck2, nck3, List.length_cons, List.length_nil, Nat.reduceAdd, Nat.reduceSub, Nat.reduceLeDiff, Nat.reduceEqDiff, Nat.reduceLT, reduceIte, ite_true, ite_false, Nat.sub_zero, Nat.zero_le, true_and, and_true, and_self, true_or, or_true, if_true, if_false, true_implies, implies_true, not_true_eq_false, not_false_eq_true, false_implies, forall_const, ne_eq, or_self, and_false, false_and, Lt, Le, Eq', Cp, In, nI_add, nI_mul, nI_sub, nI_sub1, Neg0, bI_eq0, bI_eq1, bI_01, bft, up2_eq, up2_no, Bool.true_eq_false, Bool.false_eq_true, eq_self, m1_ne, m1_ne2, m1_lt, m1_le, lt_m1, m1_le2, bI_t, bI_f, LK_st, hd0])
      exact hQ
  · rw [tst_no h] at hQ
    have hQ := hQ I Eo.rf hA (fun w => by cases w)
    (apply WP_runI (lv := lvK) (F := LK) LK_ok 999 14; simp (disch := first | decide | omega) only [t34_0, t34_1, lift_c, o_iload1, o_inl, o_icge, o_aload0, o_virt2, rpush_n, rpush_s, o_ifeq, o_iadd, o_ifne, o_ireturn, o_getref, o_virt4, o_goto, o_istore, s1_0, s1_s, o_iload2, o_ifge, o_iload3, o_iflt, o_virt1, o_getfield, z0, z1, z2, z3, z4, z7, z8, z20, z31, z33, z40, z41, runI_0, runI_c, runI_n, liftI_n, liftI_y, run_0, run_c, run_n, fxn, fxi, fxr, fxl, fxl0, ↓swi_n, ↓swi_c, nck0, nck1, nck2, nck3, List.length_cons, List.length_nil, Nat.reduceAdd, Nat.reduceSub, Nat.reduceLeDiff, Nat.reduceEqDiff, Nat.reduceLT, reduceIte, ite_true, ite_false, Nat.sub_zero, Nat.zero_le, true_and, and_true, and_self, true_or, or_true, if_true, if_false, true_implies, implies_true, not_true_eq_false, not_false_eq_true, false_implies, forall_const, ne_eq, or_self, and_false, false_and, Lt, Le, Eq', Cp, In, nI_add, nI_mul, nI_sub, nI_sub1, Neg0, bI_eq0, bI_eq1, bI_01, bft, up2_eq, up2_no, Bool.true_eq_false, Bool.false_eq_true, eq_self, m1_ne, m1_ne2, m1_lt, m1_le, lt_m1, m1_le2, bI_t, bI_f, LK_st, hd0])
    exact hQ
end
section
variable {G : GE} {d n : Nat} {sh : TS} {I : TI} {L : TL} {P : TP} {Q : TQ} {t : TN} {z p q : Nat} {w : Int32} {dd : Nat} {f : PS → PS × List SP}
theorem bothRL_K (hG : FG sh P) (hq : QF sh P q) (hT : TX t z) (hl : lenF f) (hM : RdK G 34 w dd t z f) (hd : dd + 1 ≤ d) (hd3 : 3 ≤ d) {a : List SP} : ∀ (m j p1 : Nat) (l1 : List SP) (I : TI) (cc ss : Nat), j + m = z → RA I t z p1 → SA I q (a ++ l1) → (a ++ l1).length ≤ p1 →
    (∀ I', Eo (rdT q) I I' → RA I' t z (lopS t z f (nI 38) 4 m ((p1, true), l1)).1.1 → ((lopS t z f (nI 38) 4 m ((p1, true), l1)).1.2 = true → SA I' q (a ++ (lopS t z f (nI 38) 4 m ((p1, true), l1)).2)) → Q (some (.int (bI (lopS t z f (nI 38) 4 m ((p1, true), l1)).1.2))) n sh I' L P) →
    WP G 33 d Q 12 [some (.ref 102), some (.int w), some (.int (nI j))] [] cc ss n sh I L P := by
  have hd0 : 0 < d := by omega
  have q0 := hq.2.1
  have q4 := hq.1
  have qs := hq.2.2.1
  intro m
  induction m with
  | zero =>
    intro j p1 l1 I cc ss h hA hs hap hQ
    have hz := hA.sz
    have h100 := hA.z100
    have hj : z ≤ j := by omega
    have hQ := hQ I Eo.rf hA (fun _ => hs)
    (apply WP_runI (lv := lvK) (F := LK) LK_ok 999 8; simp (disch := first | decide | omega) only [t33_0, lift_c, o_aload0, o_iload1, o_virt2, rpush_n, rpush_s, o_ifne, o_inl, o_ireturn, o_istore, s1_0, s1_s, o_iload2, o_getfield, o_icge, o_ifeq, o_getref, o_virt4, o_iinc2, o_goto, z0, z1, z2, z4, z20, z31, z38, runI_0, runI_c, runI_n, liftI_n, liftI_y, run_0, run_c, run_n, fxn, fxi, fxr, fxl, fxl0, ↓swi_n, ↓swi_c, nck0, nck1, nck2, nck3, List.length_cons, List.length_nil, Nat.reduceAdd, Nat.reduceSub, Nat.reduceLeDiff, Nat.reduceEqDiff, Nat.reduceLT, reduceIte, ite_true, ite_false, Nat.sub_zero, Nat.zero_le, true_and, and_true, and_self, true_or, or_true, if_true, if_false, true_implies, implies_true, not_true_eq_false, not_false_eq_true, false_implies, forall_const, ne_eq, or_self, and_false, false_and, Lt, Le, Eq', Cp, In, nI_add, nI_mul, nI_sub, nI_sub1, Neg0, bI_eq0, bI_eq1, bI_01, bft, up2_eq, up2_no, Bool.true_eq_false, Bool.false_eq_true, eq_self, m1_ne, m1_ne2, m1_lt, m1_le, lt_m1, m1_le2, bI_t, bI_f, LK_st, FGu hG, hz, hj])
    exact hQ
  | succ m ih =>
    intro j p1 l1 I cc ss h hA hs hap hQ
    have hz := hA.sz
    have h100 := hA.z100
    have hle := hA.le
    have hj : ¬ z ≤ j := by omega
    (apply WP_runI (lv := lvK) (F := LK) LK_ok 999 8; simp (disch := first | decide | omega) only [t33_0, lift_c, o_aload0, o_iload1, o_virt2, rpush_n, rpush_s, o_ifne, o_inl, o_ireturn, o_istore, s1_0, s1_s, o_iload2, o_getfield, o_icge, o_ifeq, o_getref, o_virt4, o_iinc2, o_goto, z0, z1, z2, z4, z20, z31, z38, runI_0, runI_c, runI_n, liftI_n, liftI_y, run_0, run_c, run_n, fxn, fxi, fxr, fxl, fxl0, ↓swi_n, ↓swi_c, nck0, nck1, nck2, nck3, List.length_cons, List.length_nil, Nat.reduceAdd, Nat.reduceSub, Nat.reduceLeDiff, Nat.reduceEqDiff, Nat.reduceLT, reduceIte, ite_true, ite_false, Nat.sub_zero, Nat.zero_le, true_and, and_true, and_self, true_or, or_true, if_true, if_false, true_implies, implies_true, not_true_eq_false, not_false_eq_true, false_implies, forall_const, ne_eq, or_self, and_false, false_and, Lt, Le, Eq', Cp, In, nI_add, nI_mul, nI_sub, nI_sub1, Neg0, bI_eq0, bI_eq1, bI_01, bft, up2_eq, up2_no, Bool.true_eq_false, Bool.false_eq_true, eq_self, m1_ne, m1_ne2, m1_lt, m1_le, lt_m1, m1_le2, bI_t, bI_f, LK_st, FGu hG, hz, hj, hd0])
    refine readSign_K hG hA (by omega) (fun hb hA2 => ?_) fun hb => ?_
    · have e : lopS t z f (nI 38) 4 (m + 1) ((p1, true), l1) = lopS t z f (nI 38) 4 m ((f (p1 + 1, true)).1, l1 ++ ((f (p1 + 1, true)).2 ++ [(4, 0, nI 0)])) := by rw [lopS, if_pos hb]
      rw [e] at hQ
      have he2 : Eo rdN I (up2 I 102 2 (nI (p1 + 1))) := Eo.rf.up ⟨rfl, Or.inl rfl⟩ _
      have hs2 := hs.eoN q0 he2
      generalize up2 I 102 2 (nI (p1 + 1)) = I2 at hA2 he2 hs2 ⊢
      (apply WP_runI (lv := lvK) (F := LK) LK_ok 999 6; simp (disch := first | decide | omega) only [t33_0, lift_c, o_aload0, o_iload1, o_virt2, rpush_n, rpush_s, o_ifne, o_inl, o_ireturn, o_istore, s1_0, s1_s, o_iload2, o_getfield, o_icge, o_ifeq, o_getref, o_virt4, o_iinc2, o_goto, z0, z1, z2, z4, z20, z31, z38, runI_0, runI_c, runI_n, liftI_n, liftI_y, run_0, run_c, run_n, fxn, fxi, fxr, fxl, fxl0, ↓swi_n, ↓swi_c, nck0, nck1, nck2, nck3, List.length_cons, List.length_nil, Nat.reduceAdd, Nat.reduceSub, Nat.reduceLeDiff, Nat.reduceEqDiff, Nat.reduceLT, reduceIte, ite_true, ite_false, Nat.sub_zero, Nat.zero_le, true_and, and_true, and_self, true_or, or_true, if_true, if_false, true_implies, implies_true, not_true_eq_false, not_false_eq_true, false_implies, forall_const, ne_eq, or_self, and_false, false_and, Lt, Le, Eq', Cp, In, nI_add, nI_mul, nI_sub, nI_sub1, Neg0, bI_eq0, bI_eq1, bI_01, bft, up2_eq, up2_no, Bool.true_eq_false, Bool.false_eq_true, eq_self, m1_ne, m1_ne2, m1_lt, m1_le, lt_m1, m1_le2, bI_t, bI_f, LK_st, FGu hG, hd0])
      refine hM _ _ _ _ _ _ _ (p1 + 1) q (a ++ l1) hG hq hT hA2 hs2 (by omega) (by omega) fun I3 he3 hA3 hs3 => ?_
      have hlf := hl (p1 + 1, true)
      have hlf : (f (p1 + 1, true)).1.2 = true → p1 + 1 + (f (p1 + 1, true)).2.length ≤ (f (p1 + 1, true)).1.1 := hlf
      generalize f (p1 + 1, true) = r at hQ hA3 hs3 hlf ⊢
      obtain ⟨⟨r1, r2⟩, r3⟩ := r
      cases r2 with
      | false =>
        rw [lopS_f m ((r1, false), l1 ++ (r3 ++ [(4, 0, nI 0)])) rfl] at hQ
        have hQ := hQ I3 ((he2.mono fun _ _ => Or.inl).tr he3) hA3 (fun w => by cases w)
        (apply WP_runI (lv := lvK) (F := LK) LK_ok 999 6; simp (disch := first | decide | omega) only [t33_0, lift_c, o_aload0, o_iload1, o_virt2, rpush_n, rpush_s, o_ifne, o_inl, o_ireturn, o_istore, s1_0, s1_s, o_iload2, o_getfield, o_icge, o_ifeq, o_getref, o_virt4, o_iinc2, o_goto, z0, z1, z2, z4, z20, z31, z38, runI_0, runI_c, runI_n, liftI_n, liftI_y, run_0, run_c, run_n, fxn, fxi, fxr, fxl, fxl0, ↓swi_n, ↓swi_c, nck0, nck1, nck2, nck3, List.length_cons, List.length_nil, Nat.reduceAdd, Nat.reduceSub, Nat.reduceLeDiff, Nat.reduceEqDiff, Nat.reduceLT, reduceIte, ite_true, ite_false, Nat.sub_zero, Nat.zero_le, true_and, and_true, and_self, true_or, or_true, if_true, if_false, true_implies, implies_true, not_true_eq_false, not_false_eq_true, false_implies, forall_const, ne_eq, or_self, and_false, false_and, Lt, Le, Eq', Cp, In, nI_add, nI_mul, nI_sub, nI_sub1, Neg0, bI_eq0, bI_eq1, bI_01, bft, up2_eq, up2_no, Bool.true_eq_false, Bool.false_eq_true, eq_self, m1_ne, m1_ne2, m1_lt, m1_le, lt_m1, m1_le2, bI_t, bI_f, LK_st, hd0])
        exact hQ
      | true =>
        have hs3 : SA I3 q ((a ++ l1) ++ r3) := hs3 rfl
        have hlf : p1 + 1 + r3.length ≤ r1 := hlf rfl
        have hr : r1 ≤ z := hA3.le
        have hlen : (a ++ l1 ++ r3).length + 1 ≤ r1 := by rw [List.length_append]; omega
        (apply WP_runI (lv := lvK) (F := LK) LK_ok 999 8; simp (disch := first | decide | omega) only [t33_0, lift_c, o_aload0, o_iload1, o_virt2, rpush_n, rpush_s, o_ifne, o_inl, o_ireturn, o_istore, s1_0, s1_s, o_iload2, o_getfield, o_icge, o_ifeq, o_getref, o_virt4, o_iinc2, o_goto, z0, z1, z2, z4, z20, z31, z38, runI_0, runI_c, runI_n, liftI_n, liftI_y, run_0, run_c, run_n, fxn, fxi, fxr, fxl, fxl0, ↓swi_n, ↓swi_c, nck0, nck1, nck2, nck3, List.length_cons, List.length_nil, Nat.reduceAdd, Nat.reduceSub, Nat.reduceLeDiff, Nat.reduceEqDiff, Nat.reduceLT, reduceIte, ite_true, ite_false, Nat.sub_zero, Nat.zero_le, true_and, and_true, and_self, true_or, or_true, if_true, if_false, true_implies, implies_true, not_true_eq_false, not_false_eq_true, false_implies, forall_const, ne_eq, or_self, and_false, false_and, Lt, Le, Eq', Cp, In, nI_add, nI_mul, nI_sub, nI_sub1, Neg0, bI_eq0, bI_eq1, bI_01, bft, up2_eq, up2_no, Bool.true_eq_false, Bool.false_eq_true, eq_self, m1_ne, m1_ne2, m1_lt, m1_le, lt_m1, m1_le2, bI_t, bI_f, LK_st, FGu hG, q4, qs, hd0])
        refine addF_K hq hs3 (by omega) fun I4 he4 hs4 => ?_
        have hs4 : SA I4 q (a ++ (l1 ++ (r3 ++ [(4, 0, nI 0)]))) := by
          rw [List.append_assoc, List.append_assoc] at hs4
          exact hs4
        have hlen4 : (a ++ (l1 ++ (r3 ++ [((4 : Nat), (0 : Nat), nI 0)]))).length ≤ r1 := by
          rw [List.length_append, List.length_append, List.length_append]
          rw [List.length_append, List.length_append] at hlen
          show a.length + (l1.length + (r3.length + 1)) ≤ r1
          omega
        have ih := fun cc ss => ih (j + 1) r1 (l1 ++ (r3 ++ [(4, 0, nI 0)])) I4 cc ss (by omega) (hA3.eoF q0 he4) hs4 hlen4 (fun I' he => hQ I' (((he2.mono fun _ _ => Or.inl).tr he3).tr ((he4.mono fun _ _ => Or.inr).tr he)))
        (apply WP_runI (lv := lvK) (F := LK) LK_ok 12 6; simp (disch := first | decide | omega) only [t33_0, lift_c, o_aload0, o_iload1, o_virt2, rpush_n, rpush_s, o_ifne, o_inl, o_ireturn, o_istore, s1_0, s1_s, o_iload2, o_getfield, o_icge, o_ifeq, o_getref, o_virt4, o_iinc2, o_goto, z0, z1, z2, z4, z20, z31, z38, runI_0, runI_c, runI_n, liftI_n, liftI_y, run_0, run_c, run_n, fxn, fxi, fxr, fxl, fxl0, ↓swi_n, ↓swi_c, nck0, nck1, nck2, nck3, List.length_cons, List.length_nil, Nat.reduceAdd, Nat.reduceSub, Nat.reduceLeDiff, Nat.reduceEqDiff, Nat.reduceLT, reduceIte, ite_true, ite_false, Nat.sub_zero, Nat.zero_le, true_and, and_true, and_self, true_or, or_true, if_true, if_false, true_implies, implies_true, not_true_eq_false, not_false_eq_true, false_implies, forall_const, ne_eq, or_self, and_false, false_and, Lt, Le, Eq', Cp, In, nI_add, nI_mul, nI_sub, nI_sub1, Neg0, bI_eq0, bI_eq1, bI_01, bft, up2_eq, up2_no, Bool.true_eq_false, Bool.false_eq_true, eq_self, m1_ne, m1_ne2, m1_lt, m1_le, lt_m1, m1_le2, bI_t, bI_f, LK_st, hd0])
        exact ih _ _
    · have e : lopS t z f (nI 38) 4 (m + 1) ((p1, true), l1) = ((p1, true), l1) := by rw [lopS, hb, if_neg (by decide)]
      rw [e] at hQ
      have hQ := hQ I Eo.rf hA (fun _ => hs)
      (apply WP_runI (lv := lvK) (F := LK) LK_ok 999 6; simp (disch := first | decide | omega) only [t33_0, lift_c, o_aload0, o_iload1, o_virt2, rpush_n, rpush_s, o_ifne, o_inl, o_ireturn, o_istore, s1_0, s1_s, o_iload2, o_getfield, o_icge, o_ifeq, o_getref, o_virt4, o_iinc2, o_goto, z0, z1, z2, z4, z20, z31, z38, runI_0, runI_c, runI_n, liftI_n, liftI_y, run_0, run_c, run_n, fxn, fxi, fxr, fxl, fxl0, ↓swi_n, ↓swi_c, nck0, nck1, nck2, nck3, List.length_cons, List.length_nil, Nat.reduceAdd, Nat.reduceSub, Nat.reduceLeDiff, Nat.reduceEqDiff, Nat.reduceLT, reduceIte, ite_true, ite_false, Nat.sub_zero, Nat.zero_le, true_and, and_true, and_self, true_or, or_true, if_true, if_false, true_implies, implies_true, not_true_eq_false, not_false_eq_true, false_implies, forall_const, ne_eq, or_self, and_false, false_and, Lt, Le, Eq', Cp, In, nI_add, nI_mul, nI_sub, nI_sub1, Neg0, bI_eq0, bI_eq1, bI_01, bft, up2_eq, up2_no, Bool.true_eq_false, Bool.false_eq_true, eq_self, m1_ne, m1_ne2, m1_lt, m1_le, lt_m1, m1_le2, bI_t, bI_f, LK_st, hd0])
      exact hQ
theorem bothR_K (hl : lenF f) (hM : RdK G 34 w dd t z f) (hdd : 2 ≤ dd) : RdK G 33 w (dd + 1) t z (fun p => lopS t z f (nI 38) 4 z (f p)) := by
  intro d n sh I L P Q p q a hG hq hT hA hs hap hd hQ
  apply e33
  have hd0 : 0 < d := by omega
  (apply WP_runI (lv := lvK) (F := LK) LK_ok 999 6; simp (disch := first | decide | omega) only [t33_0, lift_c, o_aload0, o_iload1, o_virt2, rpush_n, rpush_s, o_ifne, o_inl, o_ireturn, o_istore, s1_0, s1_s, o_iload2, o_getfield, o_icge, o_ifeq, o_getref, o_virt4, o_iinc2, o_goto, z0, z1, z2, z4, z20, z31, z38, runI_0, runI_c, runI_n, liftI_n, liftI_y, run_0, run_c, run_n, fxn, fxi, fxr, fxl, fxl0, ↓swi_n, ↓swi_c, nck0, nck1, nck2, nck3, List.length_cons, List.length_nil, Nat.reduceAdd, Nat.reduceSub, Nat.reduceLeDiff, Nat.reduceEqDiff, Nat.reduceLT, reduceIte, ite_true, ite_false, Nat.sub_zero, Nat.zero_le, true_and, and_true, and_self, true_or, or_true, if_true, if_false, true_implies, implies_true, not_true_eq_false, not_false_eq_true, false_implies, forall_const, ne_eq, or_self, and_false, false_and, Lt, Le, Eq', Cp, In, nI_add, nI_mul, nI_sub, nI_sub1, Neg0, bI_eq0, bI_eq1, bI_01, bft, up2_eq, up2_no, Bool.true_eq_false, Bool.false_eq_true, eq_self, m1_ne, m1_ne2, m1_lt, m1_le, lt_m1, m1_le2, bI_t, bI_f, LK_st, FGu hG, hd0])
  refine hM _ _ _ _ _ _ _ p q a hG hq hT hA hs hap (by omega) fun I3 he3 hA3 hs3 => ?_
  have hlf := hl (p, true)
  have hlf : (f (p, true)).1.2 = true → p + (f (p, true)).2.length ≤ (f (p, true)).1.1 := hlf
  have hQ : ∀ I', Eo (rdT q) I I' → RA I' t z (lopS t z f (nI 38) 4 z (f (p, true))).1.1 → ((lopS t z f (nI 38) 4 z (f (p, true))).1.2 = true → SA I' q (a ++ (lopS t z f (nI 38) 4 z (f (p, true))).2)) → Q (some (.int (bI (lopS t z f (nI 38) 4 z (f (p, true))).1.2))) n sh I' L P := hQ
  generalize f (p, true) = r at hQ hA3 hs3 hlf ⊢
  obtain ⟨⟨r1, r2⟩, r3⟩ := r
  cases r2 with
  | false =>
    rw [lopS_f z ((r1, false), r3) rfl] at hQ
    have hQ := hQ I3 he3 hA3 (fun w => by cases w)
    (apply WP_runI (lv := lvK) (F := LK) LK_ok 999 6; simp (disch := first | decide | omega) only [t33_0, lift_c, o_aload0, o_iload1, o_virt2, rpush_n, rpush_s, o_ifne, o_inl, o_ireturn, o_istore, s1_0, s1_s, o_iload2, o_getfield, o_icge, o_ifeq, o_getref, o_virt4, o_iinc2, o_goto, z0, z1, z2, z4, z20, z31, z38, runI_0, runI_c, runI_n, liftI_n, liftI_y, run_0, run_c, run_n, fxn, fxi, fxr, fxl, fxl0, ↓swi_n, ↓swi_c, nck0, nck1, nck2, nck3, List.length_cons, List.length_nil, Nat.reduceAdd, Nat.reduceSub, Nat.reduceLeDiff, Nat.reduceEqDiff, Nat.reduceLT, reduceIte, ite_true, ite_false, Nat.sub_zero, Nat.zero_le, true_and, and_true, and_self, true_or, or_true, if_true, if_false, true_implies, implies_true, not_true_eq_false, not_false_eq_true, false_implies, forall_const, ne_eq, or_self, and_false, false_and, Lt, Le, Eq', Cp, In, nI_add, nI_mul, nI_sub, nI_sub1, Neg0, bI_eq0, bI_eq1, bI_01, bft, up2_eq, up2_no, Bool.true_eq_false, Bool.false_eq_true, eq_self, m1_ne, m1_ne2, m1_lt, m1_le, lt_m1, m1_le2, bI_t, bI_f, LK_st, hd0])
    exact hQ
  | true =>
    have hlf : p + r3.length ≤ r1 := hlf rfl
    have hL := fun cc ss => bothRL_K (G := G) (d := d) (n := n) (L := L) (Q := Q) hG hq hT hl hM (by omega) (by omega) z 0 r1 r3 I3 cc ss (by omega) hA3 (hs3 rfl) (by rw [List.length_append]; omega) (fun I' he => hQ I' (he3.tr he))
    (apply WP_runI (lv := lvK) (F := LK) LK_ok 12 6; simp (disch := first | decide | omega) only [t33_0, lift_c, o_aload0, o_iload1, o_virt2, rpush_n, rpush_s, o_ifne, o_inl, o_ireturn, o_istore, s1_0, s1_s, o_iload2, o_getfield, o_icge, o_ifeq, o_getref, o_virt4, o_iinc2, o_goto, z0, z1, z2, z4, z20, z31, z38, runI_0, runI_c, runI_n, liftI_n, liftI_y, run_0, run_c, run_n, fxn, fxi, fxr, fxl, fxl0, ↓swi_n, ↓swi_c, nck0, nck1, nck2, nck3, List.length_cons, List.length_nil, Nat.reduceAdd, Nat.reduceSub, Nat.reduceLeDiff, Nat.reduceEqDiff, Nat.reduceLT, reduceIte, ite_true, ite_false, Nat.sub_zero, Nat.zero_le, true_and, and_true, and_self, true_or, or_true, if_true, if_false, true_implies, implies_true, not_true_eq_false, not_false_eq_true, false_implies, forall_const, ne_eq, or_self, and_false, false_and, Lt, Le, Eq', Cp, In, nI_add, nI_mul, nI_sub, nI_sub1, Neg0, bI_eq0, bI_eq1, bI_01, bft, up2_eq, up2_no, Bool.true_eq_false, Bool.false_eq_true, eq_self, m1_ne, m1_ne2, m1_lt, m1_le, lt_m1, m1_le2, bI_t, bI_f, LK_st, hd0])
    exact hL _ _
end
section
variable {G : GE} {d n : Nat} {sh : TS} {I : TI} {L : TL} {P : TP} {Q : TQ} {t : TN} {z p q : Nat} {w : Int32} {dd : Nat} {f : PS → PS × List SP}
theorem eitherRL_K (hG : FG sh P) (hq : QF sh P q) (hT : TX t z) (hl : lenF f) (hM : RdK G 33 w dd t z f) (hd : dd + 1 ≤ d) (hd3 : 3 ≤ d) {a : List SP} : ∀ (m j p1 : Nat) (l1 : List SP) (I : TI) (cc ss : Nat), j + m = z → RA I t z p1 → SA I q (a ++ l1) → (a ++ l1).length ≤ p1 →
    (∀ I', Eo (rdT q) I I' → RA I' t z (lopS t z f (nI 124) 5 m ((p1, true), l1)).1.1 → ((lopS t z f (nI 124) 5 m ((p1, true), l1)).1.2 = true → SA I' q (a ++ (lopS t z f (nI 124) 5 m ((p1, true), l1)).2)) → Q (some (.int (bI (lopS t z f (nI 124) 5 m ((p1, true), l1)).1.2))) n sh I' L P) →
    WP G 32 d Q 12 [some (.ref 102), some (.int w), some (.int (nI j))] [] cc ss n sh I L P := by
  have hd0 : 0 < d := by omega
  have q0 := hq.2.1
  have q4 := hq.1
  have qs := hq.2.2.1
  intro m
  induction m with
  | zero =>
    intro j p1 l1 I cc ss h hA hs hap hQ
    have hz := hA.sz
    have h100 := hA.z100
    have hj : z ≤ j := by omega
    have hQ := hQ I Eo.rf hA (fun _ => hs)
    (apply WP_runI (lv := lvK) (F := LK) LK_ok 999 8; simp (disch := first | decide | omega) only [t32_0, lift_c, o_aload0, o_iload1, o_virt2, rpush_n, rpush_s, o_ifne, o_inl, o_ireturn, o_istore, s1_0, s1_s, o_iload2, o_getfield, o_icge, o_ifeq, o_getref, o_virt4, o_iinc2, o_goto, z0, z1, z2, z5, z20, z31, z124, runI_0, runI_c, runI_n, liftI_n, liftI_y, run_0, run_c, run_n, fxn, fxi, fxr, fxl, fxl0, ↓swi_n, ↓swi_c, nck0, nck1, nck2, nck3, List.length_cons, List.length_nil, Nat.reduceAdd, Nat.reduceSub, Nat.reduceLeDiff, Nat.reduceEqDiff, Nat.reduceLT, reduceIte, ite_true, ite_false, Nat.sub_zero, Nat.zero_le, true_and, and_true, and_self, true_or, or_true, if_true, if_false, true_implies, implies_true, not_true_eq_false, not_false_eq_true, false_implies, forall_const, ne_eq, or_self, and_false, false_and, Lt, Le, Eq', Cp, In, nI_add, nI_mul, nI_sub, nI_sub1, Neg0, bI_eq0, bI_eq1, bI_01, bft, up2_eq, up2_no, Bool.true_eq_false, Bool.false_eq_true, eq_self, m1_ne, m1_ne2, m1_lt, m1_le, lt_m1, m1_le2, bI_t, bI_f, LK_st, FGu hG, hz, hj])
    exact hQ
  | succ m ih =>
    intro j p1 l1 I cc ss h hA hs hap hQ
    have hz := hA.sz
    have h100 := hA.z100
    have hle := hA.le
    have hj : ¬ z ≤ j := by omega
    (apply WP_runI (lv := lvK) (F := LK) LK_ok 999 8; simp (disch := first | decide | omega) only [t32_0, lift_c, o_aload0, o_iload1, o_virt2, rpush_n, rpush_s, o_ifne, o_inl, o_ireturn, o_istore, s1_0, s1_s, o_iload2, o_getfield, o_icge, o_ifeq, o_getref, o_virt4, o_iinc2, o_goto, z0, z1, z2, z5, z20, z31, z124, runI_0, runI_c, runI_n, liftI_n, liftI_y, run_0, run_c, run_n, fxn, fxi, fxr, fxl, fxl0, ↓swi_n, ↓swi_c, nck0, nck1, nck2, nck3, List.length_cons, List.length_nil, Nat.reduceAdd, Nat.reduceSub, Nat.reduceLeDiff, Nat.reduceEqDiff, Nat.reduceLT, reduceIte, ite_true, ite_false, Nat.sub_zero, Nat.zero_le, true_and, and_true, and_self, true_or, or_true, if_true, if_false, true_implies, implies_true, not_true_eq_false, not_false_eq_true, false_implies, forall_const, ne_eq, or_self, and_false, false_and, Lt, Le, Eq', Cp, In, nI_add, nI_mul, nI_sub, nI_sub1, Neg0, bI_eq0, bI_eq1, bI_01, bft, up2_eq, up2_no, Bool.true_eq_false, Bool.false_eq_true, eq_self, m1_ne, m1_ne2, m1_lt, m1_le, lt_m1, m1_le2, bI_t, bI_f, LK_st, FGu hG, hz, hj, hd0])
    refine readSign_K hG hA (by omega) (fun hb hA2 => ?_) fun hb => ?_
    · have e : lopS t z f (nI 124) 5 (m + 1) ((p1, true), l1) = lopS t z f (nI 124) 5 m ((f (p1 + 1, true)).1, l1 ++ ((f (p1 + 1, true)).2 ++ [(5, 0, nI 0)])) := by rw [lopS, if_pos hb]
      rw [e] at hQ
      have he2 : Eo rdN I (up2 I 102 2 (nI (p1 + 1))) := Eo.rf.up ⟨rfl, Or.inl rfl⟩ _
      have hs2 := hs.eoN q0 he2
      generalize up2 I 102 2 (nI (p1 + 1)) = I2 at hA2 he2 hs2 ⊢
      (apply WP_runI (lv := lvK) (F := LK) LK_ok 999 6; simp (disch := first | decide | omega) only [t32_0, lift_c, o_aload0, o_iload1, o_virt2, rpush_n, rpush_s, o_ifne, o_inl, o_ireturn, o_istore, s1_0, s1_s, o_iload2, o_getfield, o_icge, o_ifeq, o_getref, o_virt4, o_iinc2, o_goto, z0, z1, z2, z5, z20, z31, z124, runI_0, runI_c, runI_n, liftI_n, liftI_y, run_0, run_c, run_n, fxn, fxi, fxr, fxl, fxl0, ↓swi_n, ↓swi_c, nck0, nck1, nck2, nck3, List.length_cons, List.length_nil, Nat.reduceAdd, Nat.reduceSub, Nat.reduceLeDiff, Nat.reduceEqDiff, Nat.reduceLT, reduceIte, ite_true, ite_false, Nat.sub_zero, Nat.zero_le, true_and, and_true, and_self, true_or, or_true, if_true, if_false, true_implies, implies_true, not_true_eq_false, not_false_eq_true, false_implies, forall_const, ne_eq, or_self, and_false, false_and, Lt, Le, Eq', Cp, In, nI_add, nI_mul, nI_sub, nI_sub1, Neg0, bI_eq0, bI_eq1, bI_01, bft, up2_eq, up2_no, Bool.true_eq_false, Bool.false_eq_true, eq_self, m1_ne, m1_ne2, m1_lt, m1_le, lt_m1, m1_le2, bI_t, bI_f, LK_st, FGu hG, hd0])
      refine hM _ _ _ _ _ _ _ (p1 + 1) q (a ++ l1) hG hq hT hA2 hs2 (by omega) (by omega) fun I3 he3 hA3 hs3 => ?_
      have hlf := hl (p1 + 1, true)
      have hlf : (f (p1 + 1, true)).1.2 = true → p1 + 1 + (f (p1 + 1, true)).2.length ≤ (f (p1 + 1, true)).1.1 := hlf
      generalize f (p1 + 1, true) = r at hQ hA3 hs3 hlf ⊢
      obtain ⟨⟨r1, r2⟩, r3⟩ := r
      cases r2 with
      | false =>
        rw [lopS_f m ((r1, false), l1 ++ (r3 ++ [(5, 0, nI 0)])) rfl] at hQ
        have hQ := hQ I3 ((he2.mono fun _ _ => Or.inl).tr he3) hA3 (fun w => by cases w)
        (apply WP_runI (lv := lvK) (F := LK) LK_ok 999 6; simp (disch := first | decide | omega) only [t32_0, lift_c, o_aload0, o_iload1, o_virt2, rpush_n, rpush_s, o_ifne, o_inl, o_ireturn, o_istore, s1_0, s1_s, o_iload2, o_getfield, o_icge, o_ifeq, o_getref, o_virt4, o_iinc2, o_goto, z0, z1, z2, z5, z20, z31, z124, runI_0, runI_c, runI_n, liftI_n, liftI_y, run_0, run_c, run_n, fxn, fxi, fxr, fxl, fxl0, ↓swi_n, ↓swi_c, nck0, nck1, nck2, nck3, List.length_cons, List.length_nil, Nat.reduceAdd, Nat.reduceSub, Nat.reduceLeDiff, Nat.reduceEqDiff, Nat.reduceLT, reduceIte, ite_true, ite_false, Nat.sub_zero, Nat.zero_le, true_and, and_true, and_self, true_or, or_true, if_true, if_false, true_implies, implies_true, not_true_eq_false, not_false_eq_true, false_implies, forall_const, ne_eq, or_self, and_false, false_and, Lt, Le, Eq', Cp, In, nI_add, nI_mul, nI_sub, nI_sub1, Neg0, bI_eq0, bI_eq1, bI_01, bft, up2_eq, up2_no, Bool.true_eq_false, Bool.false_eq_true, eq_self, m1_ne, m1_ne2, m1_lt, m1_le, lt_m1, m1_le2, bI_t, bI_f, LK_st, hd0])
        exact hQ
      | true =>
        have hs3 : SA I3 q ((a ++ l1) ++ r3) := hs3 rfl
        have hlf : p1 + 1 + r3.length ≤ r1 := hlf rfl
        have hr : r1 ≤ z := hA3.le
        have hlen : (a ++ l1 ++ r3).length + 1 ≤ r1 := by rw [List.length_append]; omega
        (apply WP_runI (lv := lvK) (F := LK) LK_ok 999 8; simp (disch := first | decide | omega) only [t32_0, lift_c, o_aload0, o_iload1, o_virt2, rpush_n, rpush_s, o_ifne, o_inl, o_ireturn, o_istore, s1_0, s1_s, o_iload2, o_getfield, o_icge, o_ifeq, o_getref, o_virt4, o_iinc2, o_goto, z0, z1, z2, z5, z20, z31, z124, runI_0, runI_c, runI_n, liftI_n, liftI_y, run_0, run_c, run_n, fxn, fxi, fxr, fxl, fxl0, ↓swi_n, ↓swi_c, nck0, nck1, nck2, nck3, List.length_cons, List.length_nil, Nat.reduceAdd, Nat.reduceSub, Nat.reduceLeDiff, Nat.reduceEqDiff, Nat.reduceLT, reduceIte, ite_true, ite_false, Nat.sub_zero, Nat.zero_le, true_and, and_true, and_self, true_or, or_true, if_true, if_false, true_implies, implies_true, not_true_eq_false, not_false_eq_true, false_implies, forall_const, ne_eq, or_self, and_false, false_and, Lt, Le, Eq', Cp, In, nI_add, nI_mul, nI_sub, nI_sub1, Neg0, bI_eq0, bI_eq1, bI_01, bft, up2_eq, up2_no, Bool.true_eq_false, Bool.false_eq_true, eq_self, m1_ne, m1_ne2, m1_lt, m1_le, lt_m1, m1_le2, bI_t, bI_f, LK_st, FGu hG, q4, qs, hd0])
        refine addF_K hq hs3 (by omega) fun I4 he4 hs4 => ?_
        have hs4 : SA I4 q (a ++ (l1 ++ (r3 ++ [(5, 0, nI 0)]))) := by
          rw [List.append_assoc, List.append_assoc] at hs4
          exact hs4
        have hlen4 : (a ++ (l1 ++ (r3 ++ [((5 : Nat), (0 : Nat), nI 0)]))).length ≤ r1 := by
          rw [List.length_append, List.length_append, List.length_append]
          rw [List.length_append, List.length_append] at hlen
          show a.length + (l1.length + (r3.length + 1)) ≤ r1
          omega
        have ih := fun cc ss => ih (j + 1) r1 (l1 ++ (r3 ++ [(5, 0, nI 0)])) I4 cc ss (by omega) (hA3.eoF q0 he4) hs4 hlen4 (fun I' he => hQ I' (((he2.mono fun _ _ => Or.inl).tr he3).tr ((he4.mono fun _ _ => Or.inr).tr he)))
        (apply WP_runI (lv := lvK) (F := LK) LK_ok 12 6; simp (disch := first | decide | omega) only [t32_0, lift_c, o_aload0, o_iload1, o_virt2, rpush_n, rpush_s, o_ifne, o_inl, o_ireturn, o_istore, s1_0, s1_s, o_iload2, o_getfield, o_icge, o_ifeq, o_getref, o_virt4, o_iinc2, o_goto, z0, z1, z2, z5, z20, z31, z124, runI_0, runI_c, runI_n, liftI_n, liftI_y, run_0, run_c, run_n, fxn, fxi, fxr, fxl, fxl0, ↓swi_n, ↓swi_c, nck0, nck1, nck2, nck3, List.length_cons, List.length_nil, Nat.reduceAdd, Nat.reduceSub, Nat.reduceLeDiff, Nat.reduceEqDiff, Nat.reduceLT, reduceIte, ite_true, ite_false, Nat.sub_zero, Nat.zero_le, true_and, and_true, and_self, true_or, or_true, if_true, if_false, true_implies, implies_true, not_true_eq_false, not_false_eq_true, false_implies, forall_const, ne_eq, or_self, and_false, false_and, Lt, Le, Eq', Cp, In, nI_add, nI_mul, nI_sub, nI_sub1, Neg0, bI_eq0, bI_eq1, bI_01, bft, up2_eq, up2_no, Bool.true_eq_false, Bool.false_eq_true, eq_self, m1_ne, m1_ne2, m1_lt, m1_le, lt_m1, m1_le2, bI_t, bI_f, LK_st, hd0])
        exact ih _ _
    · have e : lopS t z f (nI 124) 5 (m + 1) ((p1, true), l1) = ((p1, true), l1) := by rw [lopS, hb, if_neg (by decide)]
      rw [e] at hQ
      have hQ := hQ I Eo.rf hA (fun _ => hs)
      (apply WP_runI (lv := lvK) (F := LK) LK_ok 999 6; simp (disch := first | decide | omega) only [t32_0, lift_c, o_aload0, o_iload1, o_virt2, rpush_n, rpush_s, o_ifne, o_inl, o_ireturn, o_istore, s1_0, s1_s, o_iload2, o_getfield, o_icge, o_ifeq, o_getref, o_virt4, o_iinc2, o_goto, z0, z1, z2, z5, z20, z31, z124, runI_0, runI_c, runI_n, liftI_n, liftI_y, run_0, run_c, run_n, fxn, fxi, fxr, fxl, fxl0, ↓swi_n, ↓swi_c, nck0, nck1, nck2, nck3, List.length_cons, List.length_nil, Nat.reduceAdd, Nat.reduceSub, Nat.reduceLeDiff, Nat.reduceEqDiff, Nat.reduceLT, reduceIte, ite_true, ite_false, Nat.sub_zero, Nat.zero_le, true_and, and_true, and_self, true_or, or_true, if_true, if_false, true_implies, implies_true, not_true_eq_false, not_false_eq_true, false_implies, forall_const, ne_eq, or_self, and_false, false_and, Lt, Le, Eq', Cp, In, nI_add, nI_mul, nI_sub, nI_sub1, Neg0, bI_eq0, bI_eq1, bI_01, bft, up2_eq, up2_no, Bool.true_eq_false, Bool.false_eq_true, eq_self, m1_ne, m1_ne2, m1_lt, m1_le, lt_m1, m1_le2, bI_t, bI_f, LK_st, hd0])
      exact hQ
theorem eitherR_K (hl : lenF f) (hM : RdK G 33 w dd t z f) (hdd : 2 ≤ dd) : RdK G 32 w (dd + 1) t z (fun p => lopS t z f (nI 124) 5 z (f p)) := by
  intro d n sh I L P Q p q a hG hq hT hA hs hap hd hQ
  apply e32
  have hd0 : 0 < d := by omega
  (apply WP_runI (lv := lvK) (F := LK) LK_ok 999 6; simp (disch := first | decide | omega) only [t32_0, lift_c, o_aload0, o_iload1, o_virt2, rpush_n, rpush_s, o_ifne, o_inl, o_ireturn, o_istore, s1_0, s1_s, o_iload2, o_getfield, o_icge, o_ifeq, o_getref, o_virt4, o_iinc2, o_goto, z0, z1, z2, z5, z20, z31, z124, runI_0, runI_c, runI_n, liftI_n, liftI_y, run_0, run_c, run_n, fxn, fxi, fxr, fxl, fxl0, ↓swi_n, ↓swi_c, nck0, nck1, nck2, nck3, List.length_cons, List.length_nil, Nat.reduceAdd, Nat.reduceSub, Nat.reduceLeDiff, Nat.reduceEqDiff, Nat.reduceLT, reduceIte, ite_true, ite_false, Nat.sub_zero, Nat.zero_le, true_and, and_true, and_self, true_or, or_true, if_true, if_false, true_implies, implies_true, not_true_eq_false, not_false_eq_true, false_implies, forall_const, ne_eq, or_self, and_false, false_and, Lt, Le, Eq', Cp, In, nI_add, nI_mul, nI_sub, nI_sub1, Neg0, bI_eq0, bI_eq1, bI_01, bft, up2_eq, up2_no, Bool.true_eq_false, Bool.false_eq_true, eq_self, m1_ne, m1_ne2, m1_lt, m1_le, lt_m1, m1_le2, bI_t, bI_f, LK_st, FGu hG, hd0])
  refine hM _ _ _ _ _ _ _ p q a hG hq hT hA hs hap (by omega) fun I3 he3 hA3 hs3 => ?_
  have hlf := hl (p, true)
  have hlf : (f (p, true)).1.2 = true → p + (f (p, true)).2.length ≤ (f (p, true)).1.1 := hlf
  have hQ : ∀ I', Eo (rdT q) I I' → RA I' t z (lopS t z f (nI 124) 5 z (f (p, true))).1.1 → ((lopS t z f (nI 124) 5 z (f (p, true))).1.2 = true → SA I' q (a ++ (lopS t z f (nI 124) 5 z (f (p, true))).2)) → Q (some (.int (bI (lopS t z f (nI 124) 5 z (f (p, true))).1.2))) n sh I' L P := hQ
  generalize f (p, true) = r at hQ hA3 hs3 hlf ⊢
  obtain ⟨⟨r1, r2⟩, r3⟩ := r
  cases r2 with
  | false =>
    rw [lopS_f z ((r1, false), r3) rfl] at hQ
    have hQ := hQ I3 he3 hA3 (fun w => by cases w)
    (apply WP_runI (lv := lvK) (F := LK) LK_ok 999 6; simp (disch := first | decide | omega) only [t32_0, lift_c, o_aload0, o_iload1, o_virt2, rpush_n, rpush_s, o_ifne, o_inl, o_ireturn, o_istore, s1_0, s1_s, o_iload2, o_getfield, o_icge, o_ifeq, o_getref, o_virt4, o_iinc2, o_goto, z0, z1, z2, z5, z20, z31, z124, runI_0, runI_c, runI_n, liftI_n, liftI_y, run_0, run_c, run_n, fxn, fxi, fxr, fxl, fxl0, ↓swi_n, ↓swi_c, nck0, nck1, nck2, nck3, List.length_cons, List.length_nil, Nat.reduceAdd, Nat.reduceSub, Nat.reduceLeDiff, Nat.reduceEqDiff, Nat.reduceLT, reduceIte, ite_true, ite_false, Nat.sub_zero, Nat.zero_le, true_and, and_true, and_self, true_or, or_true, if_true, if_false, true_implies, implies_true, not_true_eq_false, not_false_eq_true, false_implies, forall_const, ne_eq, or_self, and_false, false_and, Lt, Le, Eq', Cp, In, nI_add, nI_mul, nI_sub, nI_sub1, Neg0, bI_eq0, bI_eq1, bI_01, bft, up2_eq, up2_no, Bool.true_eq_false, Bool.false_eq_true, eq_self, m1_ne, m1_ne2, m1_lt, m1_le, lt_m1, m1_le2, bI_t, bI_f, LK_st, hd0])
    exact hQ
  | true =>
    have hlf : p + r3.length ≤ r1 := hlf rfl
    have hL := fun cc ss => eitherRL_K (G := G) (d := d) (n := n) (L := L) (Q := Q) hG hq hT hl hM (by omega) (by omega) z 0 r1 r3 I3 cc ss (by omega) hA3 (hs3 rfl) (by rw [List.length_append]; omega) (fun I' he => hQ I' (he3.tr he))
    (apply WP_runI (lv := lvK) (F := LK) LK_ok 12 6; simp (disch := first | decide | omega) only [t32_0, lift_c, o_aload0, o_iload1, o_virt2, rpush_n, rpush_s, o_ifne, o_inl, o_ireturn, o_istore, s1_0, s1_s, o_iload2, o_getfield, o_icge, o_ifeq, o_getref, o_virt4, o_iinc2, o_goto, z0, z1, z2, z5, z20, z31, z124, runI_0, runI_c, runI_n, liftI_n, liftI_y, run_0, run_c, run_n, fxn, fxi, fxr, fxl, fxl0, ↓swi_n, ↓swi_c, nck0, nck1, nck2, nck3, List.length_cons, List.length_nil, Nat.reduceAdd, Nat.reduceSub, Nat.reduceLeDiff, Nat.reduceEqDiff, Nat.reduceLT, reduceIte, ite_true, ite_false, Nat.sub_zero, Nat.zero_le, true_and, and_true, and_self, true_or, or_true, if_true, if_false, true_implies, implies_true, not_true_eq_false, not_false_eq_true, false_implies, forall_const, ne_eq, or_self, and_false, false_and, Lt, Le, Eq', Cp, In, nI_add, nI_mul, nI_sub, nI_sub1, Neg0, bI_eq0, bI_eq1, bI_01, bft, up2_eq, up2_no, Bool.true_eq_false, Bool.false_eq_true, eq_self, m1_ne, m1_ne2, m1_lt, m1_le, lt_m1, m1_le2, bI_t, bI_f, LK_st, hd0])
    exact hL _ _
end
theorem factor_K {G : GE} (t : TN) (z : Nat) : ∀ m, m ≤ 4 → RdK G 34 (nI (4 - m)) (7 + 3 * m) t z (facS t z m)
  | 0, _ => by
    intro d n sh I L P Q p q a hG hq hT hA hs hap hd hQ
    apply e34
    have hT2 := testF_K (G := G) (d := d) (n := n) (L := L) (Q := Q) (w := nI (4 - 0)) hG hq hT hA hs hap (by omega) hQ
    clear hQ
    (apply WP_runI (lv := lvK) (F := LK) LK_ok 77 8; simp (disch := first | decide | omega) only [t34_0, t34_1, lift_c, o_iload1, o_inl, o_icge, o_aload0, o_virt2, rpush_n, rpush_s, o_ifeq, o_iadd, o_ifne, o_ireturn, o_getref, o_virt4, o_goto, o_istore, s1_0, s1_s, o_iload2, o_ifge, o_iload3, o_iflt, o_virt1, o_getfield, z0, z1, z2, z3, z4, z7, z8, z20, z31, z33, z40, z41, runI_0, runI_c, runI_n, liftI_n, liftI_y, run_0, run_c, run_n, fxn, fxi, fxr, fxl, fxl0, ↓swi_n, ↓swi_c, nck0, nck1, nck2, nck3, List.length_cons, List.length_nil, Nat.reduceAdd, Nat.reduceSub, Nat.reduceLeDiff, Nat.reduceEqDiff, Nat.reduceLT, reduceIte, ite_true, ite_false, Nat.sub_zero, Nat.zero_le, true_and, and_true, and_self, true_or, or_true, if_true, if_false, true_implies, implies_true, not_true_eq_false, not_false_eq_true, false_implies, forall_const, ne_eq, or_self, and_false, false_and, Lt, Le, Eq', Cp, In, nI_add, nI_mul, nI_sub, nI_sub1, Neg0, bI_eq0, bI_eq1, bI_01, bft, up2_eq, up2_no, Bool.true_eq_false, Bool.false_eq_true, eq_self, m1_ne, m1_ne2, m1_lt, m1_le, lt_m1, m1_le2, bI_t, bI_f, LK_st])
    exact hT2 _ _
  | m + 1, hm4 => by
    intro d n sh I L P Q p q a hG hq hT hA hs hap hd hQ
    apply e34
    have hd0 : 0 < d := by omega
    have q0 := hq.2.1
    have q4 := hq.1
    have qs := hq.2.2.1
    have h100 := hA.z100
    have hm1 : ¬ 4 ≤ 4 - (m + 1) := by omega
    have hm2 : 4 - (m + 1) + 1 = 4 - m := by omega
    have ih := factor_K (G := G) t z m (by omega)
    (apply WP_runI (lv := lvK) (F := LK) LK_ok 999 6; simp (disch := first | decide | omega) only [t34_0, t34_1, lift_c, o_iload1, o_inl, o_icge, o_aload0, o_virt2, rpush_n, rpush_s, o_ifeq, o_iadd, o_ifne, o_ireturn, o_getref, o_virt4, o_goto, o_istore, s1_0, s1_s, o_iload2, o_ifge, o_iload3, o_iflt, o_virt1, o_getfield, z0, z1, z2, z3, z4, z7, z8, z20, z31, z33, z40, z41, runI_0, runI_c, runI_n, liftI_n, liftI_y, run_0, run_c, run_n, fxn, fxi, fxr, fxl, fxl0, ↓swi_n, ↓swi_c, nck0, nck1, nck2, nck3, List.length_cons, List.length_nil, Nat.reduceAdd, Nat.reduceSub, Nat.reduceLeDiff, Nat.reduceEqDiff, Nat.reduceLT, reduceIte, ite_true, ite_false, Nat.sub_zero, Nat.zero_le, true_and, and_true, and_self, true_or, or_true, if_true, if_false, true_implies, implies_true, not_true_eq_false, not_false_eq_true, false_implies, forall_const, ne_eq, or_self, and_false, false_and, Lt, Le, Eq', Cp, In, nI_add, nI_mul, nI_sub, nI_sub1, Neg0, bI_eq0, bI_eq1, bI_01, bft, up2_eq, up2_no, Bool.true_eq_false, Bool.false_eq_true, eq_self, m1_ne, m1_ne2, m1_lt, m1_le, lt_m1, m1_le2, bI_t, bI_f, LK_st, FGu hG, hm1, hd0])
    refine readSign_K hG hA (by omega) (fun hb hA2 => ?_) fun hb => ?_
    · have e : facS t z (m + 1) (p, true) = ((facS t z m (p + 1, true)).1, (facS t z m (p + 1, true)).2 ++ [(3, 0, nI 0)]) := by rw [facS, if_pos hb]
      rw [e] at hQ
      have he2 : Eo rdN I (up2 I 102 2 (nI (p + 1))) := Eo.rf.up ⟨rfl, Or.inl rfl⟩ _
      have hs2 := hs.eoN q0 he2
      generalize up2 I 102 2 (nI (p + 1)) = I2 at hA2 he2 hs2 ⊢
      (apply WP_runI (lv := lvK) (F := LK) LK_ok 999 7; simp (disch := first | decide | omega) only [t34_0, t34_1, lift_c, o_iload1, o_inl, o_icge, o_aload0, o_virt2, rpush_n, rpush_s, o_ifeq, o_iadd, o_ifne, o_ireturn, o_getref, o_virt4, o_goto, o_istore, s1_0, s1_s, o_iload2, o_ifge, o_iload3, o_iflt, o_virt1, o_getfield, z0, z1, z2, z3, z4, z7, z8, z20, z31, z33, z40, z41, runI_0, runI_c, runI_n, liftI_n, liftI_y, run_0, run_c, run_n, fxn, fxi, fxr, fxl, fxl0, ↓swi_n, ↓swi_c, nck0, nck1, nck2, nck3, List.length_cons, List.length_nil, Nat.reduceAdd, Nat.reduceSub, Nat.reduceLeDiff, Nat.reduceEqDiff, Nat.reduceLT, reduceIte, ite_true, ite_false, Nat.sub_zero, Nat.zero_le, true_and, and_true, and_self, true_or, or_true, if_true, if_false, true_implies, implies_true, not_true_eq_false, not_false_eq_true, false_implies, forall_const, ne_eq, or_self, and_false, false_and, Lt, Le, Eq', Cp, In, nI_add, nI_mul, nI_sub, nI_sub1, Neg0, bI_eq0, bI_eq1, bI_01, bft, up2_eq, up2_no, Bool.true_eq_false, Bool.false_eq_true, eq_self, m1_ne, m1_ne2, m1_lt, m1_le, lt_m1, m1_le2, bI_t, bI_f, LK_st, FGu hG, hm2, hd0])
      refine ih _ _ _ _ _ _ _ (p + 1) q a hG hq hT hA2 hs2 (by omega) (by omega) fun I3 he3 hA3 hs3 => ?_
      have hlf : (facS t z m (p + 1, true)).1.2 = true → p + 1 + (facS t z m (p + 1, true)).2.length ≤ (facS t z m (p + 1, true)).1.1 := facS_len m (p + 1, true)
      generalize facS t z m (p + 1, true) = r at hQ hA3 hs3 hlf ⊢
      obtain ⟨⟨r1, r2⟩, r3⟩ := r
      cases r2 with
      | false =>
        have hQ := hQ I3 ((he2.mono fun _ _ => Or.inl).tr he3) hA3 (fun w => by cases w)
        (apply WP_runI (lv := lvK) (F := LK) LK_ok 999 6; simp (disch := first | decide | omega) only [t34_0, t34_1, lift_c, o_iload1, o_inl, o_icge, o_aload0, o_virt2, rpush_n, rpush_s, o_ifeq, o_iadd, o_ifne, o_ireturn, o_getref, o_virt4, o_goto, o_istore, s1_0, s1_s, o_iload2, o_ifge, o_iload3, o_iflt, o_virt1, o_getfield, z0, z1, z2, z3, z4, z7, z8, z20, z31, z33, z40, z41, runI_0, runI_c, runI_n, liftI_n, liftI_y, run_0, run_c, run_n, fxn, fxi, fxr, fxl, fxl0, ↓swi_n, ↓swi_c, nck0, nck1, nck2, nck3, List.length_cons, List.length_nil, Nat.reduceAdd, Nat.reduceSub, Nat.reduceLeDiff, Nat.reduceEqDiff, Nat.reduceLT, reduceIte, ite_true, ite_false, Nat.sub_zero, Nat.zero_le, true_and, and_true, and_self, true_or, or_true, if_true, if_false, true_implies, implies_true, not_true_eq_false, not_false_eq_true, false_implies, forall_const, ne_eq, or_self, and_false, false_and, Lt, Le, Eq', Cp, In, nI_add, nI_mul, nI_sub, nI_sub1, Neg0, bI_eq0, bI_eq1, bI_01, bft, up2_eq, up2_no, Bool.true_eq_false, Bool.false_eq_true, eq_self, m1_ne, m1_ne2, m1_lt, m1_le, lt_m1, m1_le2, bI_t, bI_f, LK_st, hd0])
        exact hQ
      | true =>
        have hs3 : SA I3 q (a ++ r3) := hs3 rfl
        have hlf : p + 1 + r3.length ≤ r1 := hlf rfl
        have hr : r1 ≤ z := hA3.le
        (apply WP_runI (lv := lvK) (F := LK) LK_ok 999 8; simp (disch := first | decide | omega) only [t34_0, t34_1, lift_c, o_iload1, o_inl, o_icge, o_aload0, o_virt2, rpush_n, rpush_s, o_ifeq, o_iadd, o_ifne, o_ireturn, o_getref, o_virt4, o_goto, o_istore, s1_0, s1_s, o_iload2, o_ifge, o_iload3, o_iflt, o_virt1, o_getfield, z0, z1, z2, z3, z4, z7, z8, z20, z31, z33, z40, z41, runI_0, runI_c, runI_n, liftI_n, liftI_y, run_0, run_c, run_n, fxn, fxi, fxr, fxl, fxl0, ↓swi_n, ↓swi_c, nck0, nck1, nck2, nck3, List.length_cons, List.length_nil, Nat.reduceAdd, Nat.reduceSub, Nat.reduceLeDiff, Nat.reduceEqDiff, Nat.reduceLT, reduceIte, ite_true, ite_false, Nat.sub_zero, Nat.zero_le, true_and, and_true, and_self, true_or, or_true, if_true, if_false, true_implies, implies_true, not_true_eq_false, not_false_eq_true, false_implies, forall_const, ne_eq, or_self, and_false, false_and, Lt, Le, Eq', Cp, In, nI_add, nI_mul, nI_sub, nI_sub1, Neg0, bI_eq0, bI_eq1, bI_01, bft, up2_eq, up2_no, Bool.true_eq_false, Bool.false_eq_true, eq_self, m1_ne, m1_ne2, m1_lt, m1_le, lt_m1, m1_le2, bI_t, bI_f, LK_st, FGu hG, q4, qs, hd0])
        refine addF_K hq hs3 (by rw [List.length_append]; omega) fun I4 he4 hs4 => ?_
        have hQ := hQ I4 (((he2.mono fun _ _ => Or.inl).tr he3).tr (he4.mono fun _ _ => Or.inr)) (hA3.eoF q0 he4) (fun _ => by rw [List.append_assoc] at hs4; exact hs4)
        (apply WP_runI (lv := lvK) (F := LK) LK_ok 999 6; simp (disch := first | decide | omega) only [t34_0, t34_1, lift_c, o_iload1, o_inl, o_icge, o_aload0, o_virt2, rpush_n, rpush_s, o_ifeq, o_iadd, o_ifne, o_ireturn, o_getref, o_virt4, o_goto, o_istore, s1_0, s1_s, o_iload2, o_ifge, o_iload3, o_iflt, o_virt1, o_getfield, z0, z1, z2, z3, z4, z7, z8, z20, z31, z33, z40, z41, runI_0, runI_c, runI_n, liftI_n, liftI_y, run_0, run_c, run_n, fxn, fxi, fxr, fxl, fxl0, ↓swi_n, ↓swi_c, nck0, nck1, nck2, nck3, List.length_cons, List.length_nil, Nat.reduceAdd, Nat.reduceSub, Nat.reduceLeDiff, Nat.reduceEqDiff, Nat.reduceLT, reduceIte, ite_true, ite_false, Nat.sub_zero, Nat.zero_le, true_and, and_true, and_self, true_or, or_true, if_true, if_false, true_implies, implies_true, not_true_eq_false, not_false_eq_true, false_implies, forall_const, ne_eq, or_self, and_false, false_and, Lt, Le, Eq', Cp, In, nI_add, nI_mul, nI_sub, nI_sub1, Neg0, bI_eq0, bI_eq1, bI_01, bft, up2_eq, up2_no, Bool.true_eq_false, Bool.false_eq_true, eq_self, m1_ne, m1_ne2, m1_lt, m1_le, lt_m1, m1_le2, bI_t, bI_f, LK_st, hd0])
        exact hQ
    · (apply WP_runI (lv := lvK) (F := LK) LK_ok 999 8; simp (disch := first | decide | omega) only [t34_0, t34_1, lift_c, o_iload1, o_inl, o_icge, o_aload0, o_virt2, rpush_n, rpush_s, o_ifeq, o_iadd, o_ifne, o_ireturn, o_getref, o_virt4, o_goto, o_istore, s1_0, s1_s, o_iload2, o_ifge, o_iload3, o_iflt, o_virt1, o_getfield, z0, z1, z2, z3, z4, z7, z8, z20, z31, z33, z40, z41, runI_0, runI_c, runI_n, liftI_n, liftI_y, run_0, run_c, run_n, fxn, fxi, fxr, fxl, fxl0, ↓swi_n, ↓swi_c, nck0, nck1, nck2, nck3, List.length_cons, List.length_nil, Nat.reduceAdd, Nat.reduceSub, Nat.reduceLeDiff, Nat.reduceEqDiff, Nat.reduceLT, reduceIte, ite_true, ite_false, Nat.sub_zero, Nat.zero_le, true_and, and_true, and_self, true_or, or_true, if_true, if_false, true_implies, implies_true, not_true_eq_false, not_false_eq_true, false_implies, forall_const, ne_eq, or_self, and_false, false_and, Lt, Le, Eq', Cp, In, nI_add, nI_mul, nI_sub, nI_sub1, Neg0, bI_eq0, bI_eq1, bI_01, bft, up2_eq, up2_no, Bool.true_eq_false, Bool.false_eq_true, eq_self, m1_ne, m1_ne2, m1_lt, m1_le, lt_m1, m1_le2, bI_t, bI_f, LK_st, FGu hG, hm1, hd0])
      refine readSign_K hG hA (by omega) (fun hb2 hA2 => ?_) fun hb2 => ?_
      · have e : facS t z (m + 1) (p, true) = (takS t z (anyS t z (facS t z m) (p + 1, true)).1 (nI 41), (anyS t z (facS t z m) (p + 1, true)).2) := by rw [facS, hb, if_neg (by decide), if_pos hb2]
        rw [e] at hQ
        have hE := eitherR_K (botS_len (t := t) (z := z) (facS_len m)) (bothR_K (facS_len m) ih (by omega)) (by omega)
        have he2 : Eo rdN I (up2 I 102 2 (nI (p + 1))) := Eo.rf.up ⟨rfl, Or.inl rfl⟩ _
        have hs2 := hs.eoN q0 he2
        generalize up2 I 102 2 (nI (p + 1)) = I2 at hA2 he2 hs2 ⊢
        (apply WP_runI (lv := lvK) (F := LK) LK_ok 999 7; simp (disch := first | decide | omega) only [t34_0, t34_1, lift_c, o_iload1, o_inl, o_icge, o_aload0, o_virt2, rpush_n, rpush_s, o_ifeq, o_iadd, o_ifne, o_ireturn, o_getref, o_virt4, o_goto, o_istore, s1_0, s1_s, o_iload2, o_ifge, o_iload3, o_iflt, o_virt1, o_getfield, z0, z1, z2, z3, z4, z7, z8, z20, z31, z33, z40, z41, runI_0, runI_c, runI_n, liftI_n, liftI_y, run_0, run_c, run_n, fxn, fxi, fxr, fxl, fxl0, ↓swi_n, ↓swi_c, nck0, nck1, nck2, nck3, List.length_cons, List.length_nil, Nat.reduceAdd, Nat.reduceSub, Nat.reduceLeDiff, Nat.reduceEqDiff, Nat.reduceLT, reduceIte, ite_true, ite_false, Nat.sub_zero, Nat.zero_le, true_and, and_true, and_self, true_or, or_true, if_true, if_false, true_implies, implies_true, not_true_eq_false, not_false_eq_true, false_implies, forall_const, ne_eq, or_self, and_false, false_and, Lt, Le, Eq', Cp, In, nI_add, nI_mul, nI_sub, nI_sub1, Neg0, bI_eq0, bI_eq1, bI_01, bft, up2_eq, up2_no, Bool.true_eq_false, Bool.false_eq_true, eq_self, m1_ne, m1_ne2, m1_lt, m1_le, lt_m1, m1_le2, bI_t, bI_f, LK_st, FGu hG, hm2, hd0])
        refine hE _ _ _ _ _ _ _ (p + 1) q a hG hq hT hA2 hs2 (by omega) (by omega) fun I3 he3 hA3 hs3 => ?_
        have hA3 : RA I3 t z (anyS t z (facS t z m) (p + 1, true)).1.1 := hA3
        have hs3 : (anyS t z (facS t z m) (p + 1, true)).1.2 = true → SA I3 q (a ++ (anyS t z (facS t z m) (p + 1, true)).2) := hs3
        show WP G 34 d Q _ _ (rpush (some (.int (bI (anyS t z (facS t z m) (p + 1, true)).1.2))) _) _ _ _ _ _ _ _
        generalize anyS t z (facS t z m) (p + 1, true) = r at hQ hA3 hs3 ⊢
        obtain ⟨⟨r1, r2⟩, r3⟩ := r
        cases r2 with
        | false =>
          rw [takS_no (p := (r1, false)) (atS_f rfl)] at hQ
          have hQ := hQ I3 ((he2.mono fun _ _ => Or.inl).tr he3) hA3 (fun w => by cases w)
          (apply WP_runI (lv := lvK) (F := LK) LK_ok 999 6; simp (disch := first | decide | omega) only [t34_0, t34_1, lift_c, o_iload1, o_inl, o_icge, o_aload0, o_virt2, rpush_n, rpush_s, o_ifeq, o_iadd, o_ifne, o_ireturn, o_getref, o_virt4, o_goto, o_istore, s1_0, s1_s, o_iload2, o_ifge, o_iload3, o_iflt, o_virt1, o_getfield, z0, z1, z2, z3, z4, z7, z8, z20, z31, z33, z40, z41, runI_0, runI_c, runI_n, liftI_n, liftI_y, run_0, run_c, run_n, fxn, fxi, fxr, fxl, fxl0, ↓swi_n, ↓swi_c, nck0, nck1, nck2, nck3, List.length_cons, List.length_nil, Nat.reduceAdd, Nat.reduceSub, Nat.reduceLeDiff, Nat.reduceEqDiff, Nat.reduceLT, reduceIte, ite_true, ite_false, Nat.sub_zero, Nat.zero_le, true_and, and_true, and_self, true_or, or_true, if_true, if_false, true_implies, implies_true, not_true_eq_false, not_false_eq_true, false_implies, forall_const, ne_eq, or_self, and_false, false_and, Lt, Le, Eq', Cp, In, nI_add, nI_mul, nI_sub, nI_sub1, Neg0, bI_eq0, bI_eq1, bI_01, bft, up2_eq, up2_no, Bool.true_eq_false, Bool.false_eq_true, eq_self, m1_ne, m1_ne2, m1_lt, m1_le, lt_m1, m1_le2, bI_t, bI_f, LK_st, hd0])
          exact hQ
        | true =>
          have hr1 : r1 ≤ z := hA3.le
          (apply WP_runI (lv := lvK) (F := LK) LK_ok 999 6; simp (disch := first | decide | omega) only [t34_0, t34_1, lift_c, o_iload1, o_inl, o_icge, o_aload0, o_virt2, rpush_n, rpush_s, o_ifeq, o_iadd, o_ifne, o_ireturn, o_getref, o_virt4, o_goto, o_istore, s1_0, s1_s, o_iload2, o_ifge, o_iload3, o_iflt, o_virt1, o_getfield, z0, z1, z2, z3, z4, z7, z8, z20, z31, z33, z40, z41, runI_0, runI_c, runI_n, liftI_n, liftI_y, run_0, run_c, run_n, fxn, fxi, fxr, fxl, fxl0, ↓swi_n, ↓swi_c, nck0, nck1, nck2, nck3, List.length_cons, List.length_nil, Nat.reduceAdd, Nat.reduceSub, Nat.reduceLeDiff, Nat.reduceEqDiff, Nat.reduceLT, reduceIte, ite_true, ite_false, Nat.sub_zero, Nat.zero_le, true_and, and_true, and_self, true_or, or_true, if_true, if_false, true_implies, implies_true, not_true_eq_false, not_false_eq_true, false_implies, forall_const, ne_eq, or_self, and_false, false_and, Lt, Le, Eq', Cp, In, nI_add, nI_mul, nI_sub, nI_sub1, Neg0, bI_eq0, bI_eq1, bI_01, bft, up2_eq, up2_no, Bool.true_eq_false, Bool.false_eq_true, eq_self, m1_ne, m1_ne2, m1_lt, m1_le, lt_m1, m1_le2, bI_t, bI_f, LK_st, FGu hG, hd0])
          refine readSign_K hG hA3 (by omega) (fun hb4 hA4 => ?_) fun hb4 => ?_
          · rw [takS_ya (p := (r1, true)) hb4] at hQ
            have he4 : Eo rdN I3 (up2 I3 102 2 (nI (r1 + 1))) := Eo.rf.up ⟨rfl, Or.inl rfl⟩ _
            have hs4 := (hs3 rfl).eoN q0 he4
            generalize up2 I3 102 2 (nI (r1 + 1)) = I4 at hA4 he4 hs4 ⊢
            have hQ := hQ I4 (((he2.mono fun _ _ => Or.inl).tr he3).tr (he4.mono fun _ _ => Or.inl)) hA4 (fun _ => hs4)
            (apply WP_runI (lv := lvK) (F := LK) LK_ok 999 6; simp (disch := first | decide | omega) only [t34_0, t34_1, lift_c, o_iload1, o_inl, o_icge, o_aload0, o_virt2, rpush_n, rpush_s, o_ifeq, o_iadd, o_ifne, o_ireturn, o_getref, o_virt4, o_goto, o_istore, s1_0, s1_s, o_iload2, o_ifge, o_iload3, o_iflt, o_virt1, o_getfield, z0, z1, z2, z3, z4, z7, z8, z20, z31, z33, z40, z41, runI_0, runI_c, runI_n, liftI_n, liftI_y, run_0, run_c, run_n, fxn, fxi, fxr, fxl, fxl0, ↓swi_n, ↓swi_c, nck0, nck1, nck2, nck3, List.length_cons, List.length_nil, Nat.reduceAdd, Nat.reduceSub, Nat.reduceLeDiff, Nat.reduceEqDiff, Nat.reduceLT, reduceIte, ite_true, ite_false, Nat.sub_zero, Nat.zero_le, true_and, and_true, and_self, true_or, or_true, if_true, if_false, true_implies, implies_true, not_true_eq_false, not_false_eq_true, false_implies, forall_const, ne_eq, or_self, and_false, false_and, Lt, Le, Eq', Cp, In, nI_add, nI_mul, nI_sub, nI_sub1, Neg0, bI_eq0, bI_eq1, bI_01, bft, up2_eq, up2_no, Bool.true_eq_false, Bool.false_eq_true, eq_self, m1_ne, m1_ne2, m1_lt, m1_le, lt_m1, m1_le2, bI_t, bI_f, LK_st, hd0])
            exact hQ
          · rw [takS_no (p := (r1, true)) hb4] at hQ
            have hQ := hQ I3 ((he2.mono fun _ _ => Or.inl).tr he3) hA3 (fun w => by cases w)
            (apply WP_runI (lv := lvK) (F := LK) LK_ok 999 6; simp (disch := first | decide | omega) only [t34_0, t34_1, lift_c, o_iload1, o_inl, o_icge, o_aload0, o_virt2, rpush_n, rpush_s, o_ifeq, o_iadd, o_ifne, o_ireturn, o_getref, o_virt4, o_goto, o_istore, s1_0, s1_s, o_iload2, o_ifge, o_iload3, o_iflt, o_virt1, o_getfield, z0, z1, z2, z3, z4, z7, z8, z20, z31, z33, z40, z41, runI_0, runI_c, runI_n, liftI_n, liftI_y, run_0, run_c, run_n, fxn, fxi, fxr, fxl, fxl0, ↓swi_n, ↓swi_c, nck0, nck1, nck2, nck3, List.length_cons, List.length_nil, Nat.reduceAdd, Nat.reduceSub, Nat.reduceLeDiff, Nat.reduceEqDiff, Nat.reduceLT, reduceIte, ite_true, ite_false, Nat.sub_zero, Nat.zero_le, true_and, and_true, and_self, true_or, or_true, if_true, if_false, true_implies, implies_true, not_true_eq_false, not_false_eq_true, false_implies, forall_const, ne_eq, or_self, and_false, false_and, Lt, Le, Eq', Cp, In, nI_add, nI_mul, nI_sub, nI_sub1, Neg0, bI_eq0, bI_eq1, bI_01, bft, up2_eq, up2_no, Bool.true_eq_false, Bool.false_eq_true, eq_self, m1_ne, m1_ne2, m1_lt, m1_le, lt_m1, m1_le2, bI_t, bI_f, LK_st, hd0])
            exact hQ
      · have e : facS t z (m + 1) (p, true) = tstS t z (p, true) := by rw [facS, hb, if_neg (by decide), hb2, if_neg (by decide)]
        rw [e] at hQ
        have hT2 := testF_K (G := G) (d := d) (n := n) (L := L) (Q := Q) (w := nI (4 - (m + 1))) hG hq hT hA hs hap (by omega) hQ
        clear hQ
        (apply WP_runI (lv := lvK) (F := LK) LK_ok 77 6; simp (disch := first | decide | omega) only [t34_0, t34_1, lift_c, o_iload1, o_inl, o_icge, o_aload0, o_virt2, rpush_n, rpush_s, o_ifeq, o_iadd, o_ifne, o_ireturn, o_getref, o_virt4, o_goto, o_istore, s1_0, s1_s, o_iload2, o_ifge, o_iload3, o_iflt, o_virt1, o_getfield, z0, z1, z2, z3, z4, z7, z8, z20, z31, z33, z40, z41, runI_0, runI_c, runI_n, liftI_n, liftI_y, run_0, run_c, run_n, fxn, fxi, fxr, fxl, fxl0, ↓swi_n, ↓swi_c, nck0, nck1, nck2, nck3, List.length_cons, List.length_nil, Nat.reduceAdd, Nat.reduceSub, Nat.reduceLeDiff, Nat.reduceEqDiff, Nat.reduceLT, reduceIte, ite_true, ite_false, Nat.sub_zero, Nat.zero_le, true_and, and_true, and_self, true_or, or_true, if_true, if_false, true_implies, implies_true, not_true_eq_false, not_false_eq_true, false_implies, forall_const, ne_eq, or_self, and_false, false_and, Lt, Le, Eq', Cp, In, nI_add, nI_mul, nI_sub, nI_sub1, Neg0, bI_eq0, bI_eq1, bI_01, bft, up2_eq, up2_no, Bool.true_eq_false, Bool.false_eq_true, eq_self, m1_ne, m1_ne2, m1_lt, m1_le, lt_m1, m1_le2, bI_t, bI_f, LK_st, hd0])
        exact hT2 _ _
theorem any_K {G : GE} (t : TN) (z : Nat) : RdK G 32 (nI 0) 21 t z (anyS t z (facS t z 4)) :=
  eitherR_K (botS_len (t := t) (z := z) (facS_len 4)) (bothR_K (facS_len 4) (factor_K t z 4 (by omega)) (by omega)) (by omega)
