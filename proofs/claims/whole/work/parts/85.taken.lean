/-! ### pairs: taken -/
def unL (y : Int32) : Nat → Int32 → Bool
  | 0, _ => false
  | m + 1, v => if v < nI 0 then false else if v = y then true else unL y m (aboveV v.toNatClampNeg)
def reL (y : Int32) : Nat → Int32 → Int32
  | 0, v => v
  | m + 1, v => if v = -nI 1 then v else if v = y then v else reL y m (aboveV v.toNatClampNeg)
def tmB : Nat → Int32 → Bool
  | 0, v => decide (v = -nI 1)
  | m + 1, v => decide (v = -nI 1) || (decide (v.toNatClampNeg < 7) && (decide (v = nI v.toNatClampNeg) && tmB m (aboveV v.toNatClampNeg)))
theorem tm_all : ∀ u, u < 7 → tmB 4 (nI u) = true := by decide +kernel
theorem un_all : ∀ u, u < 7 → ∀ c, c < 7 → unL (nI c) 7 (nI u) = decide (reL (nI c) 4 (nI u) = nI c) := by decide +kernel
theorem tmB_s {m : Nat} {v : Int32} (h : tmB (m + 1) v = true) : v = -nI 1 ∨ ∃ a, a < 7 ∧ v = nI a ∧ tmB m (aboveV a) = true := by
  rw [tmB, Bool.or_eq_true, Bool.and_eq_true, Bool.and_eq_true, decide_eq_true_eq, decide_eq_true_eq, decide_eq_true_eq] at h
  rcases h with h | ⟨h1, h2, h3⟩
  · exact Or.inl h
  · exact Or.inr ⟨v.toNatClampNeg, h1, h2, h3⟩
theorem av_rng : ∀ a, a < 7 → aboveV a = -nI 1 ∨ ∃ b, b < 7 ∧ aboveV a = nI b := by decide +kernel
section
variable {G : GE} {d : Nat}
theorem isUnder_K {n : Nat} {sh : TS} {I : TI} {L : TL} {P : TP} {Q : TQ} (hs2 : sh 2 = (100, 7)) (hA : ∀ j, j < 7 → I 2 j = aboveV j) {y : Int32} {u : Nat} (hu : u < 7) (hQ : Q (some (.int (bI (unL y 7 (nI u))))) n sh I L P) : Cl G d 111 [.int (nI u), .int y] n sh I L P Q := by
  apply e111
  have loop : ∀ m j v cc ss, j + m = 7 → (v = -nI 1 ∨ ∃ a, a < 7 ∧ v = nI a) → Q (some (.int (bI (unL y m v)))) n sh I L P → WP G 111 d Q 4 [some (.int (nI u)), some (.int y), some (.int v), some (.int (nI j))] [] cc ss n sh I L P := by
    intro m
    induction m with
    | zero =>
      intro j v cc ss h hv hq
      have hj : 7 ≤ j := by omega
      rw [unL] at hq
      (apply WP_runI (lv := lvK) (F := LK) LK_ok 4 20; simp (disch := first | decide | omega) only [t111_0, lift_c, o_iload0, o_istore, s1_0, s1_s, o_inl, o_iload3, o_arraylength, o_icge, o_iload2, o_iflt, o_iload1, o_icne, o_ireturn, o_iaload, o_iinc3, o_goto, z0, z1, z2, z20, z31, runI_0, runI_c, runI_n, liftI_n, liftI_y, run_0, run_c, run_n, fxn, fxi, fxr, fxl, fxl0, ↓swi_n, ↓swi_c, nck0, nck1, nck2, nck3, List.length_cons, List.length_nil, Nat.reduceAdd, Nat.reduceSub, Nat.reduceLeDiff, Nat.reduceEqDiff, Nat.reduceLT, reduceIte, ite_true, ite_false, Nat.sub_zero, Nat.zero_le, true_and, and_true, and_self, true_or, or_true, if_true, if_false, true_implies, implies_true, not_true_eq_false, not_false_eq_true, false_implies, forall_const, ne_eq, or_self, and_false, false_and, Lt, Le, Eq', Cp, In, nI_add, nI_mul, nI_sub, nI_sub1, Neg0, bI_eq0, bI_eq1, bI_01, bft, up2_eq, up2_no, Bool.true_eq_false, Bool.false_eq_true, eq_self, m1_ne, m1_ne2, m1_lt, m1_le, lt_m1, m1_le2, bI_t, bI_f, LK_st, hs2, hj])
      exact hq
    | succ m ih =>
      intro j v cc ss h hv hq
      have hj : ¬ 7 ≤ j := by omega
      rw [unL] at hq
      rcases hv with rfl | ⟨a, ha, rfl⟩
      · rw [if_pos (by decide)] at hq
        (apply WP_runI (lv := lvK) (F := LK) LK_ok 4 20; simp (disch := first | decide | omega) only [t111_0, lift_c, o_iload0, o_istore, s1_0, s1_s, o_inl, o_iload3, o_arraylength, o_icge, o_iload2, o_iflt, o_iload1, o_icne, o_ireturn, o_iaload, o_iinc3, o_goto, z0, z1, z2, z20, z31, runI_0, runI_c, runI_n, liftI_n, liftI_y, run_0, run_c, run_n, fxn, fxi, fxr, fxl, fxl0, ↓swi_n, ↓swi_c, nck0, nck1, nck2, nck3, List.length_cons, List.length_nil, Nat.reduceAdd, Nat.reduceSub, Nat.reduceLeDiff, Nat.reduceEqDiff, Nat.reduceLT, reduceIte, ite_true, ite_false, Nat.sub_zero, Nat.zero_le, true_and, and_true, and_self, true_or, or_true, if_true, if_false, true_implies, implies_true, not_true_eq_false, not_false_eq_true, false_implies, forall_const, ne_eq, or_self, and_false, false_and, Lt, Le, Eq', Cp, In, nI_add, nI_mul, nI_sub, nI_sub1, Neg0, bI_eq0, bI_eq1, bI_01, bft, up2_eq, up2_no, Bool.true_eq_false, Bool.false_eq_true, eq_self, m1_ne, m1_ne2, m1_lt, m1_le, lt_m1, m1_le2, bI_t, bI_f, LK_st, hs2, hj])
        exact hq
      · rw [if_neg (by rw [Neg0 _ (by omega)]; exact id)] at hq
        by_cases e : y = nI a
        · rw [if_pos e.symm] at hq
          rw [e]
          (apply WP_runI (lv := lvK) (F := LK) LK_ok 4 20; simp (disch := first | decide | omega) only [t111_0, lift_c, o_iload0, o_istore, s1_0, s1_s, o_inl, o_iload3, o_arraylength, o_icge, o_iload2, o_iflt, o_iload1, o_icne, o_ireturn, o_iaload, o_iinc3, o_goto, z0, z1, z2, z20, z31, runI_0, runI_c, runI_n, liftI_n, liftI_y, run_0, run_c, run_n, fxn, fxi, fxr, fxl, fxl0, ↓swi_n, ↓swi_c, nck0, nck1, nck2, nck3, List.length_cons, List.length_nil, Nat.reduceAdd, Nat.reduceSub, Nat.reduceLeDiff, Nat.reduceEqDiff, Nat.reduceLT, reduceIte, ite_true, ite_false, Nat.sub_zero, Nat.zero_le, true_and, and_true, and_self, true_or, or_true, if_true, if_false, true_implies, implies_true, not_true_eq_false, not_false_eq_true, false_implies, forall_const, ne_eq, or_self, and_false, false_and, Lt, Le, Eq', Cp, In, nI_add, nI_mul, nI_sub, nI_sub1, Neg0, bI_eq0, bI_eq1, bI_01, bft, up2_eq, up2_no, Bool.true_eq_false, Bool.false_eq_true, eq_self, m1_ne, m1_ne2, m1_lt, m1_le, lt_m1, m1_le2, bI_t, bI_f, LK_st, hs2, hj, Nat.not_lt_zero])
          exact hq
        · have e2 : ¬ nI a = y := fun q => e q.symm
          rw [if_neg e2, Cp _ (by omega)] at hq
          have ih := fun cc ss => ih (j + 1) (aboveV a) cc ss (by omega) (av_rng a ha) hq
          have h2 := hA a ha
          generalize aboveV a = w at ih h2
          (apply WP_runI (lv := lvK) (F := LK) LK_ok 4 20; simp (disch := first | decide | omega) only [t111_0, lift_c, o_iload0, o_istore, s1_0, s1_s, o_inl, o_iload3, o_arraylength, o_icge, o_iload2, o_iflt, o_iload1, o_icne, o_ireturn, o_iaload, o_iinc3, o_goto, z0, z1, z2, z20, z31, runI_0, runI_c, runI_n, liftI_n, liftI_y, run_0, run_c, run_n, fxn, fxi, fxr, fxl, fxl0, ↓swi_n, ↓swi_c, nck0, nck1, nck2, nck3, List.length_cons, List.length_nil, Nat.reduceAdd, Nat.reduceSub, Nat.reduceLeDiff, Nat.reduceEqDiff, Nat.reduceLT, reduceIte, ite_true, ite_false, Nat.sub_zero, Nat.zero_le, true_and, and_true, and_self, true_or, or_true, if_true, if_false, true_implies, implies_true, not_true_eq_false, not_false_eq_true, false_implies, forall_const, ne_eq, or_self, and_false, false_and, Lt, Le, Eq', Cp, In, nI_add, nI_mul, nI_sub, nI_sub1, Neg0, bI_eq0, bI_eq1, bI_01, bft, up2_eq, up2_no, Bool.true_eq_false, Bool.false_eq_true, eq_self, m1_ne, m1_ne2, m1_lt, m1_le, lt_m1, m1_le2, bI_t, bI_f, LK_st, hs2, hj, e2, h2, Nat.not_lt_zero])
          exact ih _ _
  have loop := fun cc ss => loop 7 0 (nI u) cc ss (by omega) (Or.inr ⟨u, hu, rfl⟩) hQ
  (apply WP_runI (lv := lvK) (F := LK) LK_ok 4 20; simp (disch := first | decide | omega) only [t111_0, lift_c, o_iload0, o_istore, s1_0, s1_s, o_inl, o_iload3, o_arraylength, o_icge, o_iload2, o_iflt, o_iload1, o_icne, o_ireturn, o_iaload, o_iinc3, o_goto, z0, z1, z2, z20, z31, runI_0, runI_c, runI_n, liftI_n, liftI_y, run_0, run_c, run_n, fxn, fxi, fxr, fxl, fxl0, ↓swi_n, ↓swi_c, nck0, nck1, nck2, nck3, List.length_cons, List.length_nil, Nat.reduceAdd, Nat.reduceSub, Nat.reduceLeDiff, Nat.reduceEqDiff, Nat.reduceLT, reduceIte, ite_true, ite_false, Nat.sub_zero, Nat.zero_le, true_and, and_true, and_self, true_or, or_true, if_true, if_false, true_implies, implies_true, not_true_eq_false, not_false_eq_true, false_implies, forall_const, ne_eq, or_self, and_false, false_and, Lt, Le, Eq', Cp, In, nI_add, nI_mul, nI_sub, nI_sub1, Neg0, bI_eq0, bI_eq1, bI_01, bft, up2_eq, up2_no, Bool.true_eq_false, Bool.false_eq_true, eq_self, m1_ne, m1_ne2, m1_lt, m1_le, lt_m1, m1_le2, bI_t, bI_f, LK_st])
  exact loop _ _
theorem taken_L {n : Nat} {sh : TS} {I : TI} {L : TL} {P : TP} {Q : TQ} (hF : FM sh P) (hm : ∀ j, j < 7 → I 136 j = aboveV j) {x y : Int32} : ∀ m v cc ss, tmB m v = true → (∀ cc ss, WP G 192 d Q 51 [some (.ref 123), some (.int x), some (.int y), some (.int (reL y m v))] [] cc ss n sh I L P) → WP G 192 d Q 31 [some (.ref 123), some (.int x), some (.int y), some (.int v)] [] cc ss n sh I L P := by
  have stop : ∀ cc ss, (∀ cc ss, WP G 192 d Q 51 [some (.ref 123), some (.int x), some (.int y), some (.int (-nI 1))] [] cc ss n sh I L P) → WP G 192 d Q 31 [some (.ref 123), some (.int x), some (.int y), some (.int (-nI 1))] [] cc ss n sh I L P := by
    intro cc ss hq
    (apply WP_runI (lv := lvM) LM_ok 51 20; simp (disch := first | decide | omega) only [t192_0, lift_c, o_iload2, o_inl, o_stat3, rpush_n, rpush_s, o_ifne, o_ireturn, o_aload0, o_iload1, o_virt2, o_virt3, o_istore, s1_0, s1_s, o_iload3, o_iceq, o_getref, o_iaload, o_goto, o_icne, z0, z1, z2, z6, z11, z12, z20, z31, runI_0, runI_c, runI_n, liftI_n, liftI_y, run_0, run_c, run_n, fxn, fxi, fxr, fxl, fxl0, ↓swi_n, ↓swi_c, nck0, nck1, nck2, nck3, List.length_cons, List.length_nil, Nat.reduceAdd, Nat.reduceSub, Nat.reduceLeDiff, Nat.reduceEqDiff, Nat.reduceLT, reduceIte, ite_true, ite_false, Nat.sub_zero, Nat.zero_le, true_and, and_true, and_self, true_or, or_true, if_true, if_false, true_implies, implies_true, not_true_eq_false, not_false_eq_true, false_implies, forall_const, ne_eq, or_self, and_false, false_and, Lt, Le, Eq', Cp, In, nI_add, nI_mul, nI_sub, nI_sub1, Neg0, bI_eq0, bI_eq1, bI_01, bft, up2_eq, up2_no, Bool.true_eq_false, Bool.false_eq_true, eq_self, m1_ne, m1_ne2, m1_lt, m1_le, lt_m1, m1_le2, bI_t, bI_f, LM_all hF, FMu hF])
    exact hq _ _
  intro m
  induction m with
  | zero =>
    intro v cc ss ht hq
    have hv : v = -nI 1 := of_decide_eq_true ht
    rw [reL, hv] at hq
    rw [hv]
    exact stop _ _ hq
  | succ m ih =>
    intro v cc ss ht hq
    rw [reL] at hq
    rcases tmB_s ht with hv | ⟨a, ha, hv, ht2⟩
    · rw [if_pos hv, hv] at hq
      rw [hv]
      exact stop _ _ hq
    · subst hv
      rw [if_neg (by rw [m1_ne _ (by omega)]; exact id)] at hq
      by_cases e : y = nI a
      · rw [if_pos e.symm] at hq
        rw [e] at hq ⊢
        (apply WP_runI (lv := lvM) LM_ok 51 20; simp (disch := first | decide | omega) only [t192_0, lift_c, o_iload2, o_inl, o_stat3, rpush_n, rpush_s, o_ifne, o_ireturn, o_aload0, o_iload1, o_virt2, o_virt3, o_istore, s1_0, s1_s, o_iload3, o_iceq, o_getref, o_iaload, o_goto, o_icne, z0, z1, z2, z6, z11, z12, z20, z31, runI_0, runI_c, runI_n, liftI_n, liftI_y, run_0, run_c, run_n, fxn, fxi, fxr, fxl, fxl0, ↓swi_n, ↓swi_c, nck0, nck1, nck2, nck3, List.length_cons, List.length_nil, Nat.reduceAdd, Nat.reduceSub, Nat.reduceLeDiff, Nat.reduceEqDiff, Nat.reduceLT, reduceIte, ite_true, ite_false, Nat.sub_zero, Nat.zero_le, true_and, and_true, and_self, true_or, or_true, if_true, if_false, true_implies, implies_true, not_true_eq_false, not_false_eq_true, false_implies, forall_const, ne_eq, or_self, and_false, false_and, Lt, Le, Eq', Cp, In, nI_add, nI_mul, nI_sub, nI_sub1, Neg0, bI_eq0, bI_eq1, bI_01, bft, up2_eq, up2_no, Bool.true_eq_false, Bool.false_eq_true, eq_self, m1_ne, m1_ne2, m1_lt, m1_le, lt_m1, m1_le2, bI_t, bI_f, LM_all hF, FMu hF])
        exact hq _ _
      · have e2 : ¬ nI a = y := fun q => e q.symm
        rw [if_neg e2, Cp _ (by omega)] at hq
        have ih := fun cc ss => ih (aboveV a) cc ss ht2 hq
        have h2 := hm a ha
        clear hq
        generalize aboveV a = w at ih h2
        (apply WP_runI (lv := lvM) LM_ok 31 20; simp (disch := first | decide | omega) only [t192_0, lift_c, o_iload2, o_inl, o_stat3, rpush_n, rpush_s, o_ifne, o_ireturn, o_aload0, o_iload1, o_virt2, o_virt3, o_istore, s1_0, s1_s, o_iload3, o_iceq, o_getref, o_iaload, o_goto, o_icne, z0, z1, z2, z6, z11, z12, z20, z31, runI_0, runI_c, runI_n, liftI_n, liftI_y, run_0, run_c, run_n, fxn, fxi, fxr, fxl, fxl0, ↓swi_n, ↓swi_c, nck0, nck1, nck2, nck3, List.length_cons, List.length_nil, Nat.reduceAdd, Nat.reduceSub, Nat.reduceLeDiff, Nat.reduceEqDiff, Nat.reduceLT, reduceIte, ite_true, ite_false, Nat.sub_zero, Nat.zero_le, true_and, and_true, and_self, true_or, or_true, if_true, if_false, true_implies, implies_true, not_true_eq_false, not_false_eq_true, false_implies, forall_const, ne_eq, or_self, and_false, false_and, Lt, Le, Eq', Cp, In, nI_add, nI_mul, nI_sub, nI_sub1, Neg0, bI_eq0, bI_eq1, bI_01, bft, up2_eq, up2_no, Bool.true_eq_false, Bool.false_eq_true, eq_self, m1_ne, m1_ne2, m1_lt, m1_le, lt_m1, m1_le2, bI_t, bI_f, LM_all hF, FMu hF, e2, h2])
        exact ih _ _
theorem taken_P (hd : 50 ≤ d) (x y : Int32) : PAIR G d 96 192 [.ref 20, .int x, .int y] [.ref 123, .int x, .int y] := by
  intro n sh I L P Q hI hQ
  obtain ⟨F, E, k, g, r, hI⟩ := hI
  apply e96
  apply WP_SF
  intro hSF
  have hs2 := hSF.2.2.1
  have hB := hI.cb
  have hG := hB.fg
  have hY22 := hB.y22
  have hY84 := hB.y84
  have h22 : sh 22 = (8, 9) := (FY22u hY22).1
  have hd0 : 0 < d := by omega
  have hk := hI.2.2.1.1.k6
  have hg9 := hI.2.2.1.1.g9
  have hWe := hI.2.2.1.we
  have hF := hI.1
  have h5 := hB.count
  have hx := gooseB hB x
  cases hz : inR y 0 6 with
  | false =>
    have hy2 : decide (nI 0 ≤ y ∧ y ≤ nI 6) = false := hz
    have bad := hQ (-nI 2) n sh I L P fun Q2 h2 => by
      refine ⟨(FMu hI.1).1, ?_⟩
      have h2 := h2 _ _ _ _ _ ⟨F, E, k, g, r, hI⟩
      apply e192
      (apply WP_runI (lv := lvM) LM_ok 999 40; simp (disch := first | decide | omega) only [t192_0, lift_c, o_iload2, o_inl, o_stat3, rpush_n, rpush_s, o_ifne, o_ireturn, o_aload0, o_iload1, o_virt2, o_virt3, o_istore, s1_0, s1_s, o_iload3, o_iceq, o_getref, o_iaload, o_goto, o_icne, z0, z1, z2, z6, z11, z12, z20, z31, runI_0, runI_c, runI_n, liftI_n, liftI_y, run_0, run_c, run_n, fxn, fxi, fxr, fxl, fxl0, ↓swi_n, ↓swi_c, nck0, nck1, nck2, nck3, List.length_cons, List.length_nil, Nat.reduceAdd, Nat.reduceSub, Nat.reduceLeDiff, Nat.reduceEqDiff, Nat.reduceLT, reduceIte, ite_true, ite_false, Nat.sub_zero, Nat.zero_le, true_and, and_true, and_self, true_or, or_true, if_true, if_false, true_implies, implies_true, not_true_eq_false, not_false_eq_true, false_implies, forall_const, ne_eq, or_self, and_false, false_and, Lt, Le, Eq', Cp, In, nI_add, nI_mul, nI_sub, nI_sub1, Neg0, bI_eq0, bI_eq1, bI_01, bft, up2_eq, up2_no, Bool.true_eq_false, Bool.false_eq_true, eq_self, m1_ne, m1_ne2, m1_lt, m1_le, lt_m1, m1_le2, bI_t, bI_f, LM_all hF, FMu hF, hWe, hy2, hd0])
      exact h2
    (apply WP_runI (lv := lvK) (F := LK) LK_ok 999 40; simp (disch := first | decide | omega) only [t96_0, lift_c, o_iload2, o_stat1, rpush_n, rpush_s, o_ifne, o_inl, o_ireturn, o_aload0, o_iload1, o_virt2, o_getref, o_aaload, o_getfield, o_istore, s1_0, s1_s, o_iload3, o_stat2, o_ifeq, o_goto, z0, z1, z2, z11, z12, z20, z31, runI_0, runI_c, runI_n, liftI_n, liftI_y, run_0, run_c, run_n, fxn, fxi, fxr, fxl, fxl0, ↓swi_n, ↓swi_c, nck0, nck1, nck2, nck3, List.length_cons, List.length_nil, Nat.reduceAdd, Nat.reduceSub, Nat.reduceLeDiff, Nat.reduceEqDiff, Nat.reduceLT, reduceIte, ite_true, ite_false, Nat.sub_zero, Nat.zero_le, true_and, and_true, and_self, true_or, or_true, if_true, if_false, true_implies, implies_true, not_true_eq_false, not_false_eq_true, false_implies, forall_const, ne_eq, or_self, and_false, false_and, Lt, Le, Eq', Cp, In, nI_add, nI_mul, nI_sub, nI_sub1, Neg0, bI_eq0, bI_eq1, bI_01, bft, up2_eq, up2_no, Bool.true_eq_false, Bool.false_eq_true, eq_self, m1_ne, m1_ne2, m1_lt, m1_le, lt_m1, m1_le2, bI_t, bI_f, LK_st, FGu hG, LK_g hG h22 hs2, FY22u hY22, hz, hd0])
    exact bad
  | true =>
    have hy2 : decide (nI 0 ≤ y ∧ y ≤ nI 6) = true := hz
    cases hb : isY (I 124) x with
    | false =>
      rw [hb] at hx
      have bad := hQ (-nI 11) n sh I L P fun Q2 h2 => by
        refine ⟨(FMu hI.1).1, ?_⟩
        have h2 := h2 _ _ _ _ _ ⟨F, E, k, g, r, hI⟩
        apply e192
        (apply WP_runI (lv := lvM) LM_ok 999 40; simp (disch := first | decide | omega) only [t192_0, lift_c, o_iload2, o_inl, o_stat3, rpush_n, rpush_s, o_ifne, o_ireturn, o_aload0, o_iload1, o_virt2, o_virt3, o_istore, s1_0, s1_s, o_iload3, o_iceq, o_getref, o_iaload, o_goto, o_icne, z0, z1, z2, z6, z11, z12, z20, z31, runI_0, runI_c, runI_n, liftI_n, liftI_y, run_0, run_c, run_n, fxn, fxi, fxr, fxl, fxl0, ↓swi_n, ↓swi_c, nck0, nck1, nck2, nck3, List.length_cons, List.length_nil, Nat.reduceAdd, Nat.reduceSub, Nat.reduceLeDiff, Nat.reduceEqDiff, Nat.reduceLT, reduceIte, ite_true, ite_false, Nat.sub_zero, Nat.zero_le, true_and, and_true, and_self, true_or, or_true, if_true, if_false, true_implies, implies_true, not_true_eq_false, not_false_eq_true, false_implies, forall_const, ne_eq, or_self, and_false, false_and, Lt, Le, Eq', Cp, In, nI_add, nI_mul, nI_sub, nI_sub1, Neg0, bI_eq0, bI_eq1, bI_01, bft, up2_eq, up2_no, Bool.true_eq_false, Bool.false_eq_true, eq_self, m1_ne, m1_ne2, m1_lt, m1_le, lt_m1, m1_le2, bI_t, bI_f, LM_all hF, FMu hF, hWe, hy2, hb, hd0])
        exact h2
      (apply WP_runI (lv := lvK) (F := LK) LK_ok 999 40; simp (disch := first | decide | omega) only [t96_0, lift_c, o_iload2, o_stat1, rpush_n, rpush_s, o_ifne, o_inl, o_ireturn, o_aload0, o_iload1, o_virt2, o_getref, o_aaload, o_getfield, o_istore, s1_0, s1_s, o_iload3, o_stat2, o_ifeq, o_goto, z0, z1, z2, z11, z12, z20, z31, runI_0, runI_c, runI_n, liftI_n, liftI_y, run_0, run_c, run_n, fxn, fxi, fxr, fxl, fxl0, ↓swi_n, ↓swi_c, nck0, nck1, nck2, nck3, List.length_cons, List.length_nil, Nat.reduceAdd, Nat.reduceSub, Nat.reduceLeDiff, Nat.reduceEqDiff, Nat.reduceLT, reduceIte, ite_true, ite_false, Nat.sub_zero, Nat.zero_le, true_and, and_true, and_self, true_or, or_true, if_true, if_false, true_implies, implies_true, not_true_eq_false, not_false_eq_true, false_implies, forall_const, ne_eq, or_self, and_false, false_and, Lt, Le, Eq', Cp, In, nI_add, nI_mul, nI_sub, nI_sub1, Neg0, bI_eq0, bI_eq1, bI_01, bft, up2_eq, up2_no, Bool.true_eq_false, Bool.false_eq_true, eq_self, m1_ne, m1_ne2, m1_lt, m1_le, lt_m1, m1_le2, bI_t, bI_f, LK_st, FGu hG, LK_g hG h22 hs2, FY22u hY22, hz, hx, hd0])
      exact bad
    | true =>
      obtain ⟨i, hi, ex⟩ := isY_of hB.2.2.1 hb
      subst ex
      rw [hb] at hx
      obtain ⟨u, hu, eu⟩ := hB.2.2.1.kind hi
      have hg0 : I (28 + 2 * i) 0 = gs (I 124) i 0 := hB.2.1.geese i 0 hi (by omega)
      rw [eu] at hg0
      have hA := hSF.2.2.2.2.2.2.2.1
      have hA2 := hI.2.2.2.2.2.2.2.2.2.2.2.1.1
      obtain ⟨c, -, hc, ey⟩ := inR_of (by omega) (by omega) hz
      have huc := un_all u hu c (by omega)
      rw [← ey] at huc
      have good := hQ (if unL y 7 (nI u) = true then nI u else -nI 12) n sh I L P fun Q2 h2 => by
        refine ⟨(FMu hI.1).1, ?_⟩
        have h3 := h2 _ _ _ _ _ ⟨F, E, k, g, r, hI⟩
        clear h2
        rw [huc] at h3
        apply e192
        have fin : ∀ cc ss, WP G 192 d Q2 51 [some (.ref 123), some (.int (nI i)), some (.int y), some (.int (reL y 4 (nI u)))] [] cc ss n sh I L P := by
          intro cc ss
          generalize reL y 4 (nI u) = w at h3 ⊢
          by_cases e : w = y
          · rw [if_pos (decide_eq_true e)] at h3
            subst e
            (apply WP_runI (lv := lvM) LM_ok 999 40; simp (disch := first | decide | omega) only [t192_0, lift_c, o_iload2, o_inl, o_stat3, rpush_n, rpush_s, o_ifne, o_ireturn, o_aload0, o_iload1, o_virt2, o_virt3, o_istore, s1_0, s1_s, o_iload3, o_iceq, o_getref, o_iaload, o_goto, o_icne, z0, z1, z2, z6, z11, z12, z20, z31, runI_0, runI_c, runI_n, liftI_n, liftI_y, run_0, run_c, run_n, fxn, fxi, fxr, fxl, fxl0, ↓swi_n, ↓swi_c, nck0, nck1, nck2, nck3, List.length_cons, List.length_nil, Nat.reduceAdd, Nat.reduceSub, Nat.reduceLeDiff, Nat.reduceEqDiff, Nat.reduceLT, reduceIte, ite_true, ite_false, Nat.sub_zero, Nat.zero_le, true_and, and_true, and_self, true_or, or_true, if_true, if_false, true_implies, implies_true, not_true_eq_false, not_false_eq_true, false_implies, forall_const, ne_eq, or_self, and_false, false_and, Lt, Le, Eq', Cp, In, nI_add, nI_mul, nI_sub, nI_sub1, Neg0, bI_eq0, bI_eq1, bI_01, bft, up2_eq, up2_no, Bool.true_eq_false, Bool.false_eq_true, eq_self, m1_ne, m1_ne2, m1_lt, m1_le, lt_m1, m1_le2, bI_t, bI_f, LM_all hF, FMu hF, hWe, eu, hd0])
            exact h3
          · rw [if_neg (by simpa using e)] at h3
            (apply WP_runI (lv := lvM) LM_ok 999 40; simp (disch := first | decide | omega) only [t192_0, lift_c, o_iload2, o_inl, o_stat3, rpush_n, rpush_s, o_ifne, o_ireturn, o_aload0, o_iload1, o_virt2, o_virt3, o_istore, s1_0, s1_s, o_iload3, o_iceq, o_getref, o_iaload, o_goto, o_icne, z0, z1, z2, z6, z11, z12, z20, z31, runI_0, runI_c, runI_n, liftI_n, liftI_y, run_0, run_c, run_n, fxn, fxi, fxr, fxl, fxl0, ↓swi_n, ↓swi_c, nck0, nck1, nck2, nck3, List.length_cons, List.length_nil, Nat.reduceAdd, Nat.reduceSub, Nat.reduceLeDiff, Nat.reduceEqDiff, Nat.reduceLT, reduceIte, ite_true, ite_false, Nat.sub_zero, Nat.zero_le, true_and, and_true, and_self, true_or, or_true, if_true, if_false, true_implies, implies_true, not_true_eq_false, not_false_eq_true, false_implies, forall_const, ne_eq, or_self, and_false, false_and, Lt, Le, Eq', Cp, In, nI_add, nI_mul, nI_sub, nI_sub1, Neg0, bI_eq0, bI_eq1, bI_01, bft, up2_eq, up2_no, Bool.true_eq_false, Bool.false_eq_true, eq_self, m1_ne, m1_ne2, m1_lt, m1_le, lt_m1, m1_le2, bI_t, bI_f, LM_all hF, FMu hF, hWe, eu, e, hd0])
            exact h3
        have loop := fun cc ss => taken_L (G := G) (d := d) (L := L) (n := n) (sh := sh) (Q := Q2) (x := nI i) (y := y) hF hA2 4 (nI u) cc ss (tm_all u hu) fin
        clear h3 fin
        (apply WP_runI (lv := lvM) LM_ok 31 40; simp (disch := first | decide | omega) only [t192_0, lift_c, o_iload2, o_inl, o_stat3, rpush_n, rpush_s, o_ifne, o_ireturn, o_aload0, o_iload1, o_virt2, o_virt3, o_istore, s1_0, s1_s, o_iload3, o_iceq, o_getref, o_iaload, o_goto, o_icne, z0, z1, z2, z6, z11, z12, z20, z31, runI_0, runI_c, runI_n, liftI_n, liftI_y, run_0, run_c, run_n, fxn, fxi, fxr, fxl, fxl0, ↓swi_n, ↓swi_c, nck0, nck1, nck2, nck3, List.length_cons, List.length_nil, Nat.reduceAdd, Nat.reduceSub, Nat.reduceLeDiff, Nat.reduceEqDiff, Nat.reduceLT, reduceIte, ite_true, ite_false, Nat.sub_zero, Nat.zero_le, true_and, and_true, and_self, true_or, or_true, if_true, if_false, true_implies, implies_true, not_true_eq_false, not_false_eq_true, false_implies, forall_const, ne_eq, or_self, and_false, false_and, Lt, Le, Eq', Cp, In, nI_add, nI_mul, nI_sub, nI_sub1, Neg0, bI_eq0, bI_eq1, bI_01, bft, up2_eq, up2_no, Bool.true_eq_false, Bool.false_eq_true, eq_self, m1_ne, m1_ne2, m1_lt, m1_le, lt_m1, m1_le2, bI_t, bI_f, LM_all hF, FMu hF, hWe, hy2, hb, eu, hd0])
        exact loop _ _
      (apply WP_runI (lv := lvK) (F := LK) LK_ok 999 40; simp (disch := first | decide | omega) only [t96_0, lift_c, o_iload2, o_stat1, rpush_n, rpush_s, o_ifne, o_inl, o_ireturn, o_aload0, o_iload1, o_virt2, o_getref, o_aaload, o_getfield, o_istore, s1_0, s1_s, o_iload3, o_stat2, o_ifeq, o_goto, z0, z1, z2, z11, z12, z20, z31, runI_0, runI_c, runI_n, liftI_n, liftI_y, run_0, run_c, run_n, fxn, fxi, fxr, fxl, fxl0, ↓swi_n, ↓swi_c, nck0, nck1, nck2, nck3, List.length_cons, List.length_nil, Nat.reduceAdd, Nat.reduceSub, Nat.reduceLeDiff, Nat.reduceEqDiff, Nat.reduceLT, reduceIte, ite_true, ite_false, Nat.sub_zero, Nat.zero_le, true_and, and_true, and_self, true_or, or_true, if_true, if_false, true_implies, implies_true, not_true_eq_false, not_false_eq_true, false_implies, forall_const, ne_eq, or_self, and_false, false_and, Lt, Le, Eq', Cp, In, nI_add, nI_mul, nI_sub, nI_sub1, Neg0, bI_eq0, bI_eq1, bI_01, bft, up2_eq, up2_no, Bool.true_eq_false, Bool.false_eq_true, eq_self, m1_ne, m1_ne2, m1_lt, m1_le, lt_m1, m1_le2, bI_t, bI_f, LK_st, FGu hG, LK_g hG h22 hs2, FY22u hY22, hz, h5, hi, decide_true, hg0, hd0])
      refine isUnder_K hs2 hA hu ?_
      cases hb2 : unL y 7 (nI u) with
      | true =>
        rw [if_pos hb2] at good
        (apply WP_runI (lv := lvK) (F := LK) LK_ok 999 40; simp (disch := first | decide | omega) only [t96_0, lift_c, o_iload2, o_stat1, rpush_n, rpush_s, o_ifne, o_inl, o_ireturn, o_aload0, o_iload1, o_virt2, o_getref, o_aaload, o_getfield, o_istore, s1_0, s1_s, o_iload3, o_stat2, o_ifeq, o_goto, z0, z1, z2, z11, z12, z20, z31, runI_0, runI_c, runI_n, liftI_n, liftI_y, run_0, run_c, run_n, fxn, fxi, fxr, fxl, fxl0, ↓swi_n, ↓swi_c, nck0, nck1, nck2, nck3, List.length_cons, List.length_nil, Nat.reduceAdd, Nat.reduceSub, Nat.reduceLeDiff, Nat.reduceEqDiff, Nat.reduceLT, reduceIte, ite_true, ite_false, Nat.sub_zero, Nat.zero_le, true_and, and_true, and_self, true_or, or_true, if_true, if_false, true_implies, implies_true, not_true_eq_false, not_false_eq_true, false_implies, forall_const, ne_eq, or_self, and_false, false_and, Lt, Le, Eq', Cp, In, nI_add, nI_mul, nI_sub, nI_sub1, Neg0, bI_eq0, bI_eq1, bI_01, bft, up2_eq, up2_no, Bool.true_eq_false, Bool.false_eq_true, eq_self, m1_ne, m1_ne2, m1_lt, m1_le, lt_m1, m1_le2, bI_t, bI_f, LK_st, FGu hG, LK_g hG h22 hs2, hd0])
        exact good
      | false =>
        rw [if_neg (by rw [hb2]; decide)] at good
        (apply WP_runI (lv := lvK) (F := LK) LK_ok 999 40; simp (disch := first | decide | omega) only [t96_0, lift_c, o_iload2, o_stat1, rpush_n, rpush_s, o_ifne, o_inl, o_ireturn, o_aload0, o_iload1, o_virt2, o_getref, o_aaload, o_getfield, o_istore, s1_0, s1_s, o_iload3, o_stat2, o_ifeq, o_goto, z0, z1, z2, z11, z12, z20, z31, runI_0, runI_c, runI_n, liftI_n, liftI_y, run_0, run_c, run_n, fxn, fxi, fxr, fxl, fxl0, ↓swi_n, ↓swi_c, nck0, nck1, nck2, nck3, List.length_cons, List.length_nil, Nat.reduceAdd, Nat.reduceSub, Nat.reduceLeDiff, Nat.reduceEqDiff, Nat.reduceLT, reduceIte, ite_true, ite_false, Nat.sub_zero, Nat.zero_le, true_and, and_true, and_self, true_or, or_true, if_true, if_false, true_implies, implies_true, not_true_eq_false, not_false_eq_true, false_implies, forall_const, ne_eq, or_self, and_false, false_and, Lt, Le, Eq', Cp, In, nI_add, nI_mul, nI_sub, nI_sub1, Neg0, bI_eq0, bI_eq1, bI_01, bft, up2_eq, up2_no, Bool.true_eq_false, Bool.false_eq_true, eq_self, m1_ne, m1_ne2, m1_lt, m1_le, lt_m1, m1_le2, bI_t, bI_f, LK_st, FGu hG, LK_g hG h22 hs2, hd0])
        exact good
end
