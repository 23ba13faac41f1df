/-! ### the class: seen, plans -/
/-- rows told by hand are those of the row of numbers -/
def RD (I : TI) (N : TN) : Prop := I 40 3 = N 84 ∧ I 44 3 = N 100 ∧ I 48 3 = N 121 ∧
  (∀ s, s ≤ 10 → N 84 = nI s → ∀ j, j < s → I 41 j = N (85 + 3 * j) ∧ I 42 j = N (86 + 3 * j) ∧ I 43 j = N (87 + 3 * j)) ∧
  (∀ s, s ≤ 10 → N 100 = nI s → ∀ j, j < s → I 45 j = N (101 + 2 * j) ∧ I 46 j = N (102 + 2 * j)) ∧
  (∀ s, s ≤ 10 → N 121 = nI s → ∀ j, j < s → I 49 j = N (122 + 2 * j) ∧ I 50 j = N (123 + 2 * j))
theorem RD.cf {I I' : TI} {N : TN} (h : RD I N) (he : Eo (scY 84) I I') : RD I' N := by
  have e : ∀ a j, a < 84 → I' a j = I a j := fun a j ha => he a j fun q => by have := q.1; omega
  obtain ⟨h1, h2, h3, h4, h5, h6⟩ := h
  refine ⟨(e _ _ (by omega)).trans h1, (e _ _ (by omega)).trans h2, (e _ _ (by omega)).trans h3, fun s h10 hs j hj => ?_, fun s h10 hs j hj => ?_, fun s h10 hs j hj => ?_⟩
  · rw [e _ _ (by omega), e _ _ (by omega), e _ _ (by omega)]
    exact h4 s h10 hs j hj
  · rw [e _ _ (by omega), e _ _ (by omega)]
    exact h5 s h10 hs j hj
  · rw [e _ _ (by omega), e _ _ (by omega)]
    exact h6 s h10 hs j hj
theorem seR_f {M : TN} {t j : Nat} (h : seR M t j = false) : ∀ m, seR M t (j + m) = false
  | 0 => h
  | m + 1 => by
    show (seR M t (j + m) && _) = false
    rw [seR_f h m]
    rfl
section
variable {G : GE} {d n : Nat} {sh : TS} {I0 I : TI} {L0 L : TL} {P0 P : TP} {Q : TQ} {N M : TN} {F : TF} {E : Nat → Int32} {k g r : Nat}
theorem CB.r40 (h : CB sh I P N F E k g r) : FR sh P 40 5 := h.1.2.2.2.2.1
theorem CB.r44 (h : CB sh I P N F E k g r) : FR sh P 44 10 := h.1.2.2.2.2.2.1
theorem CB.r48 (h : CB sh I P N F E k g r) : FR sh P 48 8 := h.1.2.2.2.2.2.2.1
theorem FR40 (h : FR sh P 40 5) : sh 40 = (5, 4) ∧ sh 41 = (100, 5) ∧ sh 42 = (100, 5) ∧ sh 43 = (100, 5) ∧ P 40 0 = 41 ∧ P 40 1 = 42 ∧ P 40 2 = 43 := h
theorem FR44 (h : FR sh P 44 10) : sh 44 = (5, 4) ∧ sh 45 = (100, 10) ∧ sh 46 = (100, 10) ∧ sh 47 = (100, 10) ∧ P 44 0 = 45 ∧ P 44 1 = 46 ∧ P 44 2 = 47 := h
theorem FR48 (h : FR sh P 48 8) : sh 48 = (5, 4) ∧ sh 49 = (100, 8) ∧ sh 50 = (100, 8) ∧ sh 51 = (100, 8) ∧ P 48 0 = 49 ∧ P 48 1 = 50 ∧ P 48 2 = 51 := h
/-- as seen: the rows of the class, those that a row of numbers N has -/
theorem asSeen_T {N' : TN} (hT : TT sh I0 L0 P0 I L P N' M F E k g r) (hR : RD I N) (hS : WS N k) (hM : ∀ p, 83 ≤ p → M p = N p) (hd : 6 ≤ d) (hQ : ∀ I', CF I0 L0 P0 I' L P → CB sh I' P N' F E k g r → Q (some (.int (bI (seA F E M)))) n sh I' L P) : Cl G d 20 [.ref 83, .ref 40] n sh I L P Q := by
  apply e20
  have hd0 : 0 < d := by omega
  obtain ⟨s, hs5, hs, hrow⟩ := hS.1
  have hk := hT.2.2.2.k6
  generalize hv : seA F E M = v at hQ
  unfold seA at hv
  rw [hM 84 (by omega), hs, Cp _ (by omega)] at hv
  have hG := hT.fg
  have hY84 := hT.y
  have hr40 := FR40 hT.2.1.r40
  have outer : ∀ m j I1 o3 o4 cc ss, j + m = 13 → TT sh I0 L0 P0 I1 L P N' (hoursS F E M j) F E k g r → RD I1 N → seH F E M s j = true → WP G 20 d Q 2 [some (.ref 83), some (.ref 40), some (.int (nI j)), o3, o4] [] cc ss n sh I1 L P := by
    intro m
    induction m with
    | zero =>
      intro j I1 o3 o4 cc ss h hT1 hR1 hb
      have hj : 12 < j := by omega
      have hQ := hQ I1 hT1.1 hT1.2.1
      rw [← hv, show 13 = j by omega, hb] at hQ
      (apply WP_runI (lv := lvK) (F := LK) LK_ok 2 20; simp (disch := first | decide | omega) only [t20_0, t20_1, lift_c, o_inl, o_istore, s1_0, s1_s, o_iload2, o_icgt, o_iload3, o_aload1, o_getfield, o_icge, o_getref, o_iaload, o_icne, o_goto, o_iload4, o_ifeq, o_aload0, o_aaload, o_iceq, o_ireturn, o_iinc3, o_virt1, rpush_n, rpush_s, o_iinc2, z0, z1, z2, z12, z20, z31, runI_0, runI_c, runI_n, liftI_n, liftI_y, run_0, run_c, run_n, fxn, fxi, fxr, fxl, fxl0, ↓swi_n, ↓swi_c, nck0, nck1, nck2, nck3, List.length_cons, List.length_nil, Nat.reduceAdd, Nat.reduceSub, Nat.reduceLeDiff, Nat.reduceEqDiff, Nat.reduceLT, reduceIte, ite_true, ite_false, Nat.sub_zero, Nat.zero_le, true_and, and_true, and_self, true_or, or_true, if_true, if_false, true_implies, implies_true, not_true_eq_false, not_false_eq_true, false_implies, forall_const, ne_eq, or_self, and_false, false_and, Lt, Le, Eq', Cp, In, nI_add, nI_mul, nI_sub, nI_sub1, Neg0, bI_eq0, bI_eq1, bI_01, bft, up2_eq, up2_no, Bool.true_eq_false, Bool.false_eq_true, eq_self, m1_ne, m1_ne2, m1_lt, m1_le, lt_m1, m1_le2, bI_t, bI_f, LK_st, FGu hG, hj])
      exact hQ
    | succ m ih =>
      intro j I1 o3 o4 cc ss h hT1 hR1 hb
      have hj : ¬ 12 < j := by omega
      have hQ1 := hQ I1 hT1.1 hT1.2.1
      have e3 : I1 40 3 = nI s := hR1.1.trans hs
      have hse : seH F E M s (j + 1) = seR (hoursS F E M j) j s := by
        show (seH F E M s j && _) = _
        rw [hb]
        exact Bool.true_and _
      have hMj : ∀ p, 83 ≤ p → hoursS F E M j p = N p := fun p hp => by
        have hWM := hT.2.2.2
        rw [hours_83 hT.2.1.2.2.2 hWM hp j]
        exact hM p hp
      have inner : ∀ l i o4 cc ss, i + l = s → seR (hoursS F E M j) j i = true → WP G 20 d Q 10 [some (.ref 83), some (.ref 40), some (.int (nI j)), some (.int (nI i)), o4] [] cc ss n sh I1 L P := by
        intro l
        induction l with
        | zero =>
          intro i o4 cc ss h hi
          have his : s ≤ i := by omega
          have his2 : i = s := by omega
          rw [his2] at hi
          (apply WP_runI (lv := lvK) (F := LK) LK_ok 10 20; simp (disch := first | decide | omega) only [t20_0, t20_1, lift_c, o_inl, o_istore, s1_0, s1_s, o_iload2, o_icgt, o_iload3, o_aload1, o_getfield, o_icge, o_getref, o_iaload, o_icne, o_goto, o_iload4, o_ifeq, o_aload0, o_aaload, o_iceq, o_ireturn, o_iinc3, o_virt1, rpush_n, rpush_s, o_iinc2, z0, z1, z2, z12, z20, z31, runI_0, runI_c, runI_n, liftI_n, liftI_y, run_0, run_c, run_n, fxn, fxi, fxr, fxl, fxl0, ↓swi_n, ↓swi_c, nck0, nck1, nck2, nck3, List.length_cons, List.length_nil, Nat.reduceAdd, Nat.reduceSub, Nat.reduceLeDiff, Nat.reduceEqDiff, Nat.reduceLT, reduceIte, ite_true, ite_false, Nat.sub_zero, Nat.zero_le, true_and, and_true, and_self, true_or, or_true, if_true, if_false, true_implies, implies_true, not_true_eq_false, not_false_eq_true, false_implies, forall_const, ne_eq, or_self, and_false, false_and, Lt, Le, Eq', Cp, In, nI_add, nI_mul, nI_sub, nI_sub1, Neg0, bI_eq0, bI_eq1, bI_01, bft, up2_eq, up2_no, Bool.true_eq_false, Bool.false_eq_true, eq_self, m1_ne, m1_ne2, m1_lt, m1_le, lt_m1, m1_le2, bI_t, bI_f, LK_st, FGu hG, FY84u hY84, hr40, e3, his, hd0])
          refine hour_T hT1 (by omega) fun I2 hT2 => ?_
          have hR2 : RD I2 N := by
            have hE : ∀ a x, a < 84 → I2 a x = I1 a x := fun a x ha => by
              rw [hT2.1.1 a x fun q => by have := q.1; omega, hT1.1.1 a x fun q => by have := q.1; omega]
            obtain ⟨h1, h2, h3, h4, h5, h6⟩ := hR1
            refine ⟨(hE _ _ (by omega)).trans h1, (hE _ _ (by omega)).trans h2, (hE _ _ (by omega)).trans h3, fun s h10 hs j hj => ?_, fun s h10 hs j hj => ?_, fun s h10 hs j hj => ?_⟩
            · rw [hE _ _ (by omega), hE _ _ (by omega), hE _ _ (by omega)]
              exact h4 s h10 hs j hj
            · rw [hE _ _ (by omega), hE _ _ (by omega)]
              exact h5 s h10 hs j hj
            · rw [hE _ _ (by omega), hE _ _ (by omega)]
              exact h6 s h10 hs j hj
          have ih := fun o3 o4 cc ss => ih (j + 1) I2 o3 o4 cc ss (by omega) hT2 hR2 (hse.trans hi)
          (apply WP_runI (lv := lvK) (F := LK) LK_ok 2 20; simp (disch := first | decide | omega) only [t20_0, t20_1, lift_c, o_inl, o_istore, s1_0, s1_s, o_iload2, o_icgt, o_iload3, o_aload1, o_getfield, o_icge, o_getref, o_iaload, o_icne, o_goto, o_iload4, o_ifeq, o_aload0, o_aaload, o_iceq, o_ireturn, o_iinc3, o_virt1, rpush_n, rpush_s, o_iinc2, z0, z1, z2, z12, z20, z31, runI_0, runI_c, runI_n, liftI_n, liftI_y, run_0, run_c, run_n, fxn, fxi, fxr, fxl, fxl0, ↓swi_n, ↓swi_c, nck0, nck1, nck2, nck3, List.length_cons, List.length_nil, Nat.reduceAdd, Nat.reduceSub, Nat.reduceLeDiff, Nat.reduceEqDiff, Nat.reduceLT, reduceIte, ite_true, ite_false, Nat.sub_zero, Nat.zero_le, true_and, and_true, and_self, true_or, or_true, if_true, if_false, true_implies, implies_true, not_true_eq_false, not_false_eq_true, false_implies, forall_const, ne_eq, or_self, and_false, false_and, Lt, Le, Eq', Cp, In, nI_add, nI_mul, nI_sub, nI_sub1, Neg0, bI_eq0, bI_eq1, bI_01, bft, up2_eq, up2_no, Bool.true_eq_false, Bool.false_eq_true, eq_self, m1_ne, m1_ne2, m1_lt, m1_le, lt_m1, m1_le2, bI_t, bI_f, LK_st, FGu hG])
          exact ih _ _ _ _
        | succ l ih2 =>
          intro i o4 cc ss h hi
          have his : ¬ s ≤ i := by omega
          obtain ⟨⟨ge, hge, e1⟩, ⟨u, hu, e2⟩, ⟨c, hc, e4⟩⟩ := hrow i (by omega)
          obtain ⟨r1, r2, r3⟩ := hR1.2.2.2.1 s (by omega) hs i (by omega)
          rw [e1] at r1
          rw [e2] at r2
          rw [e4] at r3
          have gg : I1 (90 + 2 * ge) 2 = gs (hoursS F E M j) ge 2 := hT1.2.2.1.geese ge 2 hge (by omega)
          have hsb : seR (hoursS F E M j) j (i + 1) = seB (hoursS F E M j) j i := by rw [seR, hi]; exact Bool.true_and _
          have hbe : seB (hoursS F E M j) j i = (!decide (nI u = nI j) || decide (gs (hoursS F E M j) ge 2 = nI c)) := by
            unfold seB
            rw [hMj _ (by omega), hMj _ (by omega), hMj _ (by omega), e1, e2, e4, Cp _ (by omega)]
          have ih2 := fun o4 cc ss => ih2 (i + 1) o4 cc ss (by omega)
          rw [hsb, hbe] at ih2
          clear ih hQ
          generalize gs (hoursS F E M j) ge 2 = w at gg ih2 hbe
          by_cases huj : u = j
          · by_cases hw : w = nI c
            · have ih2 := fun o4 cc ss => ih2 o4 cc ss (by rw [hw]; simp)
              (apply WP_runI (lv := lvK) (F := LK) LK_ok 10 40; simp (disch := first | decide | omega) only [t20_0, t20_1, lift_c, o_inl, o_istore, s1_0, s1_s, o_iload2, o_icgt, o_iload3, o_aload1, o_getfield, o_icge, o_getref, o_iaload, o_icne, o_goto, o_iload4, o_ifeq, o_aload0, o_aaload, o_iceq, o_ireturn, o_iinc3, o_virt1, rpush_n, rpush_s, o_iinc2, z0, z1, z2, z12, z20, z31, runI_0, runI_c, runI_n, liftI_n, liftI_y, run_0, run_c, run_n, fxn, fxi, fxr, fxl, fxl0, ↓swi_n, ↓swi_c, nck0, nck1, nck2, nck3, List.length_cons, List.length_nil, Nat.reduceAdd, Nat.reduceSub, Nat.reduceLeDiff, Nat.reduceEqDiff, Nat.reduceLT, reduceIte, ite_true, ite_false, Nat.sub_zero, Nat.zero_le, true_and, and_true, and_self, true_or, or_true, if_true, if_false, true_implies, implies_true, not_true_eq_false, not_false_eq_true, false_implies, forall_const, ne_eq, or_self, and_false, false_and, Lt, Le, Eq', Cp, In, nI_add, nI_mul, nI_sub, nI_sub1, Neg0, bI_eq0, bI_eq1, bI_01, bft, up2_eq, up2_no, Bool.true_eq_false, Bool.false_eq_true, eq_self, m1_ne, m1_ne2, m1_lt, m1_le, lt_m1, m1_le2, bI_t, bI_f, LK_st, FGu hG, FY84u hY84, hr40, e3, his, r1, r2, r3, gg, huj, hw, hd0])
              exact ih2 _ _ _
            · have hf : v = false := by
                rw [← hv, show 13 = (j + 1) + m by omega]
                refine seH_f ?_ m
                rw [hse, show s = (i + 1) + l by omega]
                refine seR_f ?_ l
                rw [hsb, hbe, huj, decide_eq_false hw]
                simp
              rw [hf] at hQ1
              (apply WP_runI (lv := lvK) (F := LK) LK_ok 10 40; simp (disch := first | decide | omega) only [t20_0, t20_1, lift_c, o_inl, o_istore, s1_0, s1_s, o_iload2, o_icgt, o_iload3, o_aload1, o_getfield, o_icge, o_getref, o_iaload, o_icne, o_goto, o_iload4, o_ifeq, o_aload0, o_aaload, o_iceq, o_ireturn, o_iinc3, o_virt1, rpush_n, rpush_s, o_iinc2, z0, z1, z2, z12, z20, z31, runI_0, runI_c, runI_n, liftI_n, liftI_y, run_0, run_c, run_n, fxn, fxi, fxr, fxl, fxl0, ↓swi_n, ↓swi_c, nck0, nck1, nck2, nck3, List.length_cons, List.length_nil, Nat.reduceAdd, Nat.reduceSub, Nat.reduceLeDiff, Nat.reduceEqDiff, Nat.reduceLT, reduceIte, ite_true, ite_false, Nat.sub_zero, Nat.zero_le, true_and, and_true, and_self, true_or, or_true, if_true, if_false, true_implies, implies_true, not_true_eq_false, not_false_eq_true, false_implies, forall_const, ne_eq, or_self, and_false, false_and, Lt, Le, Eq', Cp, In, nI_add, nI_mul, nI_sub, nI_sub1, Neg0, bI_eq0, bI_eq1, bI_01, bft, up2_eq, up2_no, Bool.true_eq_false, Bool.false_eq_true, eq_self, m1_ne, m1_ne2, m1_lt, m1_le, lt_m1, m1_le2, bI_t, bI_f, LK_st, FGu hG, FY84u hY84, hr40, e3, his, r1, r2, r3, gg, huj, hw, hd0])
              exact hQ1
          · have ih2 := fun o4 cc ss => ih2 o4 cc ss (by rw [decide_eq_false (by rw [nI_eq (by omega) (by omega)]; exact huj)]; rfl)
            (apply WP_runI (lv := lvK) (F := LK) LK_ok 10 40; simp (disch := first | decide | omega) only [t20_0, t20_1, lift_c, o_inl, o_istore, s1_0, s1_s, o_iload2, o_icgt, o_iload3, o_aload1, o_getfield, o_icge, o_getref, o_iaload, o_icne, o_goto, o_iload4, o_ifeq, o_aload0, o_aaload, o_iceq, o_ireturn, o_iinc3, o_virt1, rpush_n, rpush_s, o_iinc2, z0, z1, z2, z12, z20, z31, runI_0, runI_c, runI_n, liftI_n, liftI_y, run_0, run_c, run_n, fxn, fxi, fxr, fxl, fxl0, ↓swi_n, ↓swi_c, nck0, nck1, nck2, nck3, List.length_cons, List.length_nil, Nat.reduceAdd, Nat.reduceSub, Nat.reduceLeDiff, Nat.reduceEqDiff, Nat.reduceLT, reduceIte, ite_true, ite_false, Nat.sub_zero, Nat.zero_le, true_and, and_true, and_self, true_or, or_true, if_true, if_false, true_implies, implies_true, not_true_eq_false, not_false_eq_true, false_implies, forall_const, ne_eq, or_self, and_false, false_and, Lt, Le, Eq', Cp, In, nI_add, nI_mul, nI_sub, nI_sub1, Neg0, bI_eq0, bI_eq1, bI_01, bft, up2_eq, up2_no, Bool.true_eq_false, Bool.false_eq_true, eq_self, m1_ne, m1_ne2, m1_lt, m1_le, lt_m1, m1_le2, bI_t, bI_f, LK_st, FGu hG, FY84u hY84, hr40, e3, his, r1, r2, r3, gg, huj, hd0])
            exact ih2 _ _ _
      have inner := fun cc ss => inner s 0 o4 cc ss (by omega) rfl
      (apply WP_runI (lv := lvK) (F := LK) LK_ok 10 20; simp (disch := first | decide | omega) only [t20_0, t20_1, lift_c, o_inl, o_istore, s1_0, s1_s, o_iload2, o_icgt, o_iload3, o_aload1, o_getfield, o_icge, o_getref, o_iaload, o_icne, o_goto, o_iload4, o_ifeq, o_aload0, o_aaload, o_iceq, o_ireturn, o_iinc3, o_virt1, rpush_n, rpush_s, o_iinc2, z0, z1, z2, z12, z20, z31, runI_0, runI_c, runI_n, liftI_n, liftI_y, run_0, run_c, run_n, fxn, fxi, fxr, fxl, fxl0, ↓swi_n, ↓swi_c, nck0, nck1, nck2, nck3, List.length_cons, List.length_nil, Nat.reduceAdd, Nat.reduceSub, Nat.reduceLeDiff, Nat.reduceEqDiff, Nat.reduceLT, reduceIte, ite_true, ite_false, Nat.sub_zero, Nat.zero_le, true_and, and_true, and_self, true_or, or_true, if_true, if_false, true_implies, implies_true, not_true_eq_false, not_false_eq_true, false_implies, forall_const, ne_eq, or_self, and_false, false_and, Lt, Le, Eq', Cp, In, nI_add, nI_mul, nI_sub, nI_sub1, Neg0, bI_eq0, bI_eq1, bI_01, bft, up2_eq, up2_no, Bool.true_eq_false, Bool.false_eq_true, eq_self, m1_ne, m1_ne2, m1_lt, m1_le, lt_m1, m1_le2, bI_t, bI_f, LK_st, FGu hG, hj])
      exact inner _ _
  have outer := fun cc ss => outer 13 0 I none none cc ss (by omega) hT hR rfl
  (apply WP_runI (lv := lvK) (F := LK) LK_ok 2 20; simp (disch := first | decide | omega) only [t20_0, t20_1, lift_c, o_inl, o_istore, s1_0, s1_s, o_iload2, o_icgt, o_iload3, o_aload1, o_getfield, o_icge, o_getref, o_iaload, o_icne, o_goto, o_iload4, o_ifeq, o_aload0, o_aaload, o_iceq, o_ireturn, o_iinc3, o_virt1, rpush_n, rpush_s, o_iinc2, z0, z1, z2, z12, z20, z31, runI_0, runI_c, runI_n, liftI_n, liftI_y, run_0, run_c, run_n, fxn, fxi, fxr, fxl, fxl0, ↓swi_n, ↓swi_c, nck0, nck1, nck2, nck3, List.length_cons, List.length_nil, Nat.reduceAdd, Nat.reduceSub, Nat.reduceLeDiff, Nat.reduceEqDiff, Nat.reduceLT, reduceIte, ite_true, ite_false, Nat.sub_zero, Nat.zero_le, true_and, and_true, and_self, true_or, or_true, if_true, if_false, true_implies, implies_true, not_true_eq_false, not_false_eq_true, false_implies, forall_const, ne_eq, or_self, and_false, false_and, Lt, Le, Eq', Cp, In, nI_add, nI_mul, nI_sub, nI_sub1, Neg0, bI_eq0, bI_eq1, bI_01, bft, up2_eq, up2_no, Bool.true_eq_false, Bool.false_eq_true, eq_self, m1_ne, m1_ne2, m1_lt, m1_le, lt_m1, m1_le2, bI_t, bI_f, LK_st, FGu hG])
  exact outer _ _
end
