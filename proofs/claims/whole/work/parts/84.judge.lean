/-! ### pairs: judge -/
theorem nL_add (a b : Nat) : nL a + nL b = nL (a + b) := (Int64.ofNat_add a b).symm
theorem nL_lt (a b : Nat) (ha : a < 2 ^ 63) (hb : b < 2 ^ 63) : (nL a < nL b) = (a < b) := propext (by rw [Int64.lt_iff_toInt_lt, nL_toInt ha, nL_toInt hb]; omega)
theorem nL_32 (a : Nat) : (nL a).toInt32 = nI a := Int64.toInt32_ofNat'
def juL (f : Nat → Bool) (z i : Nat) : Nat → Nat → Int32
  | 0, _ => -nI 5
  | m + 1, c => if i + c < z then (if f c = true then juL f z i m (c + 1) else nI c) else nI (100 + c)
section
variable {G : GE} {d : Nat}
theorem judge_C {n : Nat} {sh : TS} {I : TI} {L : TL} {P : TP} {Q : TQ} (hG : FG sh P) (hY22 : FY sh P 22) (hd : 1 ≤ d) {t z i : Nat} (ht : t < 6) (hz : z ≤ 60) (h31 : i < 2 ^ 31) {x : Int32} (s0 : I (111 + 2 * t) 0 = nI 0) (s1 : I (111 + 2 * t) 1 = nI z) :
    ∀ m c cc ss, c + m = 8 → Q (some (.int (juL (fun c => decide (L (112 + 2 * t) (i + c) = (I 23 c).toInt64)) z i m c))) n sh I L P → WP G 91 d Q 36 [some (.ref 20), some (.int x), some (.int (nI i)), some (.ref (111 + 2 * t)), some (.int (nI c))] [] cc ss n sh I L P := by
  have hd0 : 0 < d := by omega
  have nn : (!decide (nI 0 = -nI 1)) = true := by decide
  have hq : sh (111 + 2 * t) = (6, 3) := by
    obtain ⟨-, q2, -⟩ := (FGu hG).2.2.2.2.2.2.2.2.2.2.2.2.2.2.2.2.2.2.2.2.2.2.2.2.2.2
    exact q2 t ht
  intro m
  induction m with
  | zero =>
    intro c cc ss h hq2
    have hc : 8 ≤ c := by omega
    rw [juL] at hq2
    (apply WP_runI (lv := lvK) (F := LK) LK_ok 36 20; simp (disch := first | decide | omega) only [t91_0, t91_1, lift_c, o_iload1, o_stat1, rpush_n, rpush_s, o_ifne, o_inl, o_ireturn, o_aload0, o_getref, o_aaload, o_astore, s1_0, s1_s, o_aload3, o_virt1, o_ifeq, o_getfield, o_istore, o_iload4, o_icge, o_iload2, o_iflt, o_isub, o_iclt, o_iadd, o_laload, o_iaload, o_i2l, o_lcmp, o_iinc4, o_goto, z0, z1, z2, z5, z8, z12, z20, z31, z100, runI_0, runI_c, runI_n, liftI_n, liftI_y, run_0, run_c, run_n, fxn, fxi, fxr, fxl, fxl0, ↓swi_n, ↓swi_c, nck0, nck1, nck2, nck3, List.length_cons, List.length_nil, Nat.reduceAdd, Nat.reduceSub, Nat.reduceLeDiff, Nat.reduceEqDiff, Nat.reduceLT, reduceIte, ite_true, ite_false, Nat.sub_zero, Nat.zero_le, true_and, and_true, and_self, true_or, or_true, if_true, if_false, true_implies, implies_true, not_true_eq_false, not_false_eq_true, false_implies, forall_const, ne_eq, or_self, and_false, false_and, Lt, Le, Eq', Cp, In, nI_add, nI_mul, nI_sub, nI_sub1, Neg0, bI_eq0, bI_eq1, bI_01, bft, up2_eq, up2_no, Bool.true_eq_false, Bool.false_eq_true, eq_self, m1_ne, m1_ne2, m1_lt, m1_le, lt_m1, m1_le2, bI_t, bI_f, LK_st, hc, z5])
    exact hq2
  | succ m ih =>
    intro c cc ss h hq2
    have hc : ¬ 8 ≤ c := by omega
    have ih := fun cc ss => ih (c + 1) cc ss (by omega)
    rw [juL] at hq2
    generalize hf : (fun c => decide (L (112 + 2 * t) (i + c) = (I 23 c).toInt64)) = f at hq2 ih
    clear hf
    by_cases h1 : i + c < z
    · rw [if_pos h1] at hq2
      have h2 : c < z - i := by omega
      by_cases h3 : L (112 + 2 * t) (i + c) = (I 23 c).toInt64
      · rw [if_pos (decide_eq_true h3)] at hq2
        have ih := fun cc ss => ih cc ss hq2
        (apply WP_runI (lv := lvK) (F := LK) LK_ok 36 60; simp (disch := first | decide | omega) only [t91_0, t91_1, lift_c, o_iload1, o_stat1, rpush_n, rpush_s, o_ifne, o_inl, o_ireturn, o_aload0, o_getref, o_aaload, o_astore, s1_0, s1_s, o_aload3, o_virt1, o_ifeq, o_getfield, o_istore, o_iload4, o_icge, o_iload2, o_iflt, o_isub, o_iclt, o_iadd, o_laload, o_iaload, o_i2l, o_lcmp, o_iinc4, o_goto, z0, z1, z2, z5, z8, z12, z20, z31, z100, runI_0, runI_c, runI_n, liftI_n, liftI_y, run_0, run_c, run_n, fxn, fxi, fxr, fxl, fxl0, ↓swi_n, ↓swi_c, nck0, nck1, nck2, nck3, List.length_cons, List.length_nil, Nat.reduceAdd, Nat.reduceSub, Nat.reduceLeDiff, Nat.reduceEqDiff, Nat.reduceLT, reduceIte, ite_true, ite_false, Nat.sub_zero, Nat.zero_le, true_and, and_true, and_self, true_or, or_true, if_true, if_false, true_implies, implies_true, not_true_eq_false, not_false_eq_true, false_implies, forall_const, ne_eq, or_self, and_false, false_and, Lt, Le, Eq', Cp, In, nI_add, nI_mul, nI_sub, nI_sub1, Neg0, bI_eq0, bI_eq1, bI_01, bft, up2_eq, up2_no, Bool.true_eq_false, Bool.false_eq_true, eq_self, m1_ne, m1_ne2, m1_lt, m1_le, lt_m1, m1_le2, bI_t, bI_f, LK_st, FGu hG, FY22u hY22, hq, s0, s1, nn, hc, h2, lg00, h3, hd0, m1_ne, decide_false, Bool.not_false, Nat.not_lt_zero])
        exact ih _ _
      · rw [if_neg (by simpa using h3)] at hq2
        (apply WP_runI (lv := lvK) (F := LK) LK_ok 36 60; simp (disch := first | decide | omega) only [t91_0, t91_1, lift_c, o_iload1, o_stat1, rpush_n, rpush_s, o_ifne, o_inl, o_ireturn, o_aload0, o_getref, o_aaload, o_astore, s1_0, s1_s, o_aload3, o_virt1, o_ifeq, o_getfield, o_istore, o_iload4, o_icge, o_iload2, o_iflt, o_isub, o_iclt, o_iadd, o_laload, o_iaload, o_i2l, o_lcmp, o_iinc4, o_goto, z0, z1, z2, z5, z8, z12, z20, z31, z100, runI_0, runI_c, runI_n, liftI_n, liftI_y, run_0, run_c, run_n, fxn, fxi, fxr, fxl, fxl0, ↓swi_n, ↓swi_c, nck0, nck1, nck2, nck3, List.length_cons, List.length_nil, Nat.reduceAdd, Nat.reduceSub, Nat.reduceLeDiff, Nat.reduceEqDiff, Nat.reduceLT, reduceIte, ite_true, ite_false, Nat.sub_zero, Nat.zero_le, true_and, and_true, and_self, true_or, or_true, if_true, if_false, true_implies, implies_true, not_true_eq_false, not_false_eq_true, false_implies, forall_const, ne_eq, or_self, and_false, false_and, Lt, Le, Eq', Cp, In, nI_add, nI_mul, nI_sub, nI_sub1, Neg0, bI_eq0, bI_eq1, bI_01, bft, up2_eq, up2_no, Bool.true_eq_false, Bool.false_eq_true, eq_self, m1_ne, m1_ne2, m1_lt, m1_le, lt_m1, m1_le2, bI_t, bI_f, LK_st, FGu hG, FY22u hY22, hq, s0, s1, nn, hc, h2, lg00, h3, hd0, m1_ne, decide_false, Bool.not_false, Nat.not_lt_zero])
        exact hq2
    · rw [if_neg h1] at hq2
      by_cases h4 : i ≤ z
      · have h2 : ¬ c < z - i := by omega
        (apply WP_runI (lv := lvK) (F := LK) LK_ok 36 60; simp (disch := first | decide | omega) only [t91_0, t91_1, lift_c, o_iload1, o_stat1, rpush_n, rpush_s, o_ifne, o_inl, o_ireturn, o_aload0, o_getref, o_aaload, o_astore, s1_0, s1_s, o_aload3, o_virt1, o_ifeq, o_getfield, o_istore, o_iload4, o_icge, o_iload2, o_iflt, o_isub, o_iclt, o_iadd, o_laload, o_iaload, o_i2l, o_lcmp, o_iinc4, o_goto, z0, z1, z2, z5, z8, z12, z20, z31, z100, runI_0, runI_c, runI_n, liftI_n, liftI_y, run_0, run_c, run_n, fxn, fxi, fxr, fxl, fxl0, ↓swi_n, ↓swi_c, nck0, nck1, nck2, nck3, List.length_cons, List.length_nil, Nat.reduceAdd, Nat.reduceSub, Nat.reduceLeDiff, Nat.reduceEqDiff, Nat.reduceLT, reduceIte, ite_true, ite_false, Nat.sub_zero, Nat.zero_le, true_and, and_true, and_self, true_or, or_true, if_true, if_false, true_implies, implies_true, not_true_eq_false, not_false_eq_true, false_implies, forall_const, ne_eq, or_self, and_false, false_and, Lt, Le, Eq', Cp, In, nI_add, nI_mul, nI_sub, nI_sub1, Neg0, bI_eq0, bI_eq1, bI_01, bft, up2_eq, up2_no, Bool.true_eq_false, Bool.false_eq_true, eq_self, m1_ne, m1_ne2, m1_lt, m1_le, lt_m1, m1_le2, bI_t, bI_f, LK_st, FGu hG, FY22u hY22, hq, s0, s1, nn, hc, h2, hd0, m1_ne, decide_false, Bool.not_false, Nat.not_lt_zero])
        exact hq2
      · have h2 : ¬ nI c < nI z - nI i := by
          rw [show nI z - nI i = -nI (i - z) by rw [← nI_sub i z (by omega), Int32.neg_sub], i_lt, Int32.toInt_neg, nIi _ (by omega), nIi _ (by omega)]
          have : Int.bmod (-((i - z : Nat) : Int)) (2 ^ 32) = -((i - z : Nat) : Int) := by
            apply Int.bmod_eq_of_le <;> omega
          omega
        (apply WP_runI (lv := lvK) (F := LK) LK_ok 36 60; simp (disch := first | decide | omega) only [t91_0, t91_1, lift_c, o_iload1, o_stat1, rpush_n, rpush_s, o_ifne, o_inl, o_ireturn, o_aload0, o_getref, o_aaload, o_astore, s1_0, s1_s, o_aload3, o_virt1, o_ifeq, o_getfield, o_istore, o_iload4, o_icge, o_iload2, o_iflt, o_isub, o_iclt, o_iadd, o_laload, o_iaload, o_i2l, o_lcmp, o_iinc4, o_goto, z0, z1, z2, z5, z8, z12, z20, z31, z100, runI_0, runI_c, runI_n, liftI_n, liftI_y, run_0, run_c, run_n, fxn, fxi, fxr, fxl, fxl0, ↓swi_n, ↓swi_c, nck0, nck1, nck2, nck3, List.length_cons, List.length_nil, Nat.reduceAdd, Nat.reduceSub, Nat.reduceLeDiff, Nat.reduceEqDiff, Nat.reduceLT, reduceIte, ite_true, ite_false, Nat.sub_zero, Nat.zero_le, true_and, and_true, and_self, true_or, or_true, if_true, if_false, true_implies, implies_true, not_true_eq_false, not_false_eq_true, false_implies, forall_const, ne_eq, or_self, and_false, false_and, Lt, Le, Eq', Cp, In, nI_add, nI_mul, nI_sub, nI_sub1, Neg0, bI_eq0, bI_eq1, bI_01, bft, up2_eq, up2_no, Bool.true_eq_false, Bool.false_eq_true, eq_self, m1_ne, m1_ne2, m1_lt, m1_le, lt_m1, m1_le2, bI_t, bI_f, LK_st, FGu hG, FY22u hY22, hq, s0, s1, nn, hc, h2, hd0, m1_ne, decide_false, Bool.not_false, Nat.not_lt_zero])
        exact hq2
theorem judge_R {n : Nat} {sh : TS} {I : TI} {L : TL} {P : TP} {Q : TQ} (hF : FM sh P) (hd : 1 ≤ d) {t z i : Nat} (ht : t < 6) (hz : z ≤ 60) (h31 : i < 2 ^ 31) (s1 : I 140 t = nI z) {f : Nat → Bool} (hf : ∀ c, c < 8 → i + c < z → f c = decide (L 141 (60 * t + (i + c)) = (I 124 c).toInt64)) :
    ∀ m c o4 o5 cc ss, c + m = 8 → Q (some (.int (juL f z i m c))) n sh I L P → WP G 199 d Q 23 [some (.ref 123), some (.int (nI t)), some (.int (nI i)), some (.int (nI c)), o4, o5] [] cc ss n sh I L P := by
  have hd0 : 0 < d := by omega
  intro m
  induction m with
  | zero =>
    intro c o4 o5 cc ss h hq2
    have hc : 8 ≤ c := by omega
    rw [juL] at hq2
    (apply WP_runI (lv := lvM) LM_ok 23 20; simp (disch := first | decide | omega) only [t199_0, t199_1, lift_c, o_iload1, o_stat1, rpush_n, rpush_s, o_ifne, o_inl, o_ireturn, o_aload0, o_getref, o_iaload, o_ifle, o_istore, s1_0, s1_s, o_iload3, o_icge, o_iload2, o_i2l, o_ladd, o_lstore, s2_0, s2_s, o_iflt, o_lload4, o_lcmp, o_iadd, o_imul, o_l2i, o_laload, o_ifeq, o_iinc3, o_goto, z0, z1, z2, z5, z8, z12, z20, z31, z60, z100, runI_0, runI_c, runI_n, liftI_n, liftI_y, run_0, run_c, run_n, fxn, fxi, fxr, fxl, fxl0, ↓swi_n, ↓swi_c, nck0, nck1, nck2, nck3, List.length_cons, List.length_nil, Nat.reduceAdd, Nat.reduceSub, Nat.reduceLeDiff, Nat.reduceEqDiff, Nat.reduceLT, reduceIte, ite_true, ite_false, Nat.sub_zero, Nat.zero_le, true_and, and_true, and_self, true_or, or_true, if_true, if_false, true_implies, implies_true, not_true_eq_false, not_false_eq_true, false_implies, forall_const, ne_eq, or_self, and_false, false_and, Lt, Le, Eq', Cp, In, nI_add, nI_mul, nI_sub, nI_sub1, Neg0, bI_eq0, bI_eq1, bI_01, bft, up2_eq, up2_no, Bool.true_eq_false, Bool.false_eq_true, eq_self, m1_ne, m1_ne2, m1_lt, m1_le, lt_m1, m1_le2, bI_t, bI_f, LM_all hF, FMu hF, hc, z5])
    exact hq2
  | succ m ih =>
    intro c o4 o5 cc ss h hq2
    have hc : ¬ 8 ≤ c := by omega
    have ih := fun o4 o5 cc ss => ih (c + 1) o4 o5 cc ss (by omega)
    rw [juL] at hq2
    by_cases h1 : i + c < z
    · rw [if_pos h1] at hq2
      have hfc := hf c (by omega) h1
      by_cases h3 : L 141 (60 * t + (i + c)) = (I 124 c).toInt64
      · rw [if_pos (by rw [hfc, h3]; exact decide_eq_true rfl)] at hq2
        have ih := fun o4 o5 cc ss => ih o4 o5 cc ss hq2
        (apply WP_runI (lv := lvM) LM_ok 23 60; simp (disch := first | decide | omega) only [t199_0, t199_1, lift_c, o_iload1, o_stat1, rpush_n, rpush_s, o_ifne, o_inl, o_ireturn, o_aload0, o_getref, o_iaload, o_ifle, o_istore, s1_0, s1_s, o_iload3, o_icge, o_iload2, o_i2l, o_ladd, o_lstore, s2_0, s2_s, o_iflt, o_lload4, o_lcmp, o_iadd, o_imul, o_l2i, o_laload, o_ifeq, o_iinc3, o_goto, z0, z1, z2, z5, z8, z12, z20, z31, z60, z100, runI_0, runI_c, runI_n, liftI_n, liftI_y, run_0, run_c, run_n, fxn, fxi, fxr, fxl, fxl0, ↓swi_n, ↓swi_c, nck0, nck1, nck2, nck3, List.length_cons, List.length_nil, Nat.reduceAdd, Nat.reduceSub, Nat.reduceLeDiff, Nat.reduceEqDiff, Nat.reduceLT, reduceIte, ite_true, ite_false, Nat.sub_zero, Nat.zero_le, true_and, and_true, and_self, true_or, or_true, if_true, if_false, true_implies, implies_true, not_true_eq_false, not_false_eq_true, false_implies, forall_const, ne_eq, or_self, and_false, false_and, Lt, Le, Eq', Cp, In, nI_add, nI_mul, nI_sub, nI_sub1, Neg0, bI_eq0, bI_eq1, bI_01, bft, up2_eq, up2_no, Bool.true_eq_false, Bool.false_eq_true, eq_self, m1_ne, m1_ne2, m1_lt, m1_le, lt_m1, m1_le2, bI_t, bI_f, LM_all hF, FMu hF, s1, hc, h1, nL_of, nL_add, nL_lt, nL_32, lgL, lg00, h3, hd0, Nat.not_lt_zero])
        exact ih _ _ _ _
      · rw [if_neg (by rw [hfc]; simpa using h3)] at hq2
        (apply WP_runI (lv := lvM) LM_ok 23 60; simp (disch := first | decide | omega) only [t199_0, t199_1, lift_c, o_iload1, o_stat1, rpush_n, rpush_s, o_ifne, o_inl, o_ireturn, o_aload0, o_getref, o_iaload, o_ifle, o_istore, s1_0, s1_s, o_iload3, o_icge, o_iload2, o_i2l, o_ladd, o_lstore, s2_0, s2_s, o_iflt, o_lload4, o_lcmp, o_iadd, o_imul, o_l2i, o_laload, o_ifeq, o_iinc3, o_goto, z0, z1, z2, z5, z8, z12, z20, z31, z60, z100, runI_0, runI_c, runI_n, liftI_n, liftI_y, run_0, run_c, run_n, fxn, fxi, fxr, fxl, fxl0, ↓swi_n, ↓swi_c, nck0, nck1, nck2, nck3, List.length_cons, List.length_nil, Nat.reduceAdd, Nat.reduceSub, Nat.reduceLeDiff, Nat.reduceEqDiff, Nat.reduceLT, reduceIte, ite_true, ite_false, Nat.sub_zero, Nat.zero_le, true_and, and_true, and_self, true_or, or_true, if_true, if_false, true_implies, implies_true, not_true_eq_false, not_false_eq_true, false_implies, forall_const, ne_eq, or_self, and_false, false_and, Lt, Le, Eq', Cp, In, nI_add, nI_mul, nI_sub, nI_sub1, Neg0, bI_eq0, bI_eq1, bI_01, bft, up2_eq, up2_no, Bool.true_eq_false, Bool.false_eq_true, eq_self, m1_ne, m1_ne2, m1_lt, m1_le, lt_m1, m1_le2, bI_t, bI_f, LM_all hF, FMu hF, s1, hc, h1, nL_of, nL_add, nL_lt, nL_32, lgL, lg00, h3, hd0, Nat.not_lt_zero])
        exact hq2
    · rw [if_neg h1] at hq2
      (apply WP_runI (lv := lvM) LM_ok 23 60; simp (disch := first | decide | omega) only [t199_0, t199_1, lift_c, o_iload1, o_stat1, rpush_n, rpush_s, o_ifne, o_inl, o_ireturn, o_aload0, o_getref, o_iaload, o_ifle, o_istore, s1_0, s1_s, o_iload3, o_icge, o_iload2, o_i2l, o_ladd, o_lstore, s2_0, s2_s, o_iflt, o_lload4, o_lcmp, o_iadd, o_imul, o_l2i, o_laload, o_ifeq, o_iinc3, o_goto, z0, z1, z2, z5, z8, z12, z20, z31, z60, z100, runI_0, runI_c, runI_n, liftI_n, liftI_y, run_0, run_c, run_n, fxn, fxi, fxr, fxl, fxl0, ↓swi_n, ↓swi_c, nck0, nck1, nck2, nck3, List.length_cons, List.length_nil, Nat.reduceAdd, Nat.reduceSub, Nat.reduceLeDiff, Nat.reduceEqDiff, Nat.reduceLT, reduceIte, ite_true, ite_false, Nat.sub_zero, Nat.zero_le, true_and, and_true, and_self, true_or, or_true, if_true, if_false, true_implies, implies_true, not_true_eq_false, not_false_eq_true, false_implies, forall_const, ne_eq, or_self, and_false, false_and, Lt, Le, Eq', Cp, In, nI_add, nI_mul, nI_sub, nI_sub1, Neg0, bI_eq0, bI_eq1, bI_01, bft, up2_eq, up2_no, Bool.true_eq_false, Bool.false_eq_true, eq_self, m1_ne, m1_ne2, m1_lt, m1_le, lt_m1, m1_le2, bI_t, bI_f, LM_all hF, FMu hF, s1, hc, h1, nL_of, nL_add, nL_lt, nL_32, lgL, lg00, hd0, Nat.not_lt_zero])
      exact hq2
theorem judge_P (hd : 50 ≤ d) (x y : Int32) : PAIR G d 91 199 [.ref 20, .int x, .int y] [.ref 123, .int x, .int y] := by
  intro n sh I L P Q hI hQ
  obtain ⟨F, E, k, g, r, hI⟩ := hI
  apply e91
  apply WP_SF
  intro hSF
  have hs2 := hSF.2.2.1
  have hB := hI.cb
  have hG := hB.fg
  have hY22 := hB.y22
  have hY84 := hB.y84
  have h22 : sh 22 = (8, 9) := (FY22u hY22).1
  have hd0 : 0 < d := by omega
  have hk := hI.2.2.1.1.k6
  have hg9 := hI.2.2.1.1.g9
  have hWe := hI.2.2.1.we
  have hF := hI.1
  have h5 := hB.count
  have nn0 : (!decide (-nI 1 = -nI 1)) = false := by decide
  have nn1 : ∀ s, s < 5 → (!decide (nI s = -nI 1)) = true := fun s hs => by rw [decide_eq_false (by rw [m1_ne _ (by omega)]; exact id)]; rfl
  cases hx : isT x with
  | false =>
    have bad := hQ (-nI 1) n sh I L P fun Q2 h2 => by
      refine ⟨(FMu hI.1).1, ?_⟩
      have h2 := h2 _ _ _ _ _ ⟨F, E, k, g, r, hI⟩
      apply e199
      (apply WP_runI (lv := lvM) LM_ok 999 60; simp (disch := first | decide | omega) only [t199_0, t199_1, lift_c, o_iload1, o_stat1, rpush_n, rpush_s, o_ifne, o_inl, o_ireturn, o_aload0, o_getref, o_iaload, o_ifle, o_istore, s1_0, s1_s, o_iload3, o_icge, o_iload2, o_i2l, o_ladd, o_lstore, s2_0, s2_s, o_iflt, o_lload4, o_lcmp, o_iadd, o_imul, o_l2i, o_laload, o_ifeq, o_iinc3, o_goto, z0, z1, z2, z5, z8, z12, z20, z31, z60, z100, runI_0, runI_c, runI_n, liftI_n, liftI_y, run_0, run_c, run_n, fxn, fxi, fxr, fxl, fxl0, ↓swi_n, ↓swi_c, nck0, nck1, nck2, nck3, List.length_cons, List.length_nil, Nat.reduceAdd, Nat.reduceSub, Nat.reduceLeDiff, Nat.reduceEqDiff, Nat.reduceLT, reduceIte, ite_true, ite_false, Nat.sub_zero, Nat.zero_le, true_and, and_true, and_self, true_or, or_true, if_true, if_false, true_implies, implies_true, not_true_eq_false, not_false_eq_true, false_implies, forall_const, ne_eq, or_self, and_false, false_and, Lt, Le, Eq', Cp, In, nI_add, nI_mul, nI_sub, nI_sub1, Neg0, bI_eq0, bI_eq1, bI_01, bft, up2_eq, up2_no, Bool.true_eq_false, Bool.false_eq_true, eq_self, m1_ne, m1_ne2, m1_lt, m1_le, lt_m1, m1_le2, bI_t, bI_f, LM_all hF, FMu hF, hWe, hx, hd0, Nat.not_lt_zero])
      exact h2
    (apply WP_runI (lv := lvK) (F := LK) LK_ok 999 60; simp (disch := first | decide | omega) only [t91_0, t91_1, lift_c, o_iload1, o_stat1, rpush_n, rpush_s, o_ifne, o_inl, o_ireturn, o_aload0, o_getref, o_aaload, o_astore, s1_0, s1_s, o_aload3, o_virt1, o_ifeq, o_getfield, o_istore, o_iload4, o_icge, o_iload2, o_iflt, o_isub, o_iclt, o_iadd, o_laload, o_iaload, o_i2l, o_lcmp, o_iinc4, o_goto, z0, z1, z2, z5, z8, z12, z20, z31, z100, runI_0, runI_c, runI_n, liftI_n, liftI_y, run_0, run_c, run_n, fxn, fxi, fxr, fxl, fxl0, ↓swi_n, ↓swi_c, nck0, nck1, nck2, nck3, List.length_cons, List.length_nil, Nat.reduceAdd, Nat.reduceSub, Nat.reduceLeDiff, Nat.reduceEqDiff, Nat.reduceLT, reduceIte, ite_true, ite_false, Nat.sub_zero, Nat.zero_le, true_and, and_true, and_self, true_or, or_true, if_true, if_false, true_implies, implies_true, not_true_eq_false, not_false_eq_true, false_implies, forall_const, ne_eq, or_self, and_false, false_and, Lt, Le, Eq', Cp, In, nI_add, nI_mul, nI_sub, nI_sub1, Neg0, bI_eq0, bI_eq1, bI_01, bft, up2_eq, up2_no, Bool.true_eq_false, Bool.false_eq_true, eq_self, m1_ne, m1_ne2, m1_lt, m1_le, lt_m1, m1_le2, bI_t, bI_f, LK_st, FGu hG, LK_g hG h22 hs2, FY22u hY22, hx, hd0, Nat.not_lt_zero])
    exact bad
  | true =>
    obtain ⟨t, ht, ex⟩ := isT_of hx
    subst ex
    obtain ⟨p1, p2, ⟨z, hz, p3, p4⟩, p5⟩ := hI.2.2.2.2.2.2.2.2.2.2.1 t ht
    rcases p2 with ⟨p2, p2z⟩ | ⟨s, hs5, p2⟩
    · rw [p2] at p1
      have p1 := p1.symm
      have hz0 : z = 0 := by
        rw [p2z, nI_eq (by omega) (by omega)] at p3
        exact p3.symm
      subst hz0
      by_cases hy : y < nI 0
      · skip
        have bad := hQ (nI 100) n sh I L P fun Q2 h2 => by
          refine ⟨(FMu hI.1).1, ?_⟩
          have h2 := h2 _ _ _ _ _ ⟨F, E, k, g, r, hI⟩
          apply e199
          (apply WP_runI (lv := lvM) LM_ok 999 60; simp (disch := first | decide | omega) only [t199_0, t199_1, lift_c, o_iload1, o_stat1, rpush_n, rpush_s, o_ifne, o_inl, o_ireturn, o_aload0, o_getref, o_iaload, o_ifle, o_istore, s1_0, s1_s, o_iload3, o_icge, o_iload2, o_i2l, o_ladd, o_lstore, s2_0, s2_s, o_iflt, o_lload4, o_lcmp, o_iadd, o_imul, o_l2i, o_laload, o_ifeq, o_iinc3, o_goto, z0, z1, z2, z5, z8, z12, z20, z31, z60, z100, runI_0, runI_c, runI_n, liftI_n, liftI_y, run_0, run_c, run_n, fxn, fxi, fxr, fxl, fxl0, ↓swi_n, ↓swi_c, nck0, nck1, nck2, nck3, List.length_cons, List.length_nil, Nat.reduceAdd, Nat.reduceSub, Nat.reduceLeDiff, Nat.reduceEqDiff, Nat.reduceLT, reduceIte, ite_true, ite_false, Nat.sub_zero, Nat.zero_le, true_and, and_true, and_self, true_or, or_true, if_true, if_false, true_implies, implies_true, not_true_eq_false, not_false_eq_true, false_implies, forall_const, ne_eq, or_self, and_false, false_and, Lt, Le, Eq', Cp, In, nI_add, nI_mul, nI_sub, nI_sub1, Neg0, bI_eq0, bI_eq1, bI_01, bft, up2_eq, up2_no, Bool.true_eq_false, Bool.false_eq_true, eq_self, m1_ne, m1_ne2, m1_lt, m1_le, lt_m1, m1_le2, bI_t, bI_f, LM_all hF, FMu hF, hWe, hx, p1, hy, hd0, Nat.not_lt_zero])
          exact h2
        (apply WP_runI (lv := lvK) (F := LK) LK_ok 999 60; simp (disch := first | decide | omega) only [t91_0, t91_1, lift_c, o_iload1, o_stat1, rpush_n, rpush_s, o_ifne, o_inl, o_ireturn, o_aload0, o_getref, o_aaload, o_astore, s1_0, s1_s, o_aload3, o_virt1, o_ifeq, o_getfield, o_istore, o_iload4, o_icge, o_iload2, o_iflt, o_isub, o_iclt, o_iadd, o_laload, o_iaload, o_i2l, o_lcmp, o_iinc4, o_goto, z0, z1, z2, z5, z8, z12, z20, z31, z100, runI_0, runI_c, runI_n, liftI_n, liftI_y, run_0, run_c, run_n, fxn, fxi, fxr, fxl, fxl0, ↓swi_n, ↓swi_c, nck0, nck1, nck2, nck3, List.length_cons, List.length_nil, Nat.reduceAdd, Nat.reduceSub, Nat.reduceLeDiff, Nat.reduceEqDiff, Nat.reduceLT, reduceIte, ite_true, ite_false, Nat.sub_zero, Nat.zero_le, true_and, and_true, and_self, true_or, or_true, if_true, if_false, true_implies, implies_true, not_true_eq_false, not_false_eq_true, false_implies, forall_const, ne_eq, or_self, and_false, false_and, Lt, Le, Eq', Cp, In, nI_add, nI_mul, nI_sub, nI_sub1, Neg0, bI_eq0, bI_eq1, bI_01, bft, up2_eq, up2_no, Bool.true_eq_false, Bool.false_eq_true, eq_self, m1_ne, m1_ne2, m1_lt, m1_le, lt_m1, m1_le2, bI_t, bI_f, LK_st, FGu hG, LK_g hG h22 hs2, FY22u hY22, hx, p2, nn0, hy, decide_true, Bool.not_true, hd0, Nat.not_lt_zero])
        exact bad
      · obtain ⟨i, hi, ey⟩ := nI_of hy
        subst ey
        have bad := hQ (nI 100) n sh I L P fun Q2 h2 => by
          refine ⟨(FMu hI.1).1, ?_⟩
          have h2 := h2 _ _ _ _ _ ⟨F, E, k, g, r, hI⟩
          apply e199
          (apply WP_runI (lv := lvM) LM_ok 999 60; simp (disch := first | decide | omega) only [t199_0, t199_1, lift_c, o_iload1, o_stat1, rpush_n, rpush_s, o_ifne, o_inl, o_ireturn, o_aload0, o_getref, o_iaload, o_ifle, o_istore, s1_0, s1_s, o_iload3, o_icge, o_iload2, o_i2l, o_ladd, o_lstore, s2_0, s2_s, o_iflt, o_lload4, o_lcmp, o_iadd, o_imul, o_l2i, o_laload, o_ifeq, o_iinc3, o_goto, z0, z1, z2, z5, z8, z12, z20, z31, z60, z100, runI_0, runI_c, runI_n, liftI_n, liftI_y, run_0, run_c, run_n, fxn, fxi, fxr, fxl, fxl0, ↓swi_n, ↓swi_c, nck0, nck1, nck2, nck3, List.length_cons, List.length_nil, Nat.reduceAdd, Nat.reduceSub, Nat.reduceLeDiff, Nat.reduceEqDiff, Nat.reduceLT, reduceIte, ite_true, ite_false, Nat.sub_zero, Nat.zero_le, true_and, and_true, and_self, true_or, or_true, if_true, if_false, true_implies, implies_true, not_true_eq_false, not_false_eq_true, false_implies, forall_const, ne_eq, or_self, and_false, false_and, Lt, Le, Eq', Cp, In, nI_add, nI_mul, nI_sub, nI_sub1, Neg0, bI_eq0, bI_eq1, bI_01, bft, up2_eq, up2_no, Bool.true_eq_false, Bool.false_eq_true, eq_self, m1_ne, m1_ne2, m1_lt, m1_le, lt_m1, m1_le2, bI_t, bI_f, LM_all hF, FMu hF, hWe, hx, p1, p4, nL_of, nL_add, nL_lt, lgL, hd0, Nat.not_lt_zero])
          exact h2
        (apply WP_runI (lv := lvK) (F := LK) LK_ok 999 60; simp (disch := first | decide | omega) only [t91_0, t91_1, lift_c, o_iload1, o_stat1, rpush_n, rpush_s, o_ifne, o_inl, o_ireturn, o_aload0, o_getref, o_aaload, o_astore, s1_0, s1_s, o_aload3, o_virt1, o_ifeq, o_getfield, o_istore, o_iload4, o_icge, o_iload2, o_iflt, o_isub, o_iclt, o_iadd, o_laload, o_iaload, o_i2l, o_lcmp, o_iinc4, o_goto, z0, z1, z2, z5, z8, z12, z20, z31, z100, runI_0, runI_c, runI_n, liftI_n, liftI_y, run_0, run_c, run_n, fxn, fxi, fxr, fxl, fxl0, ↓swi_n, ↓swi_c, nck0, nck1, nck2, nck3, List.length_cons, List.length_nil, Nat.reduceAdd, Nat.reduceSub, Nat.reduceLeDiff, Nat.reduceEqDiff, Nat.reduceLT, reduceIte, ite_true, ite_false, Nat.sub_zero, Nat.zero_le, true_and, and_true, and_self, true_or, or_true, if_true, if_false, true_implies, implies_true, not_true_eq_false, not_false_eq_true, false_implies, forall_const, ne_eq, or_self, and_false, false_and, Lt, Le, Eq', Cp, In, nI_add, nI_mul, nI_sub, nI_sub1, Neg0, bI_eq0, bI_eq1, bI_01, bft, up2_eq, up2_no, Bool.true_eq_false, Bool.false_eq_true, eq_self, m1_ne, m1_ne2, m1_lt, m1_le, lt_m1, m1_le2, bI_t, bI_f, LK_st, FGu hG, LK_g hG h22 hs2, FY22u hY22, hx, p2, nn0, decide_true, Bool.not_true, hd0, Nat.not_lt_zero])
        exact bad
    · rw [p2] at p1
      have p1 := p1.symm
      have nns := nn1 s hs5
      by_cases hs0 : s = 0
      · subst hs0
        by_cases hy : y < nI 0
        · skip
          have bad := hQ (nI 100) n sh I L P fun Q2 h2 => by
            refine ⟨(FMu hI.1).1, ?_⟩
            have h2 := h2 _ _ _ _ _ ⟨F, E, k, g, r, hI⟩
            apply e199
            (apply WP_runI (lv := lvM) LM_ok 999 60; simp (disch := first | decide | omega) only [t199_0, t199_1, lift_c, o_iload1, o_stat1, rpush_n, rpush_s, o_ifne, o_inl, o_ireturn, o_aload0, o_getref, o_iaload, o_ifle, o_istore, s1_0, s1_s, o_iload3, o_icge, o_iload2, o_i2l, o_ladd, o_lstore, s2_0, s2_s, o_iflt, o_lload4, o_lcmp, o_iadd, o_imul, o_l2i, o_laload, o_ifeq, o_iinc3, o_goto, z0, z1, z2, z5, z8, z12, z20, z31, z60, z100, runI_0, runI_c, runI_n, liftI_n, liftI_y, run_0, run_c, run_n, fxn, fxi, fxr, fxl, fxl0, ↓swi_n, ↓swi_c, nck0, nck1, nck2, nck3, List.length_cons, List.length_nil, Nat.reduceAdd, Nat.reduceSub, Nat.reduceLeDiff, Nat.reduceEqDiff, Nat.reduceLT, reduceIte, ite_true, ite_false, Nat.sub_zero, Nat.zero_le, true_and, and_true, and_self, true_or, or_true, if_true, if_false, true_implies, implies_true, not_true_eq_false, not_false_eq_true, false_implies, forall_const, ne_eq, or_self, and_false, false_and, Lt, Le, Eq', Cp, In, nI_add, nI_mul, nI_sub, nI_sub1, Neg0, bI_eq0, bI_eq1, bI_01, bft, up2_eq, up2_no, Bool.true_eq_false, Bool.false_eq_true, eq_self, m1_ne, m1_ne2, m1_lt, m1_le, lt_m1, m1_le2, bI_t, bI_f, LM_all hF, FMu hF, hWe, hx, p1, hy, hd0, Nat.not_lt_zero])
            exact h2
          (apply WP_runI (lv := lvK) (F := LK) LK_ok 999 60; simp (disch := first | decide | omega) only [t91_0, t91_1, lift_c, o_iload1, o_stat1, rpush_n, rpush_s, o_ifne, o_inl, o_ireturn, o_aload0, o_getref, o_aaload, o_astore, s1_0, s1_s, o_aload3, o_virt1, o_ifeq, o_getfield, o_istore, o_iload4, o_icge, o_iload2, o_iflt, o_isub, o_iclt, o_iadd, o_laload, o_iaload, o_i2l, o_lcmp, o_iinc4, o_goto, z0, z1, z2, z5, z8, z12, z20, z31, z100, runI_0, runI_c, runI_n, liftI_n, liftI_y, run_0, run_c, run_n, fxn, fxi, fxr, fxl, fxl0, ↓swi_n, ↓swi_c, nck0, nck1, nck2, nck3, List.length_cons, List.length_nil, Nat.reduceAdd, Nat.reduceSub, Nat.reduceLeDiff, Nat.reduceEqDiff, Nat.reduceLT, reduceIte, ite_true, ite_false, Nat.sub_zero, Nat.zero_le, true_and, and_true, and_self, true_or, or_true, if_true, if_false, true_implies, implies_true, not_true_eq_false, not_false_eq_true, false_implies, forall_const, ne_eq, or_self, and_false, false_and, Lt, Le, Eq', Cp, In, nI_add, nI_mul, nI_sub, nI_sub1, Neg0, bI_eq0, bI_eq1, bI_01, bft, up2_eq, up2_no, Bool.true_eq_false, Bool.false_eq_true, eq_self, m1_ne, m1_ne2, m1_lt, m1_le, lt_m1, m1_le2, bI_t, bI_f, LK_st, FGu hG, LK_g hG h22 hs2, FY22u hY22, hx, p2, nns, hy, m1_ne, decide_false, Bool.not_false, hd0, Nat.not_lt_zero])
          exact bad
        · obtain ⟨i, hi, ey⟩ := nI_of hy
          subst ey
          have hgr := hB.2.1.grain
          have good := hQ (juL (fun c => decide (L (112 + 2 * t) (i + c) = (I 23 c).toInt64)) z i 8 0) n sh I L P fun Q2 h2 => by
            refine ⟨(FMu hI.1).1, ?_⟩
            have h2 := h2 _ _ _ _ _ ⟨F, E, k, g, r, hI⟩
            apply e199
            have hL := fun o4 o5 cc ss => judge_R (G := G) (d := d) (n := n) (sh := sh) (I := I) (L := L) (P := P) (Q := Q2) hF (by omega) ht hz hi p4 (f := fun c => decide (L (112 + 2 * t) (i + c) = (I 23 c).toInt64)) (fun c hc hcz => by
              show decide (L (112 + 2 * t) (i + c) = (I 23 c).toInt64) = _
              rw [p5 (i + c) (by omega), show I 23 c = I 124 c from hgr c hc]) 8 0 o4 o5 cc ss (by omega) h2
            (apply WP_runI (lv := lvM) LM_ok 23 60; simp (disch := first | decide | omega) only [t199_0, t199_1, lift_c, o_iload1, o_stat1, rpush_n, rpush_s, o_ifne, o_inl, o_ireturn, o_aload0, o_getref, o_iaload, o_ifle, o_istore, s1_0, s1_s, o_iload3, o_icge, o_iload2, o_i2l, o_ladd, o_lstore, s2_0, s2_s, o_iflt, o_lload4, o_lcmp, o_iadd, o_imul, o_l2i, o_laload, o_ifeq, o_iinc3, o_goto, z0, z1, z2, z5, z8, z12, z20, z31, z60, z100, runI_0, runI_c, runI_n, liftI_n, liftI_y, run_0, run_c, run_n, fxn, fxi, fxr, fxl, fxl0, ↓swi_n, ↓swi_c, nck0, nck1, nck2, nck3, List.length_cons, List.length_nil, Nat.reduceAdd, Nat.reduceSub, Nat.reduceLeDiff, Nat.reduceEqDiff, Nat.reduceLT, reduceIte, ite_true, ite_false, Nat.sub_zero, Nat.zero_le, true_and, and_true, and_self, true_or, or_true, if_true, if_false, true_implies, implies_true, not_true_eq_false, not_false_eq_true, false_implies, forall_const, ne_eq, or_self, and_false, false_and, Lt, Le, Eq', Cp, In, nI_add, nI_mul, nI_sub, nI_sub1, Neg0, bI_eq0, bI_eq1, bI_01, bft, up2_eq, up2_no, Bool.true_eq_false, Bool.false_eq_true, eq_self, m1_ne, m1_ne2, m1_lt, m1_le, lt_m1, m1_le2, bI_t, bI_f, LM_all hF, FMu hF, hx, p1, hd0, Nat.not_lt_zero, Nat.le_refl])
            exact hL _ _ _ _
          have hL := fun cc ss => judge_C (G := G) (d := d) (n := n) (sh := sh) (I := I) (L := L) (P := P) (Q := Q) (x := nI t) hG hY22 (by omega) ht hz hi p2 p3 8 0 cc ss (by omega) good
          (apply WP_runI (lv := lvK) (F := LK) LK_ok 36 60; simp (disch := first | decide | omega) only [t91_0, t91_1, lift_c, o_iload1, o_stat1, rpush_n, rpush_s, o_ifne, o_inl, o_ireturn, o_aload0, o_getref, o_aaload, o_astore, s1_0, s1_s, o_aload3, o_virt1, o_ifeq, o_getfield, o_istore, o_iload4, o_icge, o_iload2, o_iflt, o_isub, o_iclt, o_iadd, o_laload, o_iaload, o_i2l, o_lcmp, o_iinc4, o_goto, z0, z1, z2, z5, z8, z12, z20, z31, z100, runI_0, runI_c, runI_n, liftI_n, liftI_y, run_0, run_c, run_n, fxn, fxi, fxr, fxl, fxl0, ↓swi_n, ↓swi_c, nck0, nck1, nck2, nck3, List.length_cons, List.length_nil, Nat.reduceAdd, Nat.reduceSub, Nat.reduceLeDiff, Nat.reduceEqDiff, Nat.reduceLT, reduceIte, ite_true, ite_false, Nat.sub_zero, Nat.zero_le, true_and, and_true, and_self, true_or, or_true, if_true, if_false, true_implies, implies_true, not_true_eq_false, not_false_eq_true, false_implies, forall_const, ne_eq, or_self, and_false, false_and, Lt, Le, Eq', Cp, In, nI_add, nI_mul, nI_sub, nI_sub1, Neg0, bI_eq0, bI_eq1, bI_01, bft, up2_eq, up2_no, Bool.true_eq_false, Bool.false_eq_true, eq_self, m1_ne, m1_ne2, m1_lt, m1_le, lt_m1, m1_le2, bI_t, bI_f, LK_st, FGu hG, LK_g hG h22 hs2, FY22u hY22, hx, p2, nns, m1_ne, decide_false, Bool.not_false, hd0])
          exact hL _ _
      · have hs1 : ¬ s ≤ 0 := by omega
        have bad := hQ (-nI 12) n sh I L P fun Q2 h2 => by
          refine ⟨(FMu hI.1).1, ?_⟩
          have h2 := h2 _ _ _ _ _ ⟨F, E, k, g, r, hI⟩
          apply e199
          (apply WP_runI (lv := lvM) LM_ok 999 60; simp (disch := first | decide | omega) only [t199_0, t199_1, lift_c, o_iload1, o_stat1, rpush_n, rpush_s, o_ifne, o_inl, o_ireturn, o_aload0, o_getref, o_iaload, o_ifle, o_istore, s1_0, s1_s, o_iload3, o_icge, o_iload2, o_i2l, o_ladd, o_lstore, s2_0, s2_s, o_iflt, o_lload4, o_lcmp, o_iadd, o_imul, o_l2i, o_laload, o_ifeq, o_iinc3, o_goto, z0, z1, z2, z5, z8, z12, z20, z31, z60, z100, runI_0, runI_c, runI_n, liftI_n, liftI_y, run_0, run_c, run_n, fxn, fxi, fxr, fxl, fxl0, ↓swi_n, ↓swi_c, nck0, nck1, nck2, nck3, List.length_cons, List.length_nil, Nat.reduceAdd, Nat.reduceSub, Nat.reduceLeDiff, Nat.reduceEqDiff, Nat.reduceLT, reduceIte, ite_true, ite_false, Nat.sub_zero, Nat.zero_le, true_and, and_true, and_self, true_or, or_true, if_true, if_false, true_implies, implies_true, not_true_eq_false, not_false_eq_true, false_implies, forall_const, ne_eq, or_self, and_false, false_and, Lt, Le, Eq', Cp, In, nI_add, nI_mul, nI_sub, nI_sub1, Neg0, bI_eq0, bI_eq1, bI_01, bft, up2_eq, up2_no, Bool.true_eq_false, Bool.false_eq_true, eq_self, m1_ne, m1_ne2, m1_lt, m1_le, lt_m1, m1_le2, bI_t, bI_f, LM_all hF, FMu hF, hWe, hx, p1, hs1, hd0, Nat.not_lt_zero])
          exact h2
        (apply WP_runI (lv := lvK) (F := LK) LK_ok 999 60; simp (disch := first | decide | omega) only [t91_0, t91_1, lift_c, o_iload1, o_stat1, rpush_n, rpush_s, o_ifne, o_inl, o_ireturn, o_aload0, o_getref, o_aaload, o_astore, s1_0, s1_s, o_aload3, o_virt1, o_ifeq, o_getfield, o_istore, o_iload4, o_icge, o_iload2, o_iflt, o_isub, o_iclt, o_iadd, o_laload, o_iaload, o_i2l, o_lcmp, o_iinc4, o_goto, z0, z1, z2, z5, z8, z12, z20, z31, z100, runI_0, runI_c, runI_n, liftI_n, liftI_y, run_0, run_c, run_n, fxn, fxi, fxr, fxl, fxl0, ↓swi_n, ↓swi_c, nck0, nck1, nck2, nck3, List.length_cons, List.length_nil, Nat.reduceAdd, Nat.reduceSub, Nat.reduceLeDiff, Nat.reduceEqDiff, Nat.reduceLT, reduceIte, ite_true, ite_false, Nat.sub_zero, Nat.zero_le, true_and, and_true, and_self, true_or, or_true, if_true, if_false, true_implies, implies_true, not_true_eq_false, not_false_eq_true, false_implies, forall_const, ne_eq, or_self, and_false, false_and, Lt, Le, Eq', Cp, In, nI_add, nI_mul, nI_sub, nI_sub1, Neg0, bI_eq0, bI_eq1, bI_01, bft, up2_eq, up2_no, Bool.true_eq_false, Bool.false_eq_true, eq_self, m1_ne, m1_ne2, m1_lt, m1_le, lt_m1, m1_le2, bI_t, bI_f, LK_st, FGu hG, LK_g hG h22 hs2, FY22u hY22, hx, p2, nns, hs0, m1_ne, decide_false, Bool.not_false, hd0, Nat.not_lt_zero])
        exact bad

end
