/-! ### the law -/
section
variable {G : GE} {d : Nat} {Q : TQ}
/-- one turn of the law's loop, from the switch on -/
theorem switch_L {n i c s : Nat} {sh : TS} {I : TI} {L : TL} {P : TP} {x : Int32} (hd : 51 ≤ d) (hL : GL G ≤ 3072) (hi : i + 6 ≤ GL G) (hc : 4 ≤ c) (hs : 305 ≤ s) (hI : IV n sh I L P) (hC : ∀ c' s' n' sh' I' L' P', c - 4 ≤ c' → s - 305 ≤ s' → IV n' sh' I' L' P' → WP G 213 d Q 1389 [some (.ref 3), some (.ref 20), some (.ref 123), some (.int (nI i))] [] c' s' n' sh' I' L' P') : WP G 213 d Q 33 [some (.ref 3), some (.ref 20), some (.ref 123), some (.int (nI i))] [.int x] c s n sh I L P := by
  have hZ := hC c s n sh I L P (Nat.sub_le _ _) (Nat.sub_le _ _) hI
  have k0 := case_0 hd hL hi hc hs hI hC
  have k1 := case_1 hd hL hi hc hs hI hC
  have k2 := case_2 hd hL hi hc hs hI hC
  have k3 := case_3 hd hL hi hc hs hI hC
  have k4 := case_4 hd hL hi hc hs hI hC
  have k5 := case_5 hd hL hi hc hs hI hC
  have k6 := case_6 hd hL hi hc hs hI hC
  have k7 := case_7 hd hL hi hc hs hI hC
  have k8 := case_8 hd hL hi hc hs hI hC
  have k9 := case_9 hd hL hi hc hs hI hC
  have k10 := case_10 hd hL hi hc hs hI hC
  have k11 := case_11 hd hL hi hc hs hI hC
  have k12 := case_12 hd hL hi hc hs hI hC
  have k13 := case_13 hd hL hi hc hs hI hC
  have k14 := case_14 hd hL hi hc hs hI hC
  have k15 := case_15 hd hL hi hc hs hI hC
  have k16 := case_16 hd hL hi hc hs hI hC
  have k17 := case_17 hd hL hi hc hs hI hC
  have k18 := case_18 hd hL hi hc hs hI hC
  have k19 := case_19 hd hL hi hc hs hI hC
  have k20 := case_20 hd hL hi hc hs hI hC
  have k21 := case_21 hd hL hi hc hs hI hC
  have k22 := case_22 hd hL hi hc hs hI hC
  have k23 := case_23 hd hL hi hc hs hI hC
  have k24 := case_24 hd hL hi hc hs hI hC
  have k25 := case_25 hd hL hi hc hs hI hC
  have k26 := case_26 hd hL hi hc hs hI hC
  have k27 := case_27 hd hL hi hc hs hI hC
  have k28 := case_28 hd hL hi hc hs hI hC
  have k29 := case_29 hd hL hi hc hs hI hC
  have k30 := case_30 hd hL hi hc hs hI hC
  have k31 := case_31 hd hL hi hc hs hI hC
  have k32 := case_32 hd hL hi hc hs hI hC
  have k33 := case_33 hd hL hi hc hs hI hC
  have k34 := case_34 hd hL hi hc hs hI hC
  have k35 := case_35 hd hL hi hc hs hI hC
  clear hC hI
  (apply WP_runI (lv := lvK) (F := LK) LK_ok 9999 0; simp (disch := first | decide | omega) only [t213_0, lift_c, o_new, o_dupi, o_dupr, o_spec1, rpush_n, rpush_s, o_astore, s1_0, s1_s, o_inl, o_istore, o_iload3, o_aload0, o_arraylength, o_isub, o_icgt, o_iaload, o_iand, o_lookup, o_aload1, o_iadd, o_virt3, o_aload2, o_iceq, o_ireturn, o_virt5, o_ifeq, o_goto, o_virt4, o_virt2, o_virt1, o_lcmp, o_i2l, o_lshl, o_land, o_lor, o_virt6, o_iinc3, z0, z1, z2, z3, z4, z5, z6, z7, z8, z9, z10, z11, z12, z13, z14, z15, z16, z17, z18, z19, z20, z21, z22, z23, z24, z25, z26, z27, z28, z29, z30, z31, z32, z33, z34, z35, z63, runI_0, runI_c, runI_n, liftI_n, liftI_y, run_0, run_c, run_n, fxn, fxi, fxr, fxl, fxl0, ↓swi_n, ↓swi_c, nck0, nck1, nck2, nck3, List.length_cons, List.length_nil, Nat.reduceAdd, Nat.reduceSub, Nat.reduceLeDiff, Nat.reduceEqDiff, Nat.reduceLT, reduceIte, ite_true, ite_false, Nat.sub_zero, Nat.zero_le, true_and, and_true, and_self, true_or, or_true, if_true, if_false, true_implies, implies_true, not_true_eq_false, not_false_eq_true, false_implies, forall_const, ne_eq, or_self, and_false, false_and, Lt, Le, Eq', Cp, In, nI_add, nI_mul, nI_sub, nI_sub1, Neg0, bI_eq0, bI_eq1, bI_01, bft, up2_eq, up2_no, Bool.true_eq_false, Bool.false_eq_true, eq_self, m1_ne, m1_ne2, m1_lt, m1_le, lt_m1, m1_le2, bI_t, bI_f, LK_st])
  exact ⟨fun _ => k0, fun _ => ⟨fun _ => k1, fun _ => ⟨fun _ => k2, fun _ => ⟨fun _ => k3, fun _ => ⟨fun _ => k4, fun _ => ⟨fun _ => k5, fun _ => ⟨fun _ => k6, fun _ => ⟨fun _ => k7, fun _ => ⟨fun _ => k8, fun _ => ⟨fun _ => k9, fun _ => ⟨fun _ => k10, fun _ => ⟨fun _ => k11, fun _ => ⟨fun _ => k12, fun _ => ⟨fun _ => k13, fun _ => ⟨fun _ => k14, fun _ => ⟨fun _ => k15, fun _ => ⟨fun _ => k16, fun _ => ⟨fun _ => k17, fun _ => ⟨fun _ => k18, fun _ => ⟨fun _ => k19, fun _ => ⟨fun _ => k20, fun _ => ⟨fun _ => k21, fun _ => ⟨fun _ => k22, fun _ => ⟨fun _ => k23, fun _ => ⟨fun _ => k24, fun _ => ⟨fun _ => k25, fun _ => ⟨fun _ => k26, fun _ => ⟨fun _ => k27, fun _ => ⟨fun _ => k28, fun _ => ⟨fun _ => k29, fun _ => ⟨fun _ => k30, fun _ => ⟨fun _ => k31, fun _ => ⟨fun _ => k32, fun _ => ⟨fun _ => k33, fun _ => ⟨fun _ => k34, fun _ => ⟨fun _ => k35, fun _ => hZ⟩⟩⟩⟩⟩⟩⟩⟩⟩⟩⟩⟩⟩⟩⟩⟩⟩⟩⟩⟩⟩⟩⟩⟩⟩⟩⟩⟩⟩⟩⟩⟩⟩⟩⟩⟩
theorem law_L (hd : 51 ≤ d) (hL : GL G ≤ 3072) (hQ : ∀ n sh I L P, Q (some (.int (nI 1))) n sh I L P) : ∀ m i c s n sh I L P, GL G < i + 6 * m + 6 → i ≤ 3078 → 4 * m ≤ c → 305 * m ≤ s → IV n sh I L P → WP G 213 d Q 18 [some (.ref 3), some (.ref 20), some (.ref 123), some (.int (nI i))] [] c s n sh I L P := by
  have stop : ∀ i c s n sh I L P, i ≤ 3078 → GL G < i + 6 → WP G 213 d Q 18 [some (.ref 3), some (.ref 20), some (.ref 123), some (.int (nI i))] [] c s n sh I L P := by
    intro i c s n sh I L P hi hg
    apply WP_SF
    intro hSF
    have xs := (SF.scr hSF).1
    have hQ := hQ n sh I L P
    by_cases h6 : GL G < 6
    · have hn : nI (GL G) - nI 6 < nI i := by
        rw [show nI (GL G) - nI 6 = -nI (6 - GL G) by rw [← nI_sub 6 (GL G) (by omega), Int32.neg_sub], i_lt, Int32.toInt_neg, nIi _ (by omega), nIi _ (by omega)]
        have : Int.bmod (-((6 - GL G : Nat) : Int)) (2 ^ 32) = -((6 - GL G : Nat) : Int) := by
          apply Int.bmod_eq_of_le <;> omega
        omega
      (apply WP_runI (lv := lvK) (F := LK) LK_ok 9999 12; simp (disch := first | decide | omega) only [t213_0, t213_24, lift_c, o_new, o_dupi, o_dupr, o_spec1, rpush_n, rpush_s, o_astore, s1_0, s1_s, o_inl, o_istore, o_iload3, o_aload0, o_arraylength, o_isub, o_icgt, o_iaload, o_iand, o_lookup, o_aload1, o_iadd, o_virt3, o_aload2, o_iceq, o_ireturn, o_virt5, o_ifeq, o_goto, o_virt4, o_virt2, o_virt1, o_lcmp, o_i2l, o_lshl, o_land, o_lor, o_virt6, o_iinc3, z0, z1, z2, z3, z4, z5, z6, z7, z8, z9, z10, z11, z12, z13, z14, z15, z16, z17, z18, z19, z20, z21, z22, z23, z24, z25, z26, z27, z28, z29, z30, z31, z32, z33, z34, z35, z63, runI_0, runI_c, runI_n, liftI_n, liftI_y, run_0, run_c, run_n, fxn, fxi, fxr, fxl, fxl0, ↓swi_n, ↓swi_c, nck0, nck1, nck2, nck3, List.length_cons, List.length_nil, Nat.reduceAdd, Nat.reduceSub, Nat.reduceLeDiff, Nat.reduceEqDiff, Nat.reduceLT, reduceIte, ite_true, ite_false, Nat.sub_zero, Nat.zero_le, true_and, and_true, and_self, true_or, or_true, if_true, if_false, true_implies, implies_true, not_true_eq_false, not_false_eq_true, false_implies, forall_const, ne_eq, or_self, and_false, false_and, Lt, Le, Eq', Cp, In, nI_add, nI_mul, nI_sub, nI_sub1, Neg0, bI_eq0, bI_eq1, bI_01, bft, up2_eq, up2_no, Bool.true_eq_false, Bool.false_eq_true, eq_self, m1_ne, m1_ne2, m1_lt, m1_le, lt_m1, m1_le2, bI_t, bI_f, LK_st, xs, hn])
      exact hQ
    · have hn : GL G - 6 < i := by omega
      (apply WP_runI (lv := lvK) (F := LK) LK_ok 9999 12; simp (disch := first | decide | omega) only [t213_0, t213_24, lift_c, o_new, o_dupi, o_dupr, o_spec1, rpush_n, rpush_s, o_astore, s1_0, s1_s, o_inl, o_istore, o_iload3, o_aload0, o_arraylength, o_isub, o_icgt, o_iaload, o_iand, o_lookup, o_aload1, o_iadd, o_virt3, o_aload2, o_iceq, o_ireturn, o_virt5, o_ifeq, o_goto, o_virt4, o_virt2, o_virt1, o_lcmp, o_i2l, o_lshl, o_land, o_lor, o_virt6, o_iinc3, z0, z1, z2, z3, z4, z5, z6, z7, z8, z9, z10, z11, z12, z13, z14, z15, z16, z17, z18, z19, z20, z21, z22, z23, z24, z25, z26, z27, z28, z29, z30, z31, z32, z33, z34, z35, z63, runI_0, runI_c, runI_n, liftI_n, liftI_y, run_0, run_c, run_n, fxn, fxi, fxr, fxl, fxl0, ↓swi_n, ↓swi_c, nck0, nck1, nck2, nck3, List.length_cons, List.length_nil, Nat.reduceAdd, Nat.reduceSub, Nat.reduceLeDiff, Nat.reduceEqDiff, Nat.reduceLT, reduceIte, ite_true, ite_false, Nat.sub_zero, Nat.zero_le, true_and, and_true, and_self, true_or, or_true, if_true, if_false, true_implies, implies_true, not_true_eq_false, not_false_eq_true, false_implies, forall_const, ne_eq, or_self, and_false, false_and, Lt, Le, Eq', Cp, In, nI_add, nI_mul, nI_sub, nI_sub1, Neg0, bI_eq0, bI_eq1, bI_01, bft, up2_eq, up2_no, Bool.true_eq_false, Bool.false_eq_true, eq_self, m1_ne, m1_ne2, m1_lt, m1_le, lt_m1, m1_le2, bI_t, bI_f, LK_st, xs, hn])
      exact hQ
  intro m
  induction m with
  | zero => exact fun i c s n sh I L P hg hi hc hs hI => stop i c s n sh I L P hi (by omega)
  | succ m ih =>
    intro i c s n sh I L P hg hi hc hs hI
    by_cases hj : GL G < i + 6
    · exact stop i c s n sh I L P hi hj
    · apply WP_SF
      intro hSF
      have xs := (SF.scr hSF).1
      have x0 := (SF.scr hSF).2 i (by omega)
      have hn : ¬ GL G - 6 < i := by omega
      have next : ∀ c' s' n' sh' I' L' P', c - 4 ≤ c' → s - 305 ≤ s' → IV n' sh' I' L' P' → WP G 213 d Q 1389 [some (.ref 3), some (.ref 20), some (.ref 123), some (.int (nI i))] [] c' s' n' sh' I' L' P' := by
        intro c' s' n' sh' I' L' P' h1 h2 h3
        have ih := ih (i + 6) c' s' n' sh' I' L' P' (by omega) (by omega) (by omega) (by omega) h3
        (apply WP_runI (lv := lvK) (F := LK) LK_ok 18 4; simp (disch := first | decide | omega) only [t213_24, lift_c, o_new, o_dupi, o_dupr, o_spec1, rpush_n, rpush_s, o_astore, s1_0, s1_s, o_inl, o_istore, o_iload3, o_aload0, o_arraylength, o_isub, o_icgt, o_iaload, o_iand, o_lookup, o_aload1, o_iadd, o_virt3, o_aload2, o_iceq, o_ireturn, o_virt5, o_ifeq, o_goto, o_virt4, o_virt2, o_virt1, o_lcmp, o_i2l, o_lshl, o_land, o_lor, o_virt6, o_iinc3, z0, z1, z2, z3, z4, z5, z6, z7, z8, z9, z10, z11, z12, z13, z14, z15, z16, z17, z18, z19, z20, z21, z22, z23, z24, z25, z26, z27, z28, z29, z30, z31, z32, z33, z34, z35, z63, runI_0, runI_c, runI_n, liftI_n, liftI_y, run_0, run_c, run_n, fxn, fxi, fxr, fxl, fxl0, ↓swi_n, ↓swi_c, nck0, nck1, nck2, nck3, List.length_cons, List.length_nil, Nat.reduceAdd, Nat.reduceSub, Nat.reduceLeDiff, Nat.reduceEqDiff, Nat.reduceLT, reduceIte, ite_true, ite_false, Nat.sub_zero, Nat.zero_le, true_and, and_true, and_self, true_or, or_true, if_true, if_false, true_implies, implies_true, not_true_eq_false, not_false_eq_true, false_implies, forall_const, ne_eq, or_self, and_false, false_and, Lt, Le, Eq', Cp, In, nI_add, nI_mul, nI_sub, nI_sub1, Neg0, bI_eq0, bI_eq1, bI_01, bft, up2_eq, up2_no, Bool.true_eq_false, Bool.false_eq_true, eq_self, m1_ne, m1_ne2, m1_lt, m1_le, lt_m1, m1_le2, bI_t, bI_f, LK_st, Nat.reduceMul])
        exact ih
      have hS := fun x => switch_L (Q := Q) (x := x) hd hL (show i + 6 ≤ GL G by omega) (show 4 ≤ c by omega) (show 305 ≤ s by omega) hI next
      clear next ih stop hQ
      (apply WP_runI (lv := lvK) (F := LK) LK_ok 33 14; simp (disch := first | decide | omega) only [t213_0, lift_c, o_new, o_dupi, o_dupr, o_spec1, rpush_n, rpush_s, o_astore, s1_0, s1_s, o_inl, o_istore, o_iload3, o_aload0, o_arraylength, o_isub, o_icgt, o_iaload, o_iand, o_lookup, o_aload1, o_iadd, o_virt3, o_aload2, o_iceq, o_ireturn, o_virt5, o_ifeq, o_goto, o_virt4, o_virt2, o_virt1, o_lcmp, o_i2l, o_lshl, o_land, o_lor, o_virt6, o_iinc3, z0, z1, z2, z3, z4, z5, z6, z7, z8, z9, z10, z11, z12, z13, z14, z15, z16, z17, z18, z19, z20, z21, z22, z23, z24, z25, z26, z27, z28, z29, z30, z31, z32, z33, z34, z35, z63, runI_0, runI_c, runI_n, liftI_n, liftI_y, run_0, run_c, run_n, fxn, fxi, fxr, fxl, fxl0, ↓swi_n, ↓swi_c, nck0, nck1, nck2, nck3, List.length_cons, List.length_nil, Nat.reduceAdd, Nat.reduceSub, Nat.reduceLeDiff, Nat.reduceEqDiff, Nat.reduceLT, reduceIte, ite_true, ite_false, Nat.sub_zero, Nat.zero_le, true_and, and_true, and_self, true_or, or_true, if_true, if_false, true_implies, implies_true, not_true_eq_false, not_false_eq_true, false_implies, forall_const, ne_eq, or_self, and_false, false_and, Lt, Le, Eq', Cp, In, nI_add, nI_mul, nI_sub, nI_sub1, Neg0, bI_eq0, bI_eq1, bI_01, bft, up2_eq, up2_no, Bool.true_eq_false, Bool.false_eq_true, eq_self, m1_ne, m1_ne2, m1_lt, m1_le, lt_m1, m1_le2, bI_t, bI_f, LK_st, xs, x0, hn])
      exact hS _
theorem law_W {sh : TS} {I : TI} {L : TL} {P : TP} (hd : 60 ≤ d) (hL : GL G ≤ 3072) (hQ : ∀ n sh I L P, Q (some (.int (nI 1))) n sh I L P) : WP G 213 d Q 0 [some (.ref 3), none, none, none] [] 600000 7302250 20 sh I L P := by
  have hd0 : 0 < d := by omega
  have n20 : nle 2 20 := by show 2 ≤ 20; decide
  have n123 : nle 2 123 := by show 2 ≤ 123; decide
  (apply WP_runI (lv := lvK) (F := LK) LK_ok 9999 5; simp (disch := first | decide | omega) only [t213_0, lift_c, o_new, o_dupi, o_dupr, o_spec1, rpush_n, rpush_s, o_astore, s1_0, s1_s, o_inl, o_istore, o_iload3, o_aload0, o_arraylength, o_isub, o_icgt, o_iaload, o_iand, o_lookup, o_aload1, o_iadd, o_virt3, o_aload2, o_iceq, o_ireturn, o_virt5, o_ifeq, o_goto, o_virt4, o_virt2, o_virt1, o_lcmp, o_i2l, o_lshl, o_land, o_lor, o_virt6, o_iinc3, z0, z1, z2, z3, z4, z5, z6, z7, z8, z9, z10, z11, z12, z13, z14, z15, z16, z17, z18, z19, z20, z21, z22, z23, z24, z25, z26, z27, z28, z29, z30, z31, z32, z33, z34, z35, z63, runI_0, runI_c, runI_n, liftI_n, liftI_y, run_0, run_c, run_n, fxn, fxi, fxr, fxl, fxl0, ↓swi_n, ↓swi_c, nck0, nck1, nck2, nck3, List.length_cons, List.length_nil, Nat.reduceAdd, Nat.reduceSub, Nat.reduceLeDiff, Nat.reduceEqDiff, Nat.reduceLT, reduceIte, ite_true, ite_false, Nat.sub_zero, Nat.zero_le, true_and, and_true, and_self, true_or, or_true, if_true, if_false, true_implies, implies_true, not_true_eq_false, not_false_eq_true, false_implies, forall_const, ne_eq, or_self, and_false, false_and, Lt, Le, Eq', Cp, In, nI_add, nI_mul, nI_sub, nI_sub1, Neg0, bI_eq0, bI_eq1, bI_01, bft, up2_eq, up2_no, Bool.true_eq_false, Bool.false_eq_true, eq_self, m1_ne, m1_ne2, m1_lt, m1_le, lt_m1, m1_le2, bI_t, bI_f, LK_st, n20, hd0])
  refine gkI_K (upS_eq _ _ _) (by omega) fun sh1 I1 L1 P1 N1 h1 => ?_
  (apply WP_runI (lv := lvK) (F := LK) LK_ok 9999 6; simp (disch := first | decide | omega) only [t213_0, lift_c, o_new, o_dupi, o_dupr, o_spec1, rpush_n, rpush_s, o_astore, s1_0, s1_s, o_inl, o_istore, o_iload3, o_aload0, o_arraylength, o_isub, o_icgt, o_iaload, o_iand, o_lookup, o_aload1, o_iadd, o_virt3, o_aload2, o_iceq, o_ireturn, o_virt5, o_ifeq, o_goto, o_virt4, o_virt2, o_virt1, o_lcmp, o_i2l, o_lshl, o_land, o_lor, o_virt6, o_iinc3, z0, z1, z2, z3, z4, z5, z6, z7, z8, z9, z10, z11, z12, z13, z14, z15, z16, z17, z18, z19, z20, z21, z22, z23, z24, z25, z26, z27, z28, z29, z30, z31, z32, z33, z34, z35, z63, runI_0, runI_c, runI_n, liftI_n, liftI_y, run_0, run_c, run_n, fxn, fxi, fxr, fxl, fxl0, ↓swi_n, ↓swi_c, nck0, nck1, nck2, nck3, List.length_cons, List.length_nil, Nat.reduceAdd, Nat.reduceSub, Nat.reduceLeDiff, Nat.reduceEqDiff, Nat.reduceLT, reduceIte, ite_true, ite_false, Nat.sub_zero, Nat.zero_le, true_and, and_true, and_self, true_or, or_true, if_true, if_false, true_implies, implies_true, not_true_eq_false, not_false_eq_true, false_implies, forall_const, ne_eq, or_self, and_false, false_and, Lt, Le, Eq', Cp, In, nI_add, nI_mul, nI_sub, nI_sub1, Neg0, bI_eq0, bI_eq1, bI_01, bft, up2_eq, up2_no, Bool.true_eq_false, Bool.false_eq_true, eq_self, m1_ne, m1_ne2, m1_lt, m1_le, lt_m1, m1_le2, bI_t, bI_f, LK_st, n123, hd0])
  refine mI_K (upS_eq _ _ _) (by omega) fun sh2 I2 L2 P2 N2 h2 i2 => ?_
  have hIV : IV 143 sh2 I2 L2 P2 := iv_start h1 N2 h2 fun j => (i2 j).trans (clr_eq _ _ _ _)
  have fin := fun c s h1 h2 => law_L (G := G) (d := d) (Q := Q) (by omega) hL hQ 513 0 c s 143 sh2 I2 L2 P2 (by omega) (by omega) h1 h2 hIV
  clear hQ
  (apply WP_runI (lv := lvK) (F := LK) LK_ok 18 5; simp (disch := first | decide | omega) only [t213_0, lift_c, o_new, o_dupi, o_dupr, o_spec1, rpush_n, rpush_s, o_astore, s1_0, s1_s, o_inl, o_istore, o_iload3, o_aload0, o_arraylength, o_isub, o_icgt, o_iaload, o_iand, o_lookup, o_aload1, o_iadd, o_virt3, o_aload2, o_iceq, o_ireturn, o_virt5, o_ifeq, o_goto, o_virt4, o_virt2, o_virt1, o_lcmp, o_i2l, o_lshl, o_land, o_lor, o_virt6, o_iinc3, z0, z1, z2, z3, z4, z5, z6, z7, z8, z9, z10, z11, z12, z13, z14, z15, z16, z17, z18, z19, z20, z21, z22, z23, z24, z25, z26, z27, z28, z29, z30, z31, z32, z33, z34, z35, z63, runI_0, runI_c, runI_n, liftI_n, liftI_y, run_0, run_c, run_n, fxn, fxi, fxr, fxl, fxl0, ↓swi_n, ↓swi_c, nck0, nck1, nck2, nck3, List.length_cons, List.length_nil, Nat.reduceAdd, Nat.reduceSub, Nat.reduceLeDiff, Nat.reduceEqDiff, Nat.reduceLT, reduceIte, ite_true, ite_false, Nat.sub_zero, Nat.zero_le, true_and, and_true, and_self, true_or, or_true, if_true, if_false, true_implies, implies_true, not_true_eq_false, not_false_eq_true, false_implies, forall_const, ne_eq, or_self, and_false, false_and, Lt, Le, Eq', Cp, In, nI_add, nI_mul, nI_sub, nI_sub1, Neg0, bI_eq0, bI_eq1, bI_01, bft, up2_eq, up2_no, Bool.true_eq_false, Bool.false_eq_true, eq_self, m1_ne, m1_ne2, m1_lt, m1_le, lt_m1, m1_le2, bI_t, bI_f, LK_st, hd0])
  exact fin _ _ (by decide) (by decide)
end
