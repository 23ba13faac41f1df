/-! ### the reference: keys, way, lead -/
theorem swap_back {N : TN} {i j : Nat} (h : i < j) : upN (upN (swapS N i j) (26 + 9 * i + 3) (N (26 + 9 * i + 3))) (26 + 9 * j + 3) (N (26 + 9 * j + 3)) = N := funext fun p => by
  unfold swapS
  by_cases h1 : p = 26 + 9 * j + 3
  · rw [h1, upN_eq]
  · rw [upN_no _ _ _ _ h1]
    by_cases h2 : p = 26 + 9 * i + 3
    · rw [h2, upN_eq]
    · rw [upN_no _ _ _ _ h2, upN_no _ _ _ _ h1, upN_no _ _ _ _ h2]
theorem WF.swap {N : TN} {k g r i j : Nat} (h : WF N k g r) (hi : i < k) (hj : j < k) : WF (swapS N i j) k g r := (h.key_up hi (h.key hj)).key_up hj (h.key hi)
section
variable {G : GE} {d n : Nat} {sh : TS} {I : TI} {L : TL} {P : TP} {Q : TQ} {F : TF} {E : Nat → Int32} {k g r : Nat}
theorem keys_S (hF : FM sh P) (hB : BK I F E k g r) {N : TN} (hN : I 124 = N) {x y a b w : Int32} {i j : Nat} (hij : i < j) (hj : j < k) (hd : 40 ≤ d) {I1 : TI} (he : Eo scA I I1) (hw : lateS (wayL F E (swapS N i j) x y 16 0) = w) {o7 o8 o9 : Option Value} {cc ss : Nat}
    (hK : ∀ I2 o7 o8 o9 cc ss, Eo scA I I2 → WP G 172 d Q 35 [some (.ref 123), some (.int x), some (.int y), some (.int (pk w (nI (10 * i + j)) (a, b)).2), some (.int (pk w (nI (10 * i + j)) (a, b)).1), some (.int (nI i)), some (.int (nI (j + 1))), o7, o8, o9] [] cc ss n sh I2 L P) :
    WP G 172 d Q 35 [some (.ref 123), some (.int x), some (.int y), some (.int b), some (.int a), some (.int (nI i)), some (.int (nI j)), o7, o8, o9] [] cc ss n sh I1 L P := by
  have hd0 : 0 < d := by omega
  have hW := hB.1
  rw [hN] at hW
  have hk := hW.k6
  have h80 := hW.n80
  have hj2 : ¬ k ≤ j := by omega
  have h1 : I1 124 = N := (row_eo he 124 scA_124).trans hN
  have hWS := hW.swap (i := i) (j := j) (by omega) hj
  have hB2 : BK (up2 (up2 I1 124 (26 + 9 * i + 3) (gs N j 3)) 124 (26 + 9 * j + 3) (gs N i 3)) F E k g r := by
    refine hB.eo (((he.mono fun _ _ => scA_W).up (Or.inr rfl) _).up (Or.inr rfl) _) ?_
    rw [up2_upN, up2_upN, h1]
    exact hWS
  have h2 : (up2 (up2 I1 124 (26 + 9 * i + 3) (gs N j 3)) 124 (26 + 9 * j + 3) (gs N i 3)) 124 = swapS N i j := by
    rw [up2_upN, up2_upN, h1]
    rfl
  (apply WP_runI (lv := lvN) LN_ok 999 80; simp (disch := first | decide | omega) only [t172_0, t172_1, t172_2, lift_c, o_aload0, o_iload1, o_iload2, o_virt3, rpush_n, rpush_s, o_stat1, o_istore, s1_0, s1_s, o_inl, o_iload5, o_getref, o_iaload, o_icge, o_iadd, o_iload6, o_iload8, o_virt4, o_popi, o_popr, o_iload7, o_iload9, o_iload3, o_imul, o_goto, o_iload4, o_fsub, o_iinc6, o_iinc5, o_ireturn, z0, z1, z2, z3, z5, z10, z20, z31, z80, runI_0, runI_c, runI_n, liftI_n, liftI_y, run_0, run_c, run_n, fxn, fxi, fxr, fxl, fxl0, ↓swi_n, ↓swi_c, nck0, nck1, nck2, nck3, List.length_cons, List.length_nil, Nat.reduceAdd, Nat.reduceSub, Nat.reduceLeDiff, Nat.reduceEqDiff, Nat.reduceLT, reduceIte, ite_true, ite_false, Nat.sub_zero, Nat.zero_le, true_and, and_true, and_self, true_or, or_true, if_true, if_false, true_implies, implies_true, not_true_eq_false, not_false_eq_true, false_implies, forall_const, ne_eq, or_self, and_false, false_and, Lt, Le, Eq', Cp, In, nI_add, nI_mul, nI_sub, nI_sub1, Neg0, bI_eq0, bI_eq1, bI_01, bft, up2_eq, up2_no, Bool.true_eq_false, Bool.false_eq_true, eq_self, m1_ne, m1_ne2, m1_lt, m1_le, lt_m1, m1_le2, bI_t, bI_f, LM_all hF, LN_all hF, FMu hF, hd0, h1, h80, hj2])
  refine wayTo_M hF hB2 (by omega) fun I2 he2 => ?_
  rw [h2]
  have h3 : I2 124 = swapS N i j := (row_eo he2 124 scA_124).trans h2
  have he3 : Eo scA I (up2 (up2 I2 124 (26 + 9 * i + 3) (gs N i 3)) 124 (26 + 9 * j + 3) (gs N j 3)) := fun c p q => by
    by_cases e : c = 124
    · rw [e, up2_upN, up2_upN, h3, hN]
      exact congrFun (swap_back hij) p
    · rw [up2_no _ _ _ _ _ _ (fun q => e q.1), up2_no _ _ _ _ _ _ (fun q => e q.1), he2 c p q, up2_no _ _ _ _ _ _ (fun q => e q.1), up2_no _ _ _ _ _ _ (fun q => e q.1)]
      exact he c p q
  have hK := fun o7 o8 o9 cc ss => hK _ o7 o8 o9 cc ss he3
  clear he2 h2 hB2 hB hWS h3 he3
  generalize wayL F E (swapS N i j) x y 16 0 = u at hw ⊢
  by_cases hlt : w < b
  · have hle : ¬ b ≤ w := Int32.not_le.mpr hlt
    rw [pk_y hlt, ← nI_add, ← nI_mul] at hK
    (apply WP_runI (lv := lvN) LN_ok 35 80; simp (disch := first | decide | omega) only [t172_0, t172_1, t172_2, lift_c, o_aload0, o_iload1, o_iload2, o_virt3, rpush_n, rpush_s, o_stat1, o_istore, s1_0, s1_s, o_inl, o_iload5, o_getref, o_iaload, o_icge, o_iadd, o_iload6, o_iload8, o_virt4, o_popi, o_popr, o_iload7, o_iload9, o_iload3, o_imul, o_goto, o_iload4, o_fsub, o_iinc6, o_iinc5, o_ireturn, z0, z1, z2, z3, z5, z10, z20, z31, z80, runI_0, runI_c, runI_n, liftI_n, liftI_y, run_0, run_c, run_n, fxn, fxi, fxr, fxl, fxl0, ↓swi_n, ↓swi_c, nck0, nck1, nck2, nck3, List.length_cons, List.length_nil, Nat.reduceAdd, Nat.reduceSub, Nat.reduceLeDiff, Nat.reduceEqDiff, Nat.reduceLT, reduceIte, ite_true, ite_false, Nat.sub_zero, Nat.zero_le, true_and, and_true, and_self, true_or, or_true, if_true, if_false, true_implies, implies_true, not_true_eq_false, not_false_eq_true, false_implies, forall_const, ne_eq, or_self, and_false, false_and, Lt, Le, Eq', Cp, In, nI_add, nI_mul, nI_sub, nI_sub1, Neg0, bI_eq0, bI_eq1, bI_01, bft, up2_eq, up2_no, Bool.true_eq_false, Bool.false_eq_true, eq_self, m1_ne, m1_ne2, m1_lt, m1_le, lt_m1, m1_le2, bI_t, bI_f, LM_all hF, LN_all hF, FMu hF, hd0, hw, hle, mn_y hlt])
    rw [nI_mul, nI_add] at hK
    exact hK _ _ _ _ _
  · have hle : b ≤ w := Int32.not_lt.mp hlt
    rw [pk_n hlt] at hK
    (apply WP_runI (lv := lvN) LN_ok 35 80; simp (disch := first | decide | omega) only [t172_0, t172_1, t172_2, lift_c, o_aload0, o_iload1, o_iload2, o_virt3, rpush_n, rpush_s, o_stat1, o_istore, s1_0, s1_s, o_inl, o_iload5, o_getref, o_iaload, o_icge, o_iadd, o_iload6, o_iload8, o_virt4, o_popi, o_popr, o_iload7, o_iload9, o_iload3, o_imul, o_goto, o_iload4, o_fsub, o_iinc6, o_iinc5, o_ireturn, z0, z1, z2, z3, z5, z10, z20, z31, z80, runI_0, runI_c, runI_n, liftI_n, liftI_y, run_0, run_c, run_n, fxn, fxi, fxr, fxl, fxl0, ↓swi_n, ↓swi_c, nck0, nck1, nck2, nck3, List.length_cons, List.length_nil, Nat.reduceAdd, Nat.reduceSub, Nat.reduceLeDiff, Nat.reduceEqDiff, Nat.reduceLT, reduceIte, ite_true, ite_false, Nat.sub_zero, Nat.zero_le, true_and, and_true, and_self, true_or, or_true, if_true, if_false, true_implies, implies_true, not_true_eq_false, not_false_eq_true, false_implies, forall_const, ne_eq, or_self, and_false, false_and, Lt, Le, Eq', Cp, In, nI_add, nI_mul, nI_sub, nI_sub1, Neg0, bI_eq0, bI_eq1, bI_01, bft, up2_eq, up2_no, Bool.true_eq_false, Bool.false_eq_true, eq_self, m1_ne, m1_ne2, m1_lt, m1_le, lt_m1, m1_le2, bI_t, bI_f, LM_all hF, LN_all hF, FMu hF, hd0, hw, hle, mn_n hlt])
    exact hK _ _ _ _ _
theorem keys_M (hF : FM sh P) (hB : BK I F E k g r) {x y : Int32} (hd : 40 ≤ d) (hQ : ∀ I', Eo scA I I' → Q (some (.int (kyI F E (I 124) x y k k).1)) n sh I' L P) : Cl G d 172 [.ref 123, .int x, .int y] n sh I L P Q := by
  apply e172
  have hd0 : 0 < d := by omega
  generalize hN : I 124 = N at hQ
  have hW := hB.1
  rw [hN] at hW
  have hk := hW.k6
  have h80 := hW.n80
  have outer : ∀ m i I1 a b o6 o7 o8 o9 cc ss, i + m = k → Eo scA I I1 → kyI F E N x y k i = (a, b) → WP G 172 d Q 17 [some (.ref 123), some (.int x), some (.int y), some (.int b), some (.int a), some (.int (nI i)), o6, o7, o8, o9] [] cc ss n sh I1 L P := by
    intro m
    induction m with
    | zero =>
      intro i I1 a b o6 o7 o8 o9 cc ss h he hq
      have hi : k ≤ i := by omega
      have h1 : I1 124 = N := (row_eo he 124 scA_124).trans hN
      have hQ := hQ I1 he
      rw [show kyI F E N x y k k = (a, b) by rw [← hq, show i = k by omega]] at hQ
      (apply WP_runI (lv := lvN) LN_ok 17 80; simp (disch := first | decide | omega) only [t172_0, t172_1, t172_2, lift_c, o_aload0, o_iload1, o_iload2, o_virt3, rpush_n, rpush_s, o_stat1, o_istore, s1_0, s1_s, o_inl, o_iload5, o_getref, o_iaload, o_icge, o_iadd, o_iload6, o_iload8, o_virt4, o_popi, o_popr, o_iload7, o_iload9, o_iload3, o_imul, o_goto, o_iload4, o_fsub, o_iinc6, o_iinc5, o_ireturn, z0, z1, z2, z3, z5, z10, z20, z31, z80, runI_0, runI_c, runI_n, liftI_n, liftI_y, run_0, run_c, run_n, fxn, fxi, fxr, fxl, fxl0, ↓swi_n, ↓swi_c, nck0, nck1, nck2, nck3, List.length_cons, List.length_nil, Nat.reduceAdd, Nat.reduceSub, Nat.reduceLeDiff, Nat.reduceEqDiff, Nat.reduceLT, reduceIte, ite_true, ite_false, Nat.sub_zero, Nat.zero_le, true_and, and_true, and_self, true_or, or_true, if_true, if_false, true_implies, implies_true, not_true_eq_false, not_false_eq_true, false_implies, forall_const, ne_eq, or_self, and_false, false_and, Lt, Le, Eq', Cp, In, nI_add, nI_mul, nI_sub, nI_sub1, Neg0, bI_eq0, bI_eq1, bI_01, bft, up2_eq, up2_no, Bool.true_eq_false, Bool.false_eq_true, eq_self, m1_ne, m1_ne2, m1_lt, m1_le, lt_m1, m1_le2, bI_t, bI_f, LM_all hF, LN_all hF, FMu hF, hd0, h1, h80, hi])
      exact hQ
    | succ m ih =>
      intro i I1 a b o6 o7 o8 o9 cc ss h he hq
      have hi : ¬ k ≤ i := by omega
      have h1 : I1 124 = N := (row_eo he 124 scA_124).trans hN
      have inner : ∀ l j I2 a' b' o7 o8 o9 cc ss, j + l = k → i < j → Eo scA I I2 → kyJ F E N x y i (a, b) j = (a', b') → WP G 172 d Q 35 [some (.ref 123), some (.int x), some (.int y), some (.int b'), some (.int a'), some (.int (nI i)), some (.int (nI j)), o7, o8, o9] [] cc ss n sh I2 L P := by
        intro l
        induction l with
        | zero =>
          intro j I2 a' b' o7 o8 o9 cc ss h hij he2 hq2
          have hj : k ≤ j := by omega
          have h2 : I2 124 = N := (row_eo he2 124 scA_124).trans hN
          have ih := fun o6 o7 o8 o9 cc ss => ih (i + 1) I2 a' b' o6 o7 o8 o9 cc ss (by omega) he2 (by rw [kyI, hq, ← hq2, show j = k by omega])
          (apply WP_runI (lv := lvN) LN_ok 17 80; simp (disch := first | decide | omega) only [t172_0, t172_1, t172_2, lift_c, o_aload0, o_iload1, o_iload2, o_virt3, rpush_n, rpush_s, o_stat1, o_istore, s1_0, s1_s, o_inl, o_iload5, o_getref, o_iaload, o_icge, o_iadd, o_iload6, o_iload8, o_virt4, o_popi, o_popr, o_iload7, o_iload9, o_iload3, o_imul, o_goto, o_iload4, o_fsub, o_iinc6, o_iinc5, o_ireturn, z0, z1, z2, z3, z5, z10, z20, z31, z80, runI_0, runI_c, runI_n, liftI_n, liftI_y, run_0, run_c, run_n, fxn, fxi, fxr, fxl, fxl0, ↓swi_n, ↓swi_c, nck0, nck1, nck2, nck3, List.length_cons, List.length_nil, Nat.reduceAdd, Nat.reduceSub, Nat.reduceLeDiff, Nat.reduceEqDiff, Nat.reduceLT, reduceIte, ite_true, ite_false, Nat.sub_zero, Nat.zero_le, true_and, and_true, and_self, true_or, or_true, if_true, if_false, true_implies, implies_true, not_true_eq_false, not_false_eq_true, false_implies, forall_const, ne_eq, or_self, and_false, false_and, Lt, Le, Eq', Cp, In, nI_add, nI_mul, nI_sub, nI_sub1, Neg0, bI_eq0, bI_eq1, bI_01, bft, up2_eq, up2_no, Bool.true_eq_false, Bool.false_eq_true, eq_self, m1_ne, m1_ne2, m1_lt, m1_le, lt_m1, m1_le2, bI_t, bI_f, LM_all hF, LN_all hF, FMu hF, hd0, h2, h80, hj])
          exact ih _ _ _ _ _ _
        | succ l ih2 =>
          intro j I2 a' b' o7 o8 o9 cc ss h hij he2 hq2
          generalize hw : lateS (wayL F E (swapS N i j) x y 16 0) = w
          refine keys_S hF hB hN hij (by omega) hd he2 hw fun I3 o7 o8 o9 cc ss he3 => ?_
          exact ih2 (j + 1) I3 _ _ o7 o8 o9 cc ss (by omega) (by omega) he3 (kyJ_y hij hq2 hw)
      have inner := fun cc ss => inner (k - (i + 1)) (i + 1) I1 a b o7 o8 o9 cc ss (by omega) (by omega) he (kyJ_0 _ _ _ _ _ _ _ _ (Nat.le_refl _))
      (apply WP_runI (lv := lvN) LN_ok 35 80; simp (disch := first | decide | omega) only [t172_0, t172_1, t172_2, lift_c, o_aload0, o_iload1, o_iload2, o_virt3, rpush_n, rpush_s, o_stat1, o_istore, s1_0, s1_s, o_inl, o_iload5, o_getref, o_iaload, o_icge, o_iadd, o_iload6, o_iload8, o_virt4, o_popi, o_popr, o_iload7, o_iload9, o_iload3, o_imul, o_goto, o_iload4, o_fsub, o_iinc6, o_iinc5, o_ireturn, z0, z1, z2, z3, z5, z10, z20, z31, z80, runI_0, runI_c, runI_n, liftI_n, liftI_y, run_0, run_c, run_n, fxn, fxi, fxr, fxl, fxl0, ↓swi_n, ↓swi_c, nck0, nck1, nck2, nck3, List.length_cons, List.length_nil, Nat.reduceAdd, Nat.reduceSub, Nat.reduceLeDiff, Nat.reduceEqDiff, Nat.reduceLT, reduceIte, ite_true, ite_false, Nat.sub_zero, Nat.zero_le, true_and, and_true, and_self, true_or, or_true, if_true, if_false, true_implies, implies_true, not_true_eq_false, not_false_eq_true, false_implies, forall_const, ne_eq, or_self, and_false, false_and, Lt, Le, Eq', Cp, In, nI_add, nI_mul, nI_sub, nI_sub1, Neg0, bI_eq0, bI_eq1, bI_01, bft, up2_eq, up2_no, Bool.true_eq_false, Bool.false_eq_true, eq_self, m1_ne, m1_ne2, m1_lt, m1_le, lt_m1, m1_le2, bI_t, bI_f, LM_all hF, LN_all hF, FMu hF, hd0, h1, h80, hi])
      exact inner _ _
  (apply WP_runI (lv := lvN) LN_ok 17 80; simp (disch := first | decide | omega) only [t172_0, t172_1, t172_2, lift_c, o_aload0, o_iload1, o_iload2, o_virt3, rpush_n, rpush_s, o_stat1, o_istore, s1_0, s1_s, o_inl, o_iload5, o_getref, o_iaload, o_icge, o_iadd, o_iload6, o_iload8, o_virt4, o_popi, o_popr, o_iload7, o_iload9, o_iload3, o_imul, o_goto, o_iload4, o_fsub, o_iinc6, o_iinc5, o_ireturn, z0, z1, z2, z3, z5, z10, z20, z31, z80, runI_0, runI_c, runI_n, liftI_n, liftI_y, run_0, run_c, run_n, fxn, fxi, fxr, fxl, fxl0, ↓swi_n, ↓swi_c, nck0, nck1, nck2, nck3, List.length_cons, List.length_nil, Nat.reduceAdd, Nat.reduceSub, Nat.reduceLeDiff, Nat.reduceEqDiff, Nat.reduceLT, reduceIte, ite_true, ite_false, Nat.sub_zero, Nat.zero_le, true_and, and_true, and_self, true_or, or_true, if_true, if_false, true_implies, implies_true, not_true_eq_false, not_false_eq_true, false_implies, forall_const, ne_eq, or_self, and_false, false_and, Lt, Le, Eq', Cp, In, nI_add, nI_mul, nI_sub, nI_sub1, Neg0, bI_eq0, bI_eq1, bI_01, bft, up2_eq, up2_no, Bool.true_eq_false, Bool.false_eq_true, eq_self, m1_ne, m1_ne2, m1_lt, m1_le, lt_m1, m1_le2, bI_t, bI_f, LM_all hF, LN_all hF, FMu hF, hd0])
  refine wayTo_M hF hB (by omega) fun I2 he2 => ?_
  rw [hN]
  have outer := fun cc ss => outer k 0 I2 (-nI 5) _ none none none none cc ss (by omega) he2 (by rw [kyI])
  generalize wayL F E N x y 16 0 = u at outer ⊢
  (apply WP_runI (lv := lvN) LN_ok 17 80; simp (disch := first | decide | omega) only [t172_0, t172_1, t172_2, lift_c, o_aload0, o_iload1, o_iload2, o_virt3, rpush_n, rpush_s, o_stat1, o_istore, s1_0, s1_s, o_inl, o_iload5, o_getref, o_iaload, o_icge, o_iadd, o_iload6, o_iload8, o_virt4, o_popi, o_popr, o_iload7, o_iload9, o_iload3, o_imul, o_goto, o_iload4, o_fsub, o_iinc6, o_iinc5, o_ireturn, z0, z1, z2, z3, z5, z10, z20, z31, z80, runI_0, runI_c, runI_n, liftI_n, liftI_y, run_0, run_c, run_n, fxn, fxi, fxr, fxl, fxl0, ↓swi_n, ↓swi_c, nck0, nck1, nck2, nck3, List.length_cons, List.length_nil, Nat.reduceAdd, Nat.reduceSub, Nat.reduceLeDiff, Nat.reduceEqDiff, Nat.reduceLT, reduceIte, ite_true, ite_false, Nat.sub_zero, Nat.zero_le, true_and, and_true, and_self, true_or, or_true, if_true, if_false, true_implies, implies_true, not_true_eq_false, not_false_eq_true, false_implies, forall_const, ne_eq, or_self, and_false, false_and, Lt, Le, Eq', Cp, In, nI_add, nI_mul, nI_sub, nI_sub1, Neg0, bI_eq0, bI_eq1, bI_01, bft, up2_eq, up2_no, Bool.true_eq_false, Bool.false_eq_true, eq_self, m1_ne, m1_ne2, m1_lt, m1_le, lt_m1, m1_le2, bI_t, bI_f, LM_all hF, LN_all hF, FMu hF, hd0, z5])
  exact outer _ _
def wayA (F : TF) (E : Nat → Int32) (N : TN) (k : Nat) (x y z : Int32) : Int32 := if (isC x && (isC y && inR z 0 1)) = false then -nI 1 else if z = nI 0 then wayL F E N x y 16 0 else (kyI F E N x y k k).1
theorem way_M (hF : FM sh P) (hB : BK I F E k g r) {x y z : Int32} (hd : 42 ≤ d) (hQ : ∀ I', Eo scA I I' → Q (some (.int (wayA F E (I 124) k x y z))) n sh I' L P) : Cl G d 173 [.ref 123, .int x, .int y, .int z] n sh I L P Q := by
  apply e173
  have hd0 : 0 < d := by omega
  unfold wayA at hQ
  cases hx : isC x with
  | false =>
    rw [hx, if_pos (show (false && (isC y && inR z 0 1)) = false from rfl)] at hQ
    have hQ := hQ I Eo.rf
    (apply WP_runI (lv := lvN) LN_ok 999 80; simp (disch := first | decide | omega) only [t173_0, lift_c, o_iload1, o_stat1, rpush_n, rpush_s, o_ifeq, o_iload2, o_iload3, o_inl, o_stat3, o_ifne, o_ireturn, o_aload0, o_virt3, o_goto, z0, z1, z2, z20, z31, runI_0, runI_c, runI_n, liftI_n, liftI_y, run_0, run_c, run_n, fxn, fxi, fxr, fxl, fxl0, ↓swi_n, ↓swi_c, nck0, nck1, nck2, nck3, List.length_cons, List.length_nil, Nat.reduceAdd, Nat.reduceSub, Nat.reduceLeDiff, Nat.reduceEqDiff, Nat.reduceLT, reduceIte, ite_true, ite_false, Nat.sub_zero, Nat.zero_le, true_and, and_true, and_self, true_or, or_true, if_true, if_false, true_implies, implies_true, not_true_eq_false, not_false_eq_true, false_implies, forall_const, ne_eq, or_self, and_false, false_and, Lt, Le, Eq', Cp, In, nI_add, nI_mul, nI_sub, nI_sub1, Neg0, bI_eq0, bI_eq1, bI_01, bft, up2_eq, up2_no, Bool.true_eq_false, Bool.false_eq_true, eq_self, m1_ne, m1_ne2, m1_lt, m1_le, lt_m1, m1_le2, bI_t, bI_f, LM_all hF, LN_all hF, FMu hF, hd0, hx])
    exact hQ
  | true =>
    cases hy : isC y with
    | false =>
      rw [hx, hy, if_pos (show (true && (false && inR z 0 1)) = false from rfl)] at hQ
      have hQ := hQ I Eo.rf
      (apply WP_runI (lv := lvN) LN_ok 999 80; simp (disch := first | decide | omega) only [t173_0, lift_c, o_iload1, o_stat1, rpush_n, rpush_s, o_ifeq, o_iload2, o_iload3, o_inl, o_stat3, o_ifne, o_ireturn, o_aload0, o_virt3, o_goto, z0, z1, z2, z20, z31, runI_0, runI_c, runI_n, liftI_n, liftI_y, run_0, run_c, run_n, fxn, fxi, fxr, fxl, fxl0, ↓swi_n, ↓swi_c, nck0, nck1, nck2, nck3, List.length_cons, List.length_nil, Nat.reduceAdd, Nat.reduceSub, Nat.reduceLeDiff, Nat.reduceEqDiff, Nat.reduceLT, reduceIte, ite_true, ite_false, Nat.sub_zero, Nat.zero_le, true_and, and_true, and_self, true_or, or_true, if_true, if_false, true_implies, implies_true, not_true_eq_false, not_false_eq_true, false_implies, forall_const, ne_eq, or_self, and_false, false_and, Lt, Le, Eq', Cp, In, nI_add, nI_mul, nI_sub, nI_sub1, Neg0, bI_eq0, bI_eq1, bI_01, bft, up2_eq, up2_no, Bool.true_eq_false, Bool.false_eq_true, eq_self, m1_ne, m1_ne2, m1_lt, m1_le, lt_m1, m1_le2, bI_t, bI_f, LM_all hF, LN_all hF, FMu hF, hd0, hx, hy])
      exact hQ
    | true =>
      cases hz : inR z 0 1 with
      | false =>
        have hz2 : decide (nI 0 ≤ z ∧ z ≤ nI 1) = false := hz
        rw [hx, hy, hz, if_pos (show (true && (true && false)) = false from rfl)] at hQ
        have hQ := hQ I Eo.rf
        (apply WP_runI (lv := lvN) LN_ok 999 80; simp (disch := first | decide | omega) only [t173_0, lift_c, o_iload1, o_stat1, rpush_n, rpush_s, o_ifeq, o_iload2, o_iload3, o_inl, o_stat3, o_ifne, o_ireturn, o_aload0, o_virt3, o_goto, z0, z1, z2, z20, z31, runI_0, runI_c, runI_n, liftI_n, liftI_y, run_0, run_c, run_n, fxn, fxi, fxr, fxl, fxl0, ↓swi_n, ↓swi_c, nck0, nck1, nck2, nck3, List.length_cons, List.length_nil, Nat.reduceAdd, Nat.reduceSub, Nat.reduceLeDiff, Nat.reduceEqDiff, Nat.reduceLT, reduceIte, ite_true, ite_false, Nat.sub_zero, Nat.zero_le, true_and, and_true, and_self, true_or, or_true, if_true, if_false, true_implies, implies_true, not_true_eq_false, not_false_eq_true, false_implies, forall_const, ne_eq, or_self, and_false, false_and, Lt, Le, Eq', Cp, In, nI_add, nI_mul, nI_sub, nI_sub1, Neg0, bI_eq0, bI_eq1, bI_01, bft, up2_eq, up2_no, Bool.true_eq_false, Bool.false_eq_true, eq_self, m1_ne, m1_ne2, m1_lt, m1_le, lt_m1, m1_le2, bI_t, bI_f, LM_all hF, LN_all hF, FMu hF, hd0, hx, hy, hz2])
        exact hQ
      | true =>
        have hz2 : decide (nI 0 ≤ z ∧ z ≤ nI 1) = true := hz
        rw [hx, hy, hz, if_neg (by decide)] at hQ
        by_cases h0 : z = nI 0
        · rw [if_pos h0] at hQ
          (apply WP_runI (lv := lvN) LN_ok 999 80; simp (disch := first | decide | omega) only [t173_0, lift_c, o_iload1, o_stat1, rpush_n, rpush_s, o_ifeq, o_iload2, o_iload3, o_inl, o_stat3, o_ifne, o_ireturn, o_aload0, o_virt3, o_goto, z0, z1, z2, z20, z31, runI_0, runI_c, runI_n, liftI_n, liftI_y, run_0, run_c, run_n, fxn, fxi, fxr, fxl, fxl0, ↓swi_n, ↓swi_c, nck0, nck1, nck2, nck3, List.length_cons, List.length_nil, Nat.reduceAdd, Nat.reduceSub, Nat.reduceLeDiff, Nat.reduceEqDiff, Nat.reduceLT, reduceIte, ite_true, ite_false, Nat.sub_zero, Nat.zero_le, true_and, and_true, and_self, true_or, or_true, if_true, if_false, true_implies, implies_true, not_true_eq_false, not_false_eq_true, false_implies, forall_const, ne_eq, or_self, and_false, false_and, Lt, Le, Eq', Cp, In, nI_add, nI_mul, nI_sub, nI_sub1, Neg0, bI_eq0, bI_eq1, bI_01, bft, up2_eq, up2_no, Bool.true_eq_false, Bool.false_eq_true, eq_self, m1_ne, m1_ne2, m1_lt, m1_le, lt_m1, m1_le2, bI_t, bI_f, LM_all hF, LN_all hF, FMu hF, hd0, hx, hy, h0, decide_true])
          refine wayTo_M hF hB (by omega) fun I1 he => ?_
          have hQ := hQ I1 he
          generalize wayL F E (I 124) x y 16 0 = v at hQ ⊢
          (apply WP_runI (lv := lvN) LN_ok 999 80; simp (disch := first | decide | omega) only [t173_0, lift_c, o_iload1, o_stat1, rpush_n, rpush_s, o_ifeq, o_iload2, o_iload3, o_inl, o_stat3, o_ifne, o_ireturn, o_aload0, o_virt3, o_goto, z0, z1, z2, z20, z31, runI_0, runI_c, runI_n, liftI_n, liftI_y, run_0, run_c, run_n, fxn, fxi, fxr, fxl, fxl0, ↓swi_n, ↓swi_c, nck0, nck1, nck2, nck3, List.length_cons, List.length_nil, Nat.reduceAdd, Nat.reduceSub, Nat.reduceLeDiff, Nat.reduceEqDiff, Nat.reduceLT, reduceIte, ite_true, ite_false, Nat.sub_zero, Nat.zero_le, true_and, and_true, and_self, true_or, or_true, if_true, if_false, true_implies, implies_true, not_true_eq_false, not_false_eq_true, false_implies, forall_const, ne_eq, or_self, and_false, false_and, Lt, Le, Eq', Cp, In, nI_add, nI_mul, nI_sub, nI_sub1, Neg0, bI_eq0, bI_eq1, bI_01, bft, up2_eq, up2_no, Bool.true_eq_false, Bool.false_eq_true, eq_self, m1_ne, m1_ne2, m1_lt, m1_le, lt_m1, m1_le2, bI_t, bI_f, LM_all hF, LN_all hF, FMu hF, hd0])
          exact hQ
        · rw [if_neg h0] at hQ
          (apply WP_runI (lv := lvN) LN_ok 999 80; simp (disch := first | decide | omega) only [t173_0, lift_c, o_iload1, o_stat1, rpush_n, rpush_s, o_ifeq, o_iload2, o_iload3, o_inl, o_stat3, o_ifne, o_ireturn, o_aload0, o_virt3, o_goto, z0, z1, z2, z20, z31, runI_0, runI_c, runI_n, liftI_n, liftI_y, run_0, run_c, run_n, fxn, fxi, fxr, fxl, fxl0, ↓swi_n, ↓swi_c, nck0, nck1, nck2, nck3, List.length_cons, List.length_nil, Nat.reduceAdd, Nat.reduceSub, Nat.reduceLeDiff, Nat.reduceEqDiff, Nat.reduceLT, reduceIte, ite_true, ite_false, Nat.sub_zero, Nat.zero_le, true_and, and_true, and_self, true_or, or_true, if_true, if_false, true_implies, implies_true, not_true_eq_false, not_false_eq_true, false_implies, forall_const, ne_eq, or_self, and_false, false_and, Lt, Le, Eq', Cp, In, nI_add, nI_mul, nI_sub, nI_sub1, Neg0, bI_eq0, bI_eq1, bI_01, bft, up2_eq, up2_no, Bool.true_eq_false, Bool.false_eq_true, eq_self, m1_ne, m1_ne2, m1_lt, m1_le, lt_m1, m1_le2, bI_t, bI_f, LM_all hF, LN_all hF, FMu hF, hd0, hx, hy, hz2, h0])
          refine keys_M hF hB (by omega) fun I1 he => ?_
          have hQ := hQ I1 he
          generalize (kyI F E (I 124) x y k k).1 = v at hQ ⊢
          (apply WP_runI (lv := lvN) LN_ok 999 80; simp (disch := first | decide | omega) only [t173_0, lift_c, o_iload1, o_stat1, rpush_n, rpush_s, o_ifeq, o_iload2, o_iload3, o_inl, o_stat3, o_ifne, o_ireturn, o_aload0, o_virt3, o_goto, z0, z1, z2, z20, z31, runI_0, runI_c, runI_n, liftI_n, liftI_y, run_0, run_c, run_n, fxn, fxi, fxr, fxl, fxl0, ↓swi_n, ↓swi_c, nck0, nck1, nck2, nck3, List.length_cons, List.length_nil, Nat.reduceAdd, Nat.reduceSub, Nat.reduceLeDiff, Nat.reduceEqDiff, Nat.reduceLT, reduceIte, ite_true, ite_false, Nat.sub_zero, Nat.zero_le, true_and, and_true, and_self, true_or, or_true, if_true, if_false, true_implies, implies_true, not_true_eq_false, not_false_eq_true, false_implies, forall_const, ne_eq, or_self, and_false, false_and, Lt, Le, Eq', Cp, In, nI_add, nI_mul, nI_sub, nI_sub1, Neg0, bI_eq0, bI_eq1, bI_01, bft, up2_eq, up2_no, Bool.true_eq_false, Bool.false_eq_true, eq_self, m1_ne, m1_ne2, m1_lt, m1_le, lt_m1, m1_le2, bI_t, bI_f, LM_all hF, LN_all hF, FMu hF, hd0])
          exact hQ
/-! ### the reference: lead -/
def mnS (v : Int32) : Int32 := if v < nI 99 then v else nI 99
theorem mnS_ok {u m : Nat} (hu : u ≤ 99) (hm : m ≤ 99) : ∃ v, v ≤ 99 ∧ mnS (nI u + nI m) = nI v := by
  unfold mnS
  rw [nI_add]
  by_cases h : u + m < 99
  · exact ⟨u + m, by omega, if_pos (by rw [Lt _ _ (by omega) (by omega)]; exact h)⟩
  · exact ⟨99, by omega, if_neg (by rw [Lt _ _ (by omega) (by omega)]; exact h)⟩
def ldL (F : TF) (E : Nat → Int32) (N : TN) (x z : Int32) : Nat → Int32 × Int32
  | 0 => (-nI 5, lateS (soonS F E N x))
  | c + 1 => pk (lateS (soonS F E (upN N c (mnS (N c + z))) x)) (nI c) (ldL F E N x z c)
theorem ldL_s {F : TF} {E : Nat → Int32} {N : TN} {x z a b w : Int32} {c : Nat} (hq : ldL F E N x z c = (a, b)) (hw : lateS (soonS F E (upN N c (mnS (N c + z))) x) = w) : ldL F E N x z (c + 1) = pk w (nI c) (a, b) := by
  rw [ldL, hw, hq]
def leadA (F : TF) (E : Nat → Int32) (N : TN) (x z : Int32) : Int32 := if isG N x = false then -nI 1 else if inR z 1 99 = false then -nI 2 else (ldL F E N x z 8).1
theorem upN_back {N : TN} {c : Nat} {v : Int32} : upN (upN N c v) c (N c) = N := funext fun p => by
  by_cases h : p = c
  · rw [h, upN_eq]
  · rw [upN_no _ _ _ _ h, upN_no _ _ _ _ h]
theorem lead_S (hF : FM sh P) (hB : BK I F E k g r) {N : TN} (hN : I 124 = N) {x z a b w : Int32} {c m : Nat} (hc : c < 8) (hm : m ≤ 99) (hz : z = nI m) (hd : 40 ≤ d) {I1 : TI} (he : Eo scA I I1) (hw : lateS (soonS F E (upN N c (mnS (N c + z))) x) = w) {o6 o7 : Option Value} {cc ss : Nat}
    (hK : ∀ I2 o6 o7 cc ss, Eo scA I I2 → WP G 174 d Q 39 [some (.ref 123), some (.int x), some (.int z), some (.int (pk w (nI c) (a, b)).2), some (.int (pk w (nI c) (a, b)).1), some (.int (nI (c + 1))), o6, o7] [] cc ss n sh I2 L P) :
    WP G 174 d Q 39 [some (.ref 123), some (.int x), some (.int z), some (.int b), some (.int a), some (.int (nI c)), o6, o7] [] cc ss n sh I1 L P := by
  have hd0 : 0 < d := by omega
  have hW := hB.1
  rw [hN] at hW
  have hc2 : ¬ 8 ≤ c := by omega
  have h20 : nle 20 124 := by show 20 ≤ 124; decide
  have h1 : I1 124 = N := (row_eo he 124 scA_124).trans hN
  obtain ⟨u, hu, hu2⟩ := hW.grain hc
  have hW2 : WF (upN N c (mnS (N c + z))) k g r := by
    obtain ⟨v, hv, e⟩ := mnS_ok hu hm
    rw [hu2, hz, e]
    exact hW.grain_up hc hv
  have hB2 : BK (up2 I1 124 c (mnS (N c + z))) F E k g r := by
    refine hB.eo ((he.mono fun _ _ => scA_W).up (Or.inr rfl) _) ?_
    rw [up2_upN, h1]
    exact hW2
  have h2 : (up2 I1 124 c (mnS (N c + z))) 124 = upN N c (mnS (N c + z)) := by
    rw [up2_upN, h1]
  have run1 : ∀ cc ss, Cl G (d - 1) 162 [.ref 123, .int x] n sh (up2 I1 124 c (mnS (N c + z))) L P (fun v n' sh' I' L' P' => WP G 174 d Q 76 [some (.ref 123), some (.int x), some (.int z), some (.int b), some (.int a), some (.int (nI c)), some (.int (N c)), o7] (rpush v []) cc ss n' sh' I' L' P') := by
    intro cc ss
    refine soon_M hF hB2 (by omega) fun I2 he2 => ?_
    rw [h2]
    have h3 : I2 124 = upN N c (mnS (N c + z)) := (row_eo he2 124 scA_124).trans h2
    have he3 : Eo scA I (up2 I2 124 c (N c)) := fun q p s => by
      by_cases e : q = 124
      · rw [e, up2_upN, h3, hN]
        exact congrFun upN_back p
      · rw [up2_no _ _ _ _ _ _ (fun q => e q.1), he2 q p s, up2_no _ _ _ _ _ _ (fun q => e q.1)]
        exact he q p s
    have hK := fun o6 o7 cc ss => hK _ o6 o7 cc ss he3
    clear he2 h2 hB2 hB hW2 h3 he3
    generalize soonS F E (upN N c (mnS (N c + z))) x = s at hw ⊢
    by_cases hlt : w < b
    · have hle : ¬ b ≤ w := Int32.not_le.mpr hlt
      rw [pk_y hlt] at hK
      (apply WP_runI (lv := lvN) LN_ok 39 80; simp (disch := first | decide | omega) only [t174_0, t174_1, lift_c, o_aload0, o_iload1, o_virt2, rpush_n, rpush_s, o_ifne, o_inl, o_ireturn, o_iload2, o_stat3, o_stat1, o_istore, s1_0, s1_s, o_iload5, o_icge, o_getref, o_iaload, o_iload6, o_iadd, o_fsub, o_iastore, o_iload7, o_iload3, o_goto, o_iload4, o_iinc5, z0, z1, z2, z5, z8, z20, z31, z99, runI_0, runI_c, runI_n, liftI_n, liftI_y, run_0, run_c, run_n, fxn, fxi, fxr, fxl, fxl0, ↓swi_n, ↓swi_c, nck0, nck1, nck2, nck3, List.length_cons, List.length_nil, Nat.reduceAdd, Nat.reduceSub, Nat.reduceLeDiff, Nat.reduceEqDiff, Nat.reduceLT, reduceIte, ite_true, ite_false, Nat.sub_zero, Nat.zero_le, true_and, and_true, and_self, true_or, or_true, if_true, if_false, true_implies, implies_true, not_true_eq_false, not_false_eq_true, false_implies, forall_const, ne_eq, or_self, and_false, false_and, Lt, Le, Eq', Cp, In, nI_add, nI_mul, nI_sub, nI_sub1, Neg0, bI_eq0, bI_eq1, bI_01, bft, up2_eq, up2_no, Bool.true_eq_false, Bool.false_eq_true, eq_self, m1_ne, m1_ne2, m1_lt, m1_le, lt_m1, m1_le2, bI_t, bI_f, LM_all hF, LN_all hF, FMu hF, hd0, hw, hle, h20, mn_y hlt])
      exact hK _ _ _ _
    · have hle : b ≤ w := Int32.not_lt.mp hlt
      rw [pk_n hlt] at hK
      (apply WP_runI (lv := lvN) LN_ok 39 80; simp (disch := first | decide | omega) only [t174_0, t174_1, lift_c, o_aload0, o_iload1, o_virt2, rpush_n, rpush_s, o_ifne, o_inl, o_ireturn, o_iload2, o_stat3, o_stat1, o_istore, s1_0, s1_s, o_iload5, o_icge, o_getref, o_iaload, o_iload6, o_iadd, o_fsub, o_iastore, o_iload7, o_iload3, o_goto, o_iload4, o_iinc5, z0, z1, z2, z5, z8, z20, z31, z99, runI_0, runI_c, runI_n, liftI_n, liftI_y, run_0, run_c, run_n, fxn, fxi, fxr, fxl, fxl0, ↓swi_n, ↓swi_c, nck0, nck1, nck2, nck3, List.length_cons, List.length_nil, Nat.reduceAdd, Nat.reduceSub, Nat.reduceLeDiff, Nat.reduceEqDiff, Nat.reduceLT, reduceIte, ite_true, ite_false, Nat.sub_zero, Nat.zero_le, true_and, and_true, and_self, true_or, or_true, if_true, if_false, true_implies, implies_true, not_true_eq_false, not_false_eq_true, false_implies, forall_const, ne_eq, or_self, and_false, false_and, Lt, Le, Eq', Cp, In, nI_add, nI_mul, nI_sub, nI_sub1, Neg0, bI_eq0, bI_eq1, bI_01, bft, up2_eq, up2_no, Bool.true_eq_false, Bool.false_eq_true, eq_self, m1_ne, m1_ne2, m1_lt, m1_le, lt_m1, m1_le2, bI_t, bI_f, LM_all hF, LN_all hF, FMu hF, hd0, hw, hle, h20, mn_n hlt])
      exact hK _ _ _ _
  unfold mnS at run1
  clear hu2 hB2 hK
  (apply WP_runI (lv := lvN) LN_ok 999 80; simp (disch := first | decide | omega) only [t174_0, t174_1, lift_c, o_aload0, o_iload1, o_virt2, rpush_n, rpush_s, o_ifne, o_inl, o_ireturn, o_iload2, o_stat3, o_stat1, o_istore, s1_0, s1_s, o_iload5, o_icge, o_getref, o_iaload, o_iload6, o_iadd, o_fsub, o_iastore, o_iload7, o_iload3, o_goto, o_iload4, o_iinc5, z0, z1, z2, z5, z8, z20, z31, z99, runI_0, runI_c, runI_n, liftI_n, liftI_y, run_0, run_c, run_n, fxn, fxi, fxr, fxl, fxl0, ↓swi_n, ↓swi_c, nck0, nck1, nck2, nck3, List.length_cons, List.length_nil, Nat.reduceAdd, Nat.reduceSub, Nat.reduceLeDiff, Nat.reduceEqDiff, Nat.reduceLT, reduceIte, ite_true, ite_false, Nat.sub_zero, Nat.zero_le, true_and, and_true, and_self, true_or, or_true, if_true, if_false, true_implies, implies_true, not_true_eq_false, not_false_eq_true, false_implies, forall_const, ne_eq, or_self, and_false, false_and, Lt, Le, Eq', Cp, In, nI_add, nI_mul, nI_sub, nI_sub1, Neg0, bI_eq0, bI_eq1, bI_01, bft, up2_eq, up2_no, Bool.true_eq_false, Bool.false_eq_true, eq_self, m1_ne, m1_ne2, m1_lt, m1_le, lt_m1, m1_le2, bI_t, bI_f, LM_all hF, LN_all hF, FMu hF, hd0, h1, hc2, h20])
  exact run1 _ _
theorem lead_M (hF : FM sh P) (hB : BK I F E k g r) {x z : Int32} (hd : 42 ≤ d) (hQ : ∀ I', Eo scA I I' → Q (some (.int (leadA F E (I 124) x z))) n sh I' L P) : Cl G d 174 [.ref 123, .int x, .int z] n sh I L P Q := by
  apply e174
  have hd0 : 0 < d := by omega
  have hWe := hB.we
  unfold leadA at hQ
  cases hx : isG (I 124) x with
  | false =>
    rw [hx, if_pos rfl] at hQ
    have hQ := hQ I Eo.rf
    (apply WP_runI (lv := lvN) LN_ok 999 80; simp (disch := first | decide | omega) only [t174_0, t174_1, lift_c, o_aload0, o_iload1, o_virt2, rpush_n, rpush_s, o_ifne, o_inl, o_ireturn, o_iload2, o_stat3, o_stat1, o_istore, s1_0, s1_s, o_iload5, o_icge, o_getref, o_iaload, o_iload6, o_iadd, o_fsub, o_iastore, o_iload7, o_iload3, o_goto, o_iload4, o_iinc5, z0, z1, z2, z5, z8, z20, z31, z99, runI_0, runI_c, runI_n, liftI_n, liftI_y, run_0, run_c, run_n, fxn, fxi, fxr, fxl, fxl0, ↓swi_n, ↓swi_c, nck0, nck1, nck2, nck3, List.length_cons, List.length_nil, Nat.reduceAdd, Nat.reduceSub, Nat.reduceLeDiff, Nat.reduceEqDiff, Nat.reduceLT, reduceIte, ite_true, ite_false, Nat.sub_zero, Nat.zero_le, true_and, and_true, and_self, true_or, or_true, if_true, if_false, true_implies, implies_true, not_true_eq_false, not_false_eq_true, false_implies, forall_const, ne_eq, or_self, and_false, false_and, Lt, Le, Eq', Cp, In, nI_add, nI_mul, nI_sub, nI_sub1, Neg0, bI_eq0, bI_eq1, bI_01, bft, up2_eq, up2_no, Bool.true_eq_false, Bool.false_eq_true, eq_self, m1_ne, m1_ne2, m1_lt, m1_le, lt_m1, m1_le2, bI_t, bI_f, LM_all hF, LN_all hF, FMu hF, hd0, hWe, hx])
    exact hQ
  | true =>
    cases hz : inR z 1 99 with
    | false =>
      have hz2 : decide (nI 1 ≤ z ∧ z ≤ nI 99) = false := hz
      rw [hx, hz, if_neg (by decide), if_pos rfl] at hQ
      have hQ := hQ I Eo.rf
      (apply WP_runI (lv := lvN) LN_ok 999 80; simp (disch := first | decide | omega) only [t174_0, t174_1, lift_c, o_aload0, o_iload1, o_virt2, rpush_n, rpush_s, o_ifne, o_inl, o_ireturn, o_iload2, o_stat3, o_stat1, o_istore, s1_0, s1_s, o_iload5, o_icge, o_getref, o_iaload, o_iload6, o_iadd, o_fsub, o_iastore, o_iload7, o_iload3, o_goto, o_iload4, o_iinc5, z0, z1, z2, z5, z8, z20, z31, z99, runI_0, runI_c, runI_n, liftI_n, liftI_y, run_0, run_c, run_n, fxn, fxi, fxr, fxl, fxl0, ↓swi_n, ↓swi_c, nck0, nck1, nck2, nck3, List.length_cons, List.length_nil, Nat.reduceAdd, Nat.reduceSub, Nat.reduceLeDiff, Nat.reduceEqDiff, Nat.reduceLT, reduceIte, ite_true, ite_false, Nat.sub_zero, Nat.zero_le, true_and, and_true, and_self, true_or, or_true, if_true, if_false, true_implies, implies_true, not_true_eq_false, not_false_eq_true, false_implies, forall_const, ne_eq, or_self, and_false, false_and, Lt, Le, Eq', Cp, In, nI_add, nI_mul, nI_sub, nI_sub1, Neg0, bI_eq0, bI_eq1, bI_01, bft, up2_eq, up2_no, Bool.true_eq_false, Bool.false_eq_true, eq_self, m1_ne, m1_ne2, m1_lt, m1_le, lt_m1, m1_le2, bI_t, bI_f, LM_all hF, LN_all hF, FMu hF, hd0, hWe, hx, hz2])
      exact hQ
    | true =>
      have hz2 : decide (nI 1 ≤ z ∧ z ≤ nI 99) = true := hz
      rw [hx, hz, if_neg (by decide), if_neg (by decide)] at hQ
      obtain ⟨m, -, hm, ez⟩ := inR_of (by omega) (by omega) hz
      generalize hN : I 124 = N at hQ
      have loop : ∀ l c I1 a b o6 o7 cc ss, c + l = 8 → Eo scA I I1 → ldL F E N x z c = (a, b) → WP G 174 d Q 39 [some (.ref 123), some (.int x), some (.int z), some (.int b), some (.int a), some (.int (nI c)), o6, o7] [] cc ss n sh I1 L P := by
        intro l
        induction l with
        | zero =>
          intro c I1 a b o6 o7 cc ss h he hq
          have hc : 8 ≤ c := by omega
          have hQ := hQ I1 he
          rw [show ldL F E N x z 8 = (a, b) by rw [← hq, show c = 8 by omega]] at hQ
          (apply WP_runI (lv := lvN) LN_ok 39 80; simp (disch := first | decide | omega) only [t174_0, t174_1, lift_c, o_aload0, o_iload1, o_virt2, rpush_n, rpush_s, o_ifne, o_inl, o_ireturn, o_iload2, o_stat3, o_stat1, o_istore, s1_0, s1_s, o_iload5, o_icge, o_getref, o_iaload, o_iload6, o_iadd, o_fsub, o_iastore, o_iload7, o_iload3, o_goto, o_iload4, o_iinc5, z0, z1, z2, z5, z8, z20, z31, z99, runI_0, runI_c, runI_n, liftI_n, liftI_y, run_0, run_c, run_n, fxn, fxi, fxr, fxl, fxl0, ↓swi_n, ↓swi_c, nck0, nck1, nck2, nck3, List.length_cons, List.length_nil, Nat.reduceAdd, Nat.reduceSub, Nat.reduceLeDiff, Nat.reduceEqDiff, Nat.reduceLT, reduceIte, ite_true, ite_false, Nat.sub_zero, Nat.zero_le, true_and, and_true, and_self, true_or, or_true, if_true, if_false, true_implies, implies_true, not_true_eq_false, not_false_eq_true, false_implies, forall_const, ne_eq, or_self, and_false, false_and, Lt, Le, Eq', Cp, In, nI_add, nI_mul, nI_sub, nI_sub1, Neg0, bI_eq0, bI_eq1, bI_01, bft, up2_eq, up2_no, Bool.true_eq_false, Bool.false_eq_true, eq_self, m1_ne, m1_ne2, m1_lt, m1_le, lt_m1, m1_le2, bI_t, bI_f, LM_all hF, LN_all hF, FMu hF, hd0, hc])
          exact hQ
        | succ l ih =>
          intro c I1 a b o6 o7 cc ss h he hq
          generalize hw : lateS (soonS F E (upN N c (mnS (N c + z))) x) = w
          refine lead_S hF hB hN (by omega) hm ez (by omega) he hw fun I2 o6 o7 cc ss he2 => ?_
          exact ih (c + 1) I2 _ _ o6 o7 cc ss (by omega) he2 (ldL_s hq hw)
      rw [hN] at hWe hx
      (apply WP_runI (lv := lvN) LN_ok 39 80; simp (disch := first | decide | omega) only [t174_0, t174_1, lift_c, o_aload0, o_iload1, o_virt2, rpush_n, rpush_s, o_ifne, o_inl, o_ireturn, o_iload2, o_stat3, o_stat1, o_istore, s1_0, s1_s, o_iload5, o_icge, o_getref, o_iaload, o_iload6, o_iadd, o_fsub, o_iastore, o_iload7, o_iload3, o_goto, o_iload4, o_iinc5, z0, z1, z2, z5, z8, z20, z31, z99, runI_0, runI_c, runI_n, liftI_n, liftI_y, run_0, run_c, run_n, fxn, fxi, fxr, fxl, fxl0, ↓swi_n, ↓swi_c, nck0, nck1, nck2, nck3, List.length_cons, List.length_nil, Nat.reduceAdd, Nat.reduceSub, Nat.reduceLeDiff, Nat.reduceEqDiff, Nat.reduceLT, reduceIte, ite_true, ite_false, Nat.sub_zero, Nat.zero_le, true_and, and_true, and_self, true_or, or_true, if_true, if_false, true_implies, implies_true, not_true_eq_false, not_false_eq_true, false_implies, forall_const, ne_eq, or_self, and_false, false_and, Lt, Le, Eq', Cp, In, nI_add, nI_mul, nI_sub, nI_sub1, Neg0, bI_eq0, bI_eq1, bI_01, bft, up2_eq, up2_no, Bool.true_eq_false, Bool.false_eq_true, eq_self, m1_ne, m1_ne2, m1_lt, m1_le, lt_m1, m1_le2, bI_t, bI_f, LM_all hF, LN_all hF, FMu hF, hd0, hWe, hx, hz2, hN])
      refine soon_M hF hB (by omega) fun I2 he2 => ?_
      rw [hN]
      have loop := fun cc ss => loop 8 0 I2 (-nI 5) _ none none cc ss (by omega) he2 (by rw [ldL])
      generalize soonS F E N x = u at loop ⊢
      (apply WP_runI (lv := lvN) LN_ok 39 80; simp (disch := first | decide | omega) only [t174_0, t174_1, lift_c, o_aload0, o_iload1, o_virt2, rpush_n, rpush_s, o_ifne, o_inl, o_ireturn, o_iload2, o_stat3, o_stat1, o_istore, s1_0, s1_s, o_iload5, o_icge, o_getref, o_iaload, o_iload6, o_iadd, o_fsub, o_iastore, o_iload7, o_iload3, o_goto, o_iload4, o_iinc5, z0, z1, z2, z5, z8, z20, z31, z99, runI_0, runI_c, runI_n, liftI_n, liftI_y, run_0, run_c, run_n, fxn, fxi, fxr, fxl, fxl0, ↓swi_n, ↓swi_c, nck0, nck1, nck2, nck3, List.length_cons, List.length_nil, Nat.reduceAdd, Nat.reduceSub, Nat.reduceLeDiff, Nat.reduceEqDiff, Nat.reduceLT, reduceIte, ite_true, ite_false, Nat.sub_zero, Nat.zero_le, true_and, and_true, and_self, true_or, or_true, if_true, if_false, true_implies, implies_true, not_true_eq_false, not_false_eq_true, false_implies, forall_const, ne_eq, or_self, and_false, false_and, Lt, Le, Eq', Cp, In, nI_add, nI_mul, nI_sub, nI_sub1, Neg0, bI_eq0, bI_eq1, bI_01, bft, up2_eq, up2_no, Bool.true_eq_false, Bool.false_eq_true, eq_self, m1_ne, m1_ne2, m1_lt, m1_le, lt_m1, m1_le2, bI_t, bI_f, LM_all hF, LN_all hF, FMu hF, hd0, z5])
      exact loop _ _
end
