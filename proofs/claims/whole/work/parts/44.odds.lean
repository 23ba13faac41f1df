/-! ### the reference: odds, ends -/
theorem onA_0 {F : TF} {E : Nat → Int32} {N : TN} {m : Nat} (hm : m ≤ 60) : onA F E N (nI m) (nI 0) = openS (hoursS F E N m) := by
  unfold onA
  rw [if_neg (show ¬ okW N (nI 0) = false by unfold okW; rw [decide_eq_true rfl]; simp), if_neg (by
    unfold inR
    rw [decide_eq_true ⟨by rw [Le _ _ (by omega) (by omega)]; omega, by rw [Le _ _ (by omega) (by omega)]; omega⟩]
    decide), Cp _ (by omega)]
  exact if_pos rfl
section
variable {G : GE} {d n : Nat} {sh : TS} {I : TI} {L : TL} {P : TP} {Q : TQ} {F : TF} {E : Nat → Int32} {k g r : Nat}
theorem odds_M (hF : FM sh P) (hB : BK I F E k g r) {x y z : Int32} (hd : 44 ≤ d) (hQ : ∀ I', Eo scA I I' → Q (some (.long (oddsA F E (I 124) x y z))) n sh I' L P) : Cl G d 181 [.ref 123, .int x, .int y, .int z] n sh I L P Q := by
  apply e181
  have hd0 : 0 < d := by omega
  have hWe := hB.we
  unfold oddsA at hQ
  cases hx : isG (I 124) x with
  | false =>
    rw [hx, if_pos (show (false && (inR y 0 20 && inR z 0 1)) = false from rfl)] at hQ
    have hQ := hQ I Eo.rf
    (apply WP_runI (lv := lvN) LN_ok 37 80; simp (disch := first | decide | omega) only [t181_0, t181_1, lift_c, o_aload0, o_iload1, o_virt2, rpush_n, rpush_s, o_ifeq, o_iload2, o_inl, o_stat3, o_iload3, o_ifne, o_lreturn, o_istore, s1_0, s1_s, o_iload5, o_icge, o_getref, o_iaload, o_iload6, o_iadd, o_fsub, o_iastore, o_iload4, o_virt3, o_ishr, o_iand, o_iinc5, o_goto, o_i2l, z0, z1, z2, z8, z9, z20, z31, z99, runI_0, runI_c, runI_n, liftI_n, liftI_y, run_0, run_c, run_n, fxn, fxi, fxr, fxl, fxl0, ↓swi_n, ↓swi_c, nck0, nck1, nck2, nck3, List.length_cons, List.length_nil, Nat.reduceAdd, Nat.reduceSub, Nat.reduceLeDiff, Nat.reduceEqDiff, Nat.reduceLT, reduceIte, ite_true, ite_false, Nat.sub_zero, Nat.zero_le, true_and, and_true, and_self, true_or, or_true, if_true, if_false, true_implies, implies_true, not_true_eq_false, not_false_eq_true, false_implies, forall_const, ne_eq, or_self, and_false, false_and, Lt, Le, Eq', Cp, In, nI_add, nI_mul, nI_sub, nI_sub1, Neg0, bI_eq0, bI_eq1, bI_01, bft, up2_eq, up2_no, Bool.true_eq_false, Bool.false_eq_true, eq_self, m1_ne, m1_ne2, m1_lt, m1_le, lt_m1, m1_le2, bI_t, bI_f, LM_all hF, LN_all hF, FMu hF, hd0, hWe, hx])
    exact hQ
  | true =>
    cases hy : inR y 0 20 with
    | false =>
      have hy2 : decide (nI 0 ≤ y ∧ y ≤ nI 20) = false := hy
      rw [hx, hy, if_pos (show (true && (false && inR z 0 1)) = false from rfl)] at hQ
      have hQ := hQ I Eo.rf
      (apply WP_runI (lv := lvN) LN_ok 37 80; simp (disch := first | decide | omega) only [t181_0, t181_1, lift_c, o_aload0, o_iload1, o_virt2, rpush_n, rpush_s, o_ifeq, o_iload2, o_inl, o_stat3, o_iload3, o_ifne, o_lreturn, o_istore, s1_0, s1_s, o_iload5, o_icge, o_getref, o_iaload, o_iload6, o_iadd, o_fsub, o_iastore, o_iload4, o_virt3, o_ishr, o_iand, o_iinc5, o_goto, o_i2l, z0, z1, z2, z8, z9, z20, z31, z99, runI_0, runI_c, runI_n, liftI_n, liftI_y, run_0, run_c, run_n, fxn, fxi, fxr, fxl, fxl0, ↓swi_n, ↓swi_c, nck0, nck1, nck2, nck3, List.length_cons, List.length_nil, Nat.reduceAdd, Nat.reduceSub, Nat.reduceLeDiff, Nat.reduceEqDiff, Nat.reduceLT, reduceIte, ite_true, ite_false, Nat.sub_zero, Nat.zero_le, true_and, and_true, and_self, true_or, or_true, if_true, if_false, true_implies, implies_true, not_true_eq_false, not_false_eq_true, false_implies, forall_const, ne_eq, or_self, and_false, false_and, Lt, Le, Eq', Cp, In, nI_add, nI_mul, nI_sub, nI_sub1, Neg0, bI_eq0, bI_eq1, bI_01, bft, up2_eq, up2_no, Bool.true_eq_false, Bool.false_eq_true, eq_self, m1_ne, m1_ne2, m1_lt, m1_le, lt_m1, m1_le2, bI_t, bI_f, LM_all hF, LN_all hF, FMu hF, hd0, hWe, hx, hy2])
      exact hQ
    | true =>
      have hy2 : decide (nI 0 ≤ y ∧ y ≤ nI 20) = true := hy
      cases hz : inR z 0 1 with
      | false =>
        have hz2 : decide (nI 0 ≤ z ∧ z ≤ nI 1) = false := hz
        rw [hx, hy, hz, if_pos (show (true && (true && false)) = false from rfl)] at hQ
        have hQ := hQ I Eo.rf
        (apply WP_runI (lv := lvN) LN_ok 37 80; simp (disch := first | decide | omega) only [t181_0, t181_1, lift_c, o_aload0, o_iload1, o_virt2, rpush_n, rpush_s, o_ifeq, o_iload2, o_inl, o_stat3, o_iload3, o_ifne, o_lreturn, o_istore, s1_0, s1_s, o_iload5, o_icge, o_getref, o_iaload, o_iload6, o_iadd, o_fsub, o_iastore, o_iload4, o_virt3, o_ishr, o_iand, o_iinc5, o_goto, o_i2l, z0, z1, z2, z8, z9, z20, z31, z99, runI_0, runI_c, runI_n, liftI_n, liftI_y, run_0, run_c, run_n, fxn, fxi, fxr, fxl, fxl0, ↓swi_n, ↓swi_c, nck0, nck1, nck2, nck3, List.length_cons, List.length_nil, Nat.reduceAdd, Nat.reduceSub, Nat.reduceLeDiff, Nat.reduceEqDiff, Nat.reduceLT, reduceIte, ite_true, ite_false, Nat.sub_zero, Nat.zero_le, true_and, and_true, and_self, true_or, or_true, if_true, if_false, true_implies, implies_true, not_true_eq_false, not_false_eq_true, false_implies, forall_const, ne_eq, or_self, and_false, false_and, Lt, Le, Eq', Cp, In, nI_add, nI_mul, nI_sub, nI_sub1, Neg0, bI_eq0, bI_eq1, bI_01, bft, up2_eq, up2_no, Bool.true_eq_false, Bool.false_eq_true, eq_self, m1_ne, m1_ne2, m1_lt, m1_le, lt_m1, m1_le2, bI_t, bI_f, LM_all hF, LN_all hF, FMu hF, hd0, hWe, hx, hy2, hz2])
        exact hQ
      | true =>
        have hz2 : decide (nI 0 ≤ z ∧ z ≤ nI 1) = true := hz
        rw [hx, hy, hz, if_neg (by decide)] at hQ
        obtain ⟨m, -, hm, ey⟩ := inR_of (by omega) (by omega) hy
        rw [show y.toNatClampNeg = m by rw [ey, Cp _ (by omega)]] at hQ
        generalize hN : I 124 = N at hQ
        have hW := hB.1
        rw [hN] at hW hWe hx
        have h20 : nle 20 124 := by show 20 ≤ 124; decide
        have loop : ∀ l c I1 o6 cc ss, c + l = 8 → Eo scA I I1 → WP G 181 d Q 37 [some (.ref 123), some (.int x), some (.int y), some (.int z), some (.int (nI (odC F E N m x c))), some (.int (nI c)), o6] [] cc ss n sh I1 L P := by
          intro l
          induction l with
          | zero =>
            intro c I1 o6 cc ss h he
            have hc : c = 8 := by omega
            subst hc
            have hl := odC_le F E N m x 8
            have hQ := hQ I1 he
            generalize odC F E N m x 8 = a at hl hQ ⊢
            (apply WP_runI (lv := lvN) LN_ok 37 80; simp (disch := first | decide | omega) only [t181_0, t181_1, lift_c, o_aload0, o_iload1, o_virt2, rpush_n, rpush_s, o_ifeq, o_iload2, o_inl, o_stat3, o_iload3, o_ifne, o_lreturn, o_istore, s1_0, s1_s, o_iload5, o_icge, o_getref, o_iaload, o_iload6, o_iadd, o_fsub, o_iastore, o_iload4, o_virt3, o_ishr, o_iand, o_iinc5, o_goto, o_i2l, z0, z1, z2, z8, z9, z20, z31, z99, runI_0, runI_c, runI_n, liftI_n, liftI_y, run_0, run_c, run_n, fxn, fxi, fxr, fxl, fxl0, ↓swi_n, ↓swi_c, nck0, nck1, nck2, nck3, List.length_cons, List.length_nil, Nat.reduceAdd, Nat.reduceSub, Nat.reduceLeDiff, Nat.reduceEqDiff, Nat.reduceLT, reduceIte, ite_true, ite_false, Nat.sub_zero, Nat.zero_le, true_and, and_true, and_self, true_or, or_true, if_true, if_false, true_implies, implies_true, not_true_eq_false, not_false_eq_true, false_implies, forall_const, ne_eq, or_self, and_false, false_and, Lt, Le, Eq', Cp, In, nI_add, nI_mul, nI_sub, nI_sub1, Neg0, bI_eq0, bI_eq1, bI_01, bft, up2_eq, up2_no, Bool.true_eq_false, Bool.false_eq_true, eq_self, m1_ne, m1_ne2, m1_lt, m1_le, lt_m1, m1_le2, bI_t, bI_f, LM_all hF, LN_all hF, FMu hF, hd0, y8, nL_of, Nat.le_refl])
            refine fraction_M hF (by omega) ?_
            generalize frS a z = v at hQ ⊢
            (apply WP_runI (lv := lvN) LN_ok 37 80; simp (disch := first | decide | omega) only [t181_0, t181_1, lift_c, o_aload0, o_iload1, o_virt2, rpush_n, rpush_s, o_ifeq, o_iload2, o_inl, o_stat3, o_iload3, o_ifne, o_lreturn, o_istore, s1_0, s1_s, o_iload5, o_icge, o_getref, o_iaload, o_iload6, o_iadd, o_fsub, o_iastore, o_iload4, o_virt3, o_ishr, o_iand, o_iinc5, o_goto, o_i2l, z0, z1, z2, z8, z9, z20, z31, z99, runI_0, runI_c, runI_n, liftI_n, liftI_y, run_0, run_c, run_n, fxn, fxi, fxr, fxl, fxl0, ↓swi_n, ↓swi_c, nck0, nck1, nck2, nck3, List.length_cons, List.length_nil, Nat.reduceAdd, Nat.reduceSub, Nat.reduceLeDiff, Nat.reduceEqDiff, Nat.reduceLT, reduceIte, ite_true, ite_false, Nat.sub_zero, Nat.zero_le, true_and, and_true, and_self, true_or, or_true, if_true, if_false, true_implies, implies_true, not_true_eq_false, not_false_eq_true, false_implies, forall_const, ne_eq, or_self, and_false, false_and, Lt, Le, Eq', Cp, In, nI_add, nI_mul, nI_sub, nI_sub1, Neg0, bI_eq0, bI_eq1, bI_01, bft, up2_eq, up2_no, Bool.true_eq_false, Bool.false_eq_true, eq_self, m1_ne, m1_ne2, m1_lt, m1_le, lt_m1, m1_le2, bI_t, bI_f, LM_all hF, LN_all hF, FMu hF, hd0])
            exact hQ
          | succ l ih =>
            intro c I1 o6 cc ss h he
            have hc : c < 8 := by omega
            have hc2 : ¬ 8 ≤ c := by omega
            have h1 : I1 124 = N := (row_eo he 124 scA_124).trans hN
            obtain ⟨u, hu, hu2⟩ := hW.grain hc
            have hW2 : WF (upN N c (mnS (N c + nI 9))) k g r := by
              obtain ⟨v, hv, e⟩ := mnS_ok (m := 9) hu (by omega)
              rw [hu2, e]
              exact hW.grain_up hc hv
            have hB2 : BK (up2 I1 124 c (mnS (N c + nI 9))) F E k g r := by
              refine hB.eo ((he.mono fun _ _ => scA_W).up (Or.inr rfl) _) ?_
              rw [up2_upN, h1]
              exact hW2
            have h2 : (up2 I1 124 c (mnS (N c + nI 9))) 124 = upN N c (mnS (N c + nI 9)) := by
              rw [up2_upN, h1]
            have hl := odC_le F E N m x c
            have run1 : ∀ cc ss, Cl G (d - 1) 169 [.ref 123, .int y, .int (nI 0)] n sh (up2 I1 124 c (mnS (N c + nI 9))) L P (fun v n' sh' I' L' P' => WP G 181 d Q 78 [some (.ref 123), some (.int x), some (.int y), some (.int z), some (.int (nI (odC F E N m x c))), some (.int (nI c)), some (.int (N c))] (rpush v [.int (nI (odC F E N m x c))]) cc ss n' sh' I' L' P') := by
              intro cc ss
              refine on_M hF hB2 (by omega) fun I2 he2 => ?_
              rw [h2, ey, onA_0 (by omega)]
              have h3 : I2 124 = upN N c (mnS (N c + nI 9)) := (row_eo he2 124 scA_124).trans h2
              have he3 : Eo scA I (up2 I2 124 c (N c)) := fun q p s => by
                by_cases e : q = 124
                · rw [e, up2_upN, h3, hN]
                  exact congrFun upN_back p
                · rw [up2_no _ _ _ _ _ _ (fun q => e q.1), he2 q p s, up2_no _ _ _ _ _ _ (fun q => e q.1)]
                  exact he q p s
              have ih := fun cc ss => ih (c + 1) _ (some (.int (N c))) cc ss (by omega) he3
              rw [odC, ey] at ih
              clear he2 h2 hB2 hB hW2 h3 he3 hQ
              generalize openS (hoursS F E (upN N c (mnS (N c + nI 9))) m) = o at ih ⊢
              generalize odC F E N m x c = a at ih hl ⊢
              by_cases hb : bt o x = true
              · have hb' : (o >>> (x &&& nI 31)) &&& nI 1 = nI 1 := of_decide_eq_true hb
                rw [if_pos hb] at ih
                (apply WP_runI (lv := lvN) LN_ok 37 80; simp (disch := first | decide | omega) only [t181_0, t181_1, lift_c, o_aload0, o_iload1, o_virt2, rpush_n, rpush_s, o_ifeq, o_iload2, o_inl, o_stat3, o_iload3, o_ifne, o_lreturn, o_istore, s1_0, s1_s, o_iload5, o_icge, o_getref, o_iaload, o_iload6, o_iadd, o_fsub, o_iastore, o_iload4, o_virt3, o_ishr, o_iand, o_iinc5, o_goto, o_i2l, z0, z1, z2, z8, z9, z20, z31, z99, runI_0, runI_c, runI_n, liftI_n, liftI_y, run_0, run_c, run_n, fxn, fxi, fxr, fxl, fxl0, ↓swi_n, ↓swi_c, nck0, nck1, nck2, nck3, List.length_cons, List.length_nil, Nat.reduceAdd, Nat.reduceSub, Nat.reduceLeDiff, Nat.reduceEqDiff, Nat.reduceLT, reduceIte, ite_true, ite_false, Nat.sub_zero, Nat.zero_le, true_and, and_true, and_self, true_or, or_true, if_true, if_false, true_implies, implies_true, not_true_eq_false, not_false_eq_true, false_implies, forall_const, ne_eq, or_self, and_false, false_and, Lt, Le, Eq', Cp, In, nI_add, nI_mul, nI_sub, nI_sub1, Neg0, bI_eq0, bI_eq1, bI_01, bft, up2_eq, up2_no, Bool.true_eq_false, Bool.false_eq_true, eq_self, m1_ne, m1_ne2, m1_lt, m1_le, lt_m1, m1_le2, bI_t, bI_f, LM_all hF, LN_all hF, FMu hF, hd0, hb', h20])
                exact ih _ _
              · have hb' : (o >>> (x &&& nI 31)) &&& nI 1 = nI 0 := (and1 _).resolve_left fun q => hb (decide_eq_true q)
                rw [if_neg hb] at ih
                (apply WP_runI (lv := lvN) LN_ok 37 80; simp (disch := first | decide | omega) only [t181_0, t181_1, lift_c, o_aload0, o_iload1, o_virt2, rpush_n, rpush_s, o_ifeq, o_iload2, o_inl, o_stat3, o_iload3, o_ifne, o_lreturn, o_istore, s1_0, s1_s, o_iload5, o_icge, o_getref, o_iaload, o_iload6, o_iadd, o_fsub, o_iastore, o_iload4, o_virt3, o_ishr, o_iand, o_iinc5, o_goto, o_i2l, z0, z1, z2, z8, z9, z20, z31, z99, runI_0, runI_c, runI_n, liftI_n, liftI_y, run_0, run_c, run_n, fxn, fxi, fxr, fxl, fxl0, ↓swi_n, ↓swi_c, nck0, nck1, nck2, nck3, List.length_cons, List.length_nil, Nat.reduceAdd, Nat.reduceSub, Nat.reduceLeDiff, Nat.reduceEqDiff, Nat.reduceLT, reduceIte, ite_true, ite_false, Nat.sub_zero, Nat.zero_le, true_and, and_true, and_self, true_or, or_true, if_true, if_false, true_implies, implies_true, not_true_eq_false, not_false_eq_true, false_implies, forall_const, ne_eq, or_self, and_false, false_and, Lt, Le, Eq', Cp, In, nI_add, nI_mul, nI_sub, nI_sub1, Neg0, bI_eq0, bI_eq1, bI_01, bft, up2_eq, up2_no, Bool.true_eq_false, Bool.false_eq_true, eq_self, m1_ne, m1_ne2, m1_lt, m1_le, lt_m1, m1_le2, bI_t, bI_f, LM_all hF, LN_all hF, FMu hF, hd0, hb', h20])
                exact ih _ _
            unfold mnS at run1
            clear hu2 hB2 ih hQ
            generalize odC F E N m x c = a at run1 hl ⊢
            (apply WP_runI (lv := lvN) LN_ok 999 80; simp (disch := first | decide | omega) only [t181_0, t181_1, lift_c, o_aload0, o_iload1, o_virt2, rpush_n, rpush_s, o_ifeq, o_iload2, o_inl, o_stat3, o_iload3, o_ifne, o_lreturn, o_istore, s1_0, s1_s, o_iload5, o_icge, o_getref, o_iaload, o_iload6, o_iadd, o_fsub, o_iastore, o_iload4, o_virt3, o_ishr, o_iand, o_iinc5, o_goto, o_i2l, z0, z1, z2, z8, z9, z20, z31, z99, runI_0, runI_c, runI_n, liftI_n, liftI_y, run_0, run_c, run_n, fxn, fxi, fxr, fxl, fxl0, ↓swi_n, ↓swi_c, nck0, nck1, nck2, nck3, List.length_cons, List.length_nil, Nat.reduceAdd, Nat.reduceSub, Nat.reduceLeDiff, Nat.reduceEqDiff, Nat.reduceLT, reduceIte, ite_true, ite_false, Nat.sub_zero, Nat.zero_le, true_and, and_true, and_self, true_or, or_true, if_true, if_false, true_implies, implies_true, not_true_eq_false, not_false_eq_true, false_implies, forall_const, ne_eq, or_self, and_false, false_and, Lt, Le, Eq', Cp, In, nI_add, nI_mul, nI_sub, nI_sub1, Neg0, bI_eq0, bI_eq1, bI_01, bft, up2_eq, up2_no, Bool.true_eq_false, Bool.false_eq_true, eq_self, m1_ne, m1_ne2, m1_lt, m1_le, lt_m1, m1_le2, bI_t, bI_f, LM_all hF, LN_all hF, FMu hF, hd0, h1, hc2, h20])
            exact run1 _ _
        have loop := fun cc ss => loop 8 0 I none cc ss (by omega) Eo.rf
        rw [odC] at loop
        (apply WP_runI (lv := lvN) LN_ok 37 80; simp (disch := first | decide | omega) only [t181_0, t181_1, lift_c, o_aload0, o_iload1, o_virt2, rpush_n, rpush_s, o_ifeq, o_iload2, o_inl, o_stat3, o_iload3, o_ifne, o_lreturn, o_istore, s1_0, s1_s, o_iload5, o_icge, o_getref, o_iaload, o_iload6, o_iadd, o_fsub, o_iastore, o_iload4, o_virt3, o_ishr, o_iand, o_iinc5, o_goto, o_i2l, z0, z1, z2, z8, z9, z20, z31, z99, runI_0, runI_c, runI_n, liftI_n, liftI_y, run_0, run_c, run_n, fxn, fxi, fxr, fxl, fxl0, ↓swi_n, ↓swi_c, nck0, nck1, nck2, nck3, List.length_cons, List.length_nil, Nat.reduceAdd, Nat.reduceSub, Nat.reduceLeDiff, Nat.reduceEqDiff, Nat.reduceLT, reduceIte, ite_true, ite_false, Nat.sub_zero, Nat.zero_le, true_and, and_true, and_self, true_or, or_true, if_true, if_false, true_implies, implies_true, not_true_eq_false, not_false_eq_true, false_implies, forall_const, ne_eq, or_self, and_false, false_and, Lt, Le, Eq', Cp, In, nI_add, nI_mul, nI_sub, nI_sub1, Neg0, bI_eq0, bI_eq1, bI_01, bft, up2_eq, up2_no, Bool.true_eq_false, Bool.false_eq_true, eq_self, m1_ne, m1_ne2, m1_lt, m1_le, lt_m1, m1_le2, bI_t, bI_f, LM_all hF, LN_all hF, FMu hF, hd0, hWe, hx, hy2, hz2, hN])
        exact loop _ _
def plS (F : TF) (E : Nat → Int32) (N : TN) : Nat → TN
  | 0 => N
  | j + 1 => if N (101 + 2 * j) = nI 0 then hourS F E (plS F E N j) else
      if N (101 + 2 * j) = nI 1 then upN (plS F E N j) (N (102 + 2 * j)).toNatClampNeg (mnS (plS F E N j (N (102 + 2 * j)).toNatClampNeg + nI 9)) else
      upN (plS F E N j) (26 + 9 * (N (102 + 2 * j)).toNatClampNeg + 4) (if N (101 + 2 * j) = nI 2 then nI 1 else nI 0)
def endsA (F : TF) (E : Nat → Int32) (N : TN) (x : Int32) : Int32 := if inR x 0 1 = false then -nI 1 else if x = nI 0 then openS (plS F E N (N 100).toNatClampNeg) else grnS (plS F E N (N 100).toNatClampNeg)
theorem hour_83 {F : TF} {E : Nat → Int32} (he : ∀ u, eOK (E u)) {N : TN} {k g r : Nat} (hW : WF N k g r) {j : Nat} (hj : 83 ≤ j) : hourS F E N j = N j := hours_83 he hW hj 1
theorem ends_M (hF : FM sh P) (hB : BK I F E k g r) (hS : WS (I 124) k) {x : Int32} (hd : 42 ≤ d) (hQ : ∀ I', Eo scA I I' → Q (some (.int (endsA F E (I 124) x))) n sh I' L P) : Cl G d 184 [.ref 123, .int x] n sh I L P Q := by
  apply e184
  have hd0 : 0 < d := by omega
  unfold endsA at hQ
  cases hx : inR x 0 1 with
  | false =>
    have hx2 : decide (nI 0 ≤ x ∧ x ≤ nI 1) = false := hx
    rw [hx, if_pos rfl] at hQ
    have hQ := hQ I Eo.rf
    (apply WP_runI (lv := lvN) LN_ok 18 80; simp (disch := first | decide | omega) only [t184_0, t184_1, t184_2, lift_c, o_iload1, o_inl, o_stat3, rpush_n, rpush_s, o_ifne, o_ireturn, o_aload0, o_virt2, o_istore, s1_0, s1_s, o_iload2, o_getref, o_iaload, o_icge, o_imul, o_iadd, o_iload3, o_virt1, o_goto, o_icne, o_iload4, o_fsub, o_iastore, o_virt4, o_popi, o_popr, o_iinc2, z0, z1, z2, z4, z9, z20, z31, z99, z100, z101, z102, runI_0, runI_c, runI_n, liftI_n, liftI_y, run_0, run_c, run_n, fxn, fxi, fxr, fxl, fxl0, ↓swi_n, ↓swi_c, nck0, nck1, nck2, nck3, List.length_cons, List.length_nil, Nat.reduceAdd, Nat.reduceSub, Nat.reduceLeDiff, Nat.reduceEqDiff, Nat.reduceLT, reduceIte, ite_true, ite_false, Nat.sub_zero, Nat.zero_le, true_and, and_true, and_self, true_or, or_true, if_true, if_false, true_implies, implies_true, not_true_eq_false, not_false_eq_true, false_implies, forall_const, ne_eq, or_self, and_false, false_and, Lt, Le, Eq', Cp, In, nI_add, nI_mul, nI_sub, nI_sub1, Neg0, bI_eq0, bI_eq1, bI_01, bft, up2_eq, up2_no, Bool.true_eq_false, Bool.false_eq_true, eq_self, m1_ne, m1_ne2, m1_lt, m1_le, lt_m1, m1_le2, bI_t, bI_f, LM_all hF, LN_all hF, FMu hF, hd0, hx2])
    exact hQ
  | true =>
    have hx2 : decide (nI 0 ≤ x ∧ x ≤ nI 1) = true := hx
    rw [hx, if_neg (by decide)] at hQ
    obtain ⟨s, hs5, hs, hrow⟩ := hS.2.1
    have h20 : nle 20 124 := by show 20 ≤ 124; decide
    have hk := hB.1.k6
    rw [hs, Cp _ (by omega)] at hQ
    generalize hN : I 124 = N at hQ hs hrow
    have loop : ∀ l j I1 M o3 o4 cc ss, j + l = s → AH I I1 M k g r → plS F E N j = M → (∀ p, 83 ≤ p → M p = N p) → WP G 184 d Q 18 [some (.ref 123), some (.int x), some (.int (nI j)), o3, o4] [] cc ss n sh I1 L P := by
      intro l
      induction l with
      | zero =>
        intro j I1 M o3 o4 cc ss h ha hM hp
        have h : j = s := by omega
        subst h
        have h124 := ha.2.1
        have hWe := ha.we
        have h100 : M 100 = nI j := (hp 100 (by omega)).trans hs
        have hQ := hQ _ ha.fin
        rw [hM] at hQ
        by_cases h0 : x = nI 0
        · rw [if_pos h0] at hQ
          (apply WP_runI (lv := lvN) LN_ok 18 80; simp (disch := first | decide | omega) only [t184_0, t184_1, t184_2, lift_c, o_iload1, o_inl, o_stat3, rpush_n, rpush_s, o_ifne, o_ireturn, o_aload0, o_virt2, o_istore, s1_0, s1_s, o_iload2, o_getref, o_iaload, o_icge, o_imul, o_iadd, o_iload3, o_virt1, o_goto, o_icne, o_iload4, o_fsub, o_iastore, o_virt4, o_popi, o_popr, o_iinc2, z0, z1, z2, z4, z9, z20, z31, z99, z100, z101, z102, runI_0, runI_c, runI_n, liftI_n, liftI_y, run_0, run_c, run_n, fxn, fxi, fxr, fxl, fxl0, ↓swi_n, ↓swi_c, nck0, nck1, nck2, nck3, List.length_cons, List.length_nil, Nat.reduceAdd, Nat.reduceSub, Nat.reduceLeDiff, Nat.reduceEqDiff, Nat.reduceLT, reduceIte, ite_true, ite_false, Nat.sub_zero, Nat.zero_le, true_and, and_true, and_self, true_or, or_true, if_true, if_false, true_implies, implies_true, not_true_eq_false, not_false_eq_true, false_implies, forall_const, ne_eq, or_self, and_false, false_and, Lt, Le, Eq', Cp, In, nI_add, nI_mul, nI_sub, nI_sub1, Neg0, bI_eq0, bI_eq1, bI_01, bft, up2_eq, up2_no, Bool.true_eq_false, Bool.false_eq_true, eq_self, m1_ne, m1_ne2, m1_lt, m1_le, lt_m1, m1_le2, bI_t, bI_f, LM_all hF, LN_all hF, FMu hF, hd0, h124, h100, hWe, h0, Nat.le_refl])
          exact hQ
        · rw [if_neg h0] at hQ
          (apply WP_runI (lv := lvN) LN_ok 18 80; simp (disch := first | decide | omega) only [t184_0, t184_1, t184_2, lift_c, o_iload1, o_inl, o_stat3, rpush_n, rpush_s, o_ifne, o_ireturn, o_aload0, o_virt2, o_istore, s1_0, s1_s, o_iload2, o_getref, o_iaload, o_icge, o_imul, o_iadd, o_iload3, o_virt1, o_goto, o_icne, o_iload4, o_fsub, o_iastore, o_virt4, o_popi, o_popr, o_iinc2, z0, z1, z2, z4, z9, z20, z31, z99, z100, z101, z102, runI_0, runI_c, runI_n, liftI_n, liftI_y, run_0, run_c, run_n, fxn, fxi, fxr, fxl, fxl0, ↓swi_n, ↓swi_c, nck0, nck1, nck2, nck3, List.length_cons, List.length_nil, Nat.reduceAdd, Nat.reduceSub, Nat.reduceLeDiff, Nat.reduceEqDiff, Nat.reduceLT, reduceIte, ite_true, ite_false, Nat.sub_zero, Nat.zero_le, true_and, and_true, and_self, true_or, or_true, if_true, if_false, true_implies, implies_true, not_true_eq_false, not_false_eq_true, false_implies, forall_const, ne_eq, or_self, and_false, false_and, Lt, Le, Eq', Cp, In, nI_add, nI_mul, nI_sub, nI_sub1, Neg0, bI_eq0, bI_eq1, bI_01, bft, up2_eq, up2_no, Bool.true_eq_false, Bool.false_eq_true, eq_self, m1_ne, m1_ne2, m1_lt, m1_le, lt_m1, m1_le2, bI_t, bI_f, LM_all hF, LN_all hF, FMu hF, hd0, h124, h100, hWe, h0, Nat.le_refl])
          exact hQ
      | succ l ih =>
        intro j I1 M o3 o4 cc ss h ha hM hp
        have hj : ¬ s ≤ j := by omega
        have h124 := ha.2.1
        have hW := ha.2.2.2.2
        have h100 : M 100 = nI s := (hp 100 (by omega)).trans hs
        obtain ⟨t, ht, et, h1, h2⟩ := hrow j (by omega)
        have et' : M (101 + 2 * j) = nI t := (hp _ (by omega)).trans et
        by_cases t0 : t = 0
        · subst t0
          generalize hv : M (102 + 2 * j) = v
          (apply WP_runI (lv := lvN) LN_ok 18 80; simp (disch := first | decide | omega) only [t184_0, t184_1, t184_2, lift_c, o_iload1, o_inl, o_stat3, rpush_n, rpush_s, o_ifne, o_ireturn, o_aload0, o_virt2, o_istore, s1_0, s1_s, o_iload2, o_getref, o_iaload, o_icge, o_imul, o_iadd, o_iload3, o_virt1, o_goto, o_icne, o_iload4, o_fsub, o_iastore, o_virt4, o_popi, o_popr, o_iinc2, z0, z1, z2, z4, z9, z20, z31, z99, z100, z101, z102, runI_0, runI_c, runI_n, liftI_n, liftI_y, run_0, run_c, run_n, fxn, fxi, fxr, fxl, fxl0, ↓swi_n, ↓swi_c, nck0, nck1, nck2, nck3, List.length_cons, List.length_nil, Nat.reduceAdd, Nat.reduceSub, Nat.reduceLeDiff, Nat.reduceEqDiff, Nat.reduceLT, reduceIte, ite_true, ite_false, Nat.sub_zero, Nat.zero_le, true_and, and_true, and_self, true_or, or_true, if_true, if_false, true_implies, implies_true, not_true_eq_false, not_false_eq_true, false_implies, forall_const, ne_eq, or_self, and_false, false_and, Lt, Le, Eq', Cp, In, nI_add, nI_mul, nI_sub, nI_sub1, Neg0, bI_eq0, bI_eq1, bI_01, bft, up2_eq, up2_no, Bool.true_eq_false, Bool.false_eq_true, eq_self, m1_ne, m1_ne2, m1_lt, m1_le, lt_m1, m1_le2, bI_t, bI_f, LM_all hF, LN_all hF, FMu hF, hd0, h124, h100, hj, et', hv])
          refine hour_A hF hB ha (by omega) fun I2 ha2 _ => ?_
          have ih := fun o3 o4 cc ss => ih (j + 1) I2 _ o3 o4 cc ss (by omega) ha2 (by rw [plS, et, if_pos rfl, hM]) (fun p h => (hour_83 hB.eok hW h).trans (hp p h))
          (apply WP_runI (lv := lvN) LN_ok 18 80; simp (disch := first | decide | omega) only [t184_0, t184_1, t184_2, lift_c, o_iload1, o_inl, o_stat3, rpush_n, rpush_s, o_ifne, o_ireturn, o_aload0, o_virt2, o_istore, s1_0, s1_s, o_iload2, o_getref, o_iaload, o_icge, o_imul, o_iadd, o_iload3, o_virt1, o_goto, o_icne, o_iload4, o_fsub, o_iastore, o_virt4, o_popi, o_popr, o_iinc2, z0, z1, z2, z4, z9, z20, z31, z99, z100, z101, z102, runI_0, runI_c, runI_n, liftI_n, liftI_y, run_0, run_c, run_n, fxn, fxi, fxr, fxl, fxl0, ↓swi_n, ↓swi_c, nck0, nck1, nck2, nck3, List.length_cons, List.length_nil, Nat.reduceAdd, Nat.reduceSub, Nat.reduceLeDiff, Nat.reduceEqDiff, Nat.reduceLT, reduceIte, ite_true, ite_false, Nat.sub_zero, Nat.zero_le, true_and, and_true, and_self, true_or, or_true, if_true, if_false, true_implies, implies_true, not_true_eq_false, not_false_eq_true, false_implies, forall_const, ne_eq, or_self, and_false, false_and, Lt, Le, Eq', Cp, In, nI_add, nI_mul, nI_sub, nI_sub1, Neg0, bI_eq0, bI_eq1, bI_01, bft, up2_eq, up2_no, Bool.true_eq_false, Bool.false_eq_true, eq_self, m1_ne, m1_ne2, m1_lt, m1_le, lt_m1, m1_le2, bI_t, bI_f, LM_all hF, LN_all hF, FMu hF, hd0])
          exact ih _ _ _ _
        · by_cases t1 : t = 1
          · subst t1
            obtain ⟨c, hc, ec⟩ := h1 rfl
            have ec' : M (102 + 2 * j) = nI c := (hp _ (by omega)).trans ec
            obtain ⟨u, hu, hu2⟩ := hW.grain hc
            have hW2 : WF (upN M c (mnS (M c + nI 9))) k g r := by
              obtain ⟨v, hv, e⟩ := mnS_ok (m := 9) hu (by omega)
              rw [hu2, e]
              exact hW.grain_up hc hv
            have ih := fun o3 o4 cc ss => ih (j + 1) _ _ o3 o4 cc ss (by omega) (ha.up (by omega) hW2) (by rw [plS, et, if_neg (by decide), if_pos rfl, hM, ec, Cp _ (by omega)]) (fun p h => (upN_no _ _ _ _ (by omega)).trans (hp p h))
            unfold mnS at ih
            clear hu2
            (apply WP_runI (lv := lvN) LN_ok 18 80; simp (disch := first | decide | omega) only [t184_0, t184_1, t184_2, lift_c, o_iload1, o_inl, o_stat3, rpush_n, rpush_s, o_ifne, o_ireturn, o_aload0, o_virt2, o_istore, s1_0, s1_s, o_iload2, o_getref, o_iaload, o_icge, o_imul, o_iadd, o_iload3, o_virt1, o_goto, o_icne, o_iload4, o_fsub, o_iastore, o_virt4, o_popi, o_popr, o_iinc2, z0, z1, z2, z4, z9, z20, z31, z99, z100, z101, z102, runI_0, runI_c, runI_n, liftI_n, liftI_y, run_0, run_c, run_n, fxn, fxi, fxr, fxl, fxl0, ↓swi_n, ↓swi_c, nck0, nck1, nck2, nck3, List.length_cons, List.length_nil, Nat.reduceAdd, Nat.reduceSub, Nat.reduceLeDiff, Nat.reduceEqDiff, Nat.reduceLT, reduceIte, ite_true, ite_false, Nat.sub_zero, Nat.zero_le, true_and, and_true, and_self, true_or, or_true, if_true, if_false, true_implies, implies_true, not_true_eq_false, not_false_eq_true, false_implies, forall_const, ne_eq, or_self, and_false, false_and, Lt, Le, Eq', Cp, In, nI_add, nI_mul, nI_sub, nI_sub1, Neg0, bI_eq0, bI_eq1, bI_01, bft, up2_eq, up2_no, Bool.true_eq_false, Bool.false_eq_true, eq_self, m1_ne, m1_ne2, m1_lt, m1_le, lt_m1, m1_le2, bI_t, bI_f, LM_all hF, LN_all hF, FMu hF, hd0, h124, h100, hj, et', ec', h20])
            exact ih _ _ _ _
          · obtain ⟨i, hi, ei⟩ := h2 (by omega)
            have ei' : M (102 + 2 * j) = nI i := (hp _ (by omega)).trans ei
            have hv : ∀ q : Int32, ((if nI t = nI 2 then nI 1 else nI 0) = q) → q = nI 0 ∨ q = nI 1 := fun q e => by
              rw [← e]
              split
              · exact Or.inr rfl
              · exact Or.inl rfl
            have ih := fun o3 o4 cc ss => ih (j + 1) _ _ o3 o4 cc ss (by omega) (ha.up (p := 26 + 9 * i + 4) (v := if nI t = nI 2 then nI 1 else nI 0) (by omega) (hW.take_up hi (hv _ rfl))) (by
              rw [plS, et, if_neg (by rw [nI_eq (by omega) (by omega)]; exact t0), if_neg (by rw [nI_eq (by omega) (by omega)]; exact t1), hM, ei, Cp _ (by omega)]) (fun p h => (upN_no _ _ _ _ (by omega)).trans (hp p h))
            by_cases t2 : t = 2
            · rw [if_pos (by rw [t2])] at ih
              (apply WP_runI (lv := lvN) LN_ok 18 80; simp (disch := first | decide | omega) only [t184_0, t184_1, t184_2, lift_c, o_iload1, o_inl, o_stat3, rpush_n, rpush_s, o_ifne, o_ireturn, o_aload0, o_virt2, o_istore, s1_0, s1_s, o_iload2, o_getref, o_iaload, o_icge, o_imul, o_iadd, o_iload3, o_virt1, o_goto, o_icne, o_iload4, o_fsub, o_iastore, o_virt4, o_popi, o_popr, o_iinc2, z0, z1, z2, z4, z9, z20, z31, z99, z100, z101, z102, runI_0, runI_c, runI_n, liftI_n, liftI_y, run_0, run_c, run_n, fxn, fxi, fxr, fxl, fxl0, ↓swi_n, ↓swi_c, nck0, nck1, nck2, nck3, List.length_cons, List.length_nil, Nat.reduceAdd, Nat.reduceSub, Nat.reduceLeDiff, Nat.reduceEqDiff, Nat.reduceLT, reduceIte, ite_true, ite_false, Nat.sub_zero, Nat.zero_le, true_and, and_true, and_self, true_or, or_true, if_true, if_false, true_implies, implies_true, not_true_eq_false, not_false_eq_true, false_implies, forall_const, ne_eq, or_self, and_false, false_and, Lt, Le, Eq', Cp, In, nI_add, nI_mul, nI_sub, nI_sub1, Neg0, bI_eq0, bI_eq1, bI_01, bft, up2_eq, up2_no, Bool.true_eq_false, Bool.false_eq_true, eq_self, m1_ne, m1_ne2, m1_lt, m1_le, lt_m1, m1_le2, bI_t, bI_f, LM_all hF, LN_all hF, FMu hF, hd0, h124, h100, hj, et', ei', t0, t1, t2, h20])
              exact ih _ _ _ _
            · rw [if_neg (by rw [nI_eq (by omega) (by omega)]; exact t2)] at ih
              (apply WP_runI (lv := lvN) LN_ok 18 80; simp (disch := first | decide | omega) only [t184_0, t184_1, t184_2, lift_c, o_iload1, o_inl, o_stat3, rpush_n, rpush_s, o_ifne, o_ireturn, o_aload0, o_virt2, o_istore, s1_0, s1_s, o_iload2, o_getref, o_iaload, o_icge, o_imul, o_iadd, o_iload3, o_virt1, o_goto, o_icne, o_iload4, o_fsub, o_iastore, o_virt4, o_popi, o_popr, o_iinc2, z0, z1, z2, z4, z9, z20, z31, z99, z100, z101, z102, runI_0, runI_c, runI_n, liftI_n, liftI_y, run_0, run_c, run_n, fxn, fxi, fxr, fxl, fxl0, ↓swi_n, ↓swi_c, nck0, nck1, nck2, nck3, List.length_cons, List.length_nil, Nat.reduceAdd, Nat.reduceSub, Nat.reduceLeDiff, Nat.reduceEqDiff, Nat.reduceLT, reduceIte, ite_true, ite_false, Nat.sub_zero, Nat.zero_le, true_and, and_true, and_self, true_or, or_true, if_true, if_false, true_implies, implies_true, not_true_eq_false, not_false_eq_true, false_implies, forall_const, ne_eq, or_self, and_false, false_and, Lt, Le, Eq', Cp, In, nI_add, nI_mul, nI_sub, nI_sub1, Neg0, bI_eq0, bI_eq1, bI_01, bft, up2_eq, up2_no, Bool.true_eq_false, Bool.false_eq_true, eq_self, m1_ne, m1_ne2, m1_lt, m1_le, lt_m1, m1_le2, bI_t, bI_f, LM_all hF, LN_all hF, FMu hF, hd0, h124, h100, hj, et', ei', t0, t1, t2, h20])
              exact ih _ _ _ _
    have ha := AH.start hB
    (apply WP_runI (lv := lvN) LN_ok 18 80; simp (disch := first | decide | omega) only [t184_0, t184_1, t184_2, lift_c, o_iload1, o_inl, o_stat3, rpush_n, rpush_s, o_ifne, o_ireturn, o_aload0, o_virt2, o_istore, s1_0, s1_s, o_iload2, o_getref, o_iaload, o_icge, o_imul, o_iadd, o_iload3, o_virt1, o_goto, o_icne, o_iload4, o_fsub, o_iastore, o_virt4, o_popi, o_popr, o_iinc2, z0, z1, z2, z4, z9, z20, z31, z99, z100, z101, z102, runI_0, runI_c, runI_n, liftI_n, liftI_y, run_0, run_c, run_n, fxn, fxi, fxr, fxl, fxl0, ↓swi_n, ↓swi_c, nck0, nck1, nck2, nck3, List.length_cons, List.length_nil, Nat.reduceAdd, Nat.reduceSub, Nat.reduceLeDiff, Nat.reduceEqDiff, Nat.reduceLT, reduceIte, ite_true, ite_false, Nat.sub_zero, Nat.zero_le, true_and, and_true, and_self, true_or, or_true, if_true, if_false, true_implies, implies_true, not_true_eq_false, not_false_eq_true, false_implies, forall_const, ne_eq, or_self, and_false, false_and, Lt, Le, Eq', Cp, In, nI_add, nI_mul, nI_sub, nI_sub1, Neg0, bI_eq0, bI_eq1, bI_01, bft, up2_eq, up2_no, Bool.true_eq_false, Bool.false_eq_true, eq_self, m1_ne, m1_ne2, m1_lt, m1_le, lt_m1, m1_le2, bI_t, bI_f, LM_all hF, LN_all hF, FMu hF, hd0, hx2])
    generalize cpy2 I 124 0 125 0 138 = I1 at ha ⊢
    exact loop s 0 I1 _ _ _ _ _ (by omega) ha (by rw [plS, hN]) (fun p _ => by rw [hN])
end
