/-! ### pairs: told, pass, a goose's numbers, grain -/
theorem RD.row {I : TI} {N M : TN} (h : RD I N) (he : ∀ j, 83 ≤ j → M j = N j) : RD I M := by
  obtain ⟨h1, h2, h3, h4, h5, h6⟩ := h
  refine ⟨h1.trans (he _ (by omega)).symm, h2.trans (he _ (by omega)).symm, h3.trans (he _ (by omega)).symm, fun s h10 hs j hj => ?_, fun s h10 hs j hj => ?_, fun s h10 hs j hj => ?_⟩
  · rw [he _ (by omega), he _ (by omega), he _ (by omega)]
    exact h4 s h10 ((he _ (by omega)).symm.trans hs) j hj
  · rw [he _ (by omega), he _ (by omega)]
    exact h5 s h10 ((he _ (by omega)).symm.trans hs) j hj
  · rw [he _ (by omega), he _ (by omega)]
    exact h6 s h10 ((he _ (by omega)).symm.trans hs) j hj
def mS (a j : Nat) : Prop := qS a j ∨ (22 ≤ a ∧ a ≤ 51) ∨ a = 124
theorem IW.row {n : Nat} {sh : TS} {I I' : TI} {L : TL} {P : TP} {F : TF} {E : Nat → Int32} {k g r k' g' : Nat} (h : IW n sh I L P F E k g r) (hI : Eo mS I I') (hW : WF (I' 124) k' g' r) (hD : YD sh I' P 22 (I' 124) F E k' g') (hR : RD I' (I' 124)) (hS : WS (I' 124) k') : IW n sh I' L P F E k' g' r := by
  obtain ⟨h1, h2, h3, h4, h5, h6, h7, h8, h9, h10, h11, h12, h13⟩ := h
  have e128 : I' 128 = I 128 := funext fun j => hI 128 j (by unfold mS qS; omega)
  have e129 : I' 129 = I 129 := funext fun j => hI 129 j (by unfold mS qS; omega)
  refine ⟨h1, h2, ⟨hW, h3.2.1.eo hI (fun a j q => by unfold mS qS at q; omega), by rw [e128, e129]; exact h3.2.2.1, by rw [e128, e129]; exact h3.2.2.2⟩, hD, hR, hS, h7.eo hI fun a j q => by unfold mS qS at q; omega, h8.eo hI fun a j q => by unfold mS qS at q; omega, h9.eo hI fun a j q => by unfold mS qS at q; omega, h10.eo hI fun a j q => by unfold mS qS at q; omega, h11.eo hI Eo.rf (fun a j q => by unfold mS qS at q; omega) (fun a j q => q.elim) (T := fun _ _ => False), h12.eo hI fun a j q => by unfold mS qS at q; omega, h13⟩
theorem IW.goose {n : Nat} {sh : TS} {I : TI} {L : TL} {P : TP} {F : TF} {E : Nat → Int32} {k g r : Nat} (h : IW n sh I L P F E k g r) {i w : Nat} {v : Int32} (hi : i < k) (hw : w < 5) (hW : WF (upN (I 124) (26 + 9 * i + w) v) k g r) : IW n sh (up2 (up2 I (28 + 2 * i) w v) 124 (26 + 9 * i + w) v) L P F E k g r := by
  have hk := h.2.2.1.1.k6
  have hg := h.2.2.1.1.g9
  have e : (up2 (up2 I (28 + 2 * i) w v) 124 (26 + 9 * i + w) v) 124 = upN (I 124) (26 + 9 * i + w) v := by rw [up2_upN, up2_row _ _ _ _ _ (by omega)]
  have hE : Eo mS I (up2 (up2 I (28 + 2 * i) w v) 124 (26 + 9 * i + w) v) := (Eo.rf.up (by unfold mS; omega) _).up (by unfold mS; omega) _
  refine h.row hE (by rw [e]; exact hW) ?_ ?_ ?_
  · rw [e]
    refine (h.2.2.2.1.goose_up hk hg (by omega) hi hw).eo (S := fun a _ => a = 124) hk (fun a j q => up2_no _ _ _ _ _ _ fun e => q e.1) fun a j q => by omega
  · rw [e]
    exact (h.2.2.2.2.1.row (M := upN (I 124) (26 + 9 * i + w) v) fun j hj => upN_no _ _ _ _ (by omega)).eo (S := fun a _ => a = 28 + 2 * i ∨ a = 124) (fun a j q => by rw [up2_no _ _ _ _ _ _ (by omega), up2_no _ _ _ _ _ _ (by omega)]) fun a j q => by omega
  · rw [e]
    exact h.2.2.2.2.2.1.keep fun j hj => upN_no _ _ _ _ (by omega)
theorem keyB_of {x : Int32} (h : keyB x = true) : x = -nI 1 ∨ ∃ u, u < 9 ∧ x = nI u := by
  unfold keyB at h
  have h := of_decide_eq_true h
  by_cases h3 : x < 0
  · left
    apply Int32.toInt_inj.mp
    have h1 := h.1
    rw [i_le, m1i] at h1
    rw [i_lt] at h3
    have : (0 : Int32).toInt = 0 := rfl
    rw [m1i]
    omega
  · right
    obtain ⟨j, hj, rfl⟩ := nI_of h3
    have h2 := h.2
    rw [Lt _ _ (by omega) (by omega)] at h2
    exact ⟨j, h2, rfl⟩
theorem keyB_in (x : Int32) : decide (-nI 1 ≤ x ∧ x ≤ nI 8) = keyB x := by
  unfold keyB
  apply decide_eq_decide.mpr
  rw [i_le, i_le, i_lt, nIi _ (by omega), nIi _ (by omega)]
  omega
section
variable {G : GE} {d : Nat}
theorem told_P (hd : 50 ≤ d) (x : Int32) : PAIR G d 76 167 [.ref 20, .int x] [.ref 123, .int x] := by
  intro n sh I L P Q hI hQ
  obtain ⟨F, E, k, g, r, hI⟩ := hI
  apply e76
  apply WP_SF
  intro hSF
  have hs2 := hSF.2.2.1
  have hB := hI.cb
  have hG := hB.fg
  have hY22 := hB.y22
  have hY84 := hB.y84
  have h22 : sh 22 = (8, 9) := (FY22u hY22).1
  have hd0 : 0 < d := by omega
  have hk := hI.2.2.1.1.k6
  have hg9 := hI.2.2.1.1.g9
  have fin : ∀ I1 L1 P1, CF I L P I1 L1 P1 → Q (some (.int (toldS F E (I 124) x))) n sh I1 L1 P1 := fun I1 L1 P1 hc => hQ _ _ _ _ _ _ fun Q2 h2 => by
    refine ⟨(FMu hI.1).1, ?_⟩
    have hI1 := hI.cf hc
    refine told_M hI1.1 hI1.2.2.1 (by omega) fun I2 he => ?_
    rw [hc.n124]
    exact h2 _ _ _ _ _ ⟨F, E, k, g, r, hI1.scA he⟩
  unfold toldS at fin
  have hY := hY22
  cases h1 : isC (x - nI 10) with
  | true =>
    obtain ⟨c, hc, e⟩ := isC_of h1
    have ex := sub_of e
    have l1 : ¬ x < nI 10 := by rw [ex, Lt _ _ (by omega) (by omega)]; omega
    rw [if_neg (by rw [ex, nI_eq (by omega) (by omega)]; omega), if_neg (by rw [ex, nI_eq (by omega) (by omega)]; omega), if_neg (by rw [ex, nI_eq (by omega) (by omega)]; omega), if_neg (by rw [ex, nI_eq (by omega) (by omega)]; omega), if_neg (by rw [ex, nI_eq (by omega) (by omega)]; omega), if_pos h1, e, Cp _ (by omega)] at fin
    have fin := fin I L P CF.rf
    have hgr : I 23 c = I 124 c := hB.2.1.grain c hc
    rw [← hgr] at fin
    have hcc := isC_nI hc
    (apply WP_runI (lv := lvK) (F := LK) LK_ok 999 40; simp (disch := first | decide | omega) only [t76_0, t76_1, lift_c, o_aload0, o_getref, o_astore, s1_0, s1_s, o_iload1, o_inl, o_iclt, o_isub, o_stat1, rpush_n, rpush_s, o_ifeq, o_aload2, o_iaload, o_ireturn, o_virt3, o_lookup, o_getfield, o_virt1, o_virt2, z0, z1, z2, z3, z4, z10, z20, z31, runI_0, runI_c, runI_n, liftI_n, liftI_y, run_0, run_c, run_n, fxn, fxi, fxr, fxl, fxl0, ↓swi_n, ↓swi_c, nck0, nck1, nck2, nck3, List.length_cons, List.length_nil, Nat.reduceAdd, Nat.reduceSub, Nat.reduceLeDiff, Nat.reduceEqDiff, Nat.reduceLT, reduceIte, ite_true, ite_false, Nat.sub_zero, Nat.zero_le, true_and, and_true, and_self, true_or, or_true, if_true, if_false, true_implies, implies_true, not_true_eq_false, not_false_eq_true, false_implies, forall_const, ne_eq, or_self, and_false, false_and, Lt, Le, Eq', Cp, In, nI_add, nI_mul, nI_sub, nI_sub1, Neg0, bI_eq0, bI_eq1, bI_01, bft, up2_eq, up2_no, Bool.true_eq_false, Bool.false_eq_true, eq_self, m1_ne, m1_ne2, m1_lt, m1_le, lt_m1, m1_le2, bI_t, bI_f, LK_st, FGu hG, LK_g hG h22 hs2, FY22u hY22, hcc, l1, e, hd0])
    exact fin
  | false =>
    rw [if_neg (show ¬ isC (x - nI 10) = true by rw [h1]; decide)] at fin
    cases h2 : isC (x - nI 20) with
    | true =>
      obtain ⟨c, hc, e⟩ := isC_of h2
      have ex := sub_of e
      have l1 : ¬ x < nI 10 := by rw [ex, Lt _ _ (by omega) (by omega)]; omega
      have l2 : ¬ x < nI 20 := by rw [ex, Lt _ _ (by omega) (by omega)]; omega
      rw [if_neg (by rw [ex, nI_eq (by omega) (by omega)]; omega), if_neg (by rw [ex, nI_eq (by omega) (by omega)]; omega), if_neg (by rw [ex, nI_eq (by omega) (by omega)]; omega), if_neg (by rw [ex, nI_eq (by omega) (by omega)]; omega), if_neg (by rw [ex, nI_eq (by omega) (by omega)]; omega), if_pos h2] at fin
      (apply WP_runI (lv := lvK) (F := LK) LK_ok 999 40; simp (disch := first | decide | omega) only [t76_0, t76_1, lift_c, o_aload0, o_getref, o_astore, s1_0, s1_s, o_iload1, o_inl, o_iclt, o_isub, o_stat1, rpush_n, rpush_s, o_ifeq, o_aload2, o_iaload, o_ireturn, o_virt3, o_lookup, o_getfield, o_virt1, o_virt2, z0, z1, z2, z3, z4, z10, z20, z31, runI_0, runI_c, runI_n, liftI_n, liftI_y, run_0, run_c, run_n, fxn, fxi, fxr, fxl, fxl0, ↓swi_n, ↓swi_c, nck0, nck1, nck2, nck3, List.length_cons, List.length_nil, Nat.reduceAdd, Nat.reduceSub, Nat.reduceLeDiff, Nat.reduceEqDiff, Nat.reduceLT, reduceIte, ite_true, ite_false, Nat.sub_zero, Nat.zero_le, true_and, and_true, and_self, true_or, or_true, if_true, if_false, true_implies, implies_true, not_true_eq_false, not_false_eq_true, false_implies, forall_const, ne_eq, or_self, and_false, false_and, Lt, Le, Eq', Cp, In, nI_add, nI_mul, nI_sub, nI_sub1, Neg0, bI_eq0, bI_eq1, bI_01, bft, up2_eq, up2_no, Bool.true_eq_false, Bool.false_eq_true, eq_self, m1_ne, m1_ne2, m1_lt, m1_le, lt_m1, m1_le2, bI_t, bI_f, LK_st, FGu hG, LK_g hG h22 hs2, FY22u hY22, h1, h2, l1, l2, hd0])
      refine reached_T hB (by omega) fun I1 L1 P1 hc => ?_
      have fin := fin I1 L1 P1 hc
      generalize wkS F E (I 124) (x - nI 20) 15 = v at fin ⊢
      (apply WP_runI (lv := lvK) (F := LK) LK_ok 999 40; simp (disch := first | decide | omega) only [t76_0, t76_1, lift_c, o_aload0, o_getref, o_astore, s1_0, s1_s, o_iload1, o_inl, o_iclt, o_isub, o_stat1, rpush_n, rpush_s, o_ifeq, o_aload2, o_iaload, o_ireturn, o_virt3, o_lookup, o_getfield, o_virt1, o_virt2, z0, z1, z2, z3, z4, z10, z20, z31, runI_0, runI_c, runI_n, liftI_n, liftI_y, run_0, run_c, run_n, fxn, fxi, fxr, fxl, fxl0, ↓swi_n, ↓swi_c, nck0, nck1, nck2, nck3, List.length_cons, List.length_nil, Nat.reduceAdd, Nat.reduceSub, Nat.reduceLeDiff, Nat.reduceEqDiff, Nat.reduceLT, reduceIte, ite_true, ite_false, Nat.sub_zero, Nat.zero_le, true_and, and_true, and_self, true_or, or_true, if_true, if_false, true_implies, implies_true, not_true_eq_false, not_false_eq_true, false_implies, forall_const, ne_eq, or_self, and_false, false_and, Lt, Le, Eq', Cp, In, nI_add, nI_mul, nI_sub, nI_sub1, Neg0, bI_eq0, bI_eq1, bI_01, bft, up2_eq, up2_no, Bool.true_eq_false, Bool.false_eq_true, eq_self, m1_ne, m1_ne2, m1_lt, m1_le, lt_m1, m1_le2, bI_t, bI_f, LK_st, FGu hG, LK_g hG h22 hs2, hd0])
      exact fin
    | false =>
      rw [if_neg (show ¬ isC (x - nI 20) = true by rw [h2]; decide)] at fin
      have sw : ∀ cc ss, WP G 76 d Q 63 [some (.ref 20), some (.int x), some (.ref 22)] [] cc ss n sh I L P := by
        intro cc ss
        (apply WP_runI (lv := lvK) (F := LK) LK_ok 999 40; simp (disch := first | decide | omega) only [t76_0, t76_1, lift_c, o_aload0, o_getref, o_astore, s1_0, s1_s, o_iload1, o_inl, o_iclt, o_isub, o_stat1, rpush_n, rpush_s, o_ifeq, o_aload2, o_iaload, o_ireturn, o_virt3, o_lookup, o_getfield, o_virt1, o_virt2, z0, z1, z2, z3, z4, z10, z20, z31, runI_0, runI_c, runI_n, liftI_n, liftI_y, run_0, run_c, run_n, fxn, fxi, fxr, fxl, fxl0, ↓swi_n, ↓swi_c, nck0, nck1, nck2, nck3, List.length_cons, List.length_nil, Nat.reduceAdd, Nat.reduceSub, Nat.reduceLeDiff, Nat.reduceEqDiff, Nat.reduceLT, reduceIte, ite_true, ite_false, Nat.sub_zero, Nat.zero_le, true_and, and_true, and_self, true_or, or_true, if_true, if_false, true_implies, implies_true, not_true_eq_false, not_false_eq_true, false_implies, forall_const, ne_eq, or_self, and_false, false_and, Lt, Le, Eq', Cp, In, nI_add, nI_mul, nI_sub, nI_sub1, Neg0, bI_eq0, bI_eq1, bI_01, bft, up2_eq, up2_no, Bool.true_eq_false, Bool.false_eq_true, eq_self, m1_ne, m1_ne2, m1_lt, m1_le, lt_m1, m1_le2, bI_t, bI_f, LK_st, FGu hG, LK_g hG h22 hs2, FY22u hY22, hd0])
        refine ⟨fun e => ?_, fun e0 => ⟨fun e => ?_, fun e1 => ⟨fun e => ?_, fun e2 => ⟨fun e => ?_, fun e3 => ⟨fun e => ?_, fun e4 => ?_⟩⟩⟩⟩⟩
        · rw [if_pos e] at fin
          rw [hB.2.1.hour]
          exact fin I L P CF.rf
        · rw [if_neg e0, if_pos e] at fin
          refine eaten_Y hB.2.1 hB.2.2.1 ?_
          have fin := fin I L P CF.rf
          generalize E (rl (I 124)) = v at fin ⊢
          (apply WP_runI (lv := lvK) (F := LK) LK_ok 999 40; simp (disch := first | decide | omega) only [t76_0, t76_1, lift_c, o_aload0, o_getref, o_astore, s1_0, s1_s, o_iload1, o_inl, o_iclt, o_isub, o_stat1, rpush_n, rpush_s, o_ifeq, o_aload2, o_iaload, o_ireturn, o_virt3, o_lookup, o_getfield, o_virt1, o_virt2, z0, z1, z2, z3, z4, z10, z20, z31, runI_0, runI_c, runI_n, liftI_n, liftI_y, run_0, run_c, run_n, fxn, fxi, fxr, fxl, fxl0, ↓swi_n, ↓swi_c, nck0, nck1, nck2, nck3, List.length_cons, List.length_nil, Nat.reduceAdd, Nat.reduceSub, Nat.reduceLeDiff, Nat.reduceEqDiff, Nat.reduceLT, reduceIte, ite_true, ite_false, Nat.sub_zero, Nat.zero_le, true_and, and_true, and_self, true_or, or_true, if_true, if_false, true_implies, implies_true, not_true_eq_false, not_false_eq_true, false_implies, forall_const, ne_eq, or_self, and_false, false_and, Lt, Le, Eq', Cp, In, nI_add, nI_mul, nI_sub, nI_sub1, Neg0, bI_eq0, bI_eq1, bI_01, bft, up2_eq, up2_no, Bool.true_eq_false, Bool.false_eq_true, eq_self, m1_ne, m1_ne2, m1_lt, m1_le, lt_m1, m1_le2, bI_t, bI_f, LK_st, FGu hG, LK_g hG h22 hs2, hd0])
          exact fin
        · rw [if_neg e0, if_neg e1, if_pos e] at fin
          refine openG_Y hB.2.1 hB.2.2.1 (by omega) ?_
          have fin := fin I L P CF.rf
          generalize openS (I 124) = v at fin ⊢
          (apply WP_runI (lv := lvK) (F := LK) LK_ok 999 40; simp (disch := first | decide | omega) only [t76_0, t76_1, lift_c, o_aload0, o_getref, o_astore, s1_0, s1_s, o_iload1, o_inl, o_iclt, o_isub, o_stat1, rpush_n, rpush_s, o_ifeq, o_aload2, o_iaload, o_ireturn, o_virt3, o_lookup, o_getfield, o_virt1, o_virt2, z0, z1, z2, z3, z4, z10, z20, z31, runI_0, runI_c, runI_n, liftI_n, liftI_y, run_0, run_c, run_n, fxn, fxi, fxr, fxl, fxl0, ↓swi_n, ↓swi_c, nck0, nck1, nck2, nck3, List.length_cons, List.length_nil, Nat.reduceAdd, Nat.reduceSub, Nat.reduceLeDiff, Nat.reduceEqDiff, Nat.reduceLT, reduceIte, ite_true, ite_false, Nat.sub_zero, Nat.zero_le, true_and, and_true, and_self, true_or, or_true, if_true, if_false, true_implies, implies_true, not_true_eq_false, not_false_eq_true, false_implies, forall_const, ne_eq, or_self, and_false, false_and, Lt, Le, Eq', Cp, In, nI_add, nI_mul, nI_sub, nI_sub1, Neg0, bI_eq0, bI_eq1, bI_01, bft, up2_eq, up2_no, Bool.true_eq_false, Bool.false_eq_true, eq_self, m1_ne, m1_ne2, m1_lt, m1_le, lt_m1, m1_le2, bI_t, bI_f, LK_st, FGu hG, LK_g hG h22 hs2, hd0])
          exact fin
        · rw [if_neg e0, if_neg e1, if_neg e2, if_pos e] at fin
          refine shut_T hB (by omega) fun I1 L1 P1 hc => ?_
          have fin := fin I1 L1 P1 hc
          generalize shutL F E (I 124) 21 = v at fin ⊢
          (apply WP_runI (lv := lvK) (F := LK) LK_ok 999 40; simp (disch := first | decide | omega) only [t76_0, t76_1, lift_c, o_aload0, o_getref, o_astore, s1_0, s1_s, o_iload1, o_inl, o_iclt, o_isub, o_stat1, rpush_n, rpush_s, o_ifeq, o_aload2, o_iaload, o_ireturn, o_virt3, o_lookup, o_getfield, o_virt1, o_virt2, z0, z1, z2, z3, z4, z10, z20, z31, runI_0, runI_c, runI_n, liftI_n, liftI_y, run_0, run_c, run_n, fxn, fxi, fxr, fxl, fxl0, ↓swi_n, ↓swi_c, nck0, nck1, nck2, nck3, List.length_cons, List.length_nil, Nat.reduceAdd, Nat.reduceSub, Nat.reduceLeDiff, Nat.reduceEqDiff, Nat.reduceLT, reduceIte, ite_true, ite_false, Nat.sub_zero, Nat.zero_le, true_and, and_true, and_self, true_or, or_true, if_true, if_false, true_implies, implies_true, not_true_eq_false, not_false_eq_true, false_implies, forall_const, ne_eq, or_self, and_false, false_and, Lt, Le, Eq', Cp, In, nI_add, nI_mul, nI_sub, nI_sub1, Neg0, bI_eq0, bI_eq1, bI_01, bft, up2_eq, up2_no, Bool.true_eq_false, Bool.false_eq_true, eq_self, m1_ne, m1_ne2, m1_lt, m1_le, lt_m1, m1_le2, bI_t, bI_f, LK_st, FGu hG, LK_g hG h22 hs2, hd0])
          exact fin
        · rw [if_neg e0, if_neg e1, if_neg e2, if_neg e3, if_pos e] at fin
          refine allGrain_Y hB.2.1 ?_
          have fin := fin I L P CF.rf
          generalize grnS (I 124) = v at fin ⊢
          (apply WP_runI (lv := lvK) (F := LK) LK_ok 999 40; simp (disch := first | decide | omega) only [t76_0, t76_1, lift_c, o_aload0, o_getref, o_astore, s1_0, s1_s, o_iload1, o_inl, o_iclt, o_isub, o_stat1, rpush_n, rpush_s, o_ifeq, o_aload2, o_iaload, o_ireturn, o_virt3, o_lookup, o_getfield, o_virt1, o_virt2, z0, z1, z2, z3, z4, z10, z20, z31, runI_0, runI_c, runI_n, liftI_n, liftI_y, run_0, run_c, run_n, fxn, fxi, fxr, fxl, fxl0, ↓swi_n, ↓swi_c, nck0, nck1, nck2, nck3, List.length_cons, List.length_nil, Nat.reduceAdd, Nat.reduceSub, Nat.reduceLeDiff, Nat.reduceEqDiff, Nat.reduceLT, reduceIte, ite_true, ite_false, Nat.sub_zero, Nat.zero_le, true_and, and_true, and_self, true_or, or_true, if_true, if_false, true_implies, implies_true, not_true_eq_false, not_false_eq_true, false_implies, forall_const, ne_eq, or_self, and_false, false_and, Lt, Le, Eq', Cp, In, nI_add, nI_mul, nI_sub, nI_sub1, Neg0, bI_eq0, bI_eq1, bI_01, bft, up2_eq, up2_no, Bool.true_eq_false, Bool.false_eq_true, eq_self, m1_ne, m1_ne2, m1_lt, m1_le, lt_m1, m1_le2, bI_t, bI_f, LK_st, FGu hG, LK_g hG h22 hs2, hd0])
          exact fin
        · rw [if_neg e0, if_neg e1, if_neg e2, if_neg e3, if_neg e4] at fin
          exact fin I L P CF.rf
      clear fin
      by_cases l1 : x < nI 10
      · have l2 : x < nI 20 := by rw [i_lt, nIi _ (by omega)] at l1 ⊢; omega
        (apply WP_runI (lv := lvK) (F := LK) LK_ok 63 80; simp (disch := first | decide | omega) only [t76_0, t76_1, lift_c, o_aload0, o_getref, o_astore, s1_0, s1_s, o_iload1, o_inl, o_iclt, o_isub, o_stat1, rpush_n, rpush_s, o_ifeq, o_aload2, o_iaload, o_ireturn, o_virt3, o_lookup, o_getfield, o_virt1, o_virt2, z0, z1, z2, z3, z4, z10, z20, z31, runI_0, runI_c, runI_n, liftI_n, liftI_y, run_0, run_c, run_n, fxn, fxi, fxr, fxl, fxl0, ↓swi_n, ↓swi_c, nck0, nck1, nck2, nck3, List.length_cons, List.length_nil, Nat.reduceAdd, Nat.reduceSub, Nat.reduceLeDiff, Nat.reduceEqDiff, Nat.reduceLT, reduceIte, ite_true, ite_false, Nat.sub_zero, Nat.zero_le, true_and, and_true, and_self, true_or, or_true, if_true, if_false, true_implies, implies_true, not_true_eq_false, not_false_eq_true, false_implies, forall_const, ne_eq, or_self, and_false, false_and, Lt, Le, Eq', Cp, In, nI_add, nI_mul, nI_sub, nI_sub1, Neg0, bI_eq0, bI_eq1, bI_01, bft, up2_eq, up2_no, Bool.true_eq_false, Bool.false_eq_true, eq_self, m1_ne, m1_ne2, m1_lt, m1_le, lt_m1, m1_le2, bI_t, bI_f, LK_st, FGu hG, LK_g hG h22 hs2, FY22u hY22, l1, l2, hd0])
        exact sw _ _
      · by_cases l2 : x < nI 20
        · (apply WP_runI (lv := lvK) (F := LK) LK_ok 63 80; simp (disch := first | decide | omega) only [t76_0, t76_1, lift_c, o_aload0, o_getref, o_astore, s1_0, s1_s, o_iload1, o_inl, o_iclt, o_isub, o_stat1, rpush_n, rpush_s, o_ifeq, o_aload2, o_iaload, o_ireturn, o_virt3, o_lookup, o_getfield, o_virt1, o_virt2, z0, z1, z2, z3, z4, z10, z20, z31, runI_0, runI_c, runI_n, liftI_n, liftI_y, run_0, run_c, run_n, fxn, fxi, fxr, fxl, fxl0, ↓swi_n, ↓swi_c, nck0, nck1, nck2, nck3, List.length_cons, List.length_nil, Nat.reduceAdd, Nat.reduceSub, Nat.reduceLeDiff, Nat.reduceEqDiff, Nat.reduceLT, reduceIte, ite_true, ite_false, Nat.sub_zero, Nat.zero_le, true_and, and_true, and_self, true_or, or_true, if_true, if_false, true_implies, implies_true, not_true_eq_false, not_false_eq_true, false_implies, forall_const, ne_eq, or_self, and_false, false_and, Lt, Le, Eq', Cp, In, nI_add, nI_mul, nI_sub, nI_sub1, Neg0, bI_eq0, bI_eq1, bI_01, bft, up2_eq, up2_no, Bool.true_eq_false, Bool.false_eq_true, eq_self, m1_ne, m1_ne2, m1_lt, m1_le, lt_m1, m1_le2, bI_t, bI_f, LK_st, FGu hG, LK_g hG h22 hs2, FY22u hY22, h1, l1, l2, hd0])
          exact sw _ _
        · (apply WP_runI (lv := lvK) (F := LK) LK_ok 63 80; simp (disch := first | decide | omega) only [t76_0, t76_1, lift_c, o_aload0, o_getref, o_astore, s1_0, s1_s, o_iload1, o_inl, o_iclt, o_isub, o_stat1, rpush_n, rpush_s, o_ifeq, o_aload2, o_iaload, o_ireturn, o_virt3, o_lookup, o_getfield, o_virt1, o_virt2, z0, z1, z2, z3, z4, z10, z20, z31, runI_0, runI_c, runI_n, liftI_n, liftI_y, run_0, run_c, run_n, fxn, fxi, fxr, fxl, fxl0, ↓swi_n, ↓swi_c, nck0, nck1, nck2, nck3, List.length_cons, List.length_nil, Nat.reduceAdd, Nat.reduceSub, Nat.reduceLeDiff, Nat.reduceEqDiff, Nat.reduceLT, reduceIte, ite_true, ite_false, Nat.sub_zero, Nat.zero_le, true_and, and_true, and_self, true_or, or_true, if_true, if_false, true_implies, implies_true, not_true_eq_false, not_false_eq_true, false_implies, forall_const, ne_eq, or_self, and_false, false_and, Lt, Le, Eq', Cp, In, nI_add, nI_mul, nI_sub, nI_sub1, Neg0, bI_eq0, bI_eq1, bI_01, bft, up2_eq, up2_no, Bool.true_eq_false, Bool.false_eq_true, eq_self, m1_ne, m1_ne2, m1_lt, m1_le, lt_m1, m1_le2, bI_t, bI_f, LK_st, FGu hG, LK_g hG h22 hs2, FY22u hY22, h1, h2, l1, l2, hd0])
          exact sw _ _
theorem put_P (hd : 50 ≤ d) (x y : Int32) : PAIR G d 70 136 [.ref 20, .int x, .int y] [.ref 123, .int x, .int y] := by
  intro n sh I L P Q hI hQ
  obtain ⟨F, E, k, g, r, hI⟩ := hI
  apply e70
  apply WP_SF
  intro hSF
  have hs2 := hSF.2.2.1
  have hB := hI.cb
  have hG := hB.fg
  have hY22 := hB.y22
  have hY84 := hB.y84
  have h22 : sh 22 = (8, 9) := (FY22u hY22).1
  have hd0 : 0 < d := by omega
  have hk := hI.2.2.1.1.k6
  have hg9 := hI.2.2.1.1.g9
  have hx := gooseB hB x
  have hWe := hI.2.2.1.we
  have hF := hI.1
  have h5 := hB.count
  cases hb : isY (I 124) x with
  | false =>
    rw [hb] at hx
    have bad := hQ (-nI 1) n sh I L P (fun Q2 h2 => by
        refine ⟨(FMu hI.1).1, ?_⟩
        have h2 := h2 _ _ _ _ _ ⟨F, E, k, g, r, hI⟩
        apply e136
        (apply WP_runI (lv := lvM) LM_ok 999 80; simp (disch := first | decide | omega) only [t136_0, lift_c, o_aload0, o_iload1, o_virt2, rpush_n, rpush_s, o_ifeq, o_iload2, o_stat1, o_inl, o_virt4, o_goto, o_ireturn, z0, z1, z2, z20, z31, runI_0, runI_c, runI_n, liftI_n, liftI_y, run_0, run_c, run_n, fxn, fxi, fxr, fxl, fxl0, ↓swi_n, ↓swi_c, nck0, nck1, nck2, nck3, List.length_cons, List.length_nil, Nat.reduceAdd, Nat.reduceSub, Nat.reduceLeDiff, Nat.reduceEqDiff, Nat.reduceLT, reduceIte, ite_true, ite_false, Nat.sub_zero, Nat.zero_le, true_and, and_true, and_self, true_or, or_true, if_true, if_false, true_implies, implies_true, not_true_eq_false, not_false_eq_true, false_implies, forall_const, ne_eq, or_self, and_false, false_and, Lt, Le, Eq', Cp, In, nI_add, nI_mul, nI_sub, nI_sub1, Neg0, bI_eq0, bI_eq1, bI_01, bft, up2_eq, up2_no, Bool.true_eq_false, Bool.false_eq_true, eq_self, m1_ne, m1_ne2, m1_lt, m1_le, lt_m1, m1_le2, bI_t, bI_f, LM_all hF, FMu hF, hWe, hb, hd0])
        exact h2)
    (apply WP_runI (lv := lvK) (F := LK) LK_ok 999 80; simp (disch := first | decide | omega) only [t70_0, lift_c, o_aload0, o_iload1, o_virt2, rpush_n, rpush_s, o_ifeq, o_iload2, o_stat1, o_ifne, o_inl, o_ireturn, o_getref, o_aaload, o_astore, s1_0, s1_s, o_aload3, o_getfield, o_istore, o_putfield, o_iload4, z0, z1, z2, z20, z31, runI_0, runI_c, runI_n, liftI_n, liftI_y, run_0, run_c, run_n, fxn, fxi, fxr, fxl, fxl0, ↓swi_n, ↓swi_c, nck0, nck1, nck2, nck3, List.length_cons, List.length_nil, Nat.reduceAdd, Nat.reduceSub, Nat.reduceLeDiff, Nat.reduceEqDiff, Nat.reduceLT, reduceIte, ite_true, ite_false, Nat.sub_zero, Nat.zero_le, true_and, and_true, and_self, true_or, or_true, if_true, if_false, true_implies, implies_true, not_true_eq_false, not_false_eq_true, false_implies, forall_const, ne_eq, or_self, and_false, false_and, Lt, Le, Eq', Cp, In, nI_add, nI_mul, nI_sub, nI_sub1, Neg0, bI_eq0, bI_eq1, bI_01, bft, up2_eq, up2_no, Bool.true_eq_false, Bool.false_eq_true, eq_self, m1_ne, m1_ne2, m1_lt, m1_le, lt_m1, m1_le2, bI_t, bI_f, LK_st, FGu hG, LK_g hG h22 hs2, FY22u hY22, hx, hd0])
    exact bad
  | true =>
    cases hy : isC y with
    | false =>
      rw [hb] at hx
      have bad := hQ (-nI 1) n sh I L P (fun Q2 h2 => by
        refine ⟨(FMu hI.1).1, ?_⟩
        have h2 := h2 _ _ _ _ _ ⟨F, E, k, g, r, hI⟩
        apply e136
        (apply WP_runI (lv := lvM) LM_ok 999 80; simp (disch := first | decide | omega) only [t136_0, lift_c, o_aload0, o_iload1, o_virt2, rpush_n, rpush_s, o_ifeq, o_iload2, o_stat1, o_inl, o_virt4, o_goto, o_ireturn, z0, z1, z2, z20, z31, runI_0, runI_c, runI_n, liftI_n, liftI_y, run_0, run_c, run_n, fxn, fxi, fxr, fxl, fxl0, ↓swi_n, ↓swi_c, nck0, nck1, nck2, nck3, List.length_cons, List.length_nil, Nat.reduceAdd, Nat.reduceSub, Nat.reduceLeDiff, Nat.reduceEqDiff, Nat.reduceLT, reduceIte, ite_true, ite_false, Nat.sub_zero, Nat.zero_le, true_and, and_true, and_self, true_or, or_true, if_true, if_false, true_implies, implies_true, not_true_eq_false, not_false_eq_true, false_implies, forall_const, ne_eq, or_self, and_false, false_and, Lt, Le, Eq', Cp, In, nI_add, nI_mul, nI_sub, nI_sub1, Neg0, bI_eq0, bI_eq1, bI_01, bft, up2_eq, up2_no, Bool.true_eq_false, Bool.false_eq_true, eq_self, m1_ne, m1_ne2, m1_lt, m1_le, lt_m1, m1_le2, bI_t, bI_f, LM_all hF, FMu hF, hWe, hb, hy, hd0])
        exact h2)
      (apply WP_runI (lv := lvK) (F := LK) LK_ok 999 80; simp (disch := first | decide | omega) only [t70_0, lift_c, o_aload0, o_iload1, o_virt2, rpush_n, rpush_s, o_ifeq, o_iload2, o_stat1, o_ifne, o_inl, o_ireturn, o_getref, o_aaload, o_astore, s1_0, s1_s, o_aload3, o_getfield, o_istore, o_putfield, o_iload4, z0, z1, z2, z20, z31, runI_0, runI_c, runI_n, liftI_n, liftI_y, run_0, run_c, run_n, fxn, fxi, fxr, fxl, fxl0, ↓swi_n, ↓swi_c, nck0, nck1, nck2, nck3, List.length_cons, List.length_nil, Nat.reduceAdd, Nat.reduceSub, Nat.reduceLeDiff, Nat.reduceEqDiff, Nat.reduceLT, reduceIte, ite_true, ite_false, Nat.sub_zero, Nat.zero_le, true_and, and_true, and_self, true_or, or_true, if_true, if_false, true_implies, implies_true, not_true_eq_false, not_false_eq_true, false_implies, forall_const, ne_eq, or_self, and_false, false_and, Lt, Le, Eq', Cp, In, nI_add, nI_mul, nI_sub, nI_sub1, Neg0, bI_eq0, bI_eq1, bI_01, bft, up2_eq, up2_no, Bool.true_eq_false, Bool.false_eq_true, eq_self, m1_ne, m1_ne2, m1_lt, m1_le, lt_m1, m1_le2, bI_t, bI_f, LK_st, FGu hG, LK_g hG h22 hs2, FY22u hY22, hx, hy, hd0])
      exact bad
    | true =>
      obtain ⟨i, hi, ex⟩ := isY_of hB.2.2.1 hb
      obtain ⟨c, hc, ey⟩ := isC_of hy
      subst ex ey
      have hD := hI.goose (v := nI c) hi (show 2 < 5 by omega) (hB.2.2.1.court_up hi hc)
      have hg2 : I (28 + 2 * i) 2 = gs (I 124) i 2 := hB.2.1.geese i 2 hi (by omega)
      have hQ := hQ (gs (I 124) i 2) n sh (up2 I (28 + 2 * i) 2 (nI c)) L P fun Q2 h2 => by
        refine ⟨(FMu hI.1).1, ?_⟩
        have h2 := h2 _ _ _ _ _ ⟨F, E, k, g, r, hD⟩
        apply e136
        have h124 : (up2 I (28 + 2 * i) 2 (nI c)) 124 = I 124 := up2_row _ _ _ _ _ (by omega)
        (apply WP_runI (lv := lvM) LM_ok 999 80; simp (disch := first | decide | omega) only [t136_0, lift_c, o_aload0, o_iload1, o_virt2, rpush_n, rpush_s, o_ifeq, o_iload2, o_stat1, o_inl, o_virt4, o_goto, o_ireturn, z0, z1, z2, z20, z31, runI_0, runI_c, runI_n, liftI_n, liftI_y, run_0, run_c, run_n, fxn, fxi, fxr, fxl, fxl0, ↓swi_n, ↓swi_c, nck0, nck1, nck2, nck3, List.length_cons, List.length_nil, Nat.reduceAdd, Nat.reduceSub, Nat.reduceLeDiff, Nat.reduceEqDiff, Nat.reduceLT, reduceIte, ite_true, ite_false, Nat.sub_zero, Nat.zero_le, true_and, and_true, and_self, true_or, or_true, if_true, if_false, true_implies, implies_true, not_true_eq_false, not_false_eq_true, false_implies, forall_const, ne_eq, or_self, and_false, false_and, Lt, Le, Eq', Cp, In, nI_add, nI_mul, nI_sub, nI_sub1, Neg0, bI_eq0, bI_eq1, bI_01, bft, up2_eq, up2_no, Bool.true_eq_false, Bool.false_eq_true, eq_self, m1_ne, m1_ne2, m1_lt, m1_le, lt_m1, m1_le2, bI_t, bI_f, LM_all hF, FMu hF, hWe, hb, hy, hd0, h124])
        exact h2
      clear hD
      (apply WP_runI (lv := lvK) (F := LK) LK_ok 999 80; simp (disch := first | decide | omega) only [t70_0, lift_c, o_aload0, o_iload1, o_virt2, rpush_n, rpush_s, o_ifeq, o_iload2, o_stat1, o_ifne, o_inl, o_ireturn, o_getref, o_aaload, o_astore, s1_0, s1_s, o_aload3, o_getfield, o_istore, o_putfield, o_iload4, z0, z1, z2, z20, z31, runI_0, runI_c, runI_n, liftI_n, liftI_y, run_0, run_c, run_n, fxn, fxi, fxr, fxl, fxl0, ↓swi_n, ↓swi_c, nck0, nck1, nck2, nck3, List.length_cons, List.length_nil, Nat.reduceAdd, Nat.reduceSub, Nat.reduceLeDiff, Nat.reduceEqDiff, Nat.reduceLT, reduceIte, ite_true, ite_false, Nat.sub_zero, Nat.zero_le, true_and, and_true, and_self, true_or, or_true, if_true, if_false, true_implies, implies_true, not_true_eq_false, not_false_eq_true, false_implies, forall_const, ne_eq, or_self, and_false, false_and, Lt, Le, Eq', Cp, In, nI_add, nI_mul, nI_sub, nI_sub1, Neg0, bI_eq0, bI_eq1, bI_01, bft, up2_eq, up2_no, Bool.true_eq_false, Bool.false_eq_true, eq_self, m1_ne, m1_ne2, m1_lt, m1_le, lt_m1, m1_le2, bI_t, bI_f, LK_st, FGu hG, LK_g hG h22 hs2, FY22u hY22, h5, hi, hy, hg2, hd0, decide_true])
      exact hQ
theorem key_P (hd : 50 ≤ d) (x y : Int32) : PAIR G d 69 135 [.ref 20, .int x, .int y] [.ref 123, .int x, .int y] := by
  intro n sh I L P Q hI hQ
  obtain ⟨F, E, k, g, r, hI⟩ := hI
  apply e69
  apply WP_SF
  intro hSF
  have hs2 := hSF.2.2.1
  have hB := hI.cb
  have hG := hB.fg
  have hY22 := hB.y22
  have hY84 := hB.y84
  have h22 : sh 22 = (8, 9) := (FY22u hY22).1
  have hd0 : 0 < d := by omega
  have hk := hI.2.2.1.1.k6
  have hg9 := hI.2.2.1.1.g9
  have hx := gooseB hB x
  have hWe := hI.2.2.1.we
  have hF := hI.1
  have h5 := hB.count
  have hk2 := keyB_in y
  cases hb : isY (I 124) x with
  | false =>
    rw [hb] at hx
    have bad := hQ (-nI 1) n sh I L P (fun Q2 h2 => by
        refine ⟨(FMu hI.1).1, ?_⟩
        have h2 := h2 _ _ _ _ _ ⟨F, E, k, g, r, hI⟩
        apply e135
        (apply WP_runI (lv := lvM) LM_ok 999 80; simp (disch := first | decide | omega) only [t135_0, lift_c, o_aload0, o_iload1, o_virt2, rpush_n, rpush_s, o_ifeq, o_iload2, o_inl, o_stat3, o_virt4, o_stat1, o_goto, o_ireturn, z0, z1, z2, z3, z8, z20, z31, runI_0, runI_c, runI_n, liftI_n, liftI_y, run_0, run_c, run_n, fxn, fxi, fxr, fxl, fxl0, ↓swi_n, ↓swi_c, nck0, nck1, nck2, nck3, List.length_cons, List.length_nil, Nat.reduceAdd, Nat.reduceSub, Nat.reduceLeDiff, Nat.reduceEqDiff, Nat.reduceLT, reduceIte, ite_true, ite_false, Nat.sub_zero, Nat.zero_le, true_and, and_true, and_self, true_or, or_true, if_true, if_false, true_implies, implies_true, not_true_eq_false, not_false_eq_true, false_implies, forall_const, ne_eq, or_self, and_false, false_and, Lt, Le, Eq', Cp, In, nI_add, nI_mul, nI_sub, nI_sub1, Neg0, bI_eq0, bI_eq1, bI_01, bft, up2_eq, up2_no, Bool.true_eq_false, Bool.false_eq_true, eq_self, m1_ne, m1_ne2, m1_lt, m1_le, lt_m1, m1_le2, bI_t, bI_f, LM_all hF, FMu hF, hWe, hb, hd0])
        exact h2)
    (apply WP_runI (lv := lvK) (F := LK) LK_ok 999 80; simp (disch := first | decide | omega) only [t69_0, lift_c, o_aload0, o_iload1, o_virt2, rpush_n, rpush_s, o_ifeq, o_iload2, o_stat1, o_ifne, o_inl, o_ireturn, o_getref, o_aaload, o_astore, s1_0, s1_s, o_aload3, o_getfield, o_istore, o_putfield, o_iload4, z0, z1, z2, z20, z31, runI_0, runI_c, runI_n, liftI_n, liftI_y, run_0, run_c, run_n, fxn, fxi, fxr, fxl, fxl0, ↓swi_n, ↓swi_c, nck0, nck1, nck2, nck3, List.length_cons, List.length_nil, Nat.reduceAdd, Nat.reduceSub, Nat.reduceLeDiff, Nat.reduceEqDiff, Nat.reduceLT, reduceIte, ite_true, ite_false, Nat.sub_zero, Nat.zero_le, true_and, and_true, and_self, true_or, or_true, if_true, if_false, true_implies, implies_true, not_true_eq_false, not_false_eq_true, false_implies, forall_const, ne_eq, or_self, and_false, false_and, Lt, Le, Eq', Cp, In, nI_add, nI_mul, nI_sub, nI_sub1, Neg0, bI_eq0, bI_eq1, bI_01, bft, up2_eq, up2_no, Bool.true_eq_false, Bool.false_eq_true, eq_self, m1_ne, m1_ne2, m1_lt, m1_le, lt_m1, m1_le2, bI_t, bI_f, LK_st, FGu hG, LK_g hG h22 hs2, FY22u hY22, hx, hd0])
    exact bad
  | true =>
    cases hy : keyB y with
    | false =>
      rw [hb] at hx
      rw [hy] at hk2
      have bad := hQ (-nI 1) n sh I L P (fun Q2 h2 => by
        refine ⟨(FMu hI.1).1, ?_⟩
        have h2 := h2 _ _ _ _ _ ⟨F, E, k, g, r, hI⟩
        apply e135
        (apply WP_runI (lv := lvM) LM_ok 999 80; simp (disch := first | decide | omega) only [t135_0, lift_c, o_aload0, o_iload1, o_virt2, rpush_n, rpush_s, o_ifeq, o_iload2, o_inl, o_stat3, o_virt4, o_stat1, o_goto, o_ireturn, z0, z1, z2, z3, z8, z20, z31, runI_0, runI_c, runI_n, liftI_n, liftI_y, run_0, run_c, run_n, fxn, fxi, fxr, fxl, fxl0, ↓swi_n, ↓swi_c, nck0, nck1, nck2, nck3, List.length_cons, List.length_nil, Nat.reduceAdd, Nat.reduceSub, Nat.reduceLeDiff, Nat.reduceEqDiff, Nat.reduceLT, reduceIte, ite_true, ite_false, Nat.sub_zero, Nat.zero_le, true_and, and_true, and_self, true_or, or_true, if_true, if_false, true_implies, implies_true, not_true_eq_false, not_false_eq_true, false_implies, forall_const, ne_eq, or_self, and_false, false_and, Lt, Le, Eq', Cp, In, nI_add, nI_mul, nI_sub, nI_sub1, Neg0, bI_eq0, bI_eq1, bI_01, bft, up2_eq, up2_no, Bool.true_eq_false, Bool.false_eq_true, eq_self, m1_ne, m1_ne2, m1_lt, m1_le, lt_m1, m1_le2, bI_t, bI_f, LM_all hF, FMu hF, hWe, hb, hk2, hd0])
        exact h2)
      (apply WP_runI (lv := lvK) (F := LK) LK_ok 999 80; simp (disch := first | decide | omega) only [t69_0, lift_c, o_aload0, o_iload1, o_virt2, rpush_n, rpush_s, o_ifeq, o_iload2, o_stat1, o_ifne, o_inl, o_ireturn, o_getref, o_aaload, o_astore, s1_0, s1_s, o_aload3, o_getfield, o_istore, o_putfield, o_iload4, z0, z1, z2, z20, z31, runI_0, runI_c, runI_n, liftI_n, liftI_y, run_0, run_c, run_n, fxn, fxi, fxr, fxl, fxl0, ↓swi_n, ↓swi_c, nck0, nck1, nck2, nck3, List.length_cons, List.length_nil, Nat.reduceAdd, Nat.reduceSub, Nat.reduceLeDiff, Nat.reduceEqDiff, Nat.reduceLT, reduceIte, ite_true, ite_false, Nat.sub_zero, Nat.zero_le, true_and, and_true, and_self, true_or, or_true, if_true, if_false, true_implies, implies_true, not_true_eq_false, not_false_eq_true, false_implies, forall_const, ne_eq, or_self, and_false, false_and, Lt, Le, Eq', Cp, In, nI_add, nI_mul, nI_sub, nI_sub1, Neg0, bI_eq0, bI_eq1, bI_01, bft, up2_eq, up2_no, Bool.true_eq_false, Bool.false_eq_true, eq_self, m1_ne, m1_ne2, m1_lt, m1_le, lt_m1, m1_le2, bI_t, bI_f, LK_st, FGu hG, LK_g hG h22 hs2, FY22u hY22, hx, hy, hd0])
      exact bad
    | true =>
      rw [hy] at hk2
      obtain ⟨i, hi, ex⟩ := isY_of hB.2.2.1 hb
      subst ex
      have hD := hI.goose (v := y) hi (show 3 < 5 by omega) (hB.2.2.1.key_up hi (keyB_of hy))
      have hg2 : I (28 + 2 * i) 3 = gs (I 124) i 3 := hB.2.1.geese i 3 hi (by omega)
      have hQ := hQ (orN (gs (I 124) i 3)) n sh (up2 I (28 + 2 * i) 3 y) L P fun Q2 h2 => by
        refine ⟨(FMu hI.1).1, ?_⟩
        have h2 := h2 _ _ _ _ _ ⟨F, E, k, g, r, hD⟩
        apply e135
        have h124 : (up2 I (28 + 2 * i) 3 y) 124 = I 124 := up2_row _ _ _ _ _ (by omega)
        (apply WP_runI (lv := lvM) LM_ok 999 80; simp (disch := first | decide | omega) only [t135_0, lift_c, o_aload0, o_iload1, o_virt2, rpush_n, rpush_s, o_ifeq, o_iload2, o_inl, o_stat3, o_virt4, o_stat1, o_goto, o_ireturn, z0, z1, z2, z3, z8, z20, z31, runI_0, runI_c, runI_n, liftI_n, liftI_y, run_0, run_c, run_n, fxn, fxi, fxr, fxl, fxl0, ↓swi_n, ↓swi_c, nck0, nck1, nck2, nck3, List.length_cons, List.length_nil, Nat.reduceAdd, Nat.reduceSub, Nat.reduceLeDiff, Nat.reduceEqDiff, Nat.reduceLT, reduceIte, ite_true, ite_false, Nat.sub_zero, Nat.zero_le, true_and, and_true, and_self, true_or, or_true, if_true, if_false, true_implies, implies_true, not_true_eq_false, not_false_eq_true, false_implies, forall_const, ne_eq, or_self, and_false, false_and, Lt, Le, Eq', Cp, In, nI_add, nI_mul, nI_sub, nI_sub1, Neg0, bI_eq0, bI_eq1, bI_01, bft, up2_eq, up2_no, Bool.true_eq_false, Bool.false_eq_true, eq_self, m1_ne, m1_ne2, m1_lt, m1_le, lt_m1, m1_le2, bI_t, bI_f, LM_all hF, FMu hF, hWe, hb, hk2, hd0, h124])
        exact h2
      clear hD hk2
      (apply WP_runI (lv := lvK) (F := LK) LK_ok 999 80; simp (disch := first | decide | omega) only [t69_0, lift_c, o_aload0, o_iload1, o_virt2, rpush_n, rpush_s, o_ifeq, o_iload2, o_stat1, o_ifne, o_inl, o_ireturn, o_getref, o_aaload, o_astore, s1_0, s1_s, o_aload3, o_getfield, o_istore, o_putfield, o_iload4, z0, z1, z2, z20, z31, runI_0, runI_c, runI_n, liftI_n, liftI_y, run_0, run_c, run_n, fxn, fxi, fxr, fxl, fxl0, ↓swi_n, ↓swi_c, nck0, nck1, nck2, nck3, List.length_cons, List.length_nil, Nat.reduceAdd, Nat.reduceSub, Nat.reduceLeDiff, Nat.reduceEqDiff, Nat.reduceLT, reduceIte, ite_true, ite_false, Nat.sub_zero, Nat.zero_le, true_and, and_true, and_self, true_or, or_true, if_true, if_false, true_implies, implies_true, not_true_eq_false, not_false_eq_true, false_implies, forall_const, ne_eq, or_self, and_false, false_and, Lt, Le, Eq', Cp, In, nI_add, nI_mul, nI_sub, nI_sub1, Neg0, bI_eq0, bI_eq1, bI_01, bft, up2_eq, up2_no, Bool.true_eq_false, Bool.false_eq_true, eq_self, m1_ne, m1_ne2, m1_lt, m1_le, lt_m1, m1_le2, bI_t, bI_f, LK_st, FGu hG, LK_g hG h22 hs2, FY22u hY22, h5, hi, hy, hg2, hd0, decide_true])
      exact hQ
theorem take_P (hd : 50 ≤ d) (x y : Int32) (hy : y = nI 0 ∨ y = nI 1) : PAIR G d 71 137 [.ref 20, .int x, .int y] [.ref 123, .int x, .int y] := by
  intro n sh I L P Q hI hQ
  obtain ⟨F, E, k, g, r, hI⟩ := hI
  apply e71
  apply WP_SF
  intro hSF
  have hs2 := hSF.2.2.1
  have hB := hI.cb
  have hG := hB.fg
  have hY22 := hB.y22
  have hY84 := hB.y84
  have h22 : sh 22 = (8, 9) := (FY22u hY22).1
  have hd0 : 0 < d := by omega
  have hk := hI.2.2.1.1.k6
  have hg9 := hI.2.2.1.1.g9
  have hx := gooseB hB x
  have hWe := hI.2.2.1.we
  have hF := hI.1
  have h5 := hB.count
  cases hb : isY (I 124) x with
  | false =>
    rw [hb] at hx
    have bad := hQ (-nI 1) n sh I L P (fun Q2 h2 => by
        refine ⟨(FMu hI.1).1, ?_⟩
        have h2 := h2 _ _ _ _ _ ⟨F, E, k, g, r, hI⟩
        apply e137
        (apply WP_runI (lv := lvM) LM_ok 999 80; simp (disch := first | decide | omega) only [t137_0, lift_c, o_aload0, o_iload1, o_virt2, rpush_n, rpush_s, o_ifeq, o_inl, o_iload2, o_goto, o_virt4, o_ireturn, z0, z1, z2, z4, z20, z31, runI_0, runI_c, runI_n, liftI_n, liftI_y, run_0, run_c, run_n, fxn, fxi, fxr, fxl, fxl0, ↓swi_n, ↓swi_c, nck0, nck1, nck2, nck3, List.length_cons, List.length_nil, Nat.reduceAdd, Nat.reduceSub, Nat.reduceLeDiff, Nat.reduceEqDiff, Nat.reduceLT, reduceIte, ite_true, ite_false, Nat.sub_zero, Nat.zero_le, true_and, and_true, and_self, true_or, or_true, if_true, if_false, true_implies, implies_true, not_true_eq_false, not_false_eq_true, false_implies, forall_const, ne_eq, or_self, and_false, false_and, Lt, Le, Eq', Cp, In, nI_add, nI_mul, nI_sub, nI_sub1, Neg0, bI_eq0, bI_eq1, bI_01, bft, up2_eq, up2_no, Bool.true_eq_false, Bool.false_eq_true, eq_self, m1_ne, m1_ne2, m1_lt, m1_le, lt_m1, m1_le2, bI_t, bI_f, LM_all hF, FMu hF, hWe, hb, hd0])
        exact h2)
    (apply WP_runI (lv := lvK) (F := LK) LK_ok 999 80; simp (disch := first | decide | omega) only [t71_0, lift_c, o_aload0, o_iload1, o_virt2, rpush_n, rpush_s, o_ifne, o_inl, o_ireturn, o_getref, o_aaload, o_astore, s1_0, s1_s, o_aload3, o_getfield, o_istore, o_iload2, o_putbool, o_iload4, o_ifeq, o_goto, z0, z1, z2, z20, z31, runI_0, runI_c, runI_n, liftI_n, liftI_y, run_0, run_c, run_n, fxn, fxi, fxr, fxl, fxl0, ↓swi_n, ↓swi_c, nck0, nck1, nck2, nck3, List.length_cons, List.length_nil, Nat.reduceAdd, Nat.reduceSub, Nat.reduceLeDiff, Nat.reduceEqDiff, Nat.reduceLT, reduceIte, ite_true, ite_false, Nat.sub_zero, Nat.zero_le, true_and, and_true, and_self, true_or, or_true, if_true, if_false, true_implies, implies_true, not_true_eq_false, not_false_eq_true, false_implies, forall_const, ne_eq, or_self, and_false, false_and, Lt, Le, Eq', Cp, In, nI_add, nI_mul, nI_sub, nI_sub1, Neg0, bI_eq0, bI_eq1, bI_01, bft, up2_eq, up2_no, Bool.true_eq_false, Bool.false_eq_true, eq_self, m1_ne, m1_ne2, m1_lt, m1_le, lt_m1, m1_le2, bI_t, bI_f, LK_st, FGu hG, LK_g hG h22 hs2, FY22u hY22, hx, hd0])
    exact bad
  | true =>
    obtain ⟨i, hi, ex⟩ := isY_of hB.2.2.1 hb
    subst ex
    have hD := hI.goose (v := y) hi (show 4 < 5 by omega) (hB.2.2.1.take_up hi hy)
    have hg2 : I (28 + 2 * i) 4 = gs (I 124) i 4 := hB.2.1.geese i 4 hi (by omega)
    have hQ := hQ (gs (I 124) i 4) n sh (up2 I (28 + 2 * i) 4 y) L P fun Q2 h2 => by
      refine ⟨(FMu hI.1).1, ?_⟩
      have h2 := h2 _ _ _ _ _ ⟨F, E, k, g, r, hD⟩
      apply e137
      have h124 : (up2 I (28 + 2 * i) 4 y) 124 = I 124 := up2_row _ _ _ _ _ (by omega)
      have n01 : ¬ nI 1 = nI 0 := by decide
      rcases hy with rfl | rfl
      · (apply WP_runI (lv := lvM) LM_ok 999 80; simp (disch := first | decide | omega) only [t137_0, lift_c, o_aload0, o_iload1, o_virt2, rpush_n, rpush_s, o_ifeq, o_inl, o_iload2, o_goto, o_virt4, o_ireturn, z0, z1, z2, z4, z20, z31, runI_0, runI_c, runI_n, liftI_n, liftI_y, run_0, run_c, run_n, fxn, fxi, fxr, fxl, fxl0, ↓swi_n, ↓swi_c, nck0, nck1, nck2, nck3, List.length_cons, List.length_nil, Nat.reduceAdd, Nat.reduceSub, Nat.reduceLeDiff, Nat.reduceEqDiff, Nat.reduceLT, reduceIte, ite_true, ite_false, Nat.sub_zero, Nat.zero_le, true_and, and_true, and_self, true_or, or_true, if_true, if_false, true_implies, implies_true, not_true_eq_false, not_false_eq_true, false_implies, forall_const, ne_eq, or_self, and_false, false_and, Lt, Le, Eq', Cp, In, nI_add, nI_mul, nI_sub, nI_sub1, Neg0, bI_eq0, bI_eq1, bI_01, bft, up2_eq, up2_no, Bool.true_eq_false, Bool.false_eq_true, eq_self, m1_ne, m1_ne2, m1_lt, m1_le, lt_m1, m1_le2, bI_t, bI_f, LM_all hF, FMu hF, hWe, hb, hd0, h124])
        exact h2
      · (apply WP_runI (lv := lvM) LM_ok 999 80; simp (disch := first | decide | omega) only [t137_0, lift_c, o_aload0, o_iload1, o_virt2, rpush_n, rpush_s, o_ifeq, o_inl, o_iload2, o_goto, o_virt4, o_ireturn, z0, z1, z2, z4, z20, z31, runI_0, runI_c, runI_n, liftI_n, liftI_y, run_0, run_c, run_n, fxn, fxi, fxr, fxl, fxl0, ↓swi_n, ↓swi_c, nck0, nck1, nck2, nck3, List.length_cons, List.length_nil, Nat.reduceAdd, Nat.reduceSub, Nat.reduceLeDiff, Nat.reduceEqDiff, Nat.reduceLT, reduceIte, ite_true, ite_false, Nat.sub_zero, Nat.zero_le, true_and, and_true, and_self, true_or, or_true, if_true, if_false, true_implies, implies_true, not_true_eq_false, not_false_eq_true, false_implies, forall_const, ne_eq, or_self, and_false, false_and, Lt, Le, Eq', Cp, In, nI_add, nI_mul, nI_sub, nI_sub1, Neg0, bI_eq0, bI_eq1, bI_01, bft, up2_eq, up2_no, Bool.true_eq_false, Bool.false_eq_true, eq_self, m1_ne, m1_ne2, m1_lt, m1_le, lt_m1, m1_le2, bI_t, bI_f, LM_all hF, FMu hF, hWe, hb, hd0, h124, n01])
        exact h2
    clear hD
    rcases hB.2.2.1.taken hi with e | e
    · rw [e] at hg2 hQ
      (apply WP_runI (lv := lvK) (F := LK) LK_ok 999 80; simp (disch := first | decide | omega) only [t71_0, lift_c, o_aload0, o_iload1, o_virt2, rpush_n, rpush_s, o_ifne, o_inl, o_ireturn, o_getref, o_aaload, o_astore, s1_0, s1_s, o_aload3, o_getfield, o_istore, o_iload2, o_putbool, o_iload4, o_ifeq, o_goto, z0, z1, z2, z20, z31, runI_0, runI_c, runI_n, liftI_n, liftI_y, run_0, run_c, run_n, fxn, fxi, fxr, fxl, fxl0, ↓swi_n, ↓swi_c, nck0, nck1, nck2, nck3, List.length_cons, List.length_nil, Nat.reduceAdd, Nat.reduceSub, Nat.reduceLeDiff, Nat.reduceEqDiff, Nat.reduceLT, reduceIte, ite_true, ite_false, Nat.sub_zero, Nat.zero_le, true_and, and_true, and_self, true_or, or_true, if_true, if_false, true_implies, implies_true, not_true_eq_false, not_false_eq_true, false_implies, forall_const, ne_eq, or_self, and_false, false_and, Lt, Le, Eq', Cp, In, nI_add, nI_mul, nI_sub, nI_sub1, Neg0, bI_eq0, bI_eq1, bI_01, bft, up2_eq, up2_no, Bool.true_eq_false, Bool.false_eq_true, eq_self, m1_ne, m1_ne2, m1_lt, m1_le, lt_m1, m1_le2, bI_t, bI_f, LK_st, FGu hG, LK_g hG h22 hs2, FY22u hY22, h5, hi, hg2, hy, hd0, decide_true])
      exact hQ
    · rw [e] at hg2 hQ
      (apply WP_runI (lv := lvK) (F := LK) LK_ok 999 80; simp (disch := first | decide | omega) only [t71_0, lift_c, o_aload0, o_iload1, o_virt2, rpush_n, rpush_s, o_ifne, o_inl, o_ireturn, o_getref, o_aaload, o_astore, s1_0, s1_s, o_aload3, o_getfield, o_istore, o_iload2, o_putbool, o_iload4, o_ifeq, o_goto, z0, z1, z2, z20, z31, runI_0, runI_c, runI_n, liftI_n, liftI_y, run_0, run_c, run_n, fxn, fxi, fxr, fxl, fxl0, ↓swi_n, ↓swi_c, nck0, nck1, nck2, nck3, List.length_cons, List.length_nil, Nat.reduceAdd, Nat.reduceSub, Nat.reduceLeDiff, Nat.reduceEqDiff, Nat.reduceLT, reduceIte, ite_true, ite_false, Nat.sub_zero, Nat.zero_le, true_and, and_true, and_self, true_or, or_true, if_true, if_false, true_implies, implies_true, not_true_eq_false, not_false_eq_true, false_implies, forall_const, ne_eq, or_self, and_false, false_and, Lt, Le, Eq', Cp, In, nI_add, nI_mul, nI_sub, nI_sub1, Neg0, bI_eq0, bI_eq1, bI_01, bft, up2_eq, up2_no, Bool.true_eq_false, Bool.false_eq_true, eq_self, m1_ne, m1_ne2, m1_lt, m1_le, lt_m1, m1_le2, bI_t, bI_f, LK_st, FGu hG, LK_g hG h22 hs2, FY22u hY22, h5, hi, hg2, hy, hd0, decide_true])
      exact hQ
end
