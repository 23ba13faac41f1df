/-! ### the class: what is tried out in a yard of its own -/
def tr7 (a j : Nat) : Prop := a = 84 ∧ j = 7
theorem FY.e7 {sh : TS} {P P' : TP} {c : Nat} (he : Eo tr7 P P') (h : FY sh P c) : FY sh P' c := by
  obtain ⟨h1, h2, h3, h4, h5, h6, p0, p1, p2, p4, p8, q1, q2, q3, q4⟩ := h
  have e : ∀ a j, ¬ j = 7 → P' a j = P a j := fun a j hj => he a j fun q => hj q.2
  exact ⟨h1, h2, h3, h4, h5, h6, (e _ _ (by omega)).trans p0, (e _ _ (by omega)).trans p1, (e _ _ (by omega)).trans p2, (e _ _ (by omega)).trans p4, (e _ _ (by omega)).trans p8, fun i hi => (e _ _ (by omega)).trans (q1 i hi), q2, q3, fun i hi => (e _ _ (by omega)).trans (q4 i hi)⟩
theorem FR.e7 {sh : TS} {P P' : TP} {c z : Nat} (he : Eo tr7 P P') (h : FR sh P c z) : FR sh P' c z := by
  obtain ⟨h1, h2, h3, h4, p0, p1, p2⟩ := h
  have e : ∀ a j, ¬ j = 7 → P' a j = P a j := fun a j hj => he a j fun q => hj q.2
  exact ⟨h1, h2, h3, h4, (e _ _ (by omega)).trans p0, (e _ _ (by omega)).trans p1, (e _ _ (by omega)).trans p2⟩
theorem FG.e7 {sh : TS} {P P' : TP} (he : Eo tr7 P P') (h : FG sh P) : FG sh P' := by
  have e : ∀ a j, ¬ a = 84 → P' a j = P a j := fun a j hj => he a j fun q => hj q.1
  unfold FG at h ⊢
  rw [e 20 0 (by omega), e 20 1 (by omega), e 20 3 (by omega), e 20 4 (by omega), e 20 6 (by omega), e 20 7 (by omega), e 21 0 (by omega), e 21 1 (by omega), e 21 2 (by omega), e 21 3 (by omega), e 52 0 (by omega), e 52 1 (by omega), e 52 2 (by omega), e 52 3 (by omega), e 83 0 (by omega), e 102 0 (by omega), e 108 0 (by omega)]
  refine ⟨h.1, h.2.1, h.2.2.1, h.2.2.2.1, h.2.2.2.2.1, h.2.2.2.2.2.1, h.2.2.2.2.2.2.1, h.2.2.2.2.2.2.2.1, h.2.2.2.2.2.2.2.2.1, h.2.2.2.2.2.2.2.2.2.1, h.2.2.2.2.2.2.2.2.2.2.1, h.2.2.2.2.2.2.2.2.2.2.2.1, h.2.2.2.2.2.2.2.2.2.2.2.2.1, h.2.2.2.2.2.2.2.2.2.2.2.2.2.1, h.2.2.2.2.2.2.2.2.2.2.2.2.2.2.1, h.2.2.2.2.2.2.2.2.2.2.2.2.2.2.2.1, h.2.2.2.2.2.2.2.2.2.2.2.2.2.2.2.2.1, h.2.2.2.2.2.2.2.2.2.2.2.2.2.2.2.2.2.1, h.2.2.2.2.2.2.2.2.2.2.2.2.2.2.2.2.2.2.1, h.2.2.2.2.2.2.2.2.2.2.2.2.2.2.2.2.2.2.2.1, h.2.2.2.2.2.2.2.2.2.2.2.2.2.2.2.2.2.2.2.2.1, h.2.2.2.2.2.2.2.2.2.2.2.2.2.2.2.2.2.2.2.2.2.1, h.2.2.2.2.2.2.2.2.2.2.2.2.2.2.2.2.2.2.2.2.2.2.1, h.2.2.2.2.2.2.2.2.2.2.2.2.2.2.2.2.2.2.2.2.2.2.2.1, h.2.2.2.2.2.2.2.2.2.2.2.2.2.2.2.2.2.2.2.2.2.2.2.2.1, h.2.2.2.2.2.2.2.2.2.2.2.2.2.2.2.2.2.2.2.2.2.2.2.2.2.1, ?_⟩
  obtain ⟨q1, q2, q3, q4⟩ := h.2.2.2.2.2.2.2.2.2.2.2.2.2.2.2.2.2.2.2.2.2.2.2.2.2.2
  exact ⟨fun i hi => (e _ _ (by omega)).trans (q1 i hi), q2, q3, fun i hi => (e _ _ (by omega)).trans (q4 i hi)⟩
theorem FA.e7 {sh : TS} {P P' : TP} (he : Eo tr7 P P') (h : FA sh P) : FA sh P' := by
  obtain ⟨h1, h2, h3, h4, h5, h6, h7, h8, h9, h10⟩ := h
  exact ⟨h1.e7 he, h2.e7 he, h3.e7 he, h4.e7 he, h5.e7 he, h6.e7 he, h7.e7 he, h8.e7 he, h9.e7 he, h10.e7 he⟩
theorem FM.e7 {sh : TS} {P P' : TP} (he : Eo tr7 P P') (h : FM sh P) : FM sh P' := by
  have e : ∀ j, P' 123 j = P 123 j := fun j => he 123 j fun q => by have := q.1; omega
  unfold FM at h ⊢
  simp only [e]
  exact h
theorem YD.e7 {sh : TS} {I : TI} {P P' : TP} {c : Nat} {N : TN} {F : TF} {E : Nat → Int32} {k g : Nat} (he : Eo tr7 P P') (hc : ¬ c = 84) (h : YD sh I P c N F E k g) : YD sh I P' c N F E k g := by
  refine ⟨h.y.e7 he, h.gates, h.count, h.hour, h.grain, h.one, h.other, h.geese, h.rows, ?_⟩
  rw [he c 7 fun q => hc q.1]
  exact h.holds.eoP fun a j ha => he a j fun q => by have := q.1; omega
def CF (I : TI) (L : TL) (P : TP) (I' : TI) (L' : TL) (P' : TP) : Prop := Eo (scY 84) I I' ∧ Eo (scY 84) L L' ∧ Eo tr7 P P'
theorem CF.rf {I : TI} {L : TL} {P : TP} : CF I L P I L P := ⟨Eo.rf, Eo.rf, Eo.rf⟩
theorem CF.tr {I I1 I2 : TI} {L L1 L2 : TL} {P P1 P2 : TP} (h : CF I L P I1 L1 P1) (h2 : CF I1 L1 P1 I2 L2 P2) : CF I L P I2 L2 P2 := ⟨h.1.tr h2.1, h.2.1.tr h2.2.1, h.2.2.tr h2.2.2⟩
def CB (sh : TS) (I : TI) (P : TP) (N : TN) (F : TF) (E : Nat → Int32) (k g r : Nat) : Prop := FA sh P ∧ YD sh I P 22 N F E k g ∧ WF N k g r ∧ ∀ u, eOK (E u)
theorem scY_22 {c j : Nat} (h : scY 84 c j) : ¬ (104 ≤ c ∧ c ≤ 107 ∨ 143 ≤ c) ∧ ¬ (22 ≤ c ∧ c ≤ 22 + 4 ∨ 22 + 6 ≤ c ∧ c ≤ 22 + 17) := by
  have h1 := h.1
  have h2 := h.2
  omega
section
variable {sh : TS} {I : TI} {L : TL} {P : TP} {N M : TN} {F : TF} {E : Nat → Int32} {k g r : Nat}
theorem CB.cf {I' : TI} {L' : TL} {P' : TP} (h : CB sh I P N F E k g r) (hc : CF I L P I' L' P') : CB sh I' P' N F E k g r :=
  ⟨h.1.e7 hc.2.2, (h.2.1.eo h.2.2.1.k6 hc.1 fun _ _ q => scY_22 q).e7 hc.2.2 (by omega), h.2.2⟩
/-- the class as it is, and the yard that is tried out at a row -/
def TT (sh : TS) (I0 : TI) (L0 : TL) (P0 : TP) (I : TI) (L : TL) (P : TP) (N M : TN) (F : TF) (E : Nat → Int32) (k g r : Nat) : Prop := CF I0 L0 P0 I L P ∧ CB sh I P N F E k g r ∧ YD sh I P 84 M F E k g ∧ WF M k g r
end
section
variable {G : GE} {d n : Nat} {sh : TS} {I0 I : TI} {L0 L : TL} {P0 P : TP} {Q : TQ} {N M : TN} {F : TF} {E : Nat → Int32} {k g r : Nat}
theorem copy_T (hB : CB sh I P N F E k g r) (hc : CF I0 L0 P0 I L P) (hd : 2 ≤ d) (hQ : ∀ I' L' P', TT sh I0 L0 P0 I' L' P' N N F E k g r → Q none n sh I' L' P') : Cl G d 52 [.ref 84, .ref 22] n sh I L P Q := by
  refine copy_Y hB.2.1 hB.2.2.1 hB.1.2.2.2.1 (by omega) (by omega) (by omega) hd fun I' L' he hl hD => ?_
  have hc2 : CF I L P I' L' (up2 P 84 7 (P 22 7)) := ⟨he, hl, Eo.up Eo.rf ⟨rfl, rfl⟩ _⟩
  exact hQ _ _ _ ⟨hc.tr hc2, hB.cf hc2, hD, hB.2.2.1⟩
theorem TT.hourI {I' : TI} (hT : TT sh I0 L0 P0 I L P N M F E k g r) {M' : TN} (he : Eo (scY 84) I I') (hD : YD sh I' P 84 M' F E k g) (hW : WF M' k g r) : TT sh I0 L0 P0 I' L P N M' F E k g r := by
  have hc : CF I L P I' L P := ⟨he, Eo.rf, Eo.rf⟩
  exact ⟨hT.1.tr hc, hT.2.1.cf hc, hD, hW⟩
theorem hour_T (hT : TT sh I0 L0 P0 I L P N M F E k g r) (hd : 5 ≤ d) (hQ : ∀ I', TT sh I0 L0 P0 I' L P N (hourS F E M) F E k g r → Q none n sh I' L P) : Cl G d 63 [.ref 84] n sh I L P Q := by
  refine goHour_Y hT.2.2.1 hT.2.2.2 hT.2.1.2.2.2 (by omega) hd fun I' he hD => ?_
  exact hQ I' (hT.hourI he hD (WF_hour hT.2.1.2.2.2 hT.2.2.2))
theorem hours_T (hT : TT sh I0 L0 P0 I L P N M F E k g r) {m : Nat} (hm : m < 2 ^ 30) (hd : 6 ≤ d) (hQ : ∀ I', TT sh I0 L0 P0 I' L P N (hoursS F E M m) F E k g r → Q none n sh I' L P) : Cl G d 64 [.ref 84, .int (nI m)] n sh I L P Q := by
  refine goHours_Y hT.2.2.1 hT.2.2.2 hT.2.1.2.2.2 (by omega) hm hd fun I' he hD => ?_
  exact hQ I' (hT.hourI he hD (WF_hours hT.2.1.2.2.2 hT.2.2.2 m))
theorem open_T (hT : TT sh I0 L0 P0 I L P N M F E k g r) (hd : 1 ≤ d) (hQ : Q (some (.int (openS M))) n sh I L P) : Cl G d 57 [.ref 84] n sh I L P Q := openG_Y hT.2.2.1 hT.2.2.2 hd hQ
theorem addG_T (hT : TT sh I0 L0 P0 I L P N M F E k g r) {c : Nat} {z : Int32} (hc : c < 8) (hd : 1 ≤ d) (hW : WF (upN M c (mnS (M c + z))) k g r) (hQ : ∀ I', TT sh I0 L0 P0 I' L P N (upN M c (mnS (M c + z))) F E k g r → Q none n sh I' L P) : Cl G d 55 [.ref 84, .int (nI c), .int z] n sh I L P Q := by
  refine addGrain_Y hT.2.2.1.y (by omega) hd hc ?_
  rw [hT.2.2.1.grain c hc]
  exact hQ _ (hT.hourI (Eo.up Eo.rf ⟨by omega, by omega⟩ _) (hT.2.2.1.grain_up hT.2.2.2.k6 hT.2.2.2.g9 (by omega) hc) hW)
theorem goose_T (hT : TT sh I0 L0 P0 I L P N M F E k g r) {i w : Nat} {v : Int32} (hi : i < k) (hw : w < 5) (hW : WF (upN M (26 + 9 * i + w) v) k g r) : TT sh I0 L0 P0 (up2 I (84 + 6 + 2 * i) w v) L P N (upN M (26 + 9 * i + w) v) F E k g r := by
  have hk := hT.2.2.2.k6
  exact hT.hourI (Eo.up Eo.rf ⟨by omega, by omega⟩ _) (hT.2.2.1.goose_up hT.2.2.2.k6 hT.2.2.2.g9 (by omega) hi hw) hW
theorem soonL_late {x : Int32} {m j : Nat} : lateS (soonL F E N x (m + 1) j) = if bt (openS (hoursS F E N j)) x = true then lateS (nI j) else lateS (soonL F E N x m (j + 1)) := by
  rw [soonL]
  split <;> rfl
theorem late_n {j : Nat} (h : j < 2 ^ 31) : lateS (nI j) = nI j := if_neg (by rw [n5_ne _ h]; exact id)
theorem until_T (hT : TT sh I0 L0 P0 I L P N M F E k g r) {x : Int32} (hd : 6 ≤ d) (hQ : ∀ I' L' P', CF I0 L0 P0 I' L' P' → CB sh I' P' N F E k g r → Q (some (.int (lateS (soonS F E M x)))) n sh I' L' P') : Cl G d 10 [.ref 83, .int x] n sh I L P Q := by
  apply e10
  have hd0 : 0 < d := by omega
  generalize hv : lateS (soonS F E M x) = v at hQ
  have hG := hT.2.1.1.1
  have hY := hT.2.1.1.2.2.2.1
  have loop : ∀ m j I1 cc ss, j + m = 20 → TT sh I0 L0 P0 I1 L P N (hoursS F E M j) F E k g r → lateS (soonL F E M x (m + 1) j) = v → WP G 10 d Q 2 [some (.ref 83), some (.int x), some (.int (nI j))] [] cc ss n sh I1 L P := by
    intro m
    induction m with
    | zero =>
      intro j I1 cc ss h hT1 hs
      have hj : 20 ≤ j := by omega
      have hQ := hQ I1 L P hT1.1 hT1.2.1
      rw [soonL_late, show lateS (soonL F E M x 0 (j + 1)) = nI 1000 from rfl, late_n (by omega), show j = 20 by omega] at hs
      rw [show j = 20 by omega] at hT1
      (apply WP_runI (lv := lvK) (F := LK) LK_ok 2 20; simp (disch := first | decide | omega) only [t10_0, lift_c, o_inl, o_istore, s1_0, s1_s, o_iload2, o_icge, o_aload0, o_getref, o_virt1, rpush_n, rpush_s, o_iload1, o_stat2, o_ifeq, o_ireturn, o_iinc2, o_goto, z0, z1, z2, z20, z31, z1000, runI_0, runI_c, runI_n, liftI_n, liftI_y, run_0, run_c, run_n, fxn, fxi, fxr, fxl, fxl0, ↓swi_n, ↓swi_c, nck0, nck1, nck2, nck3, List.length_cons, List.length_nil, Nat.reduceAdd, Nat.reduceSub, Nat.reduceLeDiff, Nat.reduceEqDiff, Nat.reduceLT, reduceIte, ite_true, ite_false, Nat.sub_zero, Nat.zero_le, true_and, and_true, and_self, true_or, or_true, if_true, if_false, true_implies, implies_true, not_true_eq_false, not_false_eq_true, false_implies, forall_const, ne_eq, or_self, and_false, false_and, Lt, Le, Eq', Cp, In, nI_add, nI_mul, nI_sub, nI_sub1, Neg0, bI_eq0, bI_eq1, bI_01, bft, up2_eq, up2_no, Bool.true_eq_false, Bool.false_eq_true, eq_self, m1_ne, m1_ne2, m1_lt, m1_le, lt_m1, m1_le2, bI_t, bI_f, LK_st, FYu hY, FGu hG, hj, hd0])
      refine open_T hT1 (by omega) ?_
      generalize openS (hoursS F E M 20) = o at hs
      cases hb : bt o x with
      | true =>
        rw [if_pos hb] at hs
        rw [← hs] at hQ
        (apply WP_runI (lv := lvK) (F := LK) LK_ok 2 20; simp (disch := first | decide | omega) only [t10_0, lift_c, o_inl, o_istore, s1_0, s1_s, o_iload2, o_icge, o_aload0, o_getref, o_virt1, rpush_n, rpush_s, o_iload1, o_stat2, o_ifeq, o_ireturn, o_iinc2, o_goto, z0, z1, z2, z20, z31, z1000, runI_0, runI_c, runI_n, liftI_n, liftI_y, run_0, run_c, run_n, fxn, fxi, fxr, fxl, fxl0, ↓swi_n, ↓swi_c, nck0, nck1, nck2, nck3, List.length_cons, List.length_nil, Nat.reduceAdd, Nat.reduceSub, Nat.reduceLeDiff, Nat.reduceEqDiff, Nat.reduceLT, reduceIte, ite_true, ite_false, Nat.sub_zero, Nat.zero_le, true_and, and_true, and_self, true_or, or_true, if_true, if_false, true_implies, implies_true, not_true_eq_false, not_false_eq_true, false_implies, forall_const, ne_eq, or_self, and_false, false_and, Lt, Le, Eq', Cp, In, nI_add, nI_mul, nI_sub, nI_sub1, Neg0, bI_eq0, bI_eq1, bI_01, bft, up2_eq, up2_no, Bool.true_eq_false, Bool.false_eq_true, eq_self, m1_ne, m1_ne2, m1_lt, m1_le, lt_m1, m1_le2, bI_t, bI_f, LK_st, FYu hY, FGu hG, hb, hd0])
        exact hQ
      | false =>
        rw [if_neg (by rw [hb]; decide)] at hs
        rw [← hs] at hQ
        (apply WP_runI (lv := lvK) (F := LK) LK_ok 2 20; simp (disch := first | decide | omega) only [t10_0, lift_c, o_inl, o_istore, s1_0, s1_s, o_iload2, o_icge, o_aload0, o_getref, o_virt1, rpush_n, rpush_s, o_iload1, o_stat2, o_ifeq, o_ireturn, o_iinc2, o_goto, z0, z1, z2, z20, z31, z1000, runI_0, runI_c, runI_n, liftI_n, liftI_y, run_0, run_c, run_n, fxn, fxi, fxr, fxl, fxl0, ↓swi_n, ↓swi_c, nck0, nck1, nck2, nck3, List.length_cons, List.length_nil, Nat.reduceAdd, Nat.reduceSub, Nat.reduceLeDiff, Nat.reduceEqDiff, Nat.reduceLT, reduceIte, ite_true, ite_false, Nat.sub_zero, Nat.zero_le, true_and, and_true, and_self, true_or, or_true, if_true, if_false, true_implies, implies_true, not_true_eq_false, not_false_eq_true, false_implies, forall_const, ne_eq, or_self, and_false, false_and, Lt, Le, Eq', Cp, In, nI_add, nI_mul, nI_sub, nI_sub1, Neg0, bI_eq0, bI_eq1, bI_01, bft, up2_eq, up2_no, Bool.true_eq_false, Bool.false_eq_true, eq_self, m1_ne, m1_ne2, m1_lt, m1_le, lt_m1, m1_le2, bI_t, bI_f, LK_st, FYu hY, FGu hG, hb, hd0])
        exact hQ
    | succ m ih =>
      intro j I1 cc ss h hT1 hs
      have hj : ¬ 20 ≤ j := by omega
      have hQ := hQ I1 L P hT1.1 hT1.2.1
      rw [soonL_late, late_n (by omega)] at hs
      (apply WP_runI (lv := lvK) (F := LK) LK_ok 2 20; simp (disch := first | decide | omega) only [t10_0, lift_c, o_inl, o_istore, s1_0, s1_s, o_iload2, o_icge, o_aload0, o_getref, o_virt1, rpush_n, rpush_s, o_iload1, o_stat2, o_ifeq, o_ireturn, o_iinc2, o_goto, z0, z1, z2, z20, z31, z1000, runI_0, runI_c, runI_n, liftI_n, liftI_y, run_0, run_c, run_n, fxn, fxi, fxr, fxl, fxl0, ↓swi_n, ↓swi_c, nck0, nck1, nck2, nck3, List.length_cons, List.length_nil, Nat.reduceAdd, Nat.reduceSub, Nat.reduceLeDiff, Nat.reduceEqDiff, Nat.reduceLT, reduceIte, ite_true, ite_false, Nat.sub_zero, Nat.zero_le, true_and, and_true, and_self, true_or, or_true, if_true, if_false, true_implies, implies_true, not_true_eq_false, not_false_eq_true, false_implies, forall_const, ne_eq, or_self, and_false, false_and, Lt, Le, Eq', Cp, In, nI_add, nI_mul, nI_sub, nI_sub1, Neg0, bI_eq0, bI_eq1, bI_01, bft, up2_eq, up2_no, Bool.true_eq_false, Bool.false_eq_true, eq_self, m1_ne, m1_ne2, m1_lt, m1_le, lt_m1, m1_le2, bI_t, bI_f, LK_st, FYu hY, FGu hG, hj, hd0])
      refine open_T hT1 (by omega) ?_
      generalize openS (hoursS F E M j) = o at hs
      cases hb : bt o x with
      | true =>
        rw [if_pos hb] at hs
        rw [← hs] at hQ
        (apply WP_runI (lv := lvK) (F := LK) LK_ok 2 20; simp (disch := first | decide | omega) only [t10_0, lift_c, o_inl, o_istore, s1_0, s1_s, o_iload2, o_icge, o_aload0, o_getref, o_virt1, rpush_n, rpush_s, o_iload1, o_stat2, o_ifeq, o_ireturn, o_iinc2, o_goto, z0, z1, z2, z20, z31, z1000, runI_0, runI_c, runI_n, liftI_n, liftI_y, run_0, run_c, run_n, fxn, fxi, fxr, fxl, fxl0, ↓swi_n, ↓swi_c, nck0, nck1, nck2, nck3, List.length_cons, List.length_nil, Nat.reduceAdd, Nat.reduceSub, Nat.reduceLeDiff, Nat.reduceEqDiff, Nat.reduceLT, reduceIte, ite_true, ite_false, Nat.sub_zero, Nat.zero_le, true_and, and_true, and_self, true_or, or_true, if_true, if_false, true_implies, implies_true, not_true_eq_false, not_false_eq_true, false_implies, forall_const, ne_eq, or_self, and_false, false_and, Lt, Le, Eq', Cp, In, nI_add, nI_mul, nI_sub, nI_sub1, Neg0, bI_eq0, bI_eq1, bI_01, bft, up2_eq, up2_no, Bool.true_eq_false, Bool.false_eq_true, eq_self, m1_ne, m1_ne2, m1_lt, m1_le, lt_m1, m1_le2, bI_t, bI_f, LK_st, FYu hY, FGu hG, hb, hd0])
        exact hQ
      | false =>
        rw [if_neg (by rw [hb]; decide)] at hs
        (apply WP_runI (lv := lvK) (F := LK) LK_ok 2 20; simp (disch := first | decide | omega) only [t10_0, lift_c, o_inl, o_istore, s1_0, s1_s, o_iload2, o_icge, o_aload0, o_getref, o_virt1, rpush_n, rpush_s, o_iload1, o_stat2, o_ifeq, o_ireturn, o_iinc2, o_goto, z0, z1, z2, z20, z31, z1000, runI_0, runI_c, runI_n, liftI_n, liftI_y, run_0, run_c, run_n, fxn, fxi, fxr, fxl, fxl0, ↓swi_n, ↓swi_c, nck0, nck1, nck2, nck3, List.length_cons, List.length_nil, Nat.reduceAdd, Nat.reduceSub, Nat.reduceLeDiff, Nat.reduceEqDiff, Nat.reduceLT, reduceIte, ite_true, ite_false, Nat.sub_zero, Nat.zero_le, true_and, and_true, and_self, true_or, or_true, if_true, if_false, true_implies, implies_true, not_true_eq_false, not_false_eq_true, false_implies, forall_const, ne_eq, or_self, and_false, false_and, Lt, Le, Eq', Cp, In, nI_add, nI_mul, nI_sub, nI_sub1, Neg0, bI_eq0, bI_eq1, bI_01, bft, up2_eq, up2_no, Bool.true_eq_false, Bool.false_eq_true, eq_self, m1_ne, m1_ne2, m1_lt, m1_le, lt_m1, m1_le2, bI_t, bI_f, LK_st, FYu hY, FGu hG, hb, hd0])
        refine hour_T hT1 (by omega) fun I2 hT2 => ?_
        have ih := fun cc ss => ih (j + 1) I2 cc ss (by omega) hT2 hs
        (apply WP_runI (lv := lvK) (F := LK) LK_ok 2 20; simp (disch := first | decide | omega) only [t10_0, lift_c, o_inl, o_istore, s1_0, s1_s, o_iload2, o_icge, o_aload0, o_getref, o_virt1, rpush_n, rpush_s, o_iload1, o_stat2, o_ifeq, o_ireturn, o_iinc2, o_goto, z0, z1, z2, z20, z31, z1000, runI_0, runI_c, runI_n, liftI_n, liftI_y, run_0, run_c, run_n, fxn, fxi, fxr, fxl, fxl0, ↓swi_n, ↓swi_c, nck0, nck1, nck2, nck3, List.length_cons, List.length_nil, Nat.reduceAdd, Nat.reduceSub, Nat.reduceLeDiff, Nat.reduceEqDiff, Nat.reduceLT, reduceIte, ite_true, ite_false, Nat.sub_zero, Nat.zero_le, true_and, and_true, and_self, true_or, or_true, if_true, if_false, true_implies, implies_true, not_true_eq_false, not_false_eq_true, false_implies, forall_const, ne_eq, or_self, and_false, false_and, Lt, Le, Eq', Cp, In, nI_add, nI_mul, nI_sub, nI_sub1, Neg0, bI_eq0, bI_eq1, bI_01, bft, up2_eq, up2_no, Bool.true_eq_false, Bool.false_eq_true, eq_self, m1_ne, m1_ne2, m1_lt, m1_le, lt_m1, m1_le2, bI_t, bI_f, LK_st, FYu hY, FGu hG])
        exact ih _ _
  have loop := fun cc ss => loop 20 0 I cc ss (by omega) hT hv
  (apply WP_runI (lv := lvK) (F := LK) LK_ok 2 20; simp (disch := first | decide | omega) only [t10_0, lift_c, o_inl, o_istore, s1_0, s1_s, o_iload2, o_icge, o_aload0, o_getref, o_virt1, rpush_n, rpush_s, o_iload1, o_stat2, o_ifeq, o_ireturn, o_iinc2, o_goto, z0, z1, z2, z20, z31, z1000, runI_0, runI_c, runI_n, liftI_n, liftI_y, run_0, run_c, run_n, fxn, fxi, fxr, fxl, fxl0, ↓swi_n, ↓swi_c, nck0, nck1, nck2, nck3, List.length_cons, List.length_nil, Nat.reduceAdd, Nat.reduceSub, Nat.reduceLeDiff, Nat.reduceEqDiff, Nat.reduceLT, reduceIte, ite_true, ite_false, Nat.sub_zero, Nat.zero_le, true_and, and_true, and_self, true_or, or_true, if_true, if_false, true_implies, implies_true, not_true_eq_false, not_false_eq_true, false_implies, forall_const, ne_eq, or_self, and_false, false_and, Lt, Le, Eq', Cp, In, nI_add, nI_mul, nI_sub, nI_sub1, Neg0, bI_eq0, bI_eq1, bI_01, bft, up2_eq, up2_no, Bool.true_eq_false, Bool.false_eq_true, eq_self, m1_ne, m1_ne2, m1_lt, m1_le, lt_m1, m1_le2, bI_t, bI_f, LK_st, FYu hY])
  exact loop _ _
theorem hoursToOpen_T (hB : CB sh I P N F E k g r) {x : Int32} (hd : 8 ≤ d) (hQ : ∀ I' L' P', CF I L P I' L' P' → Q (some (.int (lateS (soonS F E N x)))) n sh I' L' P') : Cl G d 9 [.ref 83, .ref 22, .int x] n sh I L P Q := by
  apply e9
  have hd0 : 0 < d := by omega
  have hG := hB.1.1
  have hY := hB.1.2.2.2.1
  (apply WP_runI (lv := lvK) (F := LK) LK_ok 999 80; simp (disch := first | decide | omega) only [t9_0, lift_c, o_aload0, o_getref, o_aload1, o_virt2, rpush_n, rpush_s, o_iload2, o_ireturn, z0, z1, z2, z20, z31, runI_0, runI_c, runI_n, liftI_n, liftI_y, run_0, run_c, run_n, fxn, fxi, fxr, fxl, fxl0, ↓swi_n, ↓swi_c, nck0, nck1, nck2, nck3, List.length_cons, List.length_nil, Nat.reduceAdd, Nat.reduceSub, Nat.reduceLeDiff, Nat.reduceEqDiff, Nat.reduceLT, reduceIte, ite_true, ite_false, Nat.sub_zero, Nat.zero_le, true_and, and_true, and_self, true_or, or_true, if_true, if_false, true_implies, implies_true, not_true_eq_false, not_false_eq_true, false_implies, forall_const, ne_eq, or_self, and_false, false_and, Lt, Le, Eq', Cp, In, nI_add, nI_mul, nI_sub, nI_sub1, Neg0, bI_eq0, bI_eq1, bI_01, bft, up2_eq, up2_no, Bool.true_eq_false, Bool.false_eq_true, eq_self, m1_ne, m1_ne2, m1_lt, m1_le, lt_m1, m1_le2, bI_t, bI_f, LK_st, FYu hY, FGu hG, hd0])
  refine copy_T hB CF.rf (by omega) fun I1 L1 P1 hT => ?_
  have hG := hT.2.1.1.1
  have hY := hT.2.1.1.2.2.2.1
  (apply WP_runI (lv := lvK) (F := LK) LK_ok 999 80; simp (disch := first | decide | omega) only [t9_0, lift_c, o_aload0, o_getref, o_aload1, o_virt2, rpush_n, rpush_s, o_iload2, o_ireturn, z0, z1, z2, z20, z31, runI_0, runI_c, runI_n, liftI_n, liftI_y, run_0, run_c, run_n, fxn, fxi, fxr, fxl, fxl0, ↓swi_n, ↓swi_c, nck0, nck1, nck2, nck3, List.length_cons, List.length_nil, Nat.reduceAdd, Nat.reduceSub, Nat.reduceLeDiff, Nat.reduceEqDiff, Nat.reduceLT, reduceIte, ite_true, ite_false, Nat.sub_zero, Nat.zero_le, true_and, and_true, and_self, true_or, or_true, if_true, if_false, true_implies, implies_true, not_true_eq_false, not_false_eq_true, false_implies, forall_const, ne_eq, or_self, and_false, false_and, Lt, Le, Eq', Cp, In, nI_add, nI_mul, nI_sub, nI_sub1, Neg0, bI_eq0, bI_eq1, bI_01, bft, up2_eq, up2_no, Bool.true_eq_false, Bool.false_eq_true, eq_self, m1_ne, m1_ne2, m1_lt, m1_le, lt_m1, m1_le2, bI_t, bI_f, LK_st, FYu hY, FGu hG, hd0])
  refine until_T hT (by omega) fun I2 L2 P2 hc _ => ?_
  have hQ := hQ I2 L2 P2 hc
  generalize lateS (soonS F E N x) = v at hQ ⊢
  (apply WP_runI (lv := lvK) (F := LK) LK_ok 999 80; simp (disch := first | decide | omega) only [t9_0, lift_c, o_aload0, o_getref, o_aload1, o_virt2, rpush_n, rpush_s, o_iload2, o_ireturn, z0, z1, z2, z20, z31, runI_0, runI_c, runI_n, liftI_n, liftI_y, run_0, run_c, run_n, fxn, fxi, fxr, fxl, fxl0, ↓swi_n, ↓swi_c, nck0, nck1, nck2, nck3, List.length_cons, List.length_nil, Nat.reduceAdd, Nat.reduceSub, Nat.reduceLeDiff, Nat.reduceEqDiff, Nat.reduceLT, reduceIte, ite_true, ite_false, Nat.sub_zero, Nat.zero_le, true_and, and_true, and_self, true_or, or_true, if_true, if_false, true_implies, implies_true, not_true_eq_false, not_false_eq_true, false_implies, forall_const, ne_eq, or_self, and_false, false_and, Lt, Le, Eq', Cp, In, nI_add, nI_mul, nI_sub, nI_sub1, Neg0, bI_eq0, bI_eq1, bI_01, bft, up2_eq, up2_no, Bool.true_eq_false, Bool.false_eq_true, eq_self, m1_ne, m1_ne2, m1_lt, m1_le, lt_m1, m1_le2, bI_t, bI_f, LK_st, FYu hY, FGu hG, hd0])
  exact hQ
theorem behind_T (hB : CB sh I P N F E k g r) {m : Nat} (hm : m < 2 ^ 30) (hd : 8 ≤ d) (hQ : ∀ I' L' P', TT sh I L P I' L' P' N (hoursS F E N m) F E k g r → Q (some (.ref 84)) n sh I' L' P') : Cl G d 8 [.ref 83, .ref 22, .int (nI m)] n sh I L P Q := by
  apply e8
  have hd0 : 0 < d := by omega
  have hG := hB.1.1
  have hY := hB.1.2.2.2.1
  (apply WP_runI (lv := lvK) (F := LK) LK_ok 999 80; simp (disch := first | decide | omega) only [t8_0, lift_c, o_aload0, o_getref, o_aload1, o_virt2, rpush_n, rpush_s, o_iload2, o_areturn, z0, z1, z2, z20, z31, runI_0, runI_c, runI_n, liftI_n, liftI_y, run_0, run_c, run_n, fxn, fxi, fxr, fxl, fxl0, ↓swi_n, ↓swi_c, nck0, nck1, nck2, nck3, List.length_cons, List.length_nil, Nat.reduceAdd, Nat.reduceSub, Nat.reduceLeDiff, Nat.reduceEqDiff, Nat.reduceLT, reduceIte, ite_true, ite_false, Nat.sub_zero, Nat.zero_le, true_and, and_true, and_self, true_or, or_true, if_true, if_false, true_implies, implies_true, not_true_eq_false, not_false_eq_true, false_implies, forall_const, ne_eq, or_self, and_false, false_and, Lt, Le, Eq', Cp, In, nI_add, nI_mul, nI_sub, nI_sub1, Neg0, bI_eq0, bI_eq1, bI_01, bft, up2_eq, up2_no, Bool.true_eq_false, Bool.false_eq_true, eq_self, m1_ne, m1_ne2, m1_lt, m1_le, lt_m1, m1_le2, bI_t, bI_f, LK_st, FYu hY, FGu hG, hd0])
  refine copy_T hB CF.rf (by omega) fun I1 L1 P1 hT => ?_
  have hG := hT.2.1.1.1
  have hY := hT.2.1.1.2.2.2.1
  (apply WP_runI (lv := lvK) (F := LK) LK_ok 999 80; simp (disch := first | decide | omega) only [t8_0, lift_c, o_aload0, o_getref, o_aload1, o_virt2, rpush_n, rpush_s, o_iload2, o_areturn, z0, z1, z2, z20, z31, runI_0, runI_c, runI_n, liftI_n, liftI_y, run_0, run_c, run_n, fxn, fxi, fxr, fxl, fxl0, ↓swi_n, ↓swi_c, nck0, nck1, nck2, nck3, List.length_cons, List.length_nil, Nat.reduceAdd, Nat.reduceSub, Nat.reduceLeDiff, Nat.reduceEqDiff, Nat.reduceLT, reduceIte, ite_true, ite_false, Nat.sub_zero, Nat.zero_le, true_and, and_true, and_self, true_or, or_true, if_true, if_false, true_implies, implies_true, not_true_eq_false, not_false_eq_true, false_implies, forall_const, ne_eq, or_self, and_false, false_and, Lt, Le, Eq', Cp, In, nI_add, nI_mul, nI_sub, nI_sub1, Neg0, bI_eq0, bI_eq1, bI_01, bft, up2_eq, up2_no, Bool.true_eq_false, Bool.false_eq_true, eq_self, m1_ne, m1_ne2, m1_lt, m1_le, lt_m1, m1_le2, bI_t, bI_f, LK_st, FYu hY, FGu hG, hd0])
  refine hours_T hT hm (by omega) fun I2 hT2 => ?_
  have hQ := hQ I2 L1 P1 hT2
  have n84 : ¬ neq 84 1 := by show ¬ 84 = 1; decide
  (apply WP_runI (lv := lvK) (F := LK) LK_ok 999 80; simp (disch := first | decide | omega) only [t8_0, lift_c, o_aload0, o_getref, o_aload1, o_virt2, rpush_n, rpush_s, o_iload2, o_areturn, z0, z1, z2, z20, z31, runI_0, runI_c, runI_n, liftI_n, liftI_y, run_0, run_c, run_n, fxn, fxi, fxr, fxl, fxl0, ↓swi_n, ↓swi_c, nck0, nck1, nck2, nck3, List.length_cons, List.length_nil, Nat.reduceAdd, Nat.reduceSub, Nat.reduceLeDiff, Nat.reduceEqDiff, Nat.reduceLT, reduceIte, ite_true, ite_false, Nat.sub_zero, Nat.zero_le, true_and, and_true, and_self, true_or, or_true, if_true, if_false, true_implies, implies_true, not_true_eq_false, not_false_eq_true, false_implies, forall_const, ne_eq, or_self, and_false, false_and, Lt, Le, Eq', Cp, In, nI_add, nI_mul, nI_sub, nI_sub1, Neg0, bI_eq0, bI_eq1, bI_01, bft, up2_eq, up2_no, Bool.true_eq_false, Bool.false_eq_true, eq_self, m1_ne, m1_ne2, m1_lt, m1_le, lt_m1, m1_le2, bI_t, bI_f, LK_st, FYu hY, FGu hG, hd0, n84])
  exact hQ
end
