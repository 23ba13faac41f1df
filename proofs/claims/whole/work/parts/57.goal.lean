/-! ### a yard: where a goose goes, an hour -/
theorem scV_t {b : Nat} {I J K : TI} (h : Eo (scV b) I J) (h2 : Eo (scV b) J K) : Eo (scV b) I K := h.tr h2
section
variable {G : GE} {d n : Nat} {sh : TS} {I : TI} {L : TL} {P : TP} {Q : TQ} {b : Nat} {N : TN} {F : TF} {E : Nat → Int32} {k g r : Nat}
def goalP (G : GE) (d n : Nat) (sh : TS) (L : TL) (P : TP) (Q : TQ) (I0 : TI) (b : Nat) (F : TF) (N : TN) (i : Nat) (v : Int32) (c : Nat) : Prop := ∀ (I : TI) (o6 : Option Value) (x : Nat) (mo : Int32) (cc ss : Nat), Eo (scV b) I0 I → goL F N i c = (x, mo) →
    WP G 62 d Q 30 [some (.ref b), some (.int (nI i)), some (.int (nI x)), some (.int mo), some (.int v), some (.int (nI c)), o6] [] cc ss n sh I L P
theorem goal_S {I0 : TI} (hD : YD sh I0 P b N F E k g) (hW : WF N k g r) (hb : 20 ≤ b ∧ b ≤ 84) {i c h : Nat} {v : Int32} (hi : i < k) (hc : c < 8) (hh : neq (ct N i) h) (hv : bt v (nI c) = may N h c) (hd : 4 ≤ d) (ih : goalP G d n sh L P Q I0 b F N i v (c + 1)) : goalP G d n sh L P Q I0 b F N i v c := by
  intro I o6 x mo cc ss he hb2
  have hd0 : 0 < d := by omega
  have hk := hW.k6
  have hY := hD.y
  have hc2 : ¬ 8 ≤ c := by omega
  have hsf := goL_y hh hb2
  have hsn := goL_n hh hb2
  clear hb2 hh
  cases hm : may N h c with
  | false =>
    rw [hm] at hsn hv
    have ih := fun o6 cc ss => ih I o6 x mo cc ss he (hsn fun q => by cases q.1)
    clear hsn hsf
    (apply WP_runI (lv := lvK) (F := LK) LK_ok 30 80; simp (disch := first | decide | omega) only [t62_0, t62_1, lift_c, o_aload0, o_getref, o_iload1, o_aaload, o_getfield, o_istore, s1_0, s1_s, o_iload2, o_virt3, rpush_n, rpush_s, o_inl, o_ishl, o_iload5, o_icge, o_iload4, o_stat2, o_ifne, o_goto, o_iload6, o_iload3, o_icle, o_iinc5, o_ireturn, z0, z1, z2, z8, z20, z31, runI_0, runI_c, runI_n, liftI_n, liftI_y, run_0, run_c, run_n, fxn, fxi, fxr, fxl, fxl0, ↓swi_n, ↓swi_c, nck0, nck1, nck2, nck3, List.length_cons, List.length_nil, Nat.reduceAdd, Nat.reduceSub, Nat.reduceLeDiff, Nat.reduceEqDiff, Nat.reduceLT, reduceIte, ite_true, ite_false, Nat.sub_zero, Nat.zero_le, true_and, and_true, and_self, true_or, or_true, if_true, if_false, true_implies, implies_true, not_true_eq_false, not_false_eq_true, false_implies, forall_const, ne_eq, or_self, and_false, false_and, Lt, Le, Eq', Cp, In, nI_add, nI_mul, nI_sub, nI_sub1, Neg0, bI_eq0, bI_eq1, bI_01, bft, up2_eq, up2_no, Bool.true_eq_false, Bool.false_eq_true, eq_self, m1_ne, m1_ne2, m1_lt, m1_le, lt_m1, m1_le2, bI_t, bI_f, LK_st, FYu hY, hd0, hc2, hv])
    exact ih _ _ _
  | true =>
    rw [hm] at hsn hsf hv
    have hDI := hD.eo hk he fun c j q => scV_y hb.2 q
    (apply WP_runI (lv := lvK) (F := LK) LK_ok 30 80; simp (disch := first | decide | omega) only [t62_0, t62_1, lift_c, o_aload0, o_getref, o_iload1, o_aaload, o_getfield, o_istore, s1_0, s1_s, o_iload2, o_virt3, rpush_n, rpush_s, o_inl, o_ishl, o_iload5, o_icge, o_iload4, o_stat2, o_ifne, o_goto, o_iload6, o_iload3, o_icle, o_iinc5, o_ireturn, z0, z1, z2, z8, z20, z31, runI_0, runI_c, runI_n, liftI_n, liftI_y, run_0, run_c, run_n, fxn, fxi, fxr, fxl, fxl0, ↓swi_n, ↓swi_c, nck0, nck1, nck2, nck3, List.length_cons, List.length_nil, Nat.reduceAdd, Nat.reduceSub, Nat.reduceLeDiff, Nat.reduceEqDiff, Nat.reduceLT, reduceIte, ite_true, ite_false, Nat.sub_zero, Nat.zero_le, true_and, and_true, and_self, true_or, or_true, if_true, if_false, true_implies, implies_true, not_true_eq_false, not_false_eq_true, false_implies, forall_const, ne_eq, or_self, and_false, false_and, Lt, Le, Eq', Cp, In, nI_add, nI_mul, nI_sub, nI_sub1, Neg0, bI_eq0, bI_eq1, bI_01, bft, up2_eq, up2_no, Bool.true_eq_false, Bool.false_eq_true, eq_self, m1_ne, m1_ne2, m1_lt, m1_le, lt_m1, m1_le2, bI_t, bI_f, LK_st, FYu hY, hd0, hc2, hv])
    refine pull_Y hDI hW hb hi hc (by omega) fun I1 he1 => ?_
    have ih := fun x mo e o6 cc ss => ih I1 o6 x mo cc ss (scV_t he he1) e
    generalize pullS F N i c = pv at hsn hsf ⊢
    by_cases hlt : mo < pv
    · have hle : ¬ pv ≤ mo := Int32.not_le.mpr hlt
      have ih := ih _ _ (hsf ⟨rfl, hlt⟩)
      (apply WP_runI (lv := lvK) (F := LK) LK_ok 30 80; simp (disch := first | decide | omega) only [t62_0, t62_1, lift_c, o_aload0, o_getref, o_iload1, o_aaload, o_getfield, o_istore, s1_0, s1_s, o_iload2, o_virt3, rpush_n, rpush_s, o_inl, o_ishl, o_iload5, o_icge, o_iload4, o_stat2, o_ifne, o_goto, o_iload6, o_iload3, o_icle, o_iinc5, o_ireturn, z0, z1, z2, z8, z20, z31, runI_0, runI_c, runI_n, liftI_n, liftI_y, run_0, run_c, run_n, fxn, fxi, fxr, fxl, fxl0, ↓swi_n, ↓swi_c, nck0, nck1, nck2, nck3, List.length_cons, List.length_nil, Nat.reduceAdd, Nat.reduceSub, Nat.reduceLeDiff, Nat.reduceEqDiff, Nat.reduceLT, reduceIte, ite_true, ite_false, Nat.sub_zero, Nat.zero_le, true_and, and_true, and_self, true_or, or_true, if_true, if_false, true_implies, implies_true, not_true_eq_false, not_false_eq_true, false_implies, forall_const, ne_eq, or_self, and_false, false_and, Lt, Le, Eq', Cp, In, nI_add, nI_mul, nI_sub, nI_sub1, Neg0, bI_eq0, bI_eq1, bI_01, bft, up2_eq, up2_no, Bool.true_eq_false, Bool.false_eq_true, eq_self, m1_ne, m1_ne2, m1_lt, m1_le, lt_m1, m1_le2, bI_t, bI_f, LK_st, FYu hY, hd0, hle])
      exact ih _ _ _
    · have hle : pv ≤ mo := Int32.not_lt.mp hlt
      have ih := ih _ _ (hsn fun q => hlt q.2)
      (apply WP_runI (lv := lvK) (F := LK) LK_ok 30 80; simp (disch := first | decide | omega) only [t62_0, t62_1, lift_c, o_aload0, o_getref, o_iload1, o_aaload, o_getfield, o_istore, s1_0, s1_s, o_iload2, o_virt3, rpush_n, rpush_s, o_inl, o_ishl, o_iload5, o_icge, o_iload4, o_stat2, o_ifne, o_goto, o_iload6, o_iload3, o_icle, o_iinc5, o_ireturn, z0, z1, z2, z8, z20, z31, runI_0, runI_c, runI_n, liftI_n, liftI_y, run_0, run_c, run_n, fxn, fxi, fxr, fxl, fxl0, ↓swi_n, ↓swi_c, nck0, nck1, nck2, nck3, List.length_cons, List.length_nil, Nat.reduceAdd, Nat.reduceSub, Nat.reduceLeDiff, Nat.reduceEqDiff, Nat.reduceLT, reduceIte, ite_true, ite_false, Nat.sub_zero, Nat.zero_le, true_and, and_true, and_self, true_or, or_true, if_true, if_false, true_implies, implies_true, not_true_eq_false, not_false_eq_true, false_implies, forall_const, ne_eq, or_self, and_false, false_and, Lt, Le, Eq', Cp, In, nI_add, nI_mul, nI_sub, nI_sub1, Neg0, bI_eq0, bI_eq1, bI_01, bft, up2_eq, up2_no, Bool.true_eq_false, Bool.false_eq_true, eq_self, m1_ne, m1_ne2, m1_lt, m1_le, lt_m1, m1_le2, bI_t, bI_f, LK_st, FYu hY, hd0, hle])
      exact ih _ _ _
theorem goal_Y (hD : YD sh I P b N F E k g) (hW : WF N k g r) (hb : 20 ≤ b ∧ b ≤ 84) {i : Nat} (hi : i < k) (hd : 4 ≤ d) (hQ : ∀ I' x, Eo (scV b) I I' → goS F N i = x → Q (some (.int (nI x))) n sh I' L P) : Cl G d 62 [.ref b, .int (nI i)] n sh I L P Q := by
  apply e62
  have hY := hD.y
  have hk := hW.k6
  have hd0 : 0 < d := by omega
  obtain ⟨hct, h8⟩ := ct_eq hW hi
  have e2 := hD.geese i 2 hi (by omega)
  rw [hct] at e2
  have hnear : ∀ c, c < 8 → bt (bydL N (-nI 1) (p2 (nI (ct N i))) g) (nI c) = may N (ct N i) c := fun c hc => by
    rw [bt_bit _ (by omega), near_bit hW h8 hc g (Nat.le_refl g)]
    unfold may
    rw [hW.gn]
  have h0 : goL F N i 0 = (ct N i, pullS F N i (ct N i)) := by rw [goL]
  have hh : neq (ct N i) (ct N i) := rfl
  generalize hv : bydL N (-nI 1) (p2 (nI (ct N i))) g = v at hnear
  generalize hpv : pullS F N i (ct N i) = pv at h0
  generalize hc : ct N i = h at hh h8 e2 hnear h0 hv hpv
  have loop : ∀ l c, c + l = 8 → goalP G d n sh L P Q I b F N i v c := by
    intro l
    induction l with
    | zero =>
      intro c hc8 I1 o6 x mo cc ss he hq
      have hc8' : c = 8 := by omega
      have hle : 8 ≤ c := by omega
      have hQ := hQ I1 x he (goS_c hc8' hq)
      clear hq h0
      (apply WP_runI (lv := lvK) (F := LK) LK_ok 30 40; simp (disch := first | decide | omega) only [t62_0, t62_1, lift_c, o_aload0, o_getref, o_iload1, o_aaload, o_getfield, o_istore, s1_0, s1_s, o_iload2, o_virt3, rpush_n, rpush_s, o_inl, o_ishl, o_iload5, o_icge, o_iload4, o_stat2, o_ifne, o_goto, o_iload6, o_iload3, o_icle, o_iinc5, o_ireturn, z0, z1, z2, z8, z20, z31, runI_0, runI_c, runI_n, liftI_n, liftI_y, run_0, run_c, run_n, fxn, fxi, fxr, fxl, fxl0, ↓swi_n, ↓swi_c, nck0, nck1, nck2, nck3, List.length_cons, List.length_nil, Nat.reduceAdd, Nat.reduceSub, Nat.reduceLeDiff, Nat.reduceEqDiff, Nat.reduceLT, reduceIte, ite_true, ite_false, Nat.sub_zero, Nat.zero_le, true_and, and_true, and_self, true_or, or_true, if_true, if_false, true_implies, implies_true, not_true_eq_false, not_false_eq_true, false_implies, forall_const, ne_eq, or_self, and_false, false_and, Lt, Le, Eq', Cp, In, nI_add, nI_mul, nI_sub, nI_sub1, Neg0, bI_eq0, bI_eq1, bI_01, bft, up2_eq, up2_no, Bool.true_eq_false, Bool.false_eq_true, eq_self, m1_ne, m1_ne2, m1_lt, m1_le, lt_m1, m1_le2, bI_t, bI_f, LK_st, FYu hY, hle])
      exact hQ
    | succ l ih =>
      intro c hc8
      exact goal_S hD hW hb hi (by omega) (show neq (ct N i) h from hc) (hnear c (by omega)) hd (ih (c + 1) (by omega))
  have loop := fun I1 cc ss he => loop 8 0 (by omega) I1 none h pv cc ss he h0
  clear h0 hc hh hnear hQ
  (apply WP_runI (lv := lvK) (F := LK) LK_ok 30 80; simp (disch := first | decide | omega) only [t62_0, t62_1, lift_c, o_aload0, o_getref, o_iload1, o_aaload, o_getfield, o_istore, s1_0, s1_s, o_iload2, o_virt3, rpush_n, rpush_s, o_inl, o_ishl, o_iload5, o_icge, o_iload4, o_stat2, o_ifne, o_goto, o_iload6, o_iload3, o_icle, o_iinc5, o_ireturn, z0, z1, z2, z8, z20, z31, runI_0, runI_c, runI_n, liftI_n, liftI_y, run_0, run_c, run_n, fxn, fxi, fxr, fxl, fxl0, ↓swi_n, ↓swi_c, nck0, nck1, nck2, nck3, List.length_cons, List.length_nil, Nat.reduceAdd, Nat.reduceSub, Nat.reduceLeDiff, Nat.reduceEqDiff, Nat.reduceLT, reduceIte, ite_true, ite_false, Nat.sub_zero, Nat.zero_le, true_and, and_true, and_self, true_or, or_true, if_true, if_false, true_implies, implies_true, not_true_eq_false, not_false_eq_true, false_implies, forall_const, ne_eq, or_self, and_false, false_and, Lt, Le, Eq', Cp, In, nI_add, nI_mul, nI_sub, nI_sub1, Neg0, bI_eq0, bI_eq1, bI_01, bft, up2_eq, up2_no, Bool.true_eq_false, Bool.false_eq_true, eq_self, m1_ne, m1_ne2, m1_lt, m1_le, lt_m1, m1_le2, bI_t, bI_f, LK_st, FYu hY, hd0, e2])
  refine pull_Y hD hW hb hi h8 (by omega) fun I1 he1 => ?_
  have hD1 := hD.eo hk he1 fun c j q => scV_y hb.2 q
  rw [hpv]
  (apply WP_runI (lv := lvK) (F := LK) LK_ok 30 80; simp (disch := first | decide | omega) only [t62_0, t62_1, lift_c, o_aload0, o_getref, o_iload1, o_aaload, o_getfield, o_istore, s1_0, s1_s, o_iload2, o_virt3, rpush_n, rpush_s, o_inl, o_ishl, o_iload5, o_icge, o_iload4, o_stat2, o_ifne, o_goto, o_iload6, o_iload3, o_icle, o_iinc5, o_ireturn, z0, z1, z2, z8, z20, z31, runI_0, runI_c, runI_n, liftI_n, liftI_y, run_0, run_c, run_n, fxn, fxi, fxr, fxl, fxl0, ↓swi_n, ↓swi_c, nck0, nck1, nck2, nck3, List.length_cons, List.length_nil, Nat.reduceAdd, Nat.reduceSub, Nat.reduceLeDiff, Nat.reduceEqDiff, Nat.reduceLT, reduceIte, ite_true, ite_false, Nat.sub_zero, Nat.zero_le, true_and, and_true, and_self, true_or, or_true, if_true, if_false, true_implies, implies_true, not_true_eq_false, not_false_eq_true, false_implies, forall_const, ne_eq, or_self, and_false, false_and, Lt, Le, Eq', Cp, In, nI_add, nI_mul, nI_sub, nI_sub1, Neg0, bI_eq0, bI_eq1, bI_01, bft, up2_eq, up2_no, Bool.true_eq_false, Bool.false_eq_true, eq_self, m1_ne, m1_ne2, m1_lt, m1_le, lt_m1, m1_le2, bI_t, bI_f, LK_st, FYu hY, hd0])
  refine beyond_Y hD1 hW (by omega) ?_
  unfold p2 at hv
  rw [hv]
  (apply WP_runI (lv := lvK) (F := LK) LK_ok 30 80; simp (disch := first | decide | omega) only [t62_0, t62_1, lift_c, o_aload0, o_getref, o_iload1, o_aaload, o_getfield, o_istore, s1_0, s1_s, o_iload2, o_virt3, rpush_n, rpush_s, o_inl, o_ishl, o_iload5, o_icge, o_iload4, o_stat2, o_ifne, o_goto, o_iload6, o_iload3, o_icle, o_iinc5, o_ireturn, z0, z1, z2, z8, z20, z31, runI_0, runI_c, runI_n, liftI_n, liftI_y, run_0, run_c, run_n, fxn, fxi, fxr, fxl, fxl0, ↓swi_n, ↓swi_c, nck0, nck1, nck2, nck3, List.length_cons, List.length_nil, Nat.reduceAdd, Nat.reduceSub, Nat.reduceLeDiff, Nat.reduceEqDiff, Nat.reduceLT, reduceIte, ite_true, ite_false, Nat.sub_zero, Nat.zero_le, true_and, and_true, and_self, true_or, or_true, if_true, if_false, true_implies, implies_true, not_true_eq_false, not_false_eq_true, false_implies, forall_const, ne_eq, or_self, and_false, false_and, Lt, Le, Eq', Cp, In, nI_add, nI_mul, nI_sub, nI_sub1, Neg0, bI_eq0, bI_eq1, bI_01, bft, up2_eq, up2_no, Bool.true_eq_false, Bool.false_eq_true, eq_self, m1_ne, m1_ne2, m1_lt, m1_le, lt_m1, m1_le2, bI_t, bI_f, LK_st, FYu hY, hd0])
  exact loop I1 _ _ he1
/-- an hour of a yard touches its own cells alone -/
def scY (b a j : Nat) : Prop := b ≤ a ∧ a ≤ b + 17
theorem scV_Y {b a j : Nat} (h : scV b a j) : scY b a j := by
  have h : a = b + 5 := h
  exact ⟨by omega, by omega⟩
def ghP (G : GE) (d n : Nat) (sh : TS) (L : TL) (P : TP) (Q : TQ) (I0 : TI) (b : Nat) (F : TF) (E : Nat → Int32) (k g : Nat) (e : Int32) (N : TN) (i : Nat) : Prop := ∀ (I : TI) (o3 : Option Value) (cc ss : Nat), Eo (scY b) I0 I → YD sh I P b (hourL F e N i) F E k g →
    WP G 63 d Q 7 [some (.ref b), some (.int e), some (.int (nI i)), o3] [] cc ss n sh I L P
theorem gh_S {I0 : TI} {e : Int32} (hW : WF N k g r) (he : eOK e) (hb : 20 ≤ b ∧ b ≤ 84) {i : Nat} (hi : i < k) (hd : 5 ≤ d) (ih : ghP G d n sh L P Q I0 b F E k g e N (i + 1)) : ghP G d n sh L P Q I0 b F E k g e N i := by
  intro I o3 cc ss hE hD
  have hd0 : 0 < d := by omega
  have hk := hW.k6
  have hg9 := hW.g9
  have hW2 := WF_hourL (F := F) he hW i (by omega)
  generalize hM : hourL F e N i = M at hD hW2
  have hY := hD.y
  have h5 := hD.count
  have hki : ¬ k ≤ i := by omega
  have h20 : nle 20 (b + 1) := by show 20 ≤ b + 1; omega
  have e4 := hD.geese i 4 hi (by omega)
  rcases hW2.taken hi with ht | ht
  · have htk : tkn M i = false := decide_eq_false (by rw [ht]; decide)
    (apply WP_runI (lv := lvK) (F := LK) LK_ok 7 40; simp (disch := first | decide | omega) only [t63_0, t63_1, lift_c, o_aload0, o_virt1, rpush_n, rpush_s, o_istore, s1_0, s1_s, o_inl, o_iload2, o_getfield, o_icge, o_getref, o_aaload, o_astore, o_aload3, o_ifne, o_virt2, o_putfield, o_iaload, o_iload1, o_isub, o_fadd, o_iastore, o_iinc2, o_goto, o_dupi, o_dupr, o_iadd, o_return, z0, z1, z2, z20, z31, runI_0, runI_c, runI_n, liftI_n, liftI_y, run_0, run_c, run_n, fxn, fxi, fxr, fxl, fxl0, ↓swi_n, ↓swi_c, nck0, nck1, nck2, nck3, List.length_cons, List.length_nil, Nat.reduceAdd, Nat.reduceSub, Nat.reduceLeDiff, Nat.reduceEqDiff, Nat.reduceLT, reduceIte, ite_true, ite_false, Nat.sub_zero, Nat.zero_le, true_and, and_true, and_self, true_or, or_true, if_true, if_false, true_implies, implies_true, not_true_eq_false, not_false_eq_true, false_implies, forall_const, ne_eq, or_self, and_false, false_and, Lt, Le, Eq', Cp, In, nI_add, nI_mul, nI_sub, nI_sub1, Neg0, bI_eq0, bI_eq1, bI_01, bft, up2_eq, up2_no, Bool.true_eq_false, Bool.false_eq_true, eq_self, m1_ne, m1_ne2, m1_lt, m1_le, lt_m1, m1_le2, bI_t, bI_f, LK_st, FYu hY, h5, hki, e4, ht, hd0])
    refine goal_Y hD hW2 hb hi (by omega) fun I1 x he1 hx => ?_
    have hgx := goS_lt (F := F) hW2 hi
    rw [hx] at hgx
    have hn := hourL_n hM htk (show neq (goS F M i) x from hx)
    clear hx hM
    have hD1 := hD.eo hk he1 fun c j q => scV_y hb.2 q
    have hD2 := (hD1.goose_up hk hg9 hb.2 hi (w := 2) (v := nI x) (by omega)).grain_up hk hg9 hb.2 hgx (v := mx0 (M x - e))
    rw [← hn] at hD2
    have hgr := hD1.grain x hgx
    have ih := fun cc ss => ih _ (some (.ref (b + 6 + 2 * i))) cc ss (((hE.tr (he1.mono fun _ _ => scV_Y)).up ⟨by omega, by omega⟩ _).up ⟨by omega, by omega⟩ _) hD2
    unfold mx0 at ih
    clear hD2 hn
    (apply WP_runI (lv := lvK) (F := LK) LK_ok 7 60; simp (disch := first | decide | omega) only [t63_0, t63_1, lift_c, o_aload0, o_virt1, rpush_n, rpush_s, o_istore, s1_0, s1_s, o_inl, o_iload2, o_getfield, o_icge, o_getref, o_aaload, o_astore, o_aload3, o_ifne, o_virt2, o_putfield, o_iaload, o_iload1, o_isub, o_fadd, o_iastore, o_iinc2, o_goto, o_dupi, o_dupr, o_iadd, o_return, z0, z1, z2, z20, z31, runI_0, runI_c, runI_n, liftI_n, liftI_y, run_0, run_c, run_n, fxn, fxi, fxr, fxl, fxl0, ↓swi_n, ↓swi_c, nck0, nck1, nck2, nck3, List.length_cons, List.length_nil, Nat.reduceAdd, Nat.reduceSub, Nat.reduceLeDiff, Nat.reduceEqDiff, Nat.reduceLT, reduceIte, ite_true, ite_false, Nat.sub_zero, Nat.zero_le, true_and, and_true, and_self, true_or, or_true, if_true, if_false, true_implies, implies_true, not_true_eq_false, not_false_eq_true, false_implies, forall_const, ne_eq, or_self, and_false, false_and, Lt, Le, Eq', Cp, In, nI_add, nI_mul, nI_sub, nI_sub1, Neg0, bI_eq0, bI_eq1, bI_01, bft, up2_eq, up2_no, Bool.true_eq_false, Bool.false_eq_true, eq_self, m1_ne, m1_ne2, m1_lt, m1_le, lt_m1, m1_le2, bI_t, bI_f, LK_st, FYu hY, hd0, hgr, h20])
    exact ih _ _
  · have htk : tkn M i = true := decide_eq_true ht
    have hy := hourL_y hM htk
    rw [← hy] at hD
    have ih := fun cc ss => ih I (some (.ref (b + 6 + 2 * i))) cc ss hE hD
    clear hM hy hD
    (apply WP_runI (lv := lvK) (F := LK) LK_ok 7 40; simp (disch := first | decide | omega) only [t63_0, t63_1, lift_c, o_aload0, o_virt1, rpush_n, rpush_s, o_istore, s1_0, s1_s, o_inl, o_iload2, o_getfield, o_icge, o_getref, o_aaload, o_astore, o_aload3, o_ifne, o_virt2, o_putfield, o_iaload, o_iload1, o_isub, o_fadd, o_iastore, o_iinc2, o_goto, o_dupi, o_dupr, o_iadd, o_return, z0, z1, z2, z20, z31, runI_0, runI_c, runI_n, liftI_n, liftI_y, run_0, run_c, run_n, fxn, fxi, fxr, fxl, fxl0, ↓swi_n, ↓swi_c, nck0, nck1, nck2, nck3, List.length_cons, List.length_nil, Nat.reduceAdd, Nat.reduceSub, Nat.reduceLeDiff, Nat.reduceEqDiff, Nat.reduceLT, reduceIte, ite_true, ite_false, Nat.sub_zero, Nat.zero_le, true_and, and_true, and_self, true_or, or_true, if_true, if_false, true_implies, implies_true, not_true_eq_false, not_false_eq_true, false_implies, forall_const, ne_eq, or_self, and_false, false_and, Lt, Le, Eq', Cp, In, nI_add, nI_mul, nI_sub, nI_sub1, Neg0, bI_eq0, bI_eq1, bI_01, bft, up2_eq, up2_no, Bool.true_eq_false, Bool.false_eq_true, eq_self, m1_ne, m1_ne2, m1_lt, m1_le, lt_m1, m1_le2, bI_t, bI_f, LK_st, FYu hY, h5, hki, e4, ht, hd0])
    exact ih _ _
theorem goHour_Y (hD : YD sh I P b N F E k g) (hW : WF N k g r) (hEo : ∀ u, eOK (E u)) (hb : 20 ≤ b ∧ b ≤ 84) (hd : 5 ≤ d) (hQ : ∀ I', Eo (scY b) I I' → YD sh I' P b (hourS F E N) F E k g → Q none n sh I' L P) : Cl G d 63 [.ref b] n sh I L P Q := by
  apply e63
  have hY := hD.y
  have hk := hW.k6
  have hg9 := hW.g9
  have hd0 : 0 < d := by omega
  have hu : hourS F E N = upN (hourL F (E (rl N)) N k) 82 (hourL F (E (rl N)) N k 82 + nI 1) := by
    unfold hourS
    rw [hW.cn]
  have he := hEo (rl N)
  (apply WP_runI (lv := lvK) (F := LK) LK_ok 7 80; simp (disch := first | decide | omega) only [t63_0, t63_1, lift_c, o_aload0, o_virt1, rpush_n, rpush_s, o_istore, s1_0, s1_s, o_inl, o_iload2, o_getfield, o_icge, o_getref, o_aaload, o_astore, o_aload3, o_ifne, o_virt2, o_putfield, o_iaload, o_iload1, o_isub, o_fadd, o_iastore, o_iinc2, o_goto, o_dupi, o_dupr, o_iadd, o_return, z0, z1, z2, z20, z31, runI_0, runI_c, runI_n, liftI_n, liftI_y, run_0, run_c, run_n, fxn, fxi, fxr, fxl, fxl0, ↓swi_n, ↓swi_c, nck0, nck1, nck2, nck3, List.length_cons, List.length_nil, Nat.reduceAdd, Nat.reduceSub, Nat.reduceLeDiff, Nat.reduceEqDiff, Nat.reduceLT, reduceIte, ite_true, ite_false, Nat.sub_zero, Nat.zero_le, true_and, and_true, and_self, true_or, or_true, if_true, if_false, true_implies, implies_true, not_true_eq_false, not_false_eq_true, false_implies, forall_const, ne_eq, or_self, and_false, false_and, Lt, Le, Eq', Cp, In, nI_add, nI_mul, nI_sub, nI_sub1, Neg0, bI_eq0, bI_eq1, bI_01, bft, up2_eq, up2_no, Bool.true_eq_false, Bool.false_eq_true, eq_self, m1_ne, m1_ne2, m1_lt, m1_le, lt_m1, m1_le2, bI_t, bI_f, LK_st, FYu hY, hd0])
  refine eaten_Y hD hW ?_
  generalize E (rl N) = e at he hu ⊢
  have loop : ∀ l i, i + l = k → ghP G d n sh L P Q I b F E k g e N i := by
    intro l
    induction l with
    | zero =>
      intro i hi I1 o3 cc ss hE1 hD1
      have hik : k ≤ i := by omega
      have hi2 : i = k := by omega
      rw [hi2] at hD1
      have h5 := hD1.count
      have h6 := hD1.hour
      have hD2 := hD1.hour_up hk hg9 hb.2 (v := hourL F e N k 82 + nI 1)
      rw [← hu] at hD2
      have hQ := hQ _ (hE1.up ⟨by omega, by omega⟩ _) hD2
      rw [← h6] at hQ
      clear hD2 hu h6
      (apply WP_runI (lv := lvK) (F := LK) LK_ok 7 40; simp (disch := first | decide | omega) only [t63_0, t63_1, lift_c, o_aload0, o_virt1, rpush_n, rpush_s, o_istore, s1_0, s1_s, o_inl, o_iload2, o_getfield, o_icge, o_getref, o_aaload, o_astore, o_aload3, o_ifne, o_virt2, o_putfield, o_iaload, o_iload1, o_isub, o_fadd, o_iastore, o_iinc2, o_goto, o_dupi, o_dupr, o_iadd, o_return, z0, z1, z2, z20, z31, runI_0, runI_c, runI_n, liftI_n, liftI_y, run_0, run_c, run_n, fxn, fxi, fxr, fxl, fxl0, ↓swi_n, ↓swi_c, nck0, nck1, nck2, nck3, List.length_cons, List.length_nil, Nat.reduceAdd, Nat.reduceSub, Nat.reduceLeDiff, Nat.reduceEqDiff, Nat.reduceLT, reduceIte, ite_true, ite_false, Nat.sub_zero, Nat.zero_le, true_and, and_true, and_self, true_or, or_true, if_true, if_false, true_implies, implies_true, not_true_eq_false, not_false_eq_true, false_implies, forall_const, ne_eq, or_self, and_false, false_and, Lt, Le, Eq', Cp, In, nI_add, nI_mul, nI_sub, nI_sub1, Neg0, bI_eq0, bI_eq1, bI_01, bft, up2_eq, up2_no, Bool.true_eq_false, Bool.false_eq_true, eq_self, m1_ne, m1_ne2, m1_lt, m1_le, lt_m1, m1_le2, bI_t, bI_f, LK_st, FYu hY, h5, hik])
      exact hQ
    | succ l ih =>
      intro i hi
      exact gh_S hW he hb (by omega) hd (ih (i + 1) (by omega))
  have loop := fun cc ss => loop k 0 (by omega) I none cc ss Eo.rf hD
  (apply WP_runI (lv := lvK) (F := LK) LK_ok 7 80; simp (disch := first | decide | omega) only [t63_0, t63_1, lift_c, o_aload0, o_virt1, rpush_n, rpush_s, o_istore, s1_0, s1_s, o_inl, o_iload2, o_getfield, o_icge, o_getref, o_aaload, o_astore, o_aload3, o_ifne, o_virt2, o_putfield, o_iaload, o_iload1, o_isub, o_fadd, o_iastore, o_iinc2, o_goto, o_dupi, o_dupr, o_iadd, o_return, z0, z1, z2, z20, z31, runI_0, runI_c, runI_n, liftI_n, liftI_y, run_0, run_c, run_n, fxn, fxi, fxr, fxl, fxl0, ↓swi_n, ↓swi_c, nck0, nck1, nck2, nck3, List.length_cons, List.length_nil, Nat.reduceAdd, Nat.reduceSub, Nat.reduceLeDiff, Nat.reduceEqDiff, Nat.reduceLT, reduceIte, ite_true, ite_false, Nat.sub_zero, Nat.zero_le, true_and, and_true, and_self, true_or, or_true, if_true, if_false, true_implies, implies_true, not_true_eq_false, not_false_eq_true, false_implies, forall_const, ne_eq, or_self, and_false, false_and, Lt, Le, Eq', Cp, In, nI_add, nI_mul, nI_sub, nI_sub1, Neg0, bI_eq0, bI_eq1, bI_01, bft, up2_eq, up2_no, Bool.true_eq_false, Bool.false_eq_true, eq_self, m1_ne, m1_ne2, m1_lt, m1_le, lt_m1, m1_le2, bI_t, bI_f, LK_st, FYu hY, hd0])
  exact loop _ _
theorem goHours_Y (hD : YD sh I P b N F E k g) (hW : WF N k g r) (hEo : ∀ u, eOK (E u)) (hb : 20 ≤ b ∧ b ≤ 84) {m : Nat} (hm : m < 2 ^ 30) (hd : 6 ≤ d) (hQ : ∀ I', Eo (scY b) I I' → YD sh I' P b (hoursS F E N m) F E k g → Q none n sh I' L P) : Cl G d 64 [.ref b, .int (nI m)] n sh I L P Q := by
  apply e64
  have hY := hD.y
  have hd0 : 0 < d := by omega
  have loop : ∀ l j I1 cc ss, j + l = m → Eo (scY b) I I1 → YD sh I1 P b (hoursS F E N j) F E k g → WP G 64 d Q 2 [some (.ref b), some (.int (nI m)), some (.int (nI j))] [] cc ss n sh I1 L P := by
    intro l
    induction l with
    | zero =>
      intro j I1 cc ss h hE1 hD1
      have h : j = m := by omega
      subst h
      have hQ := hQ I1 hE1 hD1
      (apply WP_runI (lv := lvK) (F := LK) LK_ok 2 80; simp (disch := first | decide | omega) only [t64_0, lift_c, o_inl, o_istore, s1_0, s1_s, o_iload2, o_iload1, o_icge, o_aload0, o_virt1, rpush_n, rpush_s, o_iinc2, o_goto, o_return, z0, z1, z2, z20, z31, runI_0, runI_c, runI_n, liftI_n, liftI_y, run_0, run_c, run_n, fxn, fxi, fxr, fxl, fxl0, ↓swi_n, ↓swi_c, nck0, nck1, nck2, nck3, List.length_cons, List.length_nil, Nat.reduceAdd, Nat.reduceSub, Nat.reduceLeDiff, Nat.reduceEqDiff, Nat.reduceLT, reduceIte, ite_true, ite_false, Nat.sub_zero, Nat.zero_le, true_and, and_true, and_self, true_or, or_true, if_true, if_false, true_implies, implies_true, not_true_eq_false, not_false_eq_true, false_implies, forall_const, ne_eq, or_self, and_false, false_and, Lt, Le, Eq', Cp, In, nI_add, nI_mul, nI_sub, nI_sub1, Neg0, bI_eq0, bI_eq1, bI_01, bft, up2_eq, up2_no, Bool.true_eq_false, Bool.false_eq_true, eq_self, m1_ne, m1_ne2, m1_lt, m1_le, lt_m1, m1_le2, bI_t, bI_f, LK_st, FYu hY, Nat.le_refl])
      exact hQ
    | succ l ih =>
      intro j I1 cc ss h hE1 hD1
      have hj : ¬ m ≤ j := by omega
      (apply WP_runI (lv := lvK) (F := LK) LK_ok 2 80; simp (disch := first | decide | omega) only [t64_0, lift_c, o_inl, o_istore, s1_0, s1_s, o_iload2, o_iload1, o_icge, o_aload0, o_virt1, rpush_n, rpush_s, o_iinc2, o_goto, o_return, z0, z1, z2, z20, z31, runI_0, runI_c, runI_n, liftI_n, liftI_y, run_0, run_c, run_n, fxn, fxi, fxr, fxl, fxl0, ↓swi_n, ↓swi_c, nck0, nck1, nck2, nck3, List.length_cons, List.length_nil, Nat.reduceAdd, Nat.reduceSub, Nat.reduceLeDiff, Nat.reduceEqDiff, Nat.reduceLT, reduceIte, ite_true, ite_false, Nat.sub_zero, Nat.zero_le, true_and, and_true, and_self, true_or, or_true, if_true, if_false, true_implies, implies_true, not_true_eq_false, not_false_eq_true, false_implies, forall_const, ne_eq, or_self, and_false, false_and, Lt, Le, Eq', Cp, In, nI_add, nI_mul, nI_sub, nI_sub1, Neg0, bI_eq0, bI_eq1, bI_01, bft, up2_eq, up2_no, Bool.true_eq_false, Bool.false_eq_true, eq_self, m1_ne, m1_ne2, m1_lt, m1_le, lt_m1, m1_le2, bI_t, bI_f, LK_st, FYu hY, hj, hd0])
      refine goHour_Y hD1 (WF_hours hEo hW j) hEo hb (by omega) fun I2 hE2 hD2 => ?_
      have ih := fun cc ss => ih (j + 1) I2 cc ss (by omega) (hE1.tr hE2) hD2
      (apply WP_runI (lv := lvK) (F := LK) LK_ok 2 80; simp (disch := first | decide | omega) only [t64_0, lift_c, o_inl, o_istore, s1_0, s1_s, o_iload2, o_iload1, o_icge, o_aload0, o_virt1, rpush_n, rpush_s, o_iinc2, o_goto, o_return, z0, z1, z2, z20, z31, runI_0, runI_c, runI_n, liftI_n, liftI_y, run_0, run_c, run_n, fxn, fxi, fxr, fxl, fxl0, ↓swi_n, ↓swi_c, nck0, nck1, nck2, nck3, List.length_cons, List.length_nil, Nat.reduceAdd, Nat.reduceSub, Nat.reduceLeDiff, Nat.reduceEqDiff, Nat.reduceLT, reduceIte, ite_true, ite_false, Nat.sub_zero, Nat.zero_le, true_and, and_true, and_self, true_or, or_true, if_true, if_false, true_implies, implies_true, not_true_eq_false, not_false_eq_true, false_implies, forall_const, ne_eq, or_self, and_false, false_and, Lt, Le, Eq', Cp, In, nI_add, nI_mul, nI_sub, nI_sub1, Neg0, bI_eq0, bI_eq1, bI_01, bft, up2_eq, up2_no, Bool.true_eq_false, Bool.false_eq_true, eq_self, m1_ne, m1_ne2, m1_lt, m1_le, lt_m1, m1_le2, bI_t, bI_f, LK_st, FYu hY, hd0])
      exact ih _ _
  have loop := fun cc ss => loop m 0 I cc ss (by omega) Eo.rf hD
  (apply WP_runI (lv := lvK) (F := LK) LK_ok 2 80; simp (disch := first | decide | omega) only [t64_0, lift_c, o_inl, o_istore, s1_0, s1_s, o_iload2, o_iload1, o_icge, o_aload0, o_virt1, rpush_n, rpush_s, o_iinc2, o_goto, o_return, z0, z1, z2, z20, z31, runI_0, runI_c, runI_n, liftI_n, liftI_y, run_0, run_c, run_n, fxn, fxi, fxr, fxl, fxl0, ↓swi_n, ↓swi_c, nck0, nck1, nck2, nck3, List.length_cons, List.length_nil, Nat.reduceAdd, Nat.reduceSub, Nat.reduceLeDiff, Nat.reduceEqDiff, Nat.reduceLT, reduceIte, ite_true, ite_false, Nat.sub_zero, Nat.zero_le, true_and, and_true, and_self, true_or, or_true, if_true, if_false, true_implies, implies_true, not_true_eq_false, not_false_eq_true, false_implies, forall_const, ne_eq, or_self, and_false, false_and, Lt, Le, Eq', Cp, In, nI_add, nI_mul, nI_sub, nI_sub1, Neg0, bI_eq0, bI_eq1, bI_01, bft, up2_eq, up2_no, Bool.true_eq_false, Bool.false_eq_true, eq_self, m1_ne, m1_ne2, m1_lt, m1_le, lt_m1, m1_le2, bI_t, bI_f, LK_st, FYu hY])
  exact loop _ _
end
