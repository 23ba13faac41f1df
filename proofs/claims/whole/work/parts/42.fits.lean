/-! ### the reference: fits, from, can -/
def fitL (F : TF) (E : Nat → Int32) (N : TN) (p : Nat) : Nat → Int32
  | 0 => nI 0
  | v + 1 => fitL F E N p v ||| (if seA F E (upN N p (nI v)) = true then p2 (nI v) else nI 0)
theorem n0m1 : nI 0 + -nI 1 = -nI 1 := by decide
def cnA (b : Int32) : Nat → Int32 × Int32 → Int32 × Int32
  | 0, q => q
  | j + 1, q => cnA b j (q.1 + ((b >>> (nI j &&& nI 31)) &&& nI 1), if bt b (nI j) = true then nI j else q.2)
def fromA (F : TF) (E : Nat → Int32) (N : TN) (x : Int32) : Int32 := if isY N x = false then -nI 1 else fitL F E N (26 + 9 * x.toNatClampNeg + 2) 8
def canA (F : TF) (E : Nat → Int32) (N : TN) (x z : Int32) : Int32 := if (isY N x && inR z 0 1) = false then -nI 1 else
  if z = nI 0 then (cnA (fitL F E N (26 + 9 * x.toNatClampNeg + 1) 10) 10 (nI 0, -nI 5)).1 else (cnA (fitL F E N (26 + 9 * x.toNatClampNeg + 1) 10) 10 (nI 0, -nI 5)).2
section
variable {G : GE} {d n : Nat} {sh : TS} {I : TI} {L : TL} {P : TP} {Q : TQ} {F : TF} {E : Nat → Int32} {k g r : Nat}
theorem fits_M (hF : FM sh P) (hB : BK I F E k g r) (hS : WS (I 124) k) {i w h : Nat} (hi : i < k) (hw : w < 5) (hh : h < 10) (hWv : ∀ v, v ≤ h → WF (upN (I 124) (26 + 9 * i + w) (nI v)) k g r) (hd : 40 ≤ d)
    (hQ : ∀ I', Eo scA I I' → Q (some (.int (fitL F E (I 124) (26 + 9 * i + w) (h + 1)))) n sh I' L P) : Cl G d 177 [.ref 123, .int (nI i), .int (nI w), .int (nI h)] n sh I L P Q := by
  apply e177
  have hd0 : 0 < d := by omega
  have hk := hB.1.k6
  generalize hp : 26 + 9 * i + w = p at hWv hQ
  generalize hN : I 124 = N at hS hWv hQ
  have loop : ∀ m v I1 x cc ss, v + m = h + 1 → (∀ a j, ¬ scA a j → ¬ a = 124 → I1 a j = I a j) → I1 124 = upN N p x → WP G 177 d Q 14 [some (.ref 123), some (.int (nI i)), some (.int (nI w)), some (.int (nI h)), some (.int (N p)), some (.int (fitL F E N p v)), some (.int (nI v))] [] cc ss n sh I1 L P := by
    intro m
    induction m with
    | zero =>
      intro v I1 x cc ss hv he h1
      have hv2 : h < v := by omega
      have hQ := hQ (up2 I1 124 p (N p)) (fun a j q => by
        by_cases e : a = 124
        · rw [e, up2_upN, h1, hN]
          refine congrFun ?_ j
          exact funext fun y => by
            by_cases e2 : y = p
            · rw [e2, upN_eq]
            · rw [upN_no _ _ _ _ e2, upN_no _ _ _ _ e2]
        · rw [up2_no _ _ _ _ _ _ (fun q => e q.1)]
          exact he a j q e)
      rw [show h + 1 = v by omega] at hQ
      (apply WP_runI (lv := lvN) LN_ok 14 80; simp (disch := first | decide | omega) only [t177_0, lift_c, o_aload0, o_iload1, o_iload2, o_virt3, rpush_n, rpush_s, o_istore, s1_0, s1_s, o_inl, o_iload6, o_iload3, o_icgt, o_virt4, o_popi, o_popr, o_iload5, o_virt1, o_ifeq, o_ishl, o_goto, o_ior, o_iinc6, o_iload4, o_ireturn, z0, z1, z2, z20, z31, runI_0, runI_c, runI_n, liftI_n, liftI_y, run_0, run_c, run_n, fxn, fxi, fxr, fxl, fxl0, ↓swi_n, ↓swi_c, nck0, nck1, nck2, nck3, List.length_cons, List.length_nil, Nat.reduceAdd, Nat.reduceSub, Nat.reduceLeDiff, Nat.reduceEqDiff, Nat.reduceLT, reduceIte, ite_true, ite_false, Nat.sub_zero, Nat.zero_le, true_and, and_true, and_self, true_or, or_true, if_true, if_false, true_implies, implies_true, not_true_eq_false, not_false_eq_true, false_implies, forall_const, ne_eq, or_self, and_false, false_and, Lt, Le, Eq', Cp, In, nI_add, nI_mul, nI_sub, nI_sub1, Neg0, bI_eq0, bI_eq1, bI_01, bft, up2_eq, up2_no, Bool.true_eq_false, Bool.false_eq_true, eq_self, m1_ne, m1_ne2, m1_lt, m1_le, lt_m1, m1_le2, bI_t, bI_f, LM_all hF, LN_all hF, FMu hF, hd0, hv2, hp])
      exact hQ
    | succ m ih =>
      intro v I1 x cc ss hv he h1
      have hv2 : ¬ h < v := by omega
      have h2 : (up2 I1 124 p (nI v)) 124 = upN N p (nI v) := by
        rw [up2_upN, h1]
        exact funext fun y => by
          by_cases e2 : y = p
          · rw [e2, upN_eq, upN_eq]
          · rw [upN_no _ _ _ _ e2, upN_no _ _ _ _ e2, upN_no _ _ _ _ e2]
      have hB2 : BK (up2 I1 124 p (nI v)) F E k g r := hB.eo (fun a j q => by
        rw [up2_no _ _ _ _ _ _ (fun e => q (Or.inr e.1))]
        exact he a j (fun e => q (Or.inl e)) (fun e => q (Or.inr e))) (by rw [h2]; exact hWv v (by omega))
      have hS2 : WS ((up2 I1 124 p (nI v)) 124) k := by
        rw [h2]
        exact hS.keep fun j hj => upN_no _ _ _ _ (by omega)
      have run1 : ∀ cc ss, Cl G (d - 1) 176 [.ref 123] n sh (up2 I1 124 p (nI v)) L P (fun u n' sh' I' L' P' => WP G 177 d Q 35 [some (.ref 123), some (.int (nI i)), some (.int (nI w)), some (.int (nI h)), some (.int (N p)), some (.int (fitL F E N p v)), some (.int (nI v))] (rpush u [.int (fitL F E N p v)]) cc ss n' sh' I' L' P') := by
        intro cc ss
        refine isAllSeen_M hF hB2 hS2 (by omega) fun I2 he2 => ?_
        rw [h2]
        have ih := fun cc ss => ih (v + 1) I2 (nI v) cc ss (by omega) (fun a j q e => by
          rw [he2 a j q, up2_no _ _ _ _ _ _ (fun q => e q.1)]
          exact he a j q e) ((row_eo he2 124 scA_124).trans h2)
        rw [fitL] at ih
        unfold p2 at ih
        cases hb : seA F E (upN N p (nI v)) with
        | false =>
          rw [hb, if_neg (by decide)] at ih
          (apply WP_runI (lv := lvN) LN_ok 14 80; simp (disch := first | decide | omega) only [t177_0, lift_c, o_aload0, o_iload1, o_iload2, o_virt3, rpush_n, rpush_s, o_istore, s1_0, s1_s, o_inl, o_iload6, o_iload3, o_icgt, o_virt4, o_popi, o_popr, o_iload5, o_virt1, o_ifeq, o_ishl, o_goto, o_ior, o_iinc6, o_iload4, o_ireturn, z0, z1, z2, z20, z31, runI_0, runI_c, runI_n, liftI_n, liftI_y, run_0, run_c, run_n, fxn, fxi, fxr, fxl, fxl0, ↓swi_n, ↓swi_c, nck0, nck1, nck2, nck3, List.length_cons, List.length_nil, Nat.reduceAdd, Nat.reduceSub, Nat.reduceLeDiff, Nat.reduceEqDiff, Nat.reduceLT, reduceIte, ite_true, ite_false, Nat.sub_zero, Nat.zero_le, true_and, and_true, and_self, true_or, or_true, if_true, if_false, true_implies, implies_true, not_true_eq_false, not_false_eq_true, false_implies, forall_const, ne_eq, or_self, and_false, false_and, Lt, Le, Eq', Cp, In, nI_add, nI_mul, nI_sub, nI_sub1, Neg0, bI_eq0, bI_eq1, bI_01, bft, up2_eq, up2_no, Bool.true_eq_false, Bool.false_eq_true, eq_self, m1_ne, m1_ne2, m1_lt, m1_le, lt_m1, m1_le2, bI_t, bI_f, LM_all hF, LN_all hF, FMu hF, hd0])
          exact ih _ _
        | true =>
          rw [hb, if_pos rfl] at ih
          (apply WP_runI (lv := lvN) LN_ok 14 80; simp (disch := first | decide | omega) only [t177_0, lift_c, o_aload0, o_iload1, o_iload2, o_virt3, rpush_n, rpush_s, o_istore, s1_0, s1_s, o_inl, o_iload6, o_iload3, o_icgt, o_virt4, o_popi, o_popr, o_iload5, o_virt1, o_ifeq, o_ishl, o_goto, o_ior, o_iinc6, o_iload4, o_ireturn, z0, z1, z2, z20, z31, runI_0, runI_c, runI_n, liftI_n, liftI_y, run_0, run_c, run_n, fxn, fxi, fxr, fxl, fxl0, ↓swi_n, ↓swi_c, nck0, nck1, nck2, nck3, List.length_cons, List.length_nil, Nat.reduceAdd, Nat.reduceSub, Nat.reduceLeDiff, Nat.reduceEqDiff, Nat.reduceLT, reduceIte, ite_true, ite_false, Nat.sub_zero, Nat.zero_le, true_and, and_true, and_self, true_or, or_true, if_true, if_false, true_implies, implies_true, not_true_eq_false, not_false_eq_true, false_implies, forall_const, ne_eq, or_self, and_false, false_and, Lt, Le, Eq', Cp, In, nI_add, nI_mul, nI_sub, nI_sub1, Neg0, bI_eq0, bI_eq1, bI_01, bft, up2_eq, up2_no, Bool.true_eq_false, Bool.false_eq_true, eq_self, m1_ne, m1_ne2, m1_lt, m1_le, lt_m1, m1_le2, bI_t, bI_f, LM_all hF, LN_all hF, FMu hF, hd0])
          exact ih _ _
      clear hB2 hS2 ih
      (apply WP_runI (lv := lvN) LN_ok 999 80; simp (disch := first | decide | omega) only [t177_0, lift_c, o_aload0, o_iload1, o_iload2, o_virt3, rpush_n, rpush_s, o_istore, s1_0, s1_s, o_inl, o_iload6, o_iload3, o_icgt, o_virt4, o_popi, o_popr, o_iload5, o_virt1, o_ifeq, o_ishl, o_goto, o_ior, o_iinc6, o_iload4, o_ireturn, z0, z1, z2, z20, z31, runI_0, runI_c, runI_n, liftI_n, liftI_y, run_0, run_c, run_n, fxn, fxi, fxr, fxl, fxl0, ↓swi_n, ↓swi_c, nck0, nck1, nck2, nck3, List.length_cons, List.length_nil, Nat.reduceAdd, Nat.reduceSub, Nat.reduceLeDiff, Nat.reduceEqDiff, Nat.reduceLT, reduceIte, ite_true, ite_false, Nat.sub_zero, Nat.zero_le, true_and, and_true, and_self, true_or, or_true, if_true, if_false, true_implies, implies_true, not_true_eq_false, not_false_eq_true, false_implies, forall_const, ne_eq, or_self, and_false, false_and, Lt, Le, Eq', Cp, In, nI_add, nI_mul, nI_sub, nI_sub1, Neg0, bI_eq0, bI_eq1, bI_01, bft, up2_eq, up2_no, Bool.true_eq_false, Bool.false_eq_true, eq_self, m1_ne, m1_ne2, m1_lt, m1_le, lt_m1, m1_le2, bI_t, bI_f, LM_all hF, LN_all hF, FMu hF, hd0, hv2, hp])
      exact run1 _ _
  have l0 := fun cc ss => loop (h + 1) 0 I (N p) cc ss (by omega) (fun a j _ _ => rfl) (by
    rw [hN]
    exact funext fun y => by
      by_cases e2 : y = p
      · rw [e2, upN_eq]
      · rw [upN_no _ _ _ _ e2])
  rw [fitL] at l0
  have hgs : gs N i w = N p := by rw [← hp]; rfl
  (apply WP_runI (lv := lvN) LN_ok 14 80; simp (disch := first | decide | omega) only [t177_0, lift_c, o_aload0, o_iload1, o_iload2, o_virt3, rpush_n, rpush_s, o_istore, s1_0, s1_s, o_inl, o_iload6, o_iload3, o_icgt, o_virt4, o_popi, o_popr, o_iload5, o_virt1, o_ifeq, o_ishl, o_goto, o_ior, o_iinc6, o_iload4, o_ireturn, z0, z1, z2, z20, z31, runI_0, runI_c, runI_n, liftI_n, liftI_y, run_0, run_c, run_n, fxn, fxi, fxr, fxl, fxl0, ↓swi_n, ↓swi_c, nck0, nck1, nck2, nck3, List.length_cons, List.length_nil, Nat.reduceAdd, Nat.reduceSub, Nat.reduceLeDiff, Nat.reduceEqDiff, Nat.reduceLT, reduceIte, ite_true, ite_false, Nat.sub_zero, Nat.zero_le, true_and, and_true, and_self, true_or, or_true, if_true, if_false, true_implies, implies_true, not_true_eq_false, not_false_eq_true, false_implies, forall_const, ne_eq, or_self, and_false, false_and, Lt, Le, Eq', Cp, In, nI_add, nI_mul, nI_sub, nI_sub1, Neg0, bI_eq0, bI_eq1, bI_01, bft, up2_eq, up2_no, Bool.true_eq_false, Bool.false_eq_true, eq_self, m1_ne, m1_ne2, m1_lt, m1_le, lt_m1, m1_le2, bI_t, bI_f, LM_all hF, LN_all hF, FMu hF, hd0, hN, hgs])
  exact l0 _ _
theorem from_M (hF : FM sh P) (hB : BK I F E k g r) (hS : WS (I 124) k) {x : Int32} (hd : 42 ≤ d) (hQ : ∀ I', Eo scA I I' → Q (some (.int (fromA F E (I 124) x))) n sh I' L P) : Cl G d 178 [.ref 123, .int x] n sh I L P Q := by
  apply e178
  have hd0 : 0 < d := by omega
  have hWe := hB.we
  unfold fromA at hQ
  cases hx : isY (I 124) x with
  | false =>
    rw [hx, if_pos rfl] at hQ
    have hQ := hQ I Eo.rf
    (apply WP_runI (lv := lvN) LN_ok 999 80; simp (disch := first | decide | omega) only [t178_0, lift_c, o_aload0, o_iload1, o_virt2, rpush_n, rpush_s, o_ifeq, o_inl, o_virt4, o_goto, o_ireturn, z0, z1, z2, z7, z20, z31, runI_0, runI_c, runI_n, liftI_n, liftI_y, run_0, run_c, run_n, fxn, fxi, fxr, fxl, fxl0, ↓swi_n, ↓swi_c, nck0, nck1, nck2, nck3, List.length_cons, List.length_nil, Nat.reduceAdd, Nat.reduceSub, Nat.reduceLeDiff, Nat.reduceEqDiff, Nat.reduceLT, reduceIte, ite_true, ite_false, Nat.sub_zero, Nat.zero_le, true_and, and_true, and_self, true_or, or_true, if_true, if_false, true_implies, implies_true, not_true_eq_false, not_false_eq_true, false_implies, forall_const, ne_eq, or_self, and_false, false_and, Lt, Le, Eq', Cp, In, nI_add, nI_mul, nI_sub, nI_sub1, Neg0, bI_eq0, bI_eq1, bI_01, bft, up2_eq, up2_no, Bool.true_eq_false, Bool.false_eq_true, eq_self, m1_ne, m1_ne2, m1_lt, m1_le, lt_m1, m1_le2, bI_t, bI_f, LM_all hF, LN_all hF, FMu hF, hd0, hWe, hx])
    exact hQ
  | true =>
    rw [hx, if_neg (by decide)] at hQ
    have hk := hB.1.k6
    obtain ⟨i, hi, rfl⟩ := isY_of hB.1 hx
    rw [Cp _ (by omega)] at hQ
    (apply WP_runI (lv := lvN) LN_ok 999 80; simp (disch := first | decide | omega) only [t178_0, lift_c, o_aload0, o_iload1, o_virt2, rpush_n, rpush_s, o_ifeq, o_inl, o_virt4, o_goto, o_ireturn, z0, z1, z2, z7, z20, z31, runI_0, runI_c, runI_n, liftI_n, liftI_y, run_0, run_c, run_n, fxn, fxi, fxr, fxl, fxl0, ↓swi_n, ↓swi_c, nck0, nck1, nck2, nck3, List.length_cons, List.length_nil, Nat.reduceAdd, Nat.reduceSub, Nat.reduceLeDiff, Nat.reduceEqDiff, Nat.reduceLT, reduceIte, ite_true, ite_false, Nat.sub_zero, Nat.zero_le, true_and, and_true, and_self, true_or, or_true, if_true, if_false, true_implies, implies_true, not_true_eq_false, not_false_eq_true, false_implies, forall_const, ne_eq, or_self, and_false, false_and, Lt, Le, Eq', Cp, In, nI_add, nI_mul, nI_sub, nI_sub1, Neg0, bI_eq0, bI_eq1, bI_01, bft, up2_eq, up2_no, Bool.true_eq_false, Bool.false_eq_true, eq_self, m1_ne, m1_ne2, m1_lt, m1_le, lt_m1, m1_le2, bI_t, bI_f, LM_all hF, LN_all hF, FMu hF, hd0, hWe, hx])
    refine fits_M hF hB hS hi (w := 2) (h := 7) (by omega) (by omega) (fun v hv => hB.1.court_up hi (by omega)) (by omega) fun I1 he => ?_
    have hQ := hQ I1 he
    generalize fitL F E (I 124) (26 + 9 * i + 2) (7 + 1) = v at hQ ⊢
    (apply WP_runI (lv := lvN) LN_ok 999 80; simp (disch := first | decide | omega) only [t178_0, lift_c, o_aload0, o_iload1, o_virt2, rpush_n, rpush_s, o_ifeq, o_inl, o_virt4, o_goto, o_ireturn, z0, z1, z2, z7, z20, z31, runI_0, runI_c, runI_n, liftI_n, liftI_y, run_0, run_c, run_n, fxn, fxi, fxr, fxl, fxl0, ↓swi_n, ↓swi_c, nck0, nck1, nck2, nck3, List.length_cons, List.length_nil, Nat.reduceAdd, Nat.reduceSub, Nat.reduceLeDiff, Nat.reduceEqDiff, Nat.reduceLT, reduceIte, ite_true, ite_false, Nat.sub_zero, Nat.zero_le, true_and, and_true, and_self, true_or, or_true, if_true, if_false, true_implies, implies_true, not_true_eq_false, not_false_eq_true, false_implies, forall_const, ne_eq, or_self, and_false, false_and, Lt, Le, Eq', Cp, In, nI_add, nI_mul, nI_sub, nI_sub1, Neg0, bI_eq0, bI_eq1, bI_01, bft, up2_eq, up2_no, Bool.true_eq_false, Bool.false_eq_true, eq_self, m1_ne, m1_ne2, m1_lt, m1_le, lt_m1, m1_le2, bI_t, bI_f, LM_all hF, LN_all hF, FMu hF, hd0])
    exact hQ
theorem can_L {x z b : Int32} (hF : FM sh P) : ∀ (j : Nat) (q : Int32 × Int32) (cc ss : Nat), j < 10 → (∀ a e, cnA b (j + 1) q = (a, e) → Q (some (.int (if z = nI 0 then a else e))) n sh I L P) →
    WP G 179 d Q 39 [some (.ref 123), some (.int x), some (.int z), some (.int b), some (.int q.1), some (.int q.2), some (.int (nI j))] [] cc ss n sh I L P := by
  intro j
  induction j with
  | zero =>
    intro q cc ss hj hQ
    rw [cnA, cnA] at hQ
    have hQ := hQ _ _ rfl
    by_cases hb : bt b (nI 0) = true
    · have hb' : (b >>> (nI 0 &&& nI 31)) &&& nI 1 = nI 1 := of_decide_eq_true hb
      rw [if_pos hb, hb'] at hQ
      by_cases hz : z = nI 0
      · rw [if_pos hz] at hQ
        (apply WP_runI (lv := lvN) LN_ok 999 80; simp (disch := first | decide | omega) only [t179_0, t179_1, lift_c, o_aload0, o_iload1, o_virt2, rpush_n, rpush_s, o_ifeq, o_iload2, o_inl, o_stat3, o_ifne, o_ireturn, o_virt4, o_istore, s1_0, s1_s, o_iload6, o_iflt, o_iload4, o_iload3, o_ishr, o_iand, o_iadd, o_icne, o_goto, o_iload5, o_iinc6, z0, z1, z2, z5, z9, z20, z31, runI_0, runI_c, runI_n, liftI_n, liftI_y, run_0, run_c, run_n, fxn, fxi, fxr, fxl, fxl0, ↓swi_n, ↓swi_c, nck0, nck1, nck2, nck3, List.length_cons, List.length_nil, Nat.reduceAdd, Nat.reduceSub, Nat.reduceLeDiff, Nat.reduceEqDiff, Nat.reduceLT, reduceIte, ite_true, ite_false, Nat.sub_zero, Nat.zero_le, true_and, and_true, and_self, true_or, or_true, if_true, if_false, true_implies, implies_true, not_true_eq_false, not_false_eq_true, false_implies, forall_const, ne_eq, or_self, and_false, false_and, Lt, Le, Eq', Cp, In, nI_add, nI_mul, nI_sub, nI_sub1, Neg0, bI_eq0, bI_eq1, bI_01, bft, up2_eq, up2_no, Bool.true_eq_false, Bool.false_eq_true, eq_self, m1_ne, m1_ne2, m1_lt, m1_le, lt_m1, m1_le2, bI_t, bI_f, LM_all hF, LN_all hF, FMu hF, hb', n0m1, hz])
        exact hQ
      · rw [if_neg hz] at hQ
        (apply WP_runI (lv := lvN) LN_ok 999 80; simp (disch := first | decide | omega) only [t179_0, t179_1, lift_c, o_aload0, o_iload1, o_virt2, rpush_n, rpush_s, o_ifeq, o_iload2, o_inl, o_stat3, o_ifne, o_ireturn, o_virt4, o_istore, s1_0, s1_s, o_iload6, o_iflt, o_iload4, o_iload3, o_ishr, o_iand, o_iadd, o_icne, o_goto, o_iload5, o_iinc6, z0, z1, z2, z5, z9, z20, z31, runI_0, runI_c, runI_n, liftI_n, liftI_y, run_0, run_c, run_n, fxn, fxi, fxr, fxl, fxl0, ↓swi_n, ↓swi_c, nck0, nck1, nck2, nck3, List.length_cons, List.length_nil, Nat.reduceAdd, Nat.reduceSub, Nat.reduceLeDiff, Nat.reduceEqDiff, Nat.reduceLT, reduceIte, ite_true, ite_false, Nat.sub_zero, Nat.zero_le, true_and, and_true, and_self, true_or, or_true, if_true, if_false, true_implies, implies_true, not_true_eq_false, not_false_eq_true, false_implies, forall_const, ne_eq, or_self, and_false, false_and, Lt, Le, Eq', Cp, In, nI_add, nI_mul, nI_sub, nI_sub1, Neg0, bI_eq0, bI_eq1, bI_01, bft, up2_eq, up2_no, Bool.true_eq_false, Bool.false_eq_true, eq_self, m1_ne, m1_ne2, m1_lt, m1_le, lt_m1, m1_le2, bI_t, bI_f, LM_all hF, LN_all hF, FMu hF, hb', n0m1, hz])
        exact hQ
    · have hb' : ¬ ((b >>> (nI 0 &&& nI 31)) &&& nI 1 = nI 1) := fun q => hb (decide_eq_true q)
      rw [if_neg hb] at hQ
      by_cases hz : z = nI 0
      · rw [if_pos hz] at hQ
        (apply WP_runI (lv := lvN) LN_ok 999 80; simp (disch := first | decide | omega) only [t179_0, t179_1, lift_c, o_aload0, o_iload1, o_virt2, rpush_n, rpush_s, o_ifeq, o_iload2, o_inl, o_stat3, o_ifne, o_ireturn, o_virt4, o_istore, s1_0, s1_s, o_iload6, o_iflt, o_iload4, o_iload3, o_ishr, o_iand, o_iadd, o_icne, o_goto, o_iload5, o_iinc6, z0, z1, z2, z5, z9, z20, z31, runI_0, runI_c, runI_n, liftI_n, liftI_y, run_0, run_c, run_n, fxn, fxi, fxr, fxl, fxl0, ↓swi_n, ↓swi_c, nck0, nck1, nck2, nck3, List.length_cons, List.length_nil, Nat.reduceAdd, Nat.reduceSub, Nat.reduceLeDiff, Nat.reduceEqDiff, Nat.reduceLT, reduceIte, ite_true, ite_false, Nat.sub_zero, Nat.zero_le, true_and, and_true, and_self, true_or, or_true, if_true, if_false, true_implies, implies_true, not_true_eq_false, not_false_eq_true, false_implies, forall_const, ne_eq, or_self, and_false, false_and, Lt, Le, Eq', Cp, In, nI_add, nI_mul, nI_sub, nI_sub1, Neg0, bI_eq0, bI_eq1, bI_01, bft, up2_eq, up2_no, Bool.true_eq_false, Bool.false_eq_true, eq_self, m1_ne, m1_ne2, m1_lt, m1_le, lt_m1, m1_le2, bI_t, bI_f, LM_all hF, LN_all hF, FMu hF, hb', n0m1, hz])
        exact hQ
      · rw [if_neg hz] at hQ
        (apply WP_runI (lv := lvN) LN_ok 999 80; simp (disch := first | decide | omega) only [t179_0, t179_1, lift_c, o_aload0, o_iload1, o_virt2, rpush_n, rpush_s, o_ifeq, o_iload2, o_inl, o_stat3, o_ifne, o_ireturn, o_virt4, o_istore, s1_0, s1_s, o_iload6, o_iflt, o_iload4, o_iload3, o_ishr, o_iand, o_iadd, o_icne, o_goto, o_iload5, o_iinc6, z0, z1, z2, z5, z9, z20, z31, runI_0, runI_c, runI_n, liftI_n, liftI_y, run_0, run_c, run_n, fxn, fxi, fxr, fxl, fxl0, ↓swi_n, ↓swi_c, nck0, nck1, nck2, nck3, List.length_cons, List.length_nil, Nat.reduceAdd, Nat.reduceSub, Nat.reduceLeDiff, Nat.reduceEqDiff, Nat.reduceLT, reduceIte, ite_true, ite_false, Nat.sub_zero, Nat.zero_le, true_and, and_true, and_self, true_or, or_true, if_true, if_false, true_implies, implies_true, not_true_eq_false, not_false_eq_true, false_implies, forall_const, ne_eq, or_self, and_false, false_and, Lt, Le, Eq', Cp, In, nI_add, nI_mul, nI_sub, nI_sub1, Neg0, bI_eq0, bI_eq1, bI_01, bft, up2_eq, up2_no, Bool.true_eq_false, Bool.false_eq_true, eq_self, m1_ne, m1_ne2, m1_lt, m1_le, lt_m1, m1_le2, bI_t, bI_f, LM_all hF, LN_all hF, FMu hF, hb', n0m1, hz])
        exact hQ
  | succ j ih =>
    intro q cc ss hj hQ
    have hj1 : j + 1 - 1 = j := by omega
    rw [cnA] at hQ
    have ih := fun cc ss => ih _ cc ss (by omega) hQ
    by_cases hb : bt b (nI (j + 1)) = true
    · have hb' : (b >>> (nI (j + 1) &&& nI 31)) &&& nI 1 = nI 1 := of_decide_eq_true hb
      rw [if_pos hb, hb'] at ih
      (apply WP_runI (lv := lvN) LN_ok 39 80; simp (disch := first | decide | omega) only [t179_0, t179_1, lift_c, o_aload0, o_iload1, o_virt2, rpush_n, rpush_s, o_ifeq, o_iload2, o_inl, o_stat3, o_ifne, o_ireturn, o_virt4, o_istore, s1_0, s1_s, o_iload6, o_iflt, o_iload4, o_iload3, o_ishr, o_iand, o_iadd, o_icne, o_goto, o_iload5, o_iinc6, z0, z1, z2, z5, z9, z20, z31, runI_0, runI_c, runI_n, liftI_n, liftI_y, run_0, run_c, run_n, fxn, fxi, fxr, fxl, fxl0, ↓swi_n, ↓swi_c, nck0, nck1, nck2, nck3, List.length_cons, List.length_nil, Nat.reduceAdd, Nat.reduceSub, Nat.reduceLeDiff, Nat.reduceEqDiff, Nat.reduceLT, reduceIte, ite_true, ite_false, Nat.sub_zero, Nat.zero_le, true_and, and_true, and_self, true_or, or_true, if_true, if_false, true_implies, implies_true, not_true_eq_false, not_false_eq_true, false_implies, forall_const, ne_eq, or_self, and_false, false_and, Lt, Le, Eq', Cp, In, nI_add, nI_mul, nI_sub, nI_sub1, Neg0, bI_eq0, bI_eq1, bI_01, bft, up2_eq, up2_no, Bool.true_eq_false, Bool.false_eq_true, eq_self, m1_ne, m1_ne2, m1_lt, m1_le, lt_m1, m1_le2, bI_t, bI_f, LM_all hF, LN_all hF, FMu hF, hb', hj1, Nat.not_lt_zero])
      exact ih _ _
    · have hb' : ¬ ((b >>> (nI (j + 1) &&& nI 31)) &&& nI 1 = nI 1) := fun q => hb (decide_eq_true q)
      rw [if_neg hb] at ih
      (apply WP_runI (lv := lvN) LN_ok 39 80; simp (disch := first | decide | omega) only [t179_0, t179_1, lift_c, o_aload0, o_iload1, o_virt2, rpush_n, rpush_s, o_ifeq, o_iload2, o_inl, o_stat3, o_ifne, o_ireturn, o_virt4, o_istore, s1_0, s1_s, o_iload6, o_iflt, o_iload4, o_iload3, o_ishr, o_iand, o_iadd, o_icne, o_goto, o_iload5, o_iinc6, z0, z1, z2, z5, z9, z20, z31, runI_0, runI_c, runI_n, liftI_n, liftI_y, run_0, run_c, run_n, fxn, fxi, fxr, fxl, fxl0, ↓swi_n, ↓swi_c, nck0, nck1, nck2, nck3, List.length_cons, List.length_nil, Nat.reduceAdd, Nat.reduceSub, Nat.reduceLeDiff, Nat.reduceEqDiff, Nat.reduceLT, reduceIte, ite_true, ite_false, Nat.sub_zero, Nat.zero_le, true_and, and_true, and_self, true_or, or_true, if_true, if_false, true_implies, implies_true, not_true_eq_false, not_false_eq_true, false_implies, forall_const, ne_eq, or_self, and_false, false_and, Lt, Le, Eq', Cp, In, nI_add, nI_mul, nI_sub, nI_sub1, Neg0, bI_eq0, bI_eq1, bI_01, bft, up2_eq, up2_no, Bool.true_eq_false, Bool.false_eq_true, eq_self, m1_ne, m1_ne2, m1_lt, m1_le, lt_m1, m1_le2, bI_t, bI_f, LM_all hF, LN_all hF, FMu hF, hb', hj1, Nat.not_lt_zero])
      exact ih _ _
theorem can_M (hF : FM sh P) (hB : BK I F E k g r) (hS : WS (I 124) k) {x z : Int32} (hd : 42 ≤ d) (hQ : ∀ I', Eo scA I I' → Q (some (.int (canA F E (I 124) x z))) n sh I' L P) : Cl G d 179 [.ref 123, .int x, .int z] n sh I L P Q := by
  apply e179
  have hd0 : 0 < d := by omega
  have hWe := hB.we
  unfold canA at hQ
  cases hx : isY (I 124) x with
  | false =>
    rw [hx, if_pos (show (false && inR z 0 1) = false from rfl)] at hQ
    have hQ := hQ I Eo.rf
    (apply WP_runI (lv := lvN) LN_ok 39 80; simp (disch := first | decide | omega) only [t179_0, t179_1, lift_c, o_aload0, o_iload1, o_virt2, rpush_n, rpush_s, o_ifeq, o_iload2, o_inl, o_stat3, o_ifne, o_ireturn, o_virt4, o_istore, s1_0, s1_s, o_iload6, o_iflt, o_iload4, o_iload3, o_ishr, o_iand, o_iadd, o_icne, o_goto, o_iload5, o_iinc6, z0, z1, z2, z5, z9, z20, z31, runI_0, runI_c, runI_n, liftI_n, liftI_y, run_0, run_c, run_n, fxn, fxi, fxr, fxl, fxl0, ↓swi_n, ↓swi_c, nck0, nck1, nck2, nck3, List.length_cons, List.length_nil, Nat.reduceAdd, Nat.reduceSub, Nat.reduceLeDiff, Nat.reduceEqDiff, Nat.reduceLT, reduceIte, ite_true, ite_false, Nat.sub_zero, Nat.zero_le, true_and, and_true, and_self, true_or, or_true, if_true, if_false, true_implies, implies_true, not_true_eq_false, not_false_eq_true, false_implies, forall_const, ne_eq, or_self, and_false, false_and, Lt, Le, Eq', Cp, In, nI_add, nI_mul, nI_sub, nI_sub1, Neg0, bI_eq0, bI_eq1, bI_01, bft, up2_eq, up2_no, Bool.true_eq_false, Bool.false_eq_true, eq_self, m1_ne, m1_ne2, m1_lt, m1_le, lt_m1, m1_le2, bI_t, bI_f, LM_all hF, LN_all hF, FMu hF, hd0, hWe, hx])
    exact hQ
  | true =>
    cases hz : inR z 0 1 with
    | false =>
      have hz2 : decide (nI 0 ≤ z ∧ z ≤ nI 1) = false := hz
      rw [hx, hz, if_pos (show (true && false) = false from rfl)] at hQ
      have hQ := hQ I Eo.rf
      (apply WP_runI (lv := lvN) LN_ok 39 80; simp (disch := first | decide | omega) only [t179_0, t179_1, lift_c, o_aload0, o_iload1, o_virt2, rpush_n, rpush_s, o_ifeq, o_iload2, o_inl, o_stat3, o_ifne, o_ireturn, o_virt4, o_istore, s1_0, s1_s, o_iload6, o_iflt, o_iload4, o_iload3, o_ishr, o_iand, o_iadd, o_icne, o_goto, o_iload5, o_iinc6, z0, z1, z2, z5, z9, z20, z31, runI_0, runI_c, runI_n, liftI_n, liftI_y, run_0, run_c, run_n, fxn, fxi, fxr, fxl, fxl0, ↓swi_n, ↓swi_c, nck0, nck1, nck2, nck3, List.length_cons, List.length_nil, Nat.reduceAdd, Nat.reduceSub, Nat.reduceLeDiff, Nat.reduceEqDiff, Nat.reduceLT, reduceIte, ite_true, ite_false, Nat.sub_zero, Nat.zero_le, true_and, and_true, and_self, true_or, or_true, if_true, if_false, true_implies, implies_true, not_true_eq_false, not_false_eq_true, false_implies, forall_const, ne_eq, or_self, and_false, false_and, Lt, Le, Eq', Cp, In, nI_add, nI_mul, nI_sub, nI_sub1, Neg0, bI_eq0, bI_eq1, bI_01, bft, up2_eq, up2_no, Bool.true_eq_false, Bool.false_eq_true, eq_self, m1_ne, m1_ne2, m1_lt, m1_le, lt_m1, m1_le2, bI_t, bI_f, LM_all hF, LN_all hF, FMu hF, hd0, hWe, hx, hz2])
      exact hQ
    | true =>
      have hz2 : decide (nI 0 ≤ z ∧ z ≤ nI 1) = true := hz
      rw [hx, hz, if_neg (by decide)] at hQ
      have hk := hB.1.k6
      obtain ⟨i, hi, rfl⟩ := isY_of hB.1 hx
      rw [Cp _ (by omega)] at hQ
      (apply WP_runI (lv := lvN) LN_ok 39 80; simp (disch := first | decide | omega) only [t179_0, t179_1, lift_c, o_aload0, o_iload1, o_virt2, rpush_n, rpush_s, o_ifeq, o_iload2, o_inl, o_stat3, o_ifne, o_ireturn, o_virt4, o_istore, s1_0, s1_s, o_iload6, o_iflt, o_iload4, o_iload3, o_ishr, o_iand, o_iadd, o_icne, o_goto, o_iload5, o_iinc6, z0, z1, z2, z5, z9, z20, z31, runI_0, runI_c, runI_n, liftI_n, liftI_y, run_0, run_c, run_n, fxn, fxi, fxr, fxl, fxl0, ↓swi_n, ↓swi_c, nck0, nck1, nck2, nck3, List.length_cons, List.length_nil, Nat.reduceAdd, Nat.reduceSub, Nat.reduceLeDiff, Nat.reduceEqDiff, Nat.reduceLT, reduceIte, ite_true, ite_false, Nat.sub_zero, Nat.zero_le, true_and, and_true, and_self, true_or, or_true, if_true, if_false, true_implies, implies_true, not_true_eq_false, not_false_eq_true, false_implies, forall_const, ne_eq, or_self, and_false, false_and, Lt, Le, Eq', Cp, In, nI_add, nI_mul, nI_sub, nI_sub1, Neg0, bI_eq0, bI_eq1, bI_01, bft, up2_eq, up2_no, Bool.true_eq_false, Bool.false_eq_true, eq_self, m1_ne, m1_ne2, m1_lt, m1_le, lt_m1, m1_le2, bI_t, bI_f, LM_all hF, LN_all hF, FMu hF, hd0, hWe, hx, hz2])
      refine fits_M hF hB hS hi (w := 1) (h := 9) (by omega) (by omega) (fun v hv => hB.1.v_up hi (by omega)) (by omega) fun I1 he => ?_
      have hQ := hQ I1 he
      generalize fitL F E (I 124) (26 + 9 * i + 1) (9 + 1) = b at hQ ⊢
      have hL := fun cc ss => can_L (G := G) (d := d) (n := n) (sh := sh) (I := I1) (L := L) (P := P) (Q := Q) (x := nI i) (z := z) (b := b) hF 9 (nI 0, -nI 5) cc ss (by omega) (fun a e h => by
        rw [h] at hQ
        exact hQ)
      (apply WP_runI (lv := lvN) LN_ok 39 80; simp (disch := first | decide | omega) only [t179_0, t179_1, lift_c, o_aload0, o_iload1, o_virt2, rpush_n, rpush_s, o_ifeq, o_iload2, o_inl, o_stat3, o_ifne, o_ireturn, o_virt4, o_istore, s1_0, s1_s, o_iload6, o_iflt, o_iload4, o_iload3, o_ishr, o_iand, o_iadd, o_icne, o_goto, o_iload5, o_iinc6, z0, z1, z2, z5, z9, z20, z31, runI_0, runI_c, runI_n, liftI_n, liftI_y, run_0, run_c, run_n, fxn, fxi, fxr, fxl, fxl0, ↓swi_n, ↓swi_c, nck0, nck1, nck2, nck3, List.length_cons, List.length_nil, Nat.reduceAdd, Nat.reduceSub, Nat.reduceLeDiff, Nat.reduceEqDiff, Nat.reduceLT, reduceIte, ite_true, ite_false, Nat.sub_zero, Nat.zero_le, true_and, and_true, and_self, true_or, or_true, if_true, if_false, true_implies, implies_true, not_true_eq_false, not_false_eq_true, false_implies, forall_const, ne_eq, or_self, and_false, false_and, Lt, Le, Eq', Cp, In, nI_add, nI_mul, nI_sub, nI_sub1, Neg0, bI_eq0, bI_eq1, bI_01, bft, up2_eq, up2_no, Bool.true_eq_false, Bool.false_eq_true, eq_self, m1_ne, m1_ne2, m1_lt, m1_le, lt_m1, m1_le2, bI_t, bI_f, LM_all hF, LN_all hF, FMu hF, hd0, z5])
      exact hL _ _
end
