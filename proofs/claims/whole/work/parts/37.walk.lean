/-! ### the reference: to which courts one gets -/
theorem up2_up2 {α : Type} (f : Nat → Nat → α) (q k : Nat) (v w : α) : up2 (up2 f q k v) q k w = up2 f q k w := funext fun a => funext fun b => by
  show (if a = q ∧ b = k then w else if a = q ∧ b = k then v else f a b) = if a = q ∧ b = k then w else f a b
  by_cases h : a = q ∧ b = k
  · rw [if_pos h, if_pos h]
  · rw [if_neg h, if_neg h, if_neg h]
theorem eo135 (I : TI) (j : Nat) (v : Int32) : Eo (fun a _ => a = 135) I (up2 I 135 j v) := fun a b q => up2_no _ _ _ _ _ _ fun e => q e.1
def twF (N : TN) (o c : Int32) (j w : Nat) : Int32 := if bt o (nI j) = true ∧ bt c (ed N j w) = true then p2 (ed N j (1 - w)) else nI 0
def gateL (N : TN) (o c : Int32) : Nat → Int32
  | 0 => c
  | j + 1 => (gateL N o c j ||| twF N o c j 0) ||| twF N o c j 1
def wkS (F : TF) (E : Nat → Int32) (N : TN) (x : Int32) : Nat → Int32
  | 0 => p2 x
  | m + 1 => gateL (hoursS F E N m) (openS (hoursS F E N m)) (wkS F E N x m) (gn (hoursS F E N m))
theorem wkS_s (F : TF) (E : Nat → Int32) (N : TN) (x : Int32) (m : Nat) : wkS F E N x (m + 1) = gateL (hoursS F E N m) (openS (hoursS F E N m)) (wkS F E N x m) (gn (hoursS F E N m)) := by rw [wkS]
section
variable {G : GE} {d n : Nat} {sh : TS} {I : TI} {L : TL} {P : TP} {Q : TQ} {F : TF} {E : Nat → Int32} {k g r : Nat}
theorem walk_W (hF : FM sh P) {M : TN} {o c v x : Int32} {i j w : Nat} (h124 : I 124 = M) (hc : I 135 j = c) (hi : i < 9) (hj : j < 15) (hw : w < 2) (hd : 1 ≤ d) {o6 : Option Value} {cc ss : Nat}
    (hK : ∀ b cc ss, WP G 164 d Q 59 [some (.ref 123), some (.int x), some (.int (nI (j + 1))), some (.int o), some (.int (nI i)), some (.int (nI (w + 1))), some (.int b)] [] cc ss n sh (up2 I 135 (j + 1) (v ||| twF M o c i w)) L P) :
    WP G 164 d Q 59 [some (.ref 123), some (.int x), some (.int (nI (j + 1))), some (.int o), some (.int (nI i)), some (.int (nI w)), o6] [] cc ss n sh (up2 I 135 (j + 1) v) L P := by
  have hd0 : 0 < d := by omega
  have hw2 : ¬ 2 ≤ w := by omega
  have h20 : nle 20 135 := by show 20 ≤ 135; decide
  by_cases hA : bt o (nI i) = true
  · have hA' : (o >>> (nI i &&& nI 31)) &&& nI 1 = nI 1 := of_decide_eq_true hA
    by_cases hB : bt c (ed M i w) = true
    · have hB' : (c >>> (ed M i w &&& nI 31)) &&& nI 1 = nI 1 := of_decide_eq_true hB
      rw [show twF M o c i w = p2 (ed M i (1 - w)) from if_pos ⟨hA, hB⟩] at hK
      unfold p2 at hK
      (apply WP_runI (lv := lvN) LN_ok 59 80; simp (disch := first | decide | omega) only [t164_0, t164_1, t164_2, lift_c, o_aload0, o_inl, o_virt2, rpush_n, rpush_s, o_getref, o_iload1, o_ishl, o_iastore, o_istore, s1_0, s1_s, o_iload2, o_icge, o_virt1, o_isub, o_iaload, o_iload4, o_iload5, o_iload3, o_ishr, o_iand, o_icne, o_virt3, o_goto, o_dup2, o_iload6, o_ifeq, o_ior, o_iinc5, o_iinc4, o_iinc2, o_return, z0, z1, z2, z16, z20, z31, z81, runI_0, runI_c, runI_n, liftI_n, liftI_y, run_0, run_c, run_n, fxn, fxi, fxr, fxl, fxl0, ↓swi_n, ↓swi_c, nck0, nck1, nck2, nck3, List.length_cons, List.length_nil, Nat.reduceAdd, Nat.reduceSub, Nat.reduceLeDiff, Nat.reduceEqDiff, Nat.reduceLT, reduceIte, ite_true, ite_false, Nat.sub_zero, Nat.zero_le, true_and, and_true, and_self, true_or, or_true, if_true, if_false, true_implies, implies_true, not_true_eq_false, not_false_eq_true, false_implies, forall_const, ne_eq, or_self, and_false, false_and, Lt, Le, Eq', Cp, In, nI_add, nI_mul, nI_sub, nI_sub1, Neg0, bI_eq0, bI_eq1, bI_01, bft, up2_eq, up2_no, Bool.true_eq_false, Bool.false_eq_true, eq_self, m1_ne, m1_ne2, m1_lt, m1_le, lt_m1, m1_le2, bI_t, bI_f, LM_all hF, LN_all hF, FMu hF, hd0, hw2, h20, hA', hB', hc, h124, up2_row, up2_up2, Nat.add_sub_cancel])
      exact hK _ _ _
    · have hB' : ¬ ((c >>> (ed M i w &&& nI 31)) &&& nI 1 = nI 1) := fun q => hB (decide_eq_true q)
      rw [show twF M o c i w = nI 0 from if_neg fun q => hB q.2] at hK
      (apply WP_runI (lv := lvN) LN_ok 59 80; simp (disch := first | decide | omega) only [t164_0, t164_1, t164_2, lift_c, o_aload0, o_inl, o_virt2, rpush_n, rpush_s, o_getref, o_iload1, o_ishl, o_iastore, o_istore, s1_0, s1_s, o_iload2, o_icge, o_virt1, o_isub, o_iaload, o_iload4, o_iload5, o_iload3, o_ishr, o_iand, o_icne, o_virt3, o_goto, o_dup2, o_iload6, o_ifeq, o_ior, o_iinc5, o_iinc4, o_iinc2, o_return, z0, z1, z2, z16, z20, z31, z81, runI_0, runI_c, runI_n, liftI_n, liftI_y, run_0, run_c, run_n, fxn, fxi, fxr, fxl, fxl0, ↓swi_n, ↓swi_c, nck0, nck1, nck2, nck3, List.length_cons, List.length_nil, Nat.reduceAdd, Nat.reduceSub, Nat.reduceLeDiff, Nat.reduceEqDiff, Nat.reduceLT, reduceIte, ite_true, ite_false, Nat.sub_zero, Nat.zero_le, true_and, and_true, and_self, true_or, or_true, if_true, if_false, true_implies, implies_true, not_true_eq_false, not_false_eq_true, false_implies, forall_const, ne_eq, or_self, and_false, false_and, Lt, Le, Eq', Cp, In, nI_add, nI_mul, nI_sub, nI_sub1, Neg0, bI_eq0, bI_eq1, bI_01, bft, up2_eq, up2_no, Bool.true_eq_false, Bool.false_eq_true, eq_self, m1_ne, m1_ne2, m1_lt, m1_le, lt_m1, m1_le2, bI_t, bI_f, LM_all hF, LN_all hF, FMu hF, hd0, hw2, h20, hA', hB', hc, h124, up2_row, up2_up2, Nat.add_sub_cancel])
      exact hK _ _ _
  · have hA' : ¬ ((o >>> (nI i &&& nI 31)) &&& nI 1 = nI 1) := fun q => hA (decide_eq_true q)
    rw [show twF M o c i w = nI 0 from if_neg fun q => hA q.1] at hK
    (apply WP_runI (lv := lvN) LN_ok 59 80; simp (disch := first | decide | omega) only [t164_0, t164_1, t164_2, lift_c, o_aload0, o_inl, o_virt2, rpush_n, rpush_s, o_getref, o_iload1, o_ishl, o_iastore, o_istore, s1_0, s1_s, o_iload2, o_icge, o_virt1, o_isub, o_iaload, o_iload4, o_iload5, o_iload3, o_ishr, o_iand, o_icne, o_virt3, o_goto, o_dup2, o_iload6, o_ifeq, o_ior, o_iinc5, o_iinc4, o_iinc2, o_return, z0, z1, z2, z16, z20, z31, z81, runI_0, runI_c, runI_n, liftI_n, liftI_y, run_0, run_c, run_n, fxn, fxi, fxr, fxl, fxl0, ↓swi_n, ↓swi_c, nck0, nck1, nck2, nck3, List.length_cons, List.length_nil, Nat.reduceAdd, Nat.reduceSub, Nat.reduceLeDiff, Nat.reduceEqDiff, Nat.reduceLT, reduceIte, ite_true, ite_false, Nat.sub_zero, Nat.zero_le, true_and, and_true, and_self, true_or, or_true, if_true, if_false, true_implies, implies_true, not_true_eq_false, not_false_eq_true, false_implies, forall_const, ne_eq, or_self, and_false, false_and, Lt, Le, Eq', Cp, In, nI_add, nI_mul, nI_sub, nI_sub1, Neg0, bI_eq0, bI_eq1, bI_01, bft, up2_eq, up2_no, Bool.true_eq_false, Bool.false_eq_true, eq_self, m1_ne, m1_ne2, m1_lt, m1_le, lt_m1, m1_le2, bI_t, bI_f, LM_all hF, LN_all hF, FMu hF, hd0, hw2, h20, hA', hc, h124, up2_row, up2_up2, Nat.add_sub_cancel])
    exact hK _ _ _
theorem walk_G (hF : FM sh P) {M : TN} {o c x : Int32} {j : Nat} (hW : WF M k g r) (h124 : I 124 = M) (hc : I 135 j = c) (hj : j < 15) (hd : 1 ≤ d)
    (hK : ∀ a b e cc ss, WP G 164 d Q 147 [some (.ref 123), some (.int x), some (.int (nI (j + 1))), some (.int o), some (.int a), b, e] [] cc ss n sh (up2 I 135 (j + 1) (gateL M o c g)) L P) : ∀ (m i : Nat) (o5 o6 : Option Value) (cc ss : Nat), i + m = g →
    WP G 164 d Q 44 [some (.ref 123), some (.int x), some (.int (nI (j + 1))), some (.int o), some (.int (nI i)), o5, o6] [] cc ss n sh (up2 I 135 (j + 1) (gateL M o c i)) L P
  | 0, i, o5, o6, cc, ss, h => by
    have h : i = g := by omega
    subst h
    have h9 := hW.g9
    have h81 := hW.n81
    (apply WP_runI (lv := lvN) LN_ok 147 80; simp (disch := first | decide | omega) only [t164_0, t164_1, t164_2, lift_c, o_aload0, o_inl, o_virt2, rpush_n, rpush_s, o_getref, o_iload1, o_ishl, o_iastore, o_istore, s1_0, s1_s, o_iload2, o_icge, o_virt1, o_isub, o_iaload, o_iload4, o_iload5, o_iload3, o_ishr, o_iand, o_icne, o_virt3, o_goto, o_dup2, o_iload6, o_ifeq, o_ior, o_iinc5, o_iinc4, o_iinc2, o_return, z0, z1, z2, z16, z20, z31, z81, runI_0, runI_c, runI_n, liftI_n, liftI_y, run_0, run_c, run_n, fxn, fxi, fxr, fxl, fxl0, ↓swi_n, ↓swi_c, nck0, nck1, nck2, nck3, List.length_cons, List.length_nil, Nat.reduceAdd, Nat.reduceSub, Nat.reduceLeDiff, Nat.reduceEqDiff, Nat.reduceLT, reduceIte, ite_true, ite_false, Nat.sub_zero, Nat.zero_le, true_and, and_true, and_self, true_or, or_true, if_true, if_false, true_implies, implies_true, not_true_eq_false, not_false_eq_true, false_implies, forall_const, ne_eq, or_self, and_false, false_and, Lt, Le, Eq', Cp, In, nI_add, nI_mul, nI_sub, nI_sub1, Neg0, bI_eq0, bI_eq1, bI_01, bft, up2_eq, up2_no, Bool.true_eq_false, Bool.false_eq_true, eq_self, m1_ne, m1_ne2, m1_lt, m1_le, lt_m1, m1_le2, bI_t, bI_f, LM_all hF, LN_all hF, FMu hF, h124, h81, Nat.le_refl])
    exact hK _ _ _ _ _
  | m + 1, i, o5, o6, cc, ss, h => by
    have h9 := hW.g9
    have h81 := hW.n81
    have hi : ¬ g ≤ i := by omega
    have ih := fun o5 o6 => walk_G hF (o := o) (x := x) hW h124 hc hj hd hK m (i + 1) o5 o6
    rw [gateL] at ih
    (apply WP_runI (lv := lvN) LN_ok 59 80; simp (disch := first | decide | omega) only [t164_0, t164_1, t164_2, lift_c, o_aload0, o_inl, o_virt2, rpush_n, rpush_s, o_getref, o_iload1, o_ishl, o_iastore, o_istore, s1_0, s1_s, o_iload2, o_icge, o_virt1, o_isub, o_iaload, o_iload4, o_iload5, o_iload3, o_ishr, o_iand, o_icne, o_virt3, o_goto, o_dup2, o_iload6, o_ifeq, o_ior, o_iinc5, o_iinc4, o_iinc2, o_return, z0, z1, z2, z16, z20, z31, z81, runI_0, runI_c, runI_n, liftI_n, liftI_y, run_0, run_c, run_n, fxn, fxi, fxr, fxl, fxl0, ↓swi_n, ↓swi_c, nck0, nck1, nck2, nck3, List.length_cons, List.length_nil, Nat.reduceAdd, Nat.reduceSub, Nat.reduceLeDiff, Nat.reduceEqDiff, Nat.reduceLT, reduceIte, ite_true, ite_false, Nat.sub_zero, Nat.zero_le, true_and, and_true, and_self, true_or, or_true, if_true, if_false, true_implies, implies_true, not_true_eq_false, not_false_eq_true, false_implies, forall_const, ne_eq, or_self, and_false, false_and, Lt, Le, Eq', Cp, In, nI_add, nI_mul, nI_sub, nI_sub1, Neg0, bI_eq0, bI_eq1, bI_01, bft, up2_eq, up2_no, Bool.true_eq_false, Bool.false_eq_true, eq_self, m1_ne, m1_ne2, m1_lt, m1_le, lt_m1, m1_le2, bI_t, bI_f, LM_all hF, LN_all hF, FMu hF, h124, h81, hi])
    refine walk_W hF h124 hc (by omega) hj (by omega) hd fun b cc ss => ?_
    refine walk_W hF h124 hc (by omega) hj (by omega) hd fun b cc ss => ?_
    have ih := fun cc ss => ih (some (.int (nI 2))) (some (.int b)) cc ss (by omega)
    (apply WP_runI (lv := lvN) LN_ok 44 80; simp (disch := first | decide | omega) only [t164_0, t164_1, t164_2, lift_c, o_aload0, o_inl, o_virt2, rpush_n, rpush_s, o_getref, o_iload1, o_ishl, o_iastore, o_istore, s1_0, s1_s, o_iload2, o_icge, o_virt1, o_isub, o_iaload, o_iload4, o_iload5, o_iload3, o_ishr, o_iand, o_icne, o_virt3, o_goto, o_dup2, o_iload6, o_ifeq, o_ior, o_iinc5, o_iinc4, o_iinc2, o_return, z0, z1, z2, z16, z20, z31, z81, runI_0, runI_c, runI_n, liftI_n, liftI_y, run_0, run_c, run_n, fxn, fxi, fxr, fxl, fxl0, ↓swi_n, ↓swi_c, nck0, nck1, nck2, nck3, List.length_cons, List.length_nil, Nat.reduceAdd, Nat.reduceSub, Nat.reduceLeDiff, Nat.reduceEqDiff, Nat.reduceLT, reduceIte, ite_true, ite_false, Nat.sub_zero, Nat.zero_le, true_and, and_true, and_self, true_or, or_true, if_true, if_false, true_implies, implies_true, not_true_eq_false, not_false_eq_true, false_implies, forall_const, ne_eq, or_self, and_false, false_and, Lt, Le, Eq', Cp, In, nI_add, nI_mul, nI_sub, nI_sub1, Neg0, bI_eq0, bI_eq1, bI_01, bft, up2_eq, up2_no, Bool.true_eq_false, Bool.false_eq_true, eq_self, m1_ne, m1_ne2, m1_lt, m1_le, lt_m1, m1_le2, bI_t, bI_f, LM_all hF, LN_all hF, FMu hF, Nat.le_refl])
    exact ih _ _
theorem walk_M (hF : FM sh P) (hB : BK I F E k g r) {x : Int32} (hd : 37 ≤ d) (hQ : ∀ I', Eo scA I I' → (∀ m, m < 16 → I' 135 m = wkS F E (I 124) x m) → Q none n sh I' L P) : Cl G d 164 [.ref 123, .int x] n sh I L P Q := by
  apply e164
  have hd0 : 0 < d := by omega
  have h20 : nle 20 135 := by show 20 ≤ 135; decide
  have loop : ∀ m j I1 o3 o4 o5 o6 cc ss, j + m = 15 → AH I I1 (hoursS F E (I 124) j) k g r → (∀ m, m ≤ j → I1 135 m = wkS F E (I 124) x m) →
      WP G 164 d Q 16 [some (.ref 123), some (.int x), some (.int (nI (j + 1))), o3, o4, o5, o6] [] cc ss n sh I1 L P := by
    intro m
    induction m with
    | zero =>
      intro j I1 o3 o4 o5 o6 cc ss h ha hr
      have hj : 16 ≤ j + 1 := by omega
      have hQ := hQ _ ha.fin (fun m hm => by rw [cpy2_no _ _ _ _ _ _ _ _ (by omega)]; exact hr m (by omega))
      (apply WP_runI (lv := lvN) LN_ok 999 80; simp (disch := first | decide | omega) only [t164_0, t164_1, t164_2, lift_c, o_aload0, o_inl, o_virt2, rpush_n, rpush_s, o_getref, o_iload1, o_ishl, o_iastore, o_istore, s1_0, s1_s, o_iload2, o_icge, o_virt1, o_isub, o_iaload, o_iload4, o_iload5, o_iload3, o_ishr, o_iand, o_icne, o_virt3, o_goto, o_dup2, o_iload6, o_ifeq, o_ior, o_iinc5, o_iinc4, o_iinc2, o_return, z0, z1, z2, z16, z20, z31, z81, runI_0, runI_c, runI_n, liftI_n, liftI_y, run_0, run_c, run_n, fxn, fxi, fxr, fxl, fxl0, ↓swi_n, ↓swi_c, nck0, nck1, nck2, nck3, List.length_cons, List.length_nil, Nat.reduceAdd, Nat.reduceSub, Nat.reduceLeDiff, Nat.reduceEqDiff, Nat.reduceLT, reduceIte, ite_true, ite_false, Nat.sub_zero, Nat.zero_le, true_and, and_true, and_self, true_or, or_true, if_true, if_false, true_implies, implies_true, not_true_eq_false, not_false_eq_true, false_implies, forall_const, ne_eq, or_self, and_false, false_and, Lt, Le, Eq', Cp, In, nI_add, nI_mul, nI_sub, nI_sub1, Neg0, bI_eq0, bI_eq1, bI_01, bft, up2_eq, up2_no, Bool.true_eq_false, Bool.false_eq_true, eq_self, m1_ne, m1_ne2, m1_lt, m1_le, lt_m1, m1_le2, bI_t, bI_f, LM_all hF, LN_all hF, FMu hF, hd0, hj])
      exact hQ
    | succ m ih =>
      intro j I1 o3 o4 o5 o6 cc ss h ha hr
      have hj : ¬ 16 ≤ j + 1 := by omega
      have hj2 : j < 15 := by omega
      have h124 := ha.2.1
      have hWe := ha.we
      have hW := ha.2.2.2.2
      have hcj := hr j (Nat.le_refl j)
      have hwk := wkS_s F E (I 124) x j
      rw [hW.gn] at hwk
      generalize hv : wkS F E (I 124) x j = c at hcj hwk
      (apply WP_runI (lv := lvN) LN_ok 44 80; simp (disch := first | decide | omega) only [t164_0, t164_1, t164_2, lift_c, o_aload0, o_inl, o_virt2, rpush_n, rpush_s, o_getref, o_iload1, o_ishl, o_iastore, o_istore, s1_0, s1_s, o_iload2, o_icge, o_virt1, o_isub, o_iaload, o_iload4, o_iload5, o_iload3, o_ishr, o_iand, o_icne, o_virt3, o_goto, o_dup2, o_iload6, o_ifeq, o_ior, o_iinc5, o_iinc4, o_iinc2, o_return, z0, z1, z2, z16, z20, z31, z81, runI_0, runI_c, runI_n, liftI_n, liftI_y, run_0, run_c, run_n, fxn, fxi, fxr, fxl, fxl0, ↓swi_n, ↓swi_c, nck0, nck1, nck2, nck3, List.length_cons, List.length_nil, Nat.reduceAdd, Nat.reduceSub, Nat.reduceLeDiff, Nat.reduceEqDiff, Nat.reduceLT, reduceIte, ite_true, ite_false, Nat.sub_zero, Nat.zero_le, true_and, and_true, and_self, true_or, or_true, if_true, if_false, true_implies, implies_true, not_true_eq_false, not_false_eq_true, false_implies, forall_const, ne_eq, or_self, and_false, false_and, Lt, Le, Eq', Cp, In, nI_add, nI_mul, nI_sub, nI_sub1, Neg0, bI_eq0, bI_eq1, bI_01, bft, up2_eq, up2_no, Bool.true_eq_false, Bool.false_eq_true, eq_self, m1_ne, m1_ne2, m1_lt, m1_le, lt_m1, m1_le2, bI_t, bI_f, LM_all hF, LN_all hF, FMu hF, hd0, hj, h124, hWe, hcj, h20, Nat.add_sub_cancel])
      refine walk_G hF (o := openS (hoursS F E (I 124) j)) (c := c) hW h124 hcj hj2 (by omega) (fun a b e cc ss => ?_) g 0 _ _ _ _ (by omega)
      rw [← hwk]
      (apply WP_runI (lv := lvN) LN_ok 16 80; simp (disch := first | decide | omega) only [t164_0, t164_1, t164_2, lift_c, o_aload0, o_inl, o_virt2, rpush_n, rpush_s, o_getref, o_iload1, o_ishl, o_iastore, o_istore, s1_0, s1_s, o_iload2, o_icge, o_virt1, o_isub, o_iaload, o_iload4, o_iload5, o_iload3, o_ishr, o_iand, o_icne, o_virt3, o_goto, o_dup2, o_iload6, o_ifeq, o_ior, o_iinc5, o_iinc4, o_iinc2, o_return, z0, z1, z2, z16, z20, z31, z81, runI_0, runI_c, runI_n, liftI_n, liftI_y, run_0, run_c, run_n, fxn, fxi, fxr, fxl, fxl0, ↓swi_n, ↓swi_c, nck0, nck1, nck2, nck3, List.length_cons, List.length_nil, Nat.reduceAdd, Nat.reduceSub, Nat.reduceLeDiff, Nat.reduceEqDiff, Nat.reduceLT, reduceIte, ite_true, ite_false, Nat.sub_zero, Nat.zero_le, true_and, and_true, and_self, true_or, or_true, if_true, if_false, true_implies, implies_true, not_true_eq_false, not_false_eq_true, false_implies, forall_const, ne_eq, or_self, and_false, false_and, Lt, Le, Eq', Cp, In, nI_add, nI_mul, nI_sub, nI_sub1, Neg0, bI_eq0, bI_eq1, bI_01, bft, up2_eq, up2_no, Bool.true_eq_false, Bool.false_eq_true, eq_self, m1_ne, m1_ne2, m1_lt, m1_le, lt_m1, m1_le2, bI_t, bI_f, LM_all hF, LN_all hF, FMu hF, hd0])
      refine hour_A hF hB (ha.eo (eo135 _ _ _)) (by omega) fun I2 ha2 h2 => ?_
      have ih := fun o3 o4 o5 o6 cc ss => ih (j + 1) I2 o3 o4 o5 o6 cc ss (by omega) ha2 (fun m hm => by
        rw [h2 m]
        by_cases e : m = j + 1
        · rw [e, up2_eq]
        · rw [up2_no _ _ _ _ _ _ (by omega)]
          exact hr m (by omega))
      (apply WP_runI (lv := lvN) LN_ok 16 80; simp (disch := first | decide | omega) only [t164_0, t164_1, t164_2, lift_c, o_aload0, o_inl, o_virt2, rpush_n, rpush_s, o_getref, o_iload1, o_ishl, o_iastore, o_istore, s1_0, s1_s, o_iload2, o_icge, o_virt1, o_isub, o_iaload, o_iload4, o_iload5, o_iload3, o_ishr, o_iand, o_icne, o_virt3, o_goto, o_dup2, o_iload6, o_ifeq, o_ior, o_iinc5, o_iinc4, o_iinc2, o_return, z0, z1, z2, z16, z20, z31, z81, runI_0, runI_c, runI_n, liftI_n, liftI_y, run_0, run_c, run_n, fxn, fxi, fxr, fxl, fxl0, ↓swi_n, ↓swi_c, nck0, nck1, nck2, nck3, List.length_cons, List.length_nil, Nat.reduceAdd, Nat.reduceSub, Nat.reduceLeDiff, Nat.reduceEqDiff, Nat.reduceLT, reduceIte, ite_true, ite_false, Nat.sub_zero, Nat.zero_le, true_and, and_true, and_self, true_or, or_true, if_true, if_false, true_implies, implies_true, not_true_eq_false, not_false_eq_true, false_implies, forall_const, ne_eq, or_self, and_false, false_and, Lt, Le, Eq', Cp, In, nI_add, nI_mul, nI_sub, nI_sub1, Neg0, bI_eq0, bI_eq1, bI_01, bft, up2_eq, up2_no, Bool.true_eq_false, Bool.false_eq_true, eq_self, m1_ne, m1_ne2, m1_lt, m1_le, lt_m1, m1_le2, bI_t, bI_f, LM_all hF, LN_all hF, FMu hF, hd0])
      exact ih _ _ _ _ _ _
  have ha := AH.start hB
  (apply WP_runI (lv := lvN) LN_ok 16 80; simp (disch := first | decide | omega) only [t164_0, t164_1, t164_2, lift_c, o_aload0, o_inl, o_virt2, rpush_n, rpush_s, o_getref, o_iload1, o_ishl, o_iastore, o_istore, s1_0, s1_s, o_iload2, o_icge, o_virt1, o_isub, o_iaload, o_iload4, o_iload5, o_iload3, o_ishr, o_iand, o_icne, o_virt3, o_goto, o_dup2, o_iload6, o_ifeq, o_ior, o_iinc5, o_iinc4, o_iinc2, o_return, z0, z1, z2, z16, z20, z31, z81, runI_0, runI_c, runI_n, liftI_n, liftI_y, run_0, run_c, run_n, fxn, fxi, fxr, fxl, fxl0, ↓swi_n, ↓swi_c, nck0, nck1, nck2, nck3, List.length_cons, List.length_nil, Nat.reduceAdd, Nat.reduceSub, Nat.reduceLeDiff, Nat.reduceEqDiff, Nat.reduceLT, reduceIte, ite_true, ite_false, Nat.sub_zero, Nat.zero_le, true_and, and_true, and_self, true_or, or_true, if_true, if_false, true_implies, implies_true, not_true_eq_false, not_false_eq_true, false_implies, forall_const, ne_eq, or_self, and_false, false_and, Lt, Le, Eq', Cp, In, nI_add, nI_mul, nI_sub, nI_sub1, Neg0, bI_eq0, bI_eq1, bI_01, bft, up2_eq, up2_no, Bool.true_eq_false, Bool.false_eq_true, eq_self, m1_ne, m1_ne2, m1_lt, m1_le, lt_m1, m1_le2, bI_t, bI_f, LM_all hF, LN_all hF, FMu hF, hd0, h20])
  generalize cpy2 I 124 0 125 0 138 = I1 at ha ⊢
  exact loop 15 0 _ _ _ _ _ _ _ (by omega) (ha.eo (eo135 _ _ _)) (fun m hm => by
    rw [show m = 0 by omega, up2_eq]
    rfl)
/-! the fewest hours of a way -/
def wayL (F : TF) (E : Nat → Int32) (N : TN) (x y : Int32) : Nat → Nat → Int32
  | 0, _ => -nI 5
  | m + 1, j => if bt (wkS F E N x j) y = true then nI j else wayL F E N x y m (j + 1)
theorem wayL_s (F : TF) (E : Nat → Int32) (N : TN) (x y : Int32) (m j : Nat) : wayL F E N x y (m + 1) j = if bt (wkS F E N x j) y = true then nI j else wayL F E N x y m (j + 1) := by rw [wayL]
theorem wayTo_M (hF : FM sh P) (hB : BK I F E k g r) {x y : Int32} (hd : 38 ≤ d) (hQ : ∀ I', Eo scA I I' → Q (some (.int (wayL F E (I 124) x y 16 0))) n sh I' L P) : Cl G d 165 [.ref 123, .int x, .int y] n sh I L P Q := by
  apply e165
  have hd0 : 0 < d := by omega
  generalize hv : wayL F E (I 124) x y 16 0 = v at hQ
  (apply WP_runI (lv := lvN) LN_ok 7 80; simp (disch := first | decide | omega) only [t165_0, lift_c, o_aload0, o_iload1, o_virt2, rpush_n, rpush_s, o_inl, o_istore, s1_0, s1_s, o_iload3, o_icge, o_getref, o_iaload, o_iload2, o_ishr, o_iand, o_icne, o_ireturn, o_iinc3, o_goto, z0, z1, z2, z5, z16, z20, z31, runI_0, runI_c, runI_n, liftI_n, liftI_y, run_0, run_c, run_n, fxn, fxi, fxr, fxl, fxl0, ↓swi_n, ↓swi_c, nck0, nck1, nck2, nck3, List.length_cons, List.length_nil, Nat.reduceAdd, Nat.reduceSub, Nat.reduceLeDiff, Nat.reduceEqDiff, Nat.reduceLT, reduceIte, ite_true, ite_false, Nat.sub_zero, Nat.zero_le, true_and, and_true, and_self, true_or, or_true, if_true, if_false, true_implies, implies_true, not_true_eq_false, not_false_eq_true, false_implies, forall_const, ne_eq, or_self, and_false, false_and, Lt, Le, Eq', Cp, In, nI_add, nI_mul, nI_sub, nI_sub1, Neg0, bI_eq0, bI_eq1, bI_01, bft, up2_eq, up2_no, Bool.true_eq_false, Bool.false_eq_true, eq_self, m1_ne, m1_ne2, m1_lt, m1_le, lt_m1, m1_le2, bI_t, bI_f, LM_all hF, LN_all hF, FMu hF, hd0])
  refine walk_M hF hB (by omega) fun I1 he hr => ?_
  have hQ := hQ I1 he
  have loop : ∀ m j cc ss, j + m = 16 → wayL F E (I 124) x y m j = v → WP G 165 d Q 7 [some (.ref 123), some (.int x), some (.int y), some (.int (nI j))] [] cc ss n sh I1 L P := by
    intro m
    induction m with
    | zero =>
      intro j cc ss h hv
      have hj : 16 ≤ j := by omega
      rw [← show -nI 5 = v from hv] at hQ
      (apply WP_runI (lv := lvN) LN_ok 7 80; simp (disch := first | decide | omega) only [t165_0, lift_c, o_aload0, o_iload1, o_virt2, rpush_n, rpush_s, o_inl, o_istore, s1_0, s1_s, o_iload3, o_icge, o_getref, o_iaload, o_iload2, o_ishr, o_iand, o_icne, o_ireturn, o_iinc3, o_goto, z0, z1, z2, z5, z16, z20, z31, runI_0, runI_c, runI_n, liftI_n, liftI_y, run_0, run_c, run_n, fxn, fxi, fxr, fxl, fxl0, ↓swi_n, ↓swi_c, nck0, nck1, nck2, nck3, List.length_cons, List.length_nil, Nat.reduceAdd, Nat.reduceSub, Nat.reduceLeDiff, Nat.reduceEqDiff, Nat.reduceLT, reduceIte, ite_true, ite_false, Nat.sub_zero, Nat.zero_le, true_and, and_true, and_self, true_or, or_true, if_true, if_false, true_implies, implies_true, not_true_eq_false, not_false_eq_true, false_implies, forall_const, ne_eq, or_self, and_false, false_and, Lt, Le, Eq', Cp, In, nI_add, nI_mul, nI_sub, nI_sub1, Neg0, bI_eq0, bI_eq1, bI_01, bft, up2_eq, up2_no, Bool.true_eq_false, Bool.false_eq_true, eq_self, m1_ne, m1_ne2, m1_lt, m1_le, lt_m1, m1_le2, bI_t, bI_f, LM_all hF, LN_all hF, FMu hF, hd0, hj])
      exact hQ
    | succ m ih =>
      intro j cc ss h hv
      have hj : ¬ 16 ≤ j := by omega
      have hcj := hr j (by omega)
      rw [wayL_s] at hv
      generalize wkS F E (I 124) x j = c at hcj hv
      (apply WP_runI (lv := lvN) LN_ok 7 80; simp (disch := first | decide | omega) only [t165_0, lift_c, o_aload0, o_iload1, o_virt2, rpush_n, rpush_s, o_inl, o_istore, s1_0, s1_s, o_iload3, o_icge, o_getref, o_iaload, o_iload2, o_ishr, o_iand, o_icne, o_ireturn, o_iinc3, o_goto, z0, z1, z2, z5, z16, z20, z31, runI_0, runI_c, runI_n, liftI_n, liftI_y, run_0, run_c, run_n, fxn, fxi, fxr, fxl, fxl0, ↓swi_n, ↓swi_c, nck0, nck1, nck2, nck3, List.length_cons, List.length_nil, Nat.reduceAdd, Nat.reduceSub, Nat.reduceLeDiff, Nat.reduceEqDiff, Nat.reduceLT, reduceIte, ite_true, ite_false, Nat.sub_zero, Nat.zero_le, true_and, and_true, and_self, true_or, or_true, if_true, if_false, true_implies, implies_true, not_true_eq_false, not_false_eq_true, false_implies, forall_const, ne_eq, or_self, and_false, false_and, Lt, Le, Eq', Cp, In, nI_add, nI_mul, nI_sub, nI_sub1, Neg0, bI_eq0, bI_eq1, bI_01, bft, up2_eq, up2_no, Bool.true_eq_false, Bool.false_eq_true, eq_self, m1_ne, m1_ne2, m1_lt, m1_le, lt_m1, m1_le2, bI_t, bI_f, LM_all hF, LN_all hF, FMu hF, hd0, hj, hcj])
      refine ⟨fun hb => ?_, fun hb => ?_⟩
      · rw [if_pos (show bt c y = true from decide_eq_true hb)] at hv
        rw [hv]
        exact hQ
      · rw [if_neg (show ¬ bt c y = true from fun q => hb (of_decide_eq_true q))] at hv
        exact ih (j + 1) _ _ (by omega) hv
  (apply WP_runI (lv := lvN) LN_ok 7 80; simp (disch := first | decide | omega) only [t165_0, lift_c, o_aload0, o_iload1, o_virt2, rpush_n, rpush_s, o_inl, o_istore, s1_0, s1_s, o_iload3, o_icge, o_getref, o_iaload, o_iload2, o_ishr, o_iand, o_icne, o_ireturn, o_iinc3, o_goto, z0, z1, z2, z5, z16, z20, z31, runI_0, runI_c, runI_n, liftI_n, liftI_y, run_0, run_c, run_n, fxn, fxi, fxr, fxl, fxl0, ↓swi_n, ↓swi_c, nck0, nck1, nck2, nck3, List.length_cons, List.length_nil, Nat.reduceAdd, Nat.reduceSub, Nat.reduceLeDiff, Nat.reduceEqDiff, Nat.reduceLT, reduceIte, ite_true, ite_false, Nat.sub_zero, Nat.zero_le, true_and, and_true, and_self, true_or, or_true, if_true, if_false, true_implies, implies_true, not_true_eq_false, not_false_eq_true, false_implies, forall_const, ne_eq, or_self, and_false, false_and, Lt, Le, Eq', Cp, In, nI_add, nI_mul, nI_sub, nI_sub1, Neg0, bI_eq0, bI_eq1, bI_01, bft, up2_eq, up2_no, Bool.true_eq_false, Bool.false_eq_true, eq_self, m1_ne, m1_ne2, m1_lt, m1_le, lt_m1, m1_le2, bI_t, bI_f, LM_all hF, LN_all hF, FMu hF, hd0])
  exact loop 16 0 _ _ (by omega) hv
theorem far_M (hF : FM sh P) (hB : BK I F E k g r) {x : Int32} (hd : 38 ≤ d) (hQ : ∀ I', Eo scA I I' → Q (some (.int (wkS F E (I 124) x 15))) n sh I' L P) : Cl G d 166 [.ref 123, .int x] n sh I L P Q := by
  apply e166
  have hd0 : 0 < d := by omega
  (apply WP_runI (lv := lvN) LN_ok 999 80; simp (disch := first | decide | omega) only [t166_0, lift_c, o_aload0, o_iload1, o_virt2, rpush_n, rpush_s, o_getref, o_inl, o_iaload, o_ireturn, z0, z1, z2, z15, z20, z31, runI_0, runI_c, runI_n, liftI_n, liftI_y, run_0, run_c, run_n, fxn, fxi, fxr, fxl, fxl0, ↓swi_n, ↓swi_c, nck0, nck1, nck2, nck3, List.length_cons, List.length_nil, Nat.reduceAdd, Nat.reduceSub, Nat.reduceLeDiff, Nat.reduceEqDiff, Nat.reduceLT, reduceIte, ite_true, ite_false, Nat.sub_zero, Nat.zero_le, true_and, and_true, and_self, true_or, or_true, if_true, if_false, true_implies, implies_true, not_true_eq_false, not_false_eq_true, false_implies, forall_const, ne_eq, or_self, and_false, false_and, Lt, Le, Eq', Cp, In, nI_add, nI_mul, nI_sub, nI_sub1, Neg0, bI_eq0, bI_eq1, bI_01, bft, up2_eq, up2_no, Bool.true_eq_false, Bool.false_eq_true, eq_self, m1_ne, m1_ne2, m1_lt, m1_le, lt_m1, m1_le2, bI_t, bI_f, LM_all hF, LN_all hF, FMu hF, hd0])
  refine walk_M hF hB (by omega) fun I1 he hr => ?_
  have hcj := hr 15 (by omega)
  have hQ := hQ I1 he
  generalize wkS F E (I 124) x 15 = c at hcj hQ
  (apply WP_runI (lv := lvN) LN_ok 999 80; simp (disch := first | decide | omega) only [t166_0, lift_c, o_aload0, o_iload1, o_virt2, rpush_n, rpush_s, o_getref, o_inl, o_iaload, o_ireturn, z0, z1, z2, z15, z20, z31, runI_0, runI_c, runI_n, liftI_n, liftI_y, run_0, run_c, run_n, fxn, fxi, fxr, fxl, fxl0, ↓swi_n, ↓swi_c, nck0, nck1, nck2, nck3, List.length_cons, List.length_nil, Nat.reduceAdd, Nat.reduceSub, Nat.reduceLeDiff, Nat.reduceEqDiff, Nat.reduceLT, reduceIte, ite_true, ite_false, Nat.sub_zero, Nat.zero_le, true_and, and_true, and_self, true_or, or_true, if_true, if_false, true_implies, implies_true, not_true_eq_false, not_false_eq_true, false_implies, forall_const, ne_eq, or_self, and_false, false_and, Lt, Le, Eq', Cp, In, nI_add, nI_mul, nI_sub, nI_sub1, Neg0, bI_eq0, bI_eq1, bI_01, bft, up2_eq, up2_no, Bool.true_eq_false, Bool.false_eq_true, eq_self, m1_ne, m1_ne2, m1_lt, m1_le, lt_m1, m1_le2, bI_t, bI_f, LM_all hF, LN_all hF, FMu hF, hd0, hcj])
  exact hQ
end
