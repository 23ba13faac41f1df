/-! ### the reference: seen, from, can -/
/-- the rows told by hand are in order -/
def WS (N : TN) (k : Nat) : Prop :=
  (∃ s, s ≤ 5 ∧ N 84 = nI s ∧ ∀ j, j < s → (∃ i, i < k ∧ N (85 + 3 * j) = nI i) ∧ (∃ t, t ≤ 12 ∧ N (86 + 3 * j) = nI t) ∧ ∃ c, c < 8 ∧ N (87 + 3 * j) = nI c) ∧
  (∃ s, s ≤ 10 ∧ N 100 = nI s ∧ ∀ j, j < s → ∃ t, t < 4 ∧ N (101 + 2 * j) = nI t ∧ (t = 1 → ∃ c, c < 8 ∧ N (102 + 2 * j) = nI c) ∧ (1 < t → ∃ i, i < k ∧ N (102 + 2 * j) = nI i)) ∧
  (∃ s, s ≤ 8 ∧ N 121 = nI s ∧ ∀ j, j < s → (∃ c, c < 8 ∧ N (122 + 2 * j) = nI c) ∧ ∃ u, u ≤ 99 ∧ N (123 + 2 * j) = nI u)
theorem hourL_83 {F : TF} {e : Int32} (he : eOK e) {N : TN} {k g r : Nat} (hW : WF N k g r) {j : Nat} (hj : 83 ≤ j) : ∀ i, i ≤ k → hourL F e N i j = N j
  | 0, _ => by rw [hourL]
  | i + 1, hi => by
    have ih := hourL_83 (F := F) he hW hj i (by omega)
    have hW2 := WF_hourL (F := F) he hW i (by omega)
    have hg := goS_lt (F := F) hW2 (show i < k by omega)
    have hk := hW.k6
    rw [hourL_s]
    generalize goS F (hourL F e N i) i = c at hg ⊢
    split
    · exact ih
    · rw [upN_no _ _ _ _ (by omega), upN_no _ _ _ _ (by omega)]
      exact ih
theorem hours_83 {F : TF} {E : Nat → Int32} (he : ∀ u, eOK (E u)) {N : TN} {k g r : Nat} (hW : WF N k g r) {j : Nat} (hj : 83 ≤ j) : ∀ n, hoursS F E N n j = N j
  | 0 => rfl
  | n + 1 => by
    have hW2 := WF_hours (F := F) he hW n
    have ih := hours_83 (F := F) he hW hj n
    show hourS F E (hoursS F E N n) j = N j
    unfold hourS
    rw [upN_no _ _ _ _ (by omega), hW2.cn, hourL_83 (he _) hW2 hj k (Nat.le_refl k)]
    exact ih
theorem WS.keep {N M : TN} {k : Nat} (h : WS N k) (he : ∀ j, 83 ≤ j → M j = N j) : WS M k := by
  obtain ⟨⟨s, h1, h2, h3⟩, ⟨p, h4, h5, h6⟩, ⟨b, h7, h8, h9⟩⟩ := h
  refine ⟨⟨s, h1, (he _ (by omega)).trans h2, fun j hj => ?_⟩, ⟨p, h4, (he _ (by omega)).trans h5, fun j hj => ?_⟩, ⟨b, h7, (he _ (by omega)).trans h8, fun j hj => ?_⟩⟩
  · rw [he _ (by omega), he _ (by omega), he _ (by omega)]
    exact h3 j hj
  · rw [he _ (by omega), he _ (by omega)]
    exact h6 j hj
  · rw [he _ (by omega), he _ (by omega)]
    exact h9 j hj
/-- a row is as it is to be, of those of an hour -/
def seB (M : TN) (t j : Nat) : Bool := !decide (M (86 + 3 * j) = nI t) || decide (gs M (M (85 + 3 * j)).toNatClampNeg 2 = M (87 + 3 * j))
def seR (M : TN) (t : Nat) : Nat → Bool
  | 0 => true
  | j + 1 => seR M t j && seB M t j
def seH (F : TF) (E : Nat → Int32) (N : TN) (s : Nat) : Nat → Bool
  | 0 => true
  | t + 1 => seH F E N s t && seR (hoursS F E N t) t s
def seA (F : TF) (E : Nat → Int32) (N : TN) : Bool := seH F E N (N 84).toNatClampNeg 13
theorem seH_f {F : TF} {E : Nat → Int32} {N : TN} {s j : Nat} (h : seH F E N s j = false) : ∀ m, seH F E N s (j + m) = false
  | 0 => h
  | m + 1 => by
    show (seH F E N s (j + m) && _) = false
    rw [seH_f h m]
    rfl
section
variable {G : GE} {d n : Nat} {sh : TS} {I : TI} {L : TL} {P : TP} {Q : TQ} {F : TF} {E : Nat → Int32} {k g r : Nat}
theorem seen_R (hF : FM sh P) {M : TN} (hW : WF M k g r) (hS : WS M k) {s t : Nat} (hs : M 84 = nI s) (hs5 : s ≤ 5) (ht : t ≤ 12) (h124 : I 124 = M) (hd : 2 ≤ d)
    (hK : ∀ o3 o4 cc ss, WP G 176 d Q 93 [some (.ref 123), some (.int (bI (seR M t s))), some (.int (nI t)), o3, o4] [] cc ss n sh I L P) : ∀ (m j : Nat) (b : Bool) (o4 : Option Value) (cc ss : Nat), j + m = s → seR M t j = b →
    WP G 176 d Q 21 [some (.ref 123), some (.int (bI b)), some (.int (nI t)), some (.int (nI j)), o4] [] cc ss n sh I L P
  | 0, j, b, o4, cc, ss, h, hb => by
    have h : j = s := by omega
    subst h
    subst hb
    (apply WP_runI (lv := lvN) LN_ok 93 80; simp (disch := first | decide | omega) only [t176_0, t176_1, lift_c, o_aload0, o_inl, o_virt2, rpush_n, rpush_s, o_istore, s1_0, s1_s, o_iload2, o_icgt, o_iload1, o_ifeq, o_iload3, o_getref, o_iaload, o_icge, o_imul, o_iadd, o_iload4, o_icne, o_virt3, o_goto, o_iinc3, o_virt1, o_iinc2, o_ireturn, z0, z1, z2, z3, z12, z20, z31, z84, z85, runI_0, runI_c, runI_n, liftI_n, liftI_y, run_0, run_c, run_n, fxn, fxi, fxr, fxl, fxl0, ↓swi_n, ↓swi_c, nck0, nck1, nck2, nck3, List.length_cons, List.length_nil, Nat.reduceAdd, Nat.reduceSub, Nat.reduceLeDiff, Nat.reduceEqDiff, Nat.reduceLT, reduceIte, ite_true, ite_false, Nat.sub_zero, Nat.zero_le, true_and, and_true, and_self, true_or, or_true, if_true, if_false, true_implies, implies_true, not_true_eq_false, not_false_eq_true, false_implies, forall_const, ne_eq, or_self, and_false, false_and, Lt, Le, Eq', Cp, In, nI_add, nI_mul, nI_sub, nI_sub1, Neg0, bI_eq0, bI_eq1, bI_01, bft, up2_eq, up2_no, Bool.true_eq_false, Bool.false_eq_true, eq_self, m1_ne, m1_ne2, m1_lt, m1_le, lt_m1, m1_le2, bI_t, bI_f, LM_all hF, LN_all hF, FMu hF, h124, hs, Nat.le_refl])
    exact hK _ _ _ _
  | m + 1, j, b, o4, cc, ss, h, hb => by
    have hd0 : 0 < d := by omega
    have hj : ¬ s ≤ j := by omega
    have hk := hW.k6
    have hS0 := hS
    obtain ⟨⟨s', h1, h2, h3⟩, -⟩ := hS
    have hs' : s' = s := by
      rw [hs, nI_eq (by omega) (by omega)] at h2
      exact h2.symm
    subst hs'
    obtain ⟨⟨i, hi, e1⟩, ⟨u, hu, e2⟩, ⟨c, hc, e3⟩⟩ := h3 j (by omega)
    have e4 : 85 + 3 * j + 1 = 86 + 3 * j := by omega
    have e5 : 85 + 3 * j + 2 = 87 + 3 * j := by omega
    have ih := fun b o4 cc ss hb => seen_R (t := t) hF hW hS0 hs hs5 ht h124 hd hK m (j + 1) b o4 cc ss (by omega) hb
    have hse : seR M t (j + 1) = (b && seB M t j) := by rw [seR, hb]
    cases b with
    | false =>
      have ih := fun cc ss => ih false (some (.int (nI (85 + 3 * j)))) cc ss hse
      (apply WP_runI (lv := lvN) LN_ok 21 80; simp (disch := first | decide | omega) only [t176_0, t176_1, lift_c, o_aload0, o_inl, o_virt2, rpush_n, rpush_s, o_istore, s1_0, s1_s, o_iload2, o_icgt, o_iload1, o_ifeq, o_iload3, o_getref, o_iaload, o_icge, o_imul, o_iadd, o_iload4, o_icne, o_virt3, o_goto, o_iinc3, o_virt1, o_iinc2, o_ireturn, z0, z1, z2, z3, z12, z20, z31, z84, z85, runI_0, runI_c, runI_n, liftI_n, liftI_y, run_0, run_c, run_n, fxn, fxi, fxr, fxl, fxl0, ↓swi_n, ↓swi_c, nck0, nck1, nck2, nck3, List.length_cons, List.length_nil, Nat.reduceAdd, Nat.reduceSub, Nat.reduceLeDiff, Nat.reduceEqDiff, Nat.reduceLT, reduceIte, ite_true, ite_false, Nat.sub_zero, Nat.zero_le, true_and, and_true, and_self, true_or, or_true, if_true, if_false, true_implies, implies_true, not_true_eq_false, not_false_eq_true, false_implies, forall_const, ne_eq, or_self, and_false, false_and, Lt, Le, Eq', Cp, In, nI_add, nI_mul, nI_sub, nI_sub1, Neg0, bI_eq0, bI_eq1, bI_01, bft, up2_eq, up2_no, Bool.true_eq_false, Bool.false_eq_true, eq_self, m1_ne, m1_ne2, m1_lt, m1_le, lt_m1, m1_le2, bI_t, bI_f, LM_all hF, LN_all hF, FMu hF, hd0, h124, hs, hj])
      exact ih _ _
    | true =>
      by_cases hut : u = t
      · by_cases hg : gs M i 2 = nI c
        · have ih := fun cc ss => ih true (some (.int (nI (85 + 3 * j)))) cc ss (by
            rw [hse]
            unfold seB
            rw [e1, e2, e3, Cp _ (by omega), decide_eq_true hg]
            simp)
          (apply WP_runI (lv := lvN) LN_ok 21 80; simp (disch := first | decide | omega) only [t176_0, t176_1, lift_c, o_aload0, o_inl, o_virt2, rpush_n, rpush_s, o_istore, s1_0, s1_s, o_iload2, o_icgt, o_iload1, o_ifeq, o_iload3, o_getref, o_iaload, o_icge, o_imul, o_iadd, o_iload4, o_icne, o_virt3, o_goto, o_iinc3, o_virt1, o_iinc2, o_ireturn, z0, z1, z2, z3, z12, z20, z31, z84, z85, runI_0, runI_c, runI_n, liftI_n, liftI_y, run_0, run_c, run_n, fxn, fxi, fxr, fxl, fxl0, ↓swi_n, ↓swi_c, nck0, nck1, nck2, nck3, List.length_cons, List.length_nil, Nat.reduceAdd, Nat.reduceSub, Nat.reduceLeDiff, Nat.reduceEqDiff, Nat.reduceLT, reduceIte, ite_true, ite_false, Nat.sub_zero, Nat.zero_le, true_and, and_true, and_self, true_or, or_true, if_true, if_false, true_implies, implies_true, not_true_eq_false, not_false_eq_true, false_implies, forall_const, ne_eq, or_self, and_false, false_and, Lt, Le, Eq', Cp, In, nI_add, nI_mul, nI_sub, nI_sub1, Neg0, bI_eq0, bI_eq1, bI_01, bft, up2_eq, up2_no, Bool.true_eq_false, Bool.false_eq_true, eq_self, m1_ne, m1_ne2, m1_lt, m1_le, lt_m1, m1_le2, bI_t, bI_f, LM_all hF, LN_all hF, FMu hF, hd0, h124, hs, hj, e1, e2, e3, e4, e5, hut, hg])
          exact ih _ _
        · have ih := fun cc ss => ih false (some (.int (nI (85 + 3 * j)))) cc ss (by
            rw [hse]
            unfold seB
            rw [e1, e2, e3, Cp _ (by omega), decide_eq_false hg, hut]
            simp)
          (apply WP_runI (lv := lvN) LN_ok 21 80; simp (disch := first | decide | omega) only [t176_0, t176_1, lift_c, o_aload0, o_inl, o_virt2, rpush_n, rpush_s, o_istore, s1_0, s1_s, o_iload2, o_icgt, o_iload1, o_ifeq, o_iload3, o_getref, o_iaload, o_icge, o_imul, o_iadd, o_iload4, o_icne, o_virt3, o_goto, o_iinc3, o_virt1, o_iinc2, o_ireturn, z0, z1, z2, z3, z12, z20, z31, z84, z85, runI_0, runI_c, runI_n, liftI_n, liftI_y, run_0, run_c, run_n, fxn, fxi, fxr, fxl, fxl0, ↓swi_n, ↓swi_c, nck0, nck1, nck2, nck3, List.length_cons, List.length_nil, Nat.reduceAdd, Nat.reduceSub, Nat.reduceLeDiff, Nat.reduceEqDiff, Nat.reduceLT, reduceIte, ite_true, ite_false, Nat.sub_zero, Nat.zero_le, true_and, and_true, and_self, true_or, or_true, if_true, if_false, true_implies, implies_true, not_true_eq_false, not_false_eq_true, false_implies, forall_const, ne_eq, or_self, and_false, false_and, Lt, Le, Eq', Cp, In, nI_add, nI_mul, nI_sub, nI_sub1, Neg0, bI_eq0, bI_eq1, bI_01, bft, up2_eq, up2_no, Bool.true_eq_false, Bool.false_eq_true, eq_self, m1_ne, m1_ne2, m1_lt, m1_le, lt_m1, m1_le2, bI_t, bI_f, LM_all hF, LN_all hF, FMu hF, hd0, h124, hs, hj, e1, e2, e3, e4, e5, hut, hg])
          exact ih _ _
      · have ih := fun cc ss => ih true (some (.int (nI (85 + 3 * j)))) cc ss (by
          rw [hse]
          unfold seB
          rw [e2, decide_eq_false (by rw [nI_eq (by omega) (by omega)]; exact hut)]
          rfl)
        (apply WP_runI (lv := lvN) LN_ok 21 80; simp (disch := first | decide | omega) only [t176_0, t176_1, lift_c, o_aload0, o_inl, o_virt2, rpush_n, rpush_s, o_istore, s1_0, s1_s, o_iload2, o_icgt, o_iload1, o_ifeq, o_iload3, o_getref, o_iaload, o_icge, o_imul, o_iadd, o_iload4, o_icne, o_virt3, o_goto, o_iinc3, o_virt1, o_iinc2, o_ireturn, z0, z1, z2, z3, z12, z20, z31, z84, z85, runI_0, runI_c, runI_n, liftI_n, liftI_y, run_0, run_c, run_n, fxn, fxi, fxr, fxl, fxl0, ↓swi_n, ↓swi_c, nck0, nck1, nck2, nck3, List.length_cons, List.length_nil, Nat.reduceAdd, Nat.reduceSub, Nat.reduceLeDiff, Nat.reduceEqDiff, Nat.reduceLT, reduceIte, ite_true, ite_false, Nat.sub_zero, Nat.zero_le, true_and, and_true, and_self, true_or, or_true, if_true, if_false, true_implies, implies_true, not_true_eq_false, not_false_eq_true, false_implies, forall_const, ne_eq, or_self, and_false, false_and, Lt, Le, Eq', Cp, In, nI_add, nI_mul, nI_sub, nI_sub1, Neg0, bI_eq0, bI_eq1, bI_01, bft, up2_eq, up2_no, Bool.true_eq_false, Bool.false_eq_true, eq_self, m1_ne, m1_ne2, m1_lt, m1_le, lt_m1, m1_le2, bI_t, bI_f, LM_all hF, LN_all hF, FMu hF, hd0, h124, hs, hj, e1, e2, e3, e4, e5, hut])
        exact ih _ _
theorem isAllSeen_M (hF : FM sh P) (hB : BK I F E k g r) (hS : WS (I 124) k) (hd : 38 ≤ d) (hQ : ∀ I', Eo scA I I' → Q (some (.int (bI (seA F E (I 124))))) n sh I' L P) : Cl G d 176 [.ref 123] n sh I L P Q := by
  apply e176
  have hd0 : 0 < d := by omega
  obtain ⟨s, hs5, hs, -⟩ := hS.1
  generalize hv : seA F E (I 124) = v at hQ
  unfold seA at hv
  rw [hs, Cp _ (by omega)] at hv
  have fin : ∀ I1 M o2 o3 o4 cc ss, AH I I1 M k g r → WP G 176 d Q 103 [some (.ref 123), some (.int (bI v)), o2, o3, o4] [] cc ss n sh I1 L P := by
    intro I1 M o2 o3 o4 cc ss ha
    have hQ := hQ _ ha.fin
    (apply WP_runI (lv := lvN) LN_ok 999 80; simp (disch := first | decide | omega) only [t176_0, t176_1, lift_c, o_aload0, o_inl, o_virt2, rpush_n, rpush_s, o_istore, s1_0, s1_s, o_iload2, o_icgt, o_iload1, o_ifeq, o_iload3, o_getref, o_iaload, o_icge, o_imul, o_iadd, o_iload4, o_icne, o_virt3, o_goto, o_iinc3, o_virt1, o_iinc2, o_ireturn, z0, z1, z2, z3, z12, z20, z31, z84, z85, runI_0, runI_c, runI_n, liftI_n, liftI_y, run_0, run_c, run_n, fxn, fxi, fxr, fxl, fxl0, ↓swi_n, ↓swi_c, nck0, nck1, nck2, nck3, List.length_cons, List.length_nil, Nat.reduceAdd, Nat.reduceSub, Nat.reduceLeDiff, Nat.reduceEqDiff, Nat.reduceLT, reduceIte, ite_true, ite_false, Nat.sub_zero, Nat.zero_le, true_and, and_true, and_self, true_or, or_true, if_true, if_false, true_implies, implies_true, not_true_eq_false, not_false_eq_true, false_implies, forall_const, ne_eq, or_self, and_false, false_and, Lt, Le, Eq', Cp, In, nI_add, nI_mul, nI_sub, nI_sub1, Neg0, bI_eq0, bI_eq1, bI_01, bft, up2_eq, up2_no, Bool.true_eq_false, Bool.false_eq_true, eq_self, m1_ne, m1_ne2, m1_lt, m1_le, lt_m1, m1_le2, bI_t, bI_f, LM_all hF, LN_all hF, FMu hF, hd0])
    exact hQ
  have loop : ∀ m j b I1 o3 o4 cc ss, j + m = 13 → AH I I1 (hoursS F E (I 124) j) k g r → seH F E (I 124) s j = b → WP G 176 d Q 9 [some (.ref 123), some (.int (bI b)), some (.int (nI j)), o3, o4] [] cc ss n sh I1 L P := by
    intro m
    induction m with
    | zero =>
      intro j b I1 o3 o4 cc ss h ha hb
      have hj : 12 < j := by omega
      have e : v = b := by rw [← hv, ← hb, show j = 13 by omega]
      subst e
      have fin := fun cc ss => fin I1 _ (some (.int (nI j))) o3 o4 cc ss ha
      (apply WP_runI (lv := lvN) LN_ok 103 80; simp (disch := first | decide | omega) only [t176_0, t176_1, lift_c, o_aload0, o_inl, o_virt2, rpush_n, rpush_s, o_istore, s1_0, s1_s, o_iload2, o_icgt, o_iload1, o_ifeq, o_iload3, o_getref, o_iaload, o_icge, o_imul, o_iadd, o_iload4, o_icne, o_virt3, o_goto, o_iinc3, o_virt1, o_iinc2, o_ireturn, z0, z1, z2, z3, z12, z20, z31, z84, z85, runI_0, runI_c, runI_n, liftI_n, liftI_y, run_0, run_c, run_n, fxn, fxi, fxr, fxl, fxl0, ↓swi_n, ↓swi_c, nck0, nck1, nck2, nck3, List.length_cons, List.length_nil, Nat.reduceAdd, Nat.reduceSub, Nat.reduceLeDiff, Nat.reduceEqDiff, Nat.reduceLT, reduceIte, ite_true, ite_false, Nat.sub_zero, Nat.zero_le, true_and, and_true, and_self, true_or, or_true, if_true, if_false, true_implies, implies_true, not_true_eq_false, not_false_eq_true, false_implies, forall_const, ne_eq, or_self, and_false, false_and, Lt, Le, Eq', Cp, In, nI_add, nI_mul, nI_sub, nI_sub1, Neg0, bI_eq0, bI_eq1, bI_01, bft, up2_eq, up2_no, Bool.true_eq_false, Bool.false_eq_true, eq_self, m1_ne, m1_ne2, m1_lt, m1_le, lt_m1, m1_le2, bI_t, bI_f, LM_all hF, LN_all hF, FMu hF, hd0, hj])
      exact fin _ _
    | succ m ih =>
      intro j b I1 o3 o4 cc ss h ha hb
      have hj : ¬ 12 < j := by omega
      have h124 := ha.2.1
      have hW := ha.2.2.2.2
      cases b with
      | false =>
        have e : v = false := by
          rw [← hv, show 13 = j + (m + 1) by omega]
          exact seH_f hb (m + 1)
        subst e
        have fin := fun cc ss => fin I1 _ (some (.int (nI j))) o3 o4 cc ss ha
        (apply WP_runI (lv := lvN) LN_ok 103 80; simp (disch := first | decide | omega) only [t176_0, t176_1, lift_c, o_aload0, o_inl, o_virt2, rpush_n, rpush_s, o_istore, s1_0, s1_s, o_iload2, o_icgt, o_iload1, o_ifeq, o_iload3, o_getref, o_iaload, o_icge, o_imul, o_iadd, o_iload4, o_icne, o_virt3, o_goto, o_iinc3, o_virt1, o_iinc2, o_ireturn, z0, z1, z2, z3, z12, z20, z31, z84, z85, runI_0, runI_c, runI_n, liftI_n, liftI_y, run_0, run_c, run_n, fxn, fxi, fxr, fxl, fxl0, ↓swi_n, ↓swi_c, nck0, nck1, nck2, nck3, List.length_cons, List.length_nil, Nat.reduceAdd, Nat.reduceSub, Nat.reduceLeDiff, Nat.reduceEqDiff, Nat.reduceLT, reduceIte, ite_true, ite_false, Nat.sub_zero, Nat.zero_le, true_and, and_true, and_self, true_or, or_true, if_true, if_false, true_implies, implies_true, not_true_eq_false, not_false_eq_true, false_implies, forall_const, ne_eq, or_self, and_false, false_and, Lt, Le, Eq', Cp, In, nI_add, nI_mul, nI_sub, nI_sub1, Neg0, bI_eq0, bI_eq1, bI_01, bft, up2_eq, up2_no, Bool.true_eq_false, Bool.false_eq_true, eq_self, m1_ne, m1_ne2, m1_lt, m1_le, lt_m1, m1_le2, bI_t, bI_f, LM_all hF, LN_all hF, FMu hF, hd0, hj])
        exact fin _ _
      | true =>
        have hSM : WS (hoursS F E (I 124) j) k := hS.keep fun p hp => hours_83 hB.eok hB.1 hp j
        have hsM : hoursS F E (I 124) j 84 = nI s := (hours_83 hB.eok hB.1 (by omega) j).trans hs
        (apply WP_runI (lv := lvN) LN_ok 21 80; simp (disch := first | decide | omega) only [t176_0, t176_1, lift_c, o_aload0, o_inl, o_virt2, rpush_n, rpush_s, o_istore, s1_0, s1_s, o_iload2, o_icgt, o_iload1, o_ifeq, o_iload3, o_getref, o_iaload, o_icge, o_imul, o_iadd, o_iload4, o_icne, o_virt3, o_goto, o_iinc3, o_virt1, o_iinc2, o_ireturn, z0, z1, z2, z3, z12, z20, z31, z84, z85, runI_0, runI_c, runI_n, liftI_n, liftI_y, run_0, run_c, run_n, fxn, fxi, fxr, fxl, fxl0, ↓swi_n, ↓swi_c, nck0, nck1, nck2, nck3, List.length_cons, List.length_nil, Nat.reduceAdd, Nat.reduceSub, Nat.reduceLeDiff, Nat.reduceEqDiff, Nat.reduceLT, reduceIte, ite_true, ite_false, Nat.sub_zero, Nat.zero_le, true_and, and_true, and_self, true_or, or_true, if_true, if_false, true_implies, implies_true, not_true_eq_false, not_false_eq_true, false_implies, forall_const, ne_eq, or_self, and_false, false_and, Lt, Le, Eq', Cp, In, nI_add, nI_mul, nI_sub, nI_sub1, Neg0, bI_eq0, bI_eq1, bI_01, bft, up2_eq, up2_no, Bool.true_eq_false, Bool.false_eq_true, eq_self, m1_ne, m1_ne2, m1_lt, m1_le, lt_m1, m1_le2, bI_t, bI_f, LM_all hF, LN_all hF, FMu hF, hd0, hj])
        refine seen_R hF hW hSM hsM hs5 (by omega) h124 (by omega) (fun o3 o4 cc ss => ?_) s 0 true _ _ _ (by omega) rfl
        (apply WP_runI (lv := lvN) LN_ok 9 80; simp (disch := first | decide | omega) only [t176_0, t176_1, lift_c, o_aload0, o_inl, o_virt2, rpush_n, rpush_s, o_istore, s1_0, s1_s, o_iload2, o_icgt, o_iload1, o_ifeq, o_iload3, o_getref, o_iaload, o_icge, o_imul, o_iadd, o_iload4, o_icne, o_virt3, o_goto, o_iinc3, o_virt1, o_iinc2, o_ireturn, z0, z1, z2, z3, z12, z20, z31, z84, z85, runI_0, runI_c, runI_n, liftI_n, liftI_y, run_0, run_c, run_n, fxn, fxi, fxr, fxl, fxl0, ↓swi_n, ↓swi_c, nck0, nck1, nck2, nck3, List.length_cons, List.length_nil, Nat.reduceAdd, Nat.reduceSub, Nat.reduceLeDiff, Nat.reduceEqDiff, Nat.reduceLT, reduceIte, ite_true, ite_false, Nat.sub_zero, Nat.zero_le, true_and, and_true, and_self, true_or, or_true, if_true, if_false, true_implies, implies_true, not_true_eq_false, not_false_eq_true, false_implies, forall_const, ne_eq, or_self, and_false, false_and, Lt, Le, Eq', Cp, In, nI_add, nI_mul, nI_sub, nI_sub1, Neg0, bI_eq0, bI_eq1, bI_01, bft, up2_eq, up2_no, Bool.true_eq_false, Bool.false_eq_true, eq_self, m1_ne, m1_ne2, m1_lt, m1_le, lt_m1, m1_le2, bI_t, bI_f, LM_all hF, LN_all hF, FMu hF, hd0])
        refine hour_A hF hB ha (by omega) fun I2 ha2 _ => ?_
        have ih := fun cc ss => ih (j + 1) _ I2 o3 o4 cc ss (by omega) ha2 (by rw [seH, hb])
        (apply WP_runI (lv := lvN) LN_ok 9 80; simp (disch := first | decide | omega) only [t176_0, t176_1, lift_c, o_aload0, o_inl, o_virt2, rpush_n, rpush_s, o_istore, s1_0, s1_s, o_iload2, o_icgt, o_iload1, o_ifeq, o_iload3, o_getref, o_iaload, o_icge, o_imul, o_iadd, o_iload4, o_icne, o_virt3, o_goto, o_iinc3, o_virt1, o_iinc2, o_ireturn, z0, z1, z2, z3, z12, z20, z31, z84, z85, runI_0, runI_c, runI_n, liftI_n, liftI_y, run_0, run_c, run_n, fxn, fxi, fxr, fxl, fxl0, ↓swi_n, ↓swi_c, nck0, nck1, nck2, nck3, List.length_cons, List.length_nil, Nat.reduceAdd, Nat.reduceSub, Nat.reduceLeDiff, Nat.reduceEqDiff, Nat.reduceLT, reduceIte, ite_true, ite_false, Nat.sub_zero, Nat.zero_le, true_and, and_true, and_self, true_or, or_true, if_true, if_false, true_implies, implies_true, not_true_eq_false, not_false_eq_true, false_implies, forall_const, ne_eq, or_self, and_false, false_and, Lt, Le, Eq', Cp, In, nI_add, nI_mul, nI_sub, nI_sub1, Neg0, bI_eq0, bI_eq1, bI_01, bft, up2_eq, up2_no, Bool.true_eq_false, Bool.false_eq_true, eq_self, m1_ne, m1_ne2, m1_lt, m1_le, lt_m1, m1_le2, bI_t, bI_f, LM_all hF, LN_all hF, FMu hF, hd0])
        exact ih _ _
  have ha := AH.start hB
  have loop := fun I1 cc ss ha => loop 13 0 true I1 none none cc ss (by omega) ha rfl
  rw [bI_t] at loop
  (apply WP_runI (lv := lvN) LN_ok 9 80; simp (disch := first | decide | omega) only [t176_0, t176_1, lift_c, o_aload0, o_inl, o_virt2, rpush_n, rpush_s, o_istore, s1_0, s1_s, o_iload2, o_icgt, o_iload1, o_ifeq, o_iload3, o_getref, o_iaload, o_icge, o_imul, o_iadd, o_iload4, o_icne, o_virt3, o_goto, o_iinc3, o_virt1, o_iinc2, o_ireturn, z0, z1, z2, z3, z12, z20, z31, z84, z85, runI_0, runI_c, runI_n, liftI_n, liftI_y, run_0, run_c, run_n, fxn, fxi, fxr, fxl, fxl0, ↓swi_n, ↓swi_c, nck0, nck1, nck2, nck3, List.length_cons, List.length_nil, Nat.reduceAdd, Nat.reduceSub, Nat.reduceLeDiff, Nat.reduceEqDiff, Nat.reduceLT, reduceIte, ite_true, ite_false, Nat.sub_zero, Nat.zero_le, true_and, and_true, and_self, true_or, or_true, if_true, if_false, true_implies, implies_true, not_true_eq_false, not_false_eq_true, false_implies, forall_const, ne_eq, or_self, and_false, false_and, Lt, Le, Eq', Cp, In, nI_add, nI_mul, nI_sub, nI_sub1, Neg0, bI_eq0, bI_eq1, bI_01, bft, up2_eq, up2_no, Bool.true_eq_false, Bool.false_eq_true, eq_self, m1_ne, m1_ne2, m1_lt, m1_le, lt_m1, m1_le2, bI_t, bI_f, LM_all hF, LN_all hF, FMu hF, hd0])
  generalize cpy2 I 124 0 125 0 138 = I1 at ha ⊢
  exact loop I1 _ _ ha
end
