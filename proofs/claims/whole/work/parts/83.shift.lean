/-! ### pairs: shift -/
theorem hp_T {z : Nat} (hz : z ≤ 60) {y w : Int32} (hw : ¬ w < nI 0) (hy : ¬ y < nI 0) (h : ¬ nI z - y < w) : hpB (nI z) y w = true := by
  obtain ⟨i, hi, rfl⟩ := nI_of hy
  obtain ⟨m, hm, rfl⟩ := nI_of hw
  unfold hpB
  apply decide_eq_true
  have e : (nI z - nI i).toInt = (z : Int) - i := by
    by_cases hiz : i ≤ z
    · rw [nI_sub _ _ hiz, nIi _ (by omega)]
      omega
    · rw [show nI z - nI i = -nI (i - z) by rw [← nI_sub i z (by omega), Int32.neg_sub], Int32.toInt_neg, nIi _ (by omega)]
      have : Int.bmod (-((i - z : Nat) : Int)) (2 ^ 32) = -((i - z : Nat) : Int) := by
        apply Int.bmod_eq_of_le <;> omega
      omega
  rw [i_lt, e, nIi _ (by omega)] at h
  refine ⟨Int32.not_lt.mp hy, Int32.not_lt.mp hw, ?_, Int32.not_lt.mp (by rw [i_lt, e, nIi _ (by omega)]; exact h)⟩
  rw [Le _ _ (by omega) (by omega)]
  omega
theorem hp_F {z : Nat} (hz : z ≤ 60) {y w : Int32} (h : hpB (nI z) y w = true) : ∃ i m, y = nI i ∧ w = nI m ∧ i + m ≤ z := by
  unfold hpB at h
  obtain ⟨h1, h2, h3, h4⟩ := of_decide_eq_true h
  obtain ⟨i, hi, rfl⟩ := nI_of (Int32.not_lt.mpr h1)
  obtain ⟨m, hm, rfl⟩ := nI_of (Int32.not_lt.mpr h2)
  rw [Le _ _ (by omega) (by omega)] at h3
  rw [nI_sub _ _ h3, Le _ _ (by omega) (by omega)] at h4
  exact ⟨i, m, rfl, rfl, by omega⟩
theorem IW.shiftu {n : Nat} {sh : TS} {I I' : TI} {L L2 : TL} {P : TP} {F : TF} {E : Nat → Int32} {k g r : Nat} (h : IW n sh I L P F E k g r) {a b i j m : Nat} (ha : a < 6) (hb : b < 6) (him : i + m ≤ 60) (hjm : j + m ≤ 60)
    (hI : Eo (fun c _ => c = 112 + 2 * b) I I') (h1 : ∀ w, w < m → L2 (112 + 2 * b) (j + w) = L (112 + 2 * a) (i + w)) (h2 : ∀ t w, t < 6 → ¬ (t = b ∧ j ≤ w ∧ w < j + m) → L2 (112 + 2 * t) w = L (112 + 2 * t) w)
    (h3 : ∀ w, w < m → L2 141 (60 * b + j + w) = L 141 (60 * a + i + w)) (h4 : ∀ w, ¬ (60 * b + j ≤ w ∧ w < 60 * b + j + m) → L2 141 w = L 141 w) : IW n sh I' L2 P F E k g r := by
  refine h.side (hI.mono fun c w q => by unfold siS; omega) (h.2.2.2.2.2.2.2.2.1.eo hI fun c w q => by omega) (h.2.2.2.2.2.2.2.2.2.1.eo hI fun c w q => by omega) fun t ht => ?_
  obtain ⟨p1, p2, p3, p4⟩ := h.2.2.2.2.2.2.2.2.2.2.1 t ht
  have q : ∀ c w, ¬ c = 112 + 2 * b → I' c w = I c w := fun c w e => hI c w e
  rw [q _ _ (by omega), q _ _ (by omega), q _ _ (by omega), q _ _ (by omega)]
  refine ⟨p1, p2, p3, fun w hw => ?_⟩
  by_cases e : t = b ∧ j ≤ w ∧ w < j + m
  · obtain ⟨e1, e2, e3⟩ := e
    rw [e1, show w = j + (w - j) by omega, h1 _ (by omega), show 60 * b + (j + (w - j)) = 60 * b + j + (w - j) by omega, h3 _ (by omega), show 60 * a + i + (w - j) = 60 * a + (i + (w - j)) by omega]
    exact (h.2.2.2.2.2.2.2.2.2.2.1 a ha).2.2.2 _ (by omega)
  · rw [h2 t w ht e, h4 _ (by omega)]
    exact p4 w hw
section
variable {G : GE} {d : Nat}
theorem shift_L2 {n : Nat} {sh : TS} {I : TI} {L : TL} {P : TP} {Q2 : TQ} (hF : FM sh P) {a b i j m : Nat} (ha : a < 6) (hb : b < 6) (him : i + m ≤ 60) (hjm : j + m ≤ 60)
    (hQ : ∀ L2, (∀ c w, ¬ c = 141 → L2 c w = L c w) → (∀ w, w < m → L2 141 (60 * b + j + w) = L 142 w) → (∀ w, ¬ (60 * b + j ≤ w ∧ w < 60 * b + j + m) → L2 141 w = L 141 w) → Q2 (some (.int (nI m))) n sh I L2 P) : ∀ l k L2 cc ss, k + l = m → (∀ c w, ¬ c = 141 → L2 c w = L c w) → (∀ w, w < k → L2 141 (60 * b + j + w) = L 142 w) → (∀ w, ¬ (60 * b + j ≤ w ∧ w < 60 * b + j + k) → L2 141 w = L 141 w) →
      WP G 198 d Q2 139 [some (.ref 123), some (.int (nI a)), some (.int (nI i)), some (.int (nI b)), some (.int (nI j)), some (.int (nI m)), some (.int (nI k))] [] cc ss n sh I L2 P := by
  have n141 : nle 20 141 := by show 20 ≤ 141; decide
  intro l
  induction l with
  | zero =>
    intro k L2 cc ss h h1 h2 h3
    have hk : m ≤ k := by omega
    have hkm : k = m := by omega
    rw [hkm] at h2 h3
    have hQ := hQ L2 h1 h2 h3
    (apply WP_runI (lv := lvM) LM_ok 139 20; simp (disch := first | decide | omega) only [t198_0, t198_1, t198_2, lift_c, o_iload1, o_stat1, rpush_n, rpush_s, o_ifeq, o_iload3, o_ifne, o_inl, o_ireturn, o_aload0, o_getref, o_iaload, o_iflt, o_ifge, o_iceq, o_iload5, o_iload2, o_iload4, o_isub, o_icgt, o_icle, o_istore, s1_0, s1_s, o_iload6, o_icge, o_imul, o_iadd, o_laload, o_lastore, o_iinc6, o_goto, z0, z1, z2, z11, z12, z13, z20, z31, z60, runI_0, runI_c, runI_n, liftI_n, liftI_y, run_0, run_c, run_n, fxn, fxi, fxr, fxl, fxl0, ↓swi_n, ↓swi_c, nck0, nck1, nck2, nck3, List.length_cons, List.length_nil, Nat.reduceAdd, Nat.reduceSub, Nat.reduceLeDiff, Nat.reduceEqDiff, Nat.reduceLT, reduceIte, ite_true, ite_false, Nat.sub_zero, Nat.zero_le, true_and, and_true, and_self, true_or, or_true, if_true, if_false, true_implies, implies_true, not_true_eq_false, not_false_eq_true, false_implies, forall_const, ne_eq, or_self, and_false, false_and, Lt, Le, Eq', Cp, In, nI_add, nI_mul, nI_sub, nI_sub1, Neg0, bI_eq0, bI_eq1, bI_01, bft, up2_eq, up2_no, Bool.true_eq_false, Bool.false_eq_true, eq_self, m1_ne, m1_ne2, m1_lt, m1_le, lt_m1, m1_le2, bI_t, bI_f, LM_all hF, FMu hF, hk])
    exact hQ
  | succ l ih =>
    intro k L2 cc ss h h1 h2 h3
    have hk : ¬ m ≤ k := by omega
    have ih := fun cc ss => ih (k + 1) (up2 L2 141 (60 * b + j + k) (L2 142 k)) cc ss (by omega) (fun c w q => by rw [up2_no _ _ _ _ _ _ (fun e => q e.1)]; exact h1 c w q) (fun w hw => by
      by_cases e : w = k
      · rw [e, up2_eq]
        exact h1 142 k (by omega)
      · rw [up2_no _ _ _ _ _ _ (by omega)]
        exact h2 w (by omega)) (fun w hw => by
        rw [up2_no _ _ _ _ _ _ (by omega)]
        exact h3 w (by omega))
    (apply WP_runI (lv := lvM) LM_ok 139 40; simp (disch := first | decide | omega) only [t198_0, t198_1, t198_2, lift_c, o_iload1, o_stat1, rpush_n, rpush_s, o_ifeq, o_iload3, o_ifne, o_inl, o_ireturn, o_aload0, o_getref, o_iaload, o_iflt, o_ifge, o_iceq, o_iload5, o_iload2, o_iload4, o_isub, o_icgt, o_icle, o_istore, s1_0, s1_s, o_iload6, o_icge, o_imul, o_iadd, o_laload, o_lastore, o_iinc6, o_goto, z0, z1, z2, z11, z12, z13, z20, z31, z60, runI_0, runI_c, runI_n, liftI_n, liftI_y, run_0, run_c, run_n, fxn, fxi, fxr, fxl, fxl0, ↓swi_n, ↓swi_c, nck0, nck1, nck2, nck3, List.length_cons, List.length_nil, Nat.reduceAdd, Nat.reduceSub, Nat.reduceLeDiff, Nat.reduceEqDiff, Nat.reduceLT, reduceIte, ite_true, ite_false, Nat.sub_zero, Nat.zero_le, true_and, and_true, and_self, true_or, or_true, if_true, if_false, true_implies, implies_true, not_true_eq_false, not_false_eq_true, false_implies, forall_const, ne_eq, or_self, and_false, false_and, Lt, Le, Eq', Cp, In, nI_add, nI_mul, nI_sub, nI_sub1, Neg0, bI_eq0, bI_eq1, bI_01, bft, up2_eq, up2_no, Bool.true_eq_false, Bool.false_eq_true, eq_self, m1_ne, m1_ne2, m1_lt, m1_le, lt_m1, m1_le2, bI_t, bI_f, LM_all hF, FMu hF, n141, hk])
    exact ih _ _
theorem shift_L1 {n : Nat} {sh : TS} {I : TI} {L : TL} {P : TP} {Q2 : TQ} (hF : FM sh P) {a b i j m : Nat} (ha : a < 6) (hb : b < 6) (him : i + m ≤ 60) (hjm : j + m ≤ 60)
    (hQ : ∀ L2, (∀ c w, ¬ (c = 141 ∨ c = 142) → L2 c w = L c w) → (∀ w, w < m → L2 141 (60 * b + j + w) = L 141 (60 * a + i + w)) → (∀ w, ¬ (60 * b + j ≤ w ∧ w < 60 * b + j + m) → L2 141 w = L 141 w) → Q2 (some (.int (nI m))) n sh I L2 P) : ∀ l k L1 cc ss, k + l = m → (∀ c w, ¬ c = 142 → L1 c w = L c w) → (∀ w, w < k → L1 142 w = L 141 (60 * a + i + w)) →
      WP G 198 d Q2 102 [some (.ref 123), some (.int (nI a)), some (.int (nI i)), some (.int (nI b)), some (.int (nI j)), some (.int (nI m)), some (.int (nI k))] [] cc ss n sh I L1 P := by
  have n142 : nle 20 142 := by show 20 ≤ 142; decide
  intro l
  induction l with
  | zero =>
    intro k L1 cc ss h h1 h2
    have hk : m ≤ k := by omega
    have hL := fun cc ss => shift_L2 (G := G) (d := d) (n := n) (sh := sh) (I := I) (L := L1) (P := P) (Q2 := Q2) hF ha hb him hjm (fun L2 g1 g2 g3 => hQ L2 (fun c w q => (g1 c w (by omega)).trans (h1 c w (by omega))) (fun w hw => (g2 w hw).trans (h2 w (by omega))) (fun w hw => (g3 w hw).trans (h1 141 w (by omega)))) m 0 L1 cc ss (by omega) (fun _ _ _ => rfl) (fun w hw => by omega) (fun w hw => rfl)
    (apply WP_runI (lv := lvM) LM_ok 139 20; simp (disch := first | decide | omega) only [t198_0, t198_1, t198_2, lift_c, o_iload1, o_stat1, rpush_n, rpush_s, o_ifeq, o_iload3, o_ifne, o_inl, o_ireturn, o_aload0, o_getref, o_iaload, o_iflt, o_ifge, o_iceq, o_iload5, o_iload2, o_iload4, o_isub, o_icgt, o_icle, o_istore, s1_0, s1_s, o_iload6, o_icge, o_imul, o_iadd, o_laload, o_lastore, o_iinc6, o_goto, z0, z1, z2, z11, z12, z13, z20, z31, z60, runI_0, runI_c, runI_n, liftI_n, liftI_y, run_0, run_c, run_n, fxn, fxi, fxr, fxl, fxl0, ↓swi_n, ↓swi_c, nck0, nck1, nck2, nck3, List.length_cons, List.length_nil, Nat.reduceAdd, Nat.reduceSub, Nat.reduceLeDiff, Nat.reduceEqDiff, Nat.reduceLT, reduceIte, ite_true, ite_false, Nat.sub_zero, Nat.zero_le, true_and, and_true, and_self, true_or, or_true, if_true, if_false, true_implies, implies_true, not_true_eq_false, not_false_eq_true, false_implies, forall_const, ne_eq, or_self, and_false, false_and, Lt, Le, Eq', Cp, In, nI_add, nI_mul, nI_sub, nI_sub1, Neg0, bI_eq0, bI_eq1, bI_01, bft, up2_eq, up2_no, Bool.true_eq_false, Bool.false_eq_true, eq_self, m1_ne, m1_ne2, m1_lt, m1_le, lt_m1, m1_le2, bI_t, bI_f, LM_all hF, FMu hF, hk])
    exact hL _ _
  | succ l ih =>
    intro k L1 cc ss h h1 h2
    have hk : ¬ m ≤ k := by omega
    have ih := fun cc ss => ih (k + 1) (up2 L1 142 k (L1 141 (60 * a + i + k))) cc ss (by omega) (fun c w q => by rw [up2_no _ _ _ _ _ _ (fun e => q e.1)]; exact h1 c w q) (fun w hw => by
      by_cases e : w = k
      · rw [e, up2_eq]
        exact h1 141 _ (by omega)
      · rw [up2_no _ _ _ _ _ _ (by omega)]
        exact h2 w (by omega))
    (apply WP_runI (lv := lvM) LM_ok 102 40; simp (disch := first | decide | omega) only [t198_0, t198_1, t198_2, lift_c, o_iload1, o_stat1, rpush_n, rpush_s, o_ifeq, o_iload3, o_ifne, o_inl, o_ireturn, o_aload0, o_getref, o_iaload, o_iflt, o_ifge, o_iceq, o_iload5, o_iload2, o_iload4, o_isub, o_icgt, o_icle, o_istore, s1_0, s1_s, o_iload6, o_icge, o_imul, o_iadd, o_laload, o_lastore, o_iinc6, o_goto, z0, z1, z2, z11, z12, z13, z20, z31, z60, runI_0, runI_c, runI_n, liftI_n, liftI_y, run_0, run_c, run_n, fxn, fxi, fxr, fxl, fxl0, ↓swi_n, ↓swi_c, nck0, nck1, nck2, nck3, List.length_cons, List.length_nil, Nat.reduceAdd, Nat.reduceSub, Nat.reduceLeDiff, Nat.reduceEqDiff, Nat.reduceLT, reduceIte, ite_true, ite_false, Nat.sub_zero, Nat.zero_le, true_and, and_true, and_self, true_or, or_true, if_true, if_false, true_implies, implies_true, not_true_eq_false, not_false_eq_true, false_implies, forall_const, ne_eq, or_self, and_false, false_and, Lt, Le, Eq', Cp, In, nI_add, nI_mul, nI_sub, nI_sub1, Neg0, bI_eq0, bI_eq1, bI_01, bft, up2_eq, up2_no, Bool.true_eq_false, Bool.false_eq_true, eq_self, m1_ne, m1_ne2, m1_lt, m1_le, lt_m1, m1_le2, bI_t, bI_f, LM_all hF, FMu hF, n142, hk])
    exact ih _ _
theorem shift_P (hd : 50 ≤ d) (x y u v w : Int32) : PAIR G d 101 198 [.ref 20, .int x, .int y, .int u, .int v, .int w] [.ref 123, .int x, .int y, .int u, .int v, .int w] := by
  intro n sh I L P Q hI hQ
  obtain ⟨F, E, k, g, r, hI⟩ := hI
  apply e101
  apply WP_SF
  intro hSF
  have hs2 := hSF.2.2.1
  have hB := hI.cb
  have hG := hB.fg
  have hY22 := hB.y22
  have hY84 := hB.y84
  have h22 : sh 22 = (8, 9) := (FY22u hY22).1
  have hd0 : 0 < d := by omega
  have hk := hI.2.2.1.1.k6
  have hg9 := hI.2.2.1.1.g9
  have hWe := hI.2.2.1.we
  have hF := hI.1
  have h5 := hB.count
  have nn0 : (!decide (-nI 1 = -nI 1)) = false := by decide
  have nn1 : ∀ s, s < 5 → (!decide (nI s = -nI 1)) = true := fun s hs => by rw [decide_eq_false (by rw [m1_ne _ (by omega)]; exact id)]; rfl
  have hm1 : -nI 1 < nI 0 := by decide
  cases hx : isT x with
  | false =>
    have bad := hQ (-nI 1) n sh I L P fun Q2 h2 => by
      refine ⟨(FMu hI.1).1, ?_⟩
      have h2 := h2 _ _ _ _ _ ⟨F, E, k, g, r, hI⟩
      apply e198
      (apply WP_runI (lv := lvM) LM_ok 999 60; simp (disch := first | decide | omega) only [t198_0, t198_1, t198_2, lift_c, o_iload1, o_stat1, rpush_n, rpush_s, o_ifeq, o_iload3, o_ifne, o_inl, o_ireturn, o_aload0, o_getref, o_iaload, o_iflt, o_ifge, o_iceq, o_iload5, o_iload2, o_iload4, o_isub, o_icgt, o_icle, o_istore, s1_0, s1_s, o_iload6, o_icge, o_imul, o_iadd, o_laload, o_lastore, o_iinc6, o_goto, z0, z1, z2, z11, z12, z13, z20, z31, z60, runI_0, runI_c, runI_n, liftI_n, liftI_y, run_0, run_c, run_n, fxn, fxi, fxr, fxl, fxl0, ↓swi_n, ↓swi_c, nck0, nck1, nck2, nck3, List.length_cons, List.length_nil, Nat.reduceAdd, Nat.reduceSub, Nat.reduceLeDiff, Nat.reduceEqDiff, Nat.reduceLT, reduceIte, ite_true, ite_false, Nat.sub_zero, Nat.zero_le, true_and, and_true, and_self, true_or, or_true, if_true, if_false, true_implies, implies_true, not_true_eq_false, not_false_eq_true, false_implies, forall_const, ne_eq, or_self, and_false, false_and, Lt, Le, Eq', Cp, In, nI_add, nI_mul, nI_sub, nI_sub1, Neg0, bI_eq0, bI_eq1, bI_01, bft, up2_eq, up2_no, Bool.true_eq_false, Bool.false_eq_true, eq_self, m1_ne, m1_ne2, m1_lt, m1_le, lt_m1, m1_le2, bI_t, bI_f, LM_all hF, FMu hF, hWe, hx, hd0, Nat.not_lt_zero])
      exact h2
    (apply WP_runI (lv := lvK) (F := LK) LK_ok 999 60; simp (disch := first | decide | omega) only [t101_0, t101_1, lift_c, o_iload1, o_stat1, rpush_n, rpush_s, o_ifeq, o_iload3, o_ifne, o_inl, o_ireturn, o_aload0, o_getref, o_aaload, o_astore, s1_0, s1_s, o_aload6, o_virt1, o_aload7, o_getfield, o_iceq, o_iload2, o_iload5, o_virt3, o_iload4, o_dadd, z0, z1, z2, z11, z12, z13, z20, z31, runI_0, runI_c, runI_n, liftI_n, liftI_y, run_0, run_c, run_n, fxn, fxi, fxr, fxl, fxl0, ↓swi_n, ↓swi_c, nck0, nck1, nck2, nck3, List.length_cons, List.length_nil, Nat.reduceAdd, Nat.reduceSub, Nat.reduceLeDiff, Nat.reduceEqDiff, Nat.reduceLT, reduceIte, ite_true, ite_false, Nat.sub_zero, Nat.zero_le, true_and, and_true, and_self, true_or, or_true, if_true, if_false, true_implies, implies_true, not_true_eq_false, not_false_eq_true, false_implies, forall_const, ne_eq, or_self, and_false, false_and, Lt, Le, Eq', Cp, In, nI_add, nI_mul, nI_sub, nI_sub1, Neg0, bI_eq0, bI_eq1, bI_01, bft, up2_eq, up2_no, Bool.true_eq_false, Bool.false_eq_true, eq_self, m1_ne, m1_ne2, m1_lt, m1_le, lt_m1, m1_le2, bI_t, bI_f, LK_st, FGu hG, LK_g hG h22 hs2, FY22u hY22, hx, hd0])
    exact bad
  | true =>
    obtain ⟨a, ha, ex⟩ := isT_of hx
    subst ex
    cases hu : isT u with
    | false =>
      have bad := hQ (-nI 1) n sh I L P fun Q2 h2 => by
        refine ⟨(FMu hI.1).1, ?_⟩
        have h2 := h2 _ _ _ _ _ ⟨F, E, k, g, r, hI⟩
        apply e198
        (apply WP_runI (lv := lvM) LM_ok 999 60; simp (disch := first | decide | omega) only [t198_0, t198_1, t198_2, lift_c, o_iload1, o_stat1, rpush_n, rpush_s, o_ifeq, o_iload3, o_ifne, o_inl, o_ireturn, o_aload0, o_getref, o_iaload, o_iflt, o_ifge, o_iceq, o_iload5, o_iload2, o_iload4, o_isub, o_icgt, o_icle, o_istore, s1_0, s1_s, o_iload6, o_icge, o_imul, o_iadd, o_laload, o_lastore, o_iinc6, o_goto, z0, z1, z2, z11, z12, z13, z20, z31, z60, runI_0, runI_c, runI_n, liftI_n, liftI_y, run_0, run_c, run_n, fxn, fxi, fxr, fxl, fxl0, ↓swi_n, ↓swi_c, nck0, nck1, nck2, nck3, List.length_cons, List.length_nil, Nat.reduceAdd, Nat.reduceSub, Nat.reduceLeDiff, Nat.reduceEqDiff, Nat.reduceLT, reduceIte, ite_true, ite_false, Nat.sub_zero, Nat.zero_le, true_and, and_true, and_self, true_or, or_true, if_true, if_false, true_implies, implies_true, not_true_eq_false, not_false_eq_true, false_implies, forall_const, ne_eq, or_self, and_false, false_and, Lt, Le, Eq', Cp, In, nI_add, nI_mul, nI_sub, nI_sub1, Neg0, bI_eq0, bI_eq1, bI_01, bft, up2_eq, up2_no, Bool.true_eq_false, Bool.false_eq_true, eq_self, m1_ne, m1_ne2, m1_lt, m1_le, lt_m1, m1_le2, bI_t, bI_f, LM_all hF, FMu hF, hWe, hx, hu, hd0, Nat.not_lt_zero])
        exact h2
      (apply WP_runI (lv := lvK) (F := LK) LK_ok 999 60; simp (disch := first | decide | omega) only [t101_0, t101_1, lift_c, o_iload1, o_stat1, rpush_n, rpush_s, o_ifeq, o_iload3, o_ifne, o_inl, o_ireturn, o_aload0, o_getref, o_aaload, o_astore, s1_0, s1_s, o_aload6, o_virt1, o_aload7, o_getfield, o_iceq, o_iload2, o_iload5, o_virt3, o_iload4, o_dadd, z0, z1, z2, z11, z12, z13, z20, z31, runI_0, runI_c, runI_n, liftI_n, liftI_y, run_0, run_c, run_n, fxn, fxi, fxr, fxl, fxl0, ↓swi_n, ↓swi_c, nck0, nck1, nck2, nck3, List.length_cons, List.length_nil, Nat.reduceAdd, Nat.reduceSub, Nat.reduceLeDiff, Nat.reduceEqDiff, Nat.reduceLT, reduceIte, ite_true, ite_false, Nat.sub_zero, Nat.zero_le, true_and, and_true, and_self, true_or, or_true, if_true, if_false, true_implies, implies_true, not_true_eq_false, not_false_eq_true, false_implies, forall_const, ne_eq, or_self, and_false, false_and, Lt, Le, Eq', Cp, In, nI_add, nI_mul, nI_sub, nI_sub1, Neg0, bI_eq0, bI_eq1, bI_01, bft, up2_eq, up2_no, Bool.true_eq_false, Bool.false_eq_true, eq_self, m1_ne, m1_ne2, m1_lt, m1_le, lt_m1, m1_le2, bI_t, bI_f, LK_st, FGu hG, LK_g hG h22 hs2, FY22u hY22, hx, hu, hd0])
      exact bad
    | true =>
      obtain ⟨b, hb, eu⟩ := isT_of hu
      subst eu
      obtain ⟨p1, p2, ⟨z, hz, p3, p4⟩, p5⟩ := hI.2.2.2.2.2.2.2.2.2.2.1 a ha
      obtain ⟨q1, q2, ⟨zb, hzb, q3, q4⟩, q5⟩ := hI.2.2.2.2.2.2.2.2.2.2.1 b hb
      rcases p2 with ⟨p2, -⟩ | ⟨s, hs5, p2⟩
      · rw [p2] at p1
        have p1 := p1.symm
        have bad := hQ (-nI 11) n sh I L P fun Q2 h2 => by
          refine ⟨(FMu hI.1).1, ?_⟩
          have h2 := h2 _ _ _ _ _ ⟨F, E, k, g, r, hI⟩
          apply e198
          (apply WP_runI (lv := lvM) LM_ok 999 60; simp (disch := first | decide | omega) only [t198_0, t198_1, t198_2, lift_c, o_iload1, o_stat1, rpush_n, rpush_s, o_ifeq, o_iload3, o_ifne, o_inl, o_ireturn, o_aload0, o_getref, o_iaload, o_iflt, o_ifge, o_iceq, o_iload5, o_iload2, o_iload4, o_isub, o_icgt, o_icle, o_istore, s1_0, s1_s, o_iload6, o_icge, o_imul, o_iadd, o_laload, o_lastore, o_iinc6, o_goto, z0, z1, z2, z11, z12, z13, z20, z31, z60, runI_0, runI_c, runI_n, liftI_n, liftI_y, run_0, run_c, run_n, fxn, fxi, fxr, fxl, fxl0, ↓swi_n, ↓swi_c, nck0, nck1, nck2, nck3, List.length_cons, List.length_nil, Nat.reduceAdd, Nat.reduceSub, Nat.reduceLeDiff, Nat.reduceEqDiff, Nat.reduceLT, reduceIte, ite_true, ite_false, Nat.sub_zero, Nat.zero_le, true_and, and_true, and_self, true_or, or_true, if_true, if_false, true_implies, implies_true, not_true_eq_false, not_false_eq_true, false_implies, forall_const, ne_eq, or_self, and_false, false_and, Lt, Le, Eq', Cp, In, nI_add, nI_mul, nI_sub, nI_sub1, Neg0, bI_eq0, bI_eq1, bI_01, bft, up2_eq, up2_no, Bool.true_eq_false, Bool.false_eq_true, eq_self, m1_ne, m1_ne2, m1_lt, m1_le, lt_m1, m1_le2, bI_t, bI_f, LM_all hF, FMu hF, hWe, hx, hu, p1, hd0, Nat.not_lt_zero])
          exact h2
        (apply WP_runI (lv := lvK) (F := LK) LK_ok 999 60; simp (disch := first | decide | omega) only [t101_0, t101_1, lift_c, o_iload1, o_stat1, rpush_n, rpush_s, o_ifeq, o_iload3, o_ifne, o_inl, o_ireturn, o_aload0, o_getref, o_aaload, o_astore, s1_0, s1_s, o_aload6, o_virt1, o_aload7, o_getfield, o_iceq, o_iload2, o_iload5, o_virt3, o_iload4, o_dadd, z0, z1, z2, z11, z12, z13, z20, z31, runI_0, runI_c, runI_n, liftI_n, liftI_y, run_0, run_c, run_n, fxn, fxi, fxr, fxl, fxl0, ↓swi_n, ↓swi_c, nck0, nck1, nck2, nck3, List.length_cons, List.length_nil, Nat.reduceAdd, Nat.reduceSub, Nat.reduceLeDiff, Nat.reduceEqDiff, Nat.reduceLT, reduceIte, ite_true, ite_false, Nat.sub_zero, Nat.zero_le, true_and, and_true, and_self, true_or, or_true, if_true, if_false, true_implies, implies_true, not_true_eq_false, not_false_eq_true, false_implies, forall_const, ne_eq, or_self, and_false, false_and, Lt, Le, Eq', Cp, In, nI_add, nI_mul, nI_sub, nI_sub1, Neg0, bI_eq0, bI_eq1, bI_01, bft, up2_eq, up2_no, Bool.true_eq_false, Bool.false_eq_true, eq_self, m1_ne, m1_ne2, m1_lt, m1_le, lt_m1, m1_le2, bI_t, bI_f, LK_st, FGu hG, LK_g hG h22 hs2, FY22u hY22, hx, hu, p2, nn0, decide_true, Bool.not_true, hd0])
        exact bad
      · rw [p2] at p1
        have p1 := p1.symm
        have nns := nn1 s hs5
        rcases q2 with ⟨q2, -⟩ | ⟨t, ht5, q2⟩
        · rw [q2] at q1
          have q1 := q1.symm
          have bad := hQ (-nI 11) n sh I L P fun Q2 h2 => by
            refine ⟨(FMu hI.1).1, ?_⟩
            have h2 := h2 _ _ _ _ _ ⟨F, E, k, g, r, hI⟩
            apply e198
            (apply WP_runI (lv := lvM) LM_ok 999 60; simp (disch := first | decide | omega) only [t198_0, t198_1, t198_2, lift_c, o_iload1, o_stat1, rpush_n, rpush_s, o_ifeq, o_iload3, o_ifne, o_inl, o_ireturn, o_aload0, o_getref, o_iaload, o_iflt, o_ifge, o_iceq, o_iload5, o_iload2, o_iload4, o_isub, o_icgt, o_icle, o_istore, s1_0, s1_s, o_iload6, o_icge, o_imul, o_iadd, o_laload, o_lastore, o_iinc6, o_goto, z0, z1, z2, z11, z12, z13, z20, z31, z60, runI_0, runI_c, runI_n, liftI_n, liftI_y, run_0, run_c, run_n, fxn, fxi, fxr, fxl, fxl0, ↓swi_n, ↓swi_c, nck0, nck1, nck2, nck3, List.length_cons, List.length_nil, Nat.reduceAdd, Nat.reduceSub, Nat.reduceLeDiff, Nat.reduceEqDiff, Nat.reduceLT, reduceIte, ite_true, ite_false, Nat.sub_zero, Nat.zero_le, true_and, and_true, and_self, true_or, or_true, if_true, if_false, true_implies, implies_true, not_true_eq_false, not_false_eq_true, false_implies, forall_const, ne_eq, or_self, and_false, false_and, Lt, Le, Eq', Cp, In, nI_add, nI_mul, nI_sub, nI_sub1, Neg0, bI_eq0, bI_eq1, bI_01, bft, up2_eq, up2_no, Bool.true_eq_false, Bool.false_eq_true, eq_self, m1_ne, m1_ne2, m1_lt, m1_le, lt_m1, m1_le2, bI_t, bI_f, LM_all hF, FMu hF, hWe, hx, hu, p1, q1, hd0, Nat.not_lt_zero])
            exact h2
          (apply WP_runI (lv := lvK) (F := LK) LK_ok 999 60; simp (disch := first | decide | omega) only [t101_0, t101_1, lift_c, o_iload1, o_stat1, rpush_n, rpush_s, o_ifeq, o_iload3, o_ifne, o_inl, o_ireturn, o_aload0, o_getref, o_aaload, o_astore, s1_0, s1_s, o_aload6, o_virt1, o_aload7, o_getfield, o_iceq, o_iload2, o_iload5, o_virt3, o_iload4, o_dadd, z0, z1, z2, z11, z12, z13, z20, z31, runI_0, runI_c, runI_n, liftI_n, liftI_y, run_0, run_c, run_n, fxn, fxi, fxr, fxl, fxl0, ↓swi_n, ↓swi_c, nck0, nck1, nck2, nck3, List.length_cons, List.length_nil, Nat.reduceAdd, Nat.reduceSub, Nat.reduceLeDiff, Nat.reduceEqDiff, Nat.reduceLT, reduceIte, ite_true, ite_false, Nat.sub_zero, Nat.zero_le, true_and, and_true, and_self, true_or, or_true, if_true, if_false, true_implies, implies_true, not_true_eq_false, not_false_eq_true, false_implies, forall_const, ne_eq, or_self, and_false, false_and, Lt, Le, Eq', Cp, In, nI_add, nI_mul, nI_sub, nI_sub1, Neg0, bI_eq0, bI_eq1, bI_01, bft, up2_eq, up2_no, Bool.true_eq_false, Bool.false_eq_true, eq_self, m1_ne, m1_ne2, m1_lt, m1_le, lt_m1, m1_le2, bI_t, bI_f, LK_st, FGu hG, LK_g hG h22 hs2, FY22u hY22, hx, hu, p2, q2, nns, nn0, m1_ne, decide_false, Bool.not_false, decide_true, Bool.not_true, hd0])
          exact bad
        · rw [q2] at q1
          have q1 := q1.symm
          have nnt := nn1 t ht5
          by_cases hst : s = t
          · subst hst
            by_cases hA : hpB (nI z) y w = true ∧ hpB (nI zb) v w = true
            · obtain ⟨hA, hB2⟩ := hA
              obtain ⟨i, m, ey, ew, him⟩ := hp_F hz hA
              subst ey ew
              obtain ⟨j, m2, ev, ew2, hjm⟩ := hp_F hzb hB2
              subst ev
              have em : m = m2 := by
                rw [nI_eq (by omega) (by omega)] at ew2
                exact ew2
              subst em
              have him6 : i + m ≤ 60 := by omega
              have hjm6 : j + m ≤ 60 := by omega
              have good := hQ (nI m) n sh (cpy2 I (112 + 2 * a) i (112 + 2 * b) j m) (cpy2 L (112 + 2 * a) i (112 + 2 * b) j m) P fun Q2 h2 => by
                refine ⟨(FMu hI.1).1, ?_⟩
                have hcI : ∀ c w, ¬ c = 112 + 2 * b → cpy2 I (112 + 2 * a) i (112 + 2 * b) j m c w = I c w := fun c w q => if_neg fun e => q e.1
                have hcL : ∀ c w, ¬ (c = 112 + 2 * b ∧ j ≤ w ∧ w < j + m) → cpy2 L (112 + 2 * a) i (112 + 2 * b) j m c w = L c w := fun c w q => if_neg q
                have hcM : ∀ w, w < m → cpy2 L (112 + 2 * a) i (112 + 2 * b) j m (112 + 2 * b) (j + w) = L (112 + 2 * a) (i + w) := fun w hw => by
                  show (if 112 + 2 * b = 112 + 2 * b ∧ j ≤ j + w ∧ j + w < j + m then L (112 + 2 * a) (i + (j + w - j)) else L (112 + 2 * b) (j + w)) = _
                  rw [if_pos ⟨rfl, by omega, by omega⟩, Nat.add_sub_cancel_left]
                generalize cpy2 I (112 + 2 * a) i (112 + 2 * b) j m = I1 at hcI h2 ⊢
                generalize cpy2 L (112 + 2 * a) i (112 + 2 * b) j m = L1 at hcL hcM h2 ⊢
                have r1 : I1 139 a = nI s := (hcI _ _ (by omega)).trans p1
                have r2 : I1 139 b = nI s := (hcI _ _ (by omega)).trans q1
                have r3 : I1 140 a = nI z := (hcI _ _ (by omega)).trans p4
                have r4 : I1 140 b = nI zb := (hcI _ _ (by omega)).trans q4
                have hL := fun cc ss => shift_L1 (G := G) (d := d) (n := n) (sh := sh) (I := I1) (L := L1) (P := P) (Q2 := Q2) hF ha hb him6 hjm6 (fun L2 g1 g2 g3 => h2 _ _ _ _ _ ⟨F, E, k, g, r, hI.shiftu ha hb him6 hjm6 hcI (fun w hw => (g1 _ _ (by omega)).trans (hcM w hw)) (fun t w ht q => (g1 _ _ (by omega)).trans (hcL _ _ fun e => q ⟨by omega, e.2⟩)) (fun w hw => (g2 w hw).trans (hcL _ _ fun e => by omega)) (fun w q => (g3 w q).trans (hcL _ _ fun e => by omega))⟩) m 0 L1 cc ss (by omega) (fun _ _ _ => rfl) (fun w hw => by omega)
                have a1 : ¬ z - i < m := by omega
                have a2 : m ≤ zb - j := by omega
                apply e198
                (apply WP_runI (lv := lvM) LM_ok 102 60; simp (disch := first | decide | omega) only [t198_0, t198_1, t198_2, lift_c, o_iload1, o_stat1, rpush_n, rpush_s, o_ifeq, o_iload3, o_ifne, o_inl, o_ireturn, o_aload0, o_getref, o_iaload, o_iflt, o_ifge, o_iceq, o_iload5, o_iload2, o_iload4, o_isub, o_icgt, o_icle, o_istore, s1_0, s1_s, o_iload6, o_icge, o_imul, o_iadd, o_laload, o_lastore, o_iinc6, o_goto, z0, z1, z2, z11, z12, z13, z20, z31, z60, runI_0, runI_c, runI_n, liftI_n, liftI_y, run_0, run_c, run_n, fxn, fxi, fxr, fxl, fxl0, ↓swi_n, ↓swi_c, nck0, nck1, nck2, nck3, List.length_cons, List.length_nil, Nat.reduceAdd, Nat.reduceSub, Nat.reduceLeDiff, Nat.reduceEqDiff, Nat.reduceLT, reduceIte, ite_true, ite_false, Nat.sub_zero, Nat.zero_le, true_and, and_true, and_self, true_or, or_true, if_true, if_false, true_implies, implies_true, not_true_eq_false, not_false_eq_true, false_implies, forall_const, ne_eq, or_self, and_false, false_and, Lt, Le, Eq', Cp, In, nI_add, nI_mul, nI_sub, nI_sub1, Neg0, bI_eq0, bI_eq1, bI_01, bft, up2_eq, up2_no, Bool.true_eq_false, Bool.false_eq_true, eq_self, m1_ne, m1_ne2, m1_lt, m1_le, lt_m1, m1_le2, bI_t, bI_f, LM_all hF, FMu hF, hx, hu, r1, r2, r3, r4, a1, a2, hd0, Nat.not_lt_zero])
                exact hL _ _
              have n1 : nle 20 (112 + 2 * a) := by show 20 ≤ 112 + 2 * a; omega
              have n2 : nle 20 (112 + 2 * b) := by show 20 ≤ 112 + 2 * b; omega
              (apply WP_runI (lv := lvK) (F := LK) LK_ok 999 60; simp (disch := first | decide | omega) only [t101_0, t101_1, lift_c, o_iload1, o_stat1, rpush_n, rpush_s, o_ifeq, o_iload3, o_ifne, o_inl, o_ireturn, o_aload0, o_getref, o_aaload, o_astore, s1_0, s1_s, o_aload6, o_virt1, o_aload7, o_getfield, o_iceq, o_iload2, o_iload5, o_virt3, o_iload4, o_dadd, z0, z1, z2, z11, z12, z13, z20, z31, runI_0, runI_c, runI_n, liftI_n, liftI_y, run_0, run_c, run_n, fxn, fxi, fxr, fxl, fxl0, ↓swi_n, ↓swi_c, nck0, nck1, nck2, nck3, List.length_cons, List.length_nil, Nat.reduceAdd, Nat.reduceSub, Nat.reduceLeDiff, Nat.reduceEqDiff, Nat.reduceLT, reduceIte, ite_true, ite_false, Nat.sub_zero, Nat.zero_le, true_and, and_true, and_self, true_or, or_true, if_true, if_false, true_implies, implies_true, not_true_eq_false, not_false_eq_true, false_implies, forall_const, ne_eq, or_self, and_false, false_and, Lt, Le, Eq', Cp, In, nI_add, nI_mul, nI_sub, nI_sub1, Neg0, bI_eq0, bI_eq1, bI_01, bft, up2_eq, up2_no, Bool.true_eq_false, Bool.false_eq_true, eq_self, m1_ne, m1_ne2, m1_lt, m1_le, lt_m1, m1_le2, bI_t, bI_f, LK_st, FGu hG, LK_g hG h22 hs2, hx, hu, p2, q2, p3, q3, nns, m1_ne, hA, hB2, him6, hjm6, n1, n2, hd0, decide_false, Bool.not_false, Nat.not_lt_zero])
              exact good
            · have bad := hQ (-nI 13) n sh I L P fun Q2 h2 => by
                refine ⟨(FMu hI.1).1, ?_⟩
                have h2 := h2 _ _ _ _ _ ⟨F, E, k, g, r, hI⟩
                apply e198
                by_cases w0 : w < nI 0
                · (apply WP_runI (lv := lvM) LM_ok 999 60; simp (disch := first | decide | omega) only [t198_0, t198_1, t198_2, lift_c, o_iload1, o_stat1, rpush_n, rpush_s, o_ifeq, o_iload3, o_ifne, o_inl, o_ireturn, o_aload0, o_getref, o_iaload, o_iflt, o_ifge, o_iceq, o_iload5, o_iload2, o_iload4, o_isub, o_icgt, o_icle, o_istore, s1_0, s1_s, o_iload6, o_icge, o_imul, o_iadd, o_laload, o_lastore, o_iinc6, o_goto, z0, z1, z2, z11, z12, z13, z20, z31, z60, runI_0, runI_c, runI_n, liftI_n, liftI_y, run_0, run_c, run_n, fxn, fxi, fxr, fxl, fxl0, ↓swi_n, ↓swi_c, nck0, nck1, nck2, nck3, List.length_cons, List.length_nil, Nat.reduceAdd, Nat.reduceSub, Nat.reduceLeDiff, Nat.reduceEqDiff, Nat.reduceLT, reduceIte, ite_true, ite_false, Nat.sub_zero, Nat.zero_le, true_and, and_true, and_self, true_or, or_true, if_true, if_false, true_implies, implies_true, not_true_eq_false, not_false_eq_true, false_implies, forall_const, ne_eq, or_self, and_false, false_and, Lt, Le, Eq', Cp, In, nI_add, nI_mul, nI_sub, nI_sub1, Neg0, bI_eq0, bI_eq1, bI_01, bft, up2_eq, up2_no, Bool.true_eq_false, Bool.false_eq_true, eq_self, m1_ne, m1_ne2, m1_lt, m1_le, lt_m1, m1_le2, bI_t, bI_f, LM_all hF, FMu hF, hx, hu, p1, q1, w0, hd0, Nat.not_lt_zero])
                  exact h2
                · by_cases y0 : y < nI 0
                  · (apply WP_runI (lv := lvM) LM_ok 999 60; simp (disch := first | decide | omega) only [t198_0, t198_1, t198_2, lift_c, o_iload1, o_stat1, rpush_n, rpush_s, o_ifeq, o_iload3, o_ifne, o_inl, o_ireturn, o_aload0, o_getref, o_iaload, o_iflt, o_ifge, o_iceq, o_iload5, o_iload2, o_iload4, o_isub, o_icgt, o_icle, o_istore, s1_0, s1_s, o_iload6, o_icge, o_imul, o_iadd, o_laload, o_lastore, o_iinc6, o_goto, z0, z1, z2, z11, z12, z13, z20, z31, z60, runI_0, runI_c, runI_n, liftI_n, liftI_y, run_0, run_c, run_n, fxn, fxi, fxr, fxl, fxl0, ↓swi_n, ↓swi_c, nck0, nck1, nck2, nck3, List.length_cons, List.length_nil, Nat.reduceAdd, Nat.reduceSub, Nat.reduceLeDiff, Nat.reduceEqDiff, Nat.reduceLT, reduceIte, ite_true, ite_false, Nat.sub_zero, Nat.zero_le, true_and, and_true, and_self, true_or, or_true, if_true, if_false, true_implies, implies_true, not_true_eq_false, not_false_eq_true, false_implies, forall_const, ne_eq, or_self, and_false, false_and, Lt, Le, Eq', Cp, In, nI_add, nI_mul, nI_sub, nI_sub1, Neg0, bI_eq0, bI_eq1, bI_01, bft, up2_eq, up2_no, Bool.true_eq_false, Bool.false_eq_true, eq_self, m1_ne, m1_ne2, m1_lt, m1_le, lt_m1, m1_le2, bI_t, bI_f, LM_all hF, FMu hF, hx, hu, p1, q1, w0, y0, hd0, Nat.not_lt_zero])
                    exact h2
                  · by_cases v0 : v < nI 0
                    · (apply WP_runI (lv := lvM) LM_ok 999 60; simp (disch := first | decide | omega) only [t198_0, t198_1, t198_2, lift_c, o_iload1, o_stat1, rpush_n, rpush_s, o_ifeq, o_iload3, o_ifne, o_inl, o_ireturn, o_aload0, o_getref, o_iaload, o_iflt, o_ifge, o_iceq, o_iload5, o_iload2, o_iload4, o_isub, o_icgt, o_icle, o_istore, s1_0, s1_s, o_iload6, o_icge, o_imul, o_iadd, o_laload, o_lastore, o_iinc6, o_goto, z0, z1, z2, z11, z12, z13, z20, z31, z60, runI_0, runI_c, runI_n, liftI_n, liftI_y, run_0, run_c, run_n, fxn, fxi, fxr, fxl, fxl0, ↓swi_n, ↓swi_c, nck0, nck1, nck2, nck3, List.length_cons, List.length_nil, Nat.reduceAdd, Nat.reduceSub, Nat.reduceLeDiff, Nat.reduceEqDiff, Nat.reduceLT, reduceIte, ite_true, ite_false, Nat.sub_zero, Nat.zero_le, true_and, and_true, and_self, true_or, or_true, if_true, if_false, true_implies, implies_true, not_true_eq_false, not_false_eq_true, false_implies, forall_const, ne_eq, or_self, and_false, false_and, Lt, Le, Eq', Cp, In, nI_add, nI_mul, nI_sub, nI_sub1, Neg0, bI_eq0, bI_eq1, bI_01, bft, up2_eq, up2_no, Bool.true_eq_false, Bool.false_eq_true, eq_self, m1_ne, m1_ne2, m1_lt, m1_le, lt_m1, m1_le2, bI_t, bI_f, LM_all hF, FMu hF, hx, hu, p1, q1, w0, y0, v0, hd0, Nat.not_lt_zero])
                      exact h2
                    · by_cases c1 : nI z - y < w
                      · (apply WP_runI (lv := lvM) LM_ok 999 60; simp (disch := first | decide | omega) only [t198_0, t198_1, t198_2, lift_c, o_iload1, o_stat1, rpush_n, rpush_s, o_ifeq, o_iload3, o_ifne, o_inl, o_ireturn, o_aload0, o_getref, o_iaload, o_iflt, o_ifge, o_iceq, o_iload5, o_iload2, o_iload4, o_isub, o_icgt, o_icle, o_istore, s1_0, s1_s, o_iload6, o_icge, o_imul, o_iadd, o_laload, o_lastore, o_iinc6, o_goto, z0, z1, z2, z11, z12, z13, z20, z31, z60, runI_0, runI_c, runI_n, liftI_n, liftI_y, run_0, run_c, run_n, fxn, fxi, fxr, fxl, fxl0, ↓swi_n, ↓swi_c, nck0, nck1, nck2, nck3, List.length_cons, List.length_nil, Nat.reduceAdd, Nat.reduceSub, Nat.reduceLeDiff, Nat.reduceEqDiff, Nat.reduceLT, reduceIte, ite_true, ite_false, Nat.sub_zero, Nat.zero_le, true_and, and_true, and_self, true_or, or_true, if_true, if_false, true_implies, implies_true, not_true_eq_false, not_false_eq_true, false_implies, forall_const, ne_eq, or_self, and_false, false_and, Lt, Le, Eq', Cp, In, nI_add, nI_mul, nI_sub, nI_sub1, Neg0, bI_eq0, bI_eq1, bI_01, bft, up2_eq, up2_no, Bool.true_eq_false, Bool.false_eq_true, eq_self, m1_ne, m1_ne2, m1_lt, m1_le, lt_m1, m1_le2, bI_t, bI_f, LM_all hF, FMu hF, hx, hu, p1, q1, p4, q4, w0, y0, v0, c1, hd0, Nat.not_lt_zero])
                        exact h2
                      · by_cases c2 : nI zb - v < w
                        · have c3 : ¬ w ≤ nI zb - v := Int32.not_le.mpr c2
                          (apply WP_runI (lv := lvM) LM_ok 999 60; simp (disch := first | decide | omega) only [t198_0, t198_1, t198_2, lift_c, o_iload1, o_stat1, rpush_n, rpush_s, o_ifeq, o_iload3, o_ifne, o_inl, o_ireturn, o_aload0, o_getref, o_iaload, o_iflt, o_ifge, o_iceq, o_iload5, o_iload2, o_iload4, o_isub, o_icgt, o_icle, o_istore, s1_0, s1_s, o_iload6, o_icge, o_imul, o_iadd, o_laload, o_lastore, o_iinc6, o_goto, z0, z1, z2, z11, z12, z13, z20, z31, z60, runI_0, runI_c, runI_n, liftI_n, liftI_y, run_0, run_c, run_n, fxn, fxi, fxr, fxl, fxl0, ↓swi_n, ↓swi_c, nck0, nck1, nck2, nck3, List.length_cons, List.length_nil, Nat.reduceAdd, Nat.reduceSub, Nat.reduceLeDiff, Nat.reduceEqDiff, Nat.reduceLT, reduceIte, ite_true, ite_false, Nat.sub_zero, Nat.zero_le, true_and, and_true, and_self, true_or, or_true, if_true, if_false, true_implies, implies_true, not_true_eq_false, not_false_eq_true, false_implies, forall_const, ne_eq, or_self, and_false, false_and, Lt, Le, Eq', Cp, In, nI_add, nI_mul, nI_sub, nI_sub1, Neg0, bI_eq0, bI_eq1, bI_01, bft, up2_eq, up2_no, Bool.true_eq_false, Bool.false_eq_true, eq_self, m1_ne, m1_ne2, m1_lt, m1_le, lt_m1, m1_le2, bI_t, bI_f, LM_all hF, FMu hF, hx, hu, p1, q1, p4, q4, w0, y0, v0, c1, c3, hd0, Nat.not_lt_zero])
                          exact h2
                        · exact (hA ⟨hp_T hz w0 y0 c1, hp_T hzb w0 v0 c2⟩).elim
              cases hA1 : hpB (nI z) y w with
              | false =>
                (apply WP_runI (lv := lvK) (F := LK) LK_ok 999 60; simp (disch := first | decide | omega) only [t101_0, t101_1, lift_c, o_iload1, o_stat1, rpush_n, rpush_s, o_ifeq, o_iload3, o_ifne, o_inl, o_ireturn, o_aload0, o_getref, o_aaload, o_astore, s1_0, s1_s, o_aload6, o_virt1, o_aload7, o_getfield, o_iceq, o_iload2, o_iload5, o_virt3, o_iload4, o_dadd, z0, z1, z2, z11, z12, z13, z20, z31, runI_0, runI_c, runI_n, liftI_n, liftI_y, run_0, run_c, run_n, fxn, fxi, fxr, fxl, fxl0, ↓swi_n, ↓swi_c, nck0, nck1, nck2, nck3, List.length_cons, List.length_nil, Nat.reduceAdd, Nat.reduceSub, Nat.reduceLeDiff, Nat.reduceEqDiff, Nat.reduceLT, reduceIte, ite_true, ite_false, Nat.sub_zero, Nat.zero_le, true_and, and_true, and_self, true_or, or_true, if_true, if_false, true_implies, implies_true, not_true_eq_false, not_false_eq_true, false_implies, forall_const, ne_eq, or_self, and_false, false_and, Lt, Le, Eq', Cp, In, nI_add, nI_mul, nI_sub, nI_sub1, Neg0, bI_eq0, bI_eq1, bI_01, bft, up2_eq, up2_no, Bool.true_eq_false, Bool.false_eq_true, eq_self, m1_ne, m1_ne2, m1_lt, m1_le, lt_m1, m1_le2, bI_t, bI_f, LK_st, FGu hG, LK_g hG h22 hs2, hx, hu, p2, q2, p3, q3, nns, m1_ne, hA1, hd0, decide_false, Bool.not_false])
                exact bad
              | true =>
                cases hA2 : hpB (nI zb) v w with
                | false =>
                  (apply WP_runI (lv := lvK) (F := LK) LK_ok 999 60; simp (disch := first | decide | omega) only [t101_0, t101_1, lift_c, o_iload1, o_stat1, rpush_n, rpush_s, o_ifeq, o_iload3, o_ifne, o_inl, o_ireturn, o_aload0, o_getref, o_aaload, o_astore, s1_0, s1_s, o_aload6, o_virt1, o_aload7, o_getfield, o_iceq, o_iload2, o_iload5, o_virt3, o_iload4, o_dadd, z0, z1, z2, z11, z12, z13, z20, z31, runI_0, runI_c, runI_n, liftI_n, liftI_y, run_0, run_c, run_n, fxn, fxi, fxr, fxl, fxl0, ↓swi_n, ↓swi_c, nck0, nck1, nck2, nck3, List.length_cons, List.length_nil, Nat.reduceAdd, Nat.reduceSub, Nat.reduceLeDiff, Nat.reduceEqDiff, Nat.reduceLT, reduceIte, ite_true, ite_false, Nat.sub_zero, Nat.zero_le, true_and, and_true, and_self, true_or, or_true, if_true, if_false, true_implies, implies_true, not_true_eq_false, not_false_eq_true, false_implies, forall_const, ne_eq, or_self, and_false, false_and, Lt, Le, Eq', Cp, In, nI_add, nI_mul, nI_sub, nI_sub1, Neg0, bI_eq0, bI_eq1, bI_01, bft, up2_eq, up2_no, Bool.true_eq_false, Bool.false_eq_true, eq_self, m1_ne, m1_ne2, m1_lt, m1_le, lt_m1, m1_le2, bI_t, bI_f, LK_st, FGu hG, LK_g hG h22 hs2, hx, hu, p2, q2, p3, q3, nns, m1_ne, hA1, hA2, hd0, decide_false, Bool.not_false])
                  exact bad
                | true => exact (hA ⟨hA1, hA2⟩).elim
          · skip
            have bad := hQ (-nI 12) n sh I L P fun Q2 h2 => by
              refine ⟨(FMu hI.1).1, ?_⟩
              have h2 := h2 _ _ _ _ _ ⟨F, E, k, g, r, hI⟩
              apply e198
              (apply WP_runI (lv := lvM) LM_ok 999 60; simp (disch := first | decide | omega) only [t198_0, t198_1, t198_2, lift_c, o_iload1, o_stat1, rpush_n, rpush_s, o_ifeq, o_iload3, o_ifne, o_inl, o_ireturn, o_aload0, o_getref, o_iaload, o_iflt, o_ifge, o_iceq, o_iload5, o_iload2, o_iload4, o_isub, o_icgt, o_icle, o_istore, s1_0, s1_s, o_iload6, o_icge, o_imul, o_iadd, o_laload, o_lastore, o_iinc6, o_goto, z0, z1, z2, z11, z12, z13, z20, z31, z60, runI_0, runI_c, runI_n, liftI_n, liftI_y, run_0, run_c, run_n, fxn, fxi, fxr, fxl, fxl0, ↓swi_n, ↓swi_c, nck0, nck1, nck2, nck3, List.length_cons, List.length_nil, Nat.reduceAdd, Nat.reduceSub, Nat.reduceLeDiff, Nat.reduceEqDiff, Nat.reduceLT, reduceIte, ite_true, ite_false, Nat.sub_zero, Nat.zero_le, true_and, and_true, and_self, true_or, or_true, if_true, if_false, true_implies, implies_true, not_true_eq_false, not_false_eq_true, false_implies, forall_const, ne_eq, or_self, and_false, false_and, Lt, Le, Eq', Cp, In, nI_add, nI_mul, nI_sub, nI_sub1, Neg0, bI_eq0, bI_eq1, bI_01, bft, up2_eq, up2_no, Bool.true_eq_false, Bool.false_eq_true, eq_self, m1_ne, m1_ne2, m1_lt, m1_le, lt_m1, m1_le2, bI_t, bI_f, LM_all hF, FMu hF, hWe, hx, hu, p1, q1, hst, hd0, Nat.not_lt_zero])
              exact h2
            (apply WP_runI (lv := lvK) (F := LK) LK_ok 999 60; simp (disch := first | decide | omega) only [t101_0, t101_1, lift_c, o_iload1, o_stat1, rpush_n, rpush_s, o_ifeq, o_iload3, o_ifne, o_inl, o_ireturn, o_aload0, o_getref, o_aaload, o_astore, s1_0, s1_s, o_aload6, o_virt1, o_aload7, o_getfield, o_iceq, o_iload2, o_iload5, o_virt3, o_iload4, o_dadd, z0, z1, z2, z11, z12, z13, z20, z31, runI_0, runI_c, runI_n, liftI_n, liftI_y, run_0, run_c, run_n, fxn, fxi, fxr, fxl, fxl0, ↓swi_n, ↓swi_c, nck0, nck1, nck2, nck3, List.length_cons, List.length_nil, Nat.reduceAdd, Nat.reduceSub, Nat.reduceLeDiff, Nat.reduceEqDiff, Nat.reduceLT, reduceIte, ite_true, ite_false, Nat.sub_zero, Nat.zero_le, true_and, and_true, and_self, true_or, or_true, if_true, if_false, true_implies, implies_true, not_true_eq_false, not_false_eq_true, false_implies, forall_const, ne_eq, or_self, and_false, false_and, Lt, Le, Eq', Cp, In, nI_add, nI_mul, nI_sub, nI_sub1, Neg0, bI_eq0, bI_eq1, bI_01, bft, up2_eq, up2_no, Bool.true_eq_false, Bool.false_eq_true, eq_self, m1_ne, m1_ne2, m1_lt, m1_le, lt_m1, m1_le2, bI_t, bI_f, LK_st, FGu hG, LK_g hG h22 hs2, FY22u hY22, hx, hu, p2, q2, nns, nnt, m1_ne, hst, decide_false, Bool.not_false, hd0])
            exact bad

end
