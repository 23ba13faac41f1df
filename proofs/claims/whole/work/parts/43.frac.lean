/-! ### the reference: fractions, odds, means -/
abbrev nL (k : Nat) : Int64 := Int64.ofNat k
theorem nL_toInt {k : Nat} (h : k < 2 ^ 63) : (nL k).toInt = k := Int64.toInt_ofNat_of_lt (by omega)
theorem nL_inj {a b : Nat} (ha : a < 2 ^ 63) (hb : b < 2 ^ 63) : (nL a = nL b) = (a = b) := propext ⟨fun e => by
  have := congrArg Int64.toInt e
  rw [nL_toInt ha, nL_toInt hb] at this
  omega, fun e => by rw [e]⟩
theorem nL_of {a : Nat} (h : a < 2 ^ 31) : (nI a).toInt64 = nL a := by
  apply Int64.toInt_inj.mp
  rw [Int32.toInt_toInt64, nI_toInt h, nL_toInt (by omega)]
theorem nL_div {a b : Nat} (ha : a < 2 ^ 63) (hb : b < 2 ^ 63) : nL a / nL b = nL (a / b) := by
  have h1 : a / b ≤ a := Nat.div_le_self a b
  apply Int64.toInt_inj.mp
  rw [Int64.toInt_div_of_ne_left _ _ (by
    intro e
    have := congrArg Int64.toInt e
    rw [nL_toInt ha] at this
    have h2 : (Int64.minValue).toInt = -9223372036854775808 := by decide
    omega), nL_toInt ha, nL_toInt hb, nL_toInt (by omega)]
  exact (Int.ofNat_tdiv a b).symm
theorem nL_rem {a b : Nat} (ha : a < 2 ^ 31) (hb : b < 2 ^ 31) : nL a - nL a / nL b * nL b = nL (a % b) := by
  rw [nL_div (by omega) (by omega)]
  have h2 : a / b * b ≤ a := Nat.div_mul_le_self a b
  have e : nL (a / b) * nL b = nL (a / b * b) := (Int64.ofNat_mul _ _).symm
  rw [e]
  have e2 : nL a = nL (a - a / b * b) + nL (a / b * b) := by
    rw [← Int64.ofNat_add, Nat.sub_add_cancel h2]
  rw [e2, Int64.add_sub_cancel]
  congr 1
  have := Nat.mod_add_div a b
  rw [Nat.mul_comm] at this
  omega
theorem nL_mul (a b : Nat) : nL a * nL b = nL (a * b) := (Int64.ofNat_mul _ _).symm
theorem nL_sub (a b : Nat) (h : b ≤ a) : nL a - nL b = nL (a - b) := by
  have e2 : nL a = nL (a - b) + nL b := by rw [← Int64.ofNat_add, Nat.sub_add_cancel h]
  rw [e2, Int64.add_sub_cancel]
theorem y0 : (0 : Int64) = nL 0 := rfl
theorem y8 : (8 : Int64) = nL 8 := rfl
theorem lg0 (x y : Int64) : (lg_cmp x y = nI 0) = (x = y) := propext (lg_cmp_eq x y)
theorem lgL (x y : Int64) : (lg_cmp x y < nI 0) = (x < y) := propext (lg_cmp_lt x y)
def gcD (c : Nat) : Nat := if c = 0 then 8 else if c = 4 then 4 else if c % 2 = 0 then 2 else 1
def frS (a : Nat) (z : Int32) : Int64 := if z = nI 0 then nL (a / gcD (a % 8)) else nL (8 / gcD (a % 8))
theorem and1 (v : Int32) : v &&& nI 1 = nI 1 ∨ v &&& nI 1 = nI 0 := by
  have h : (v &&& nI 1).toBitVec = BitVec.setWidth 32 (BitVec.ofBool (v.toBitVec.getLsbD 0)) := by
    show v.toBitVec &&& 1#32 = _
    exact BitVec.and_one_eq_setWidth_ofBool_getLsbD
  cases hb : v.toBitVec.getLsbD 0 with
  | false =>
    right
    apply Int32.toBitVec_inj.mp
    rw [h, hb]
    rfl
  | true =>
    left
    apply Int32.toBitVec_inj.mp
    rw [h, hb]
    rfl
theorem sum_rng {N : TN} {k g r : Nat} (hW : WF N k g r) : ∀ m, m ≤ 8 → ∃ a, a ≤ 99 * m ∧ sumI N m = nI a
  | 0, _ => ⟨0, by omega, rfl⟩
  | m + 1, h => by
    obtain ⟨a, ha, e⟩ := sum_rng hW m (by omega)
    obtain ⟨u, hu, e2⟩ := hW.grain (show m < 8 by omega)
    exact ⟨a + u, by omega, by rw [sumI, e, e2, nI_add]⟩
theorem grn_rng {N : TN} {k g r : Nat} (hW : WF N k g r) : ∃ a, a ≤ 792 ∧ grnS N = nI a := sum_rng hW 8 (by omega)
section
variable {G : GE} {d n : Nat} {sh : TS} {I : TI} {L : TL} {P : TP} {Q : TQ} {F : TF} {E : Nat → Int32} {k g r : Nat}
theorem fraction_M (hF : FM sh P) {a : Nat} (ha : a ≤ 792) {z : Int32} (hQ : Q (some (.long (frS a z))) n sh I L P) : Cl G d 180 [.long (nL a), .long (nL 8), .int z] n sh I L P Q := by
  apply e180
  unfold frS at hQ
  obtain ⟨c, hc8, hc⟩ : ∃ c, c < 8 ∧ a % 8 = c := ⟨a % 8, Nat.mod_lt _ (by decide), rfl⟩
  have h2 : a - a / 8 * 8 = c := by omega
  rw [hc] at hQ
  have hcc : c = 0 ∨ c = 1 ∨ c = 2 ∨ c = 3 ∨ c = 4 ∨ c = 5 ∨ c = 6 ∨ c = 7 := by omega
  by_cases hz : z = nI 0
  · rw [if_pos hz] at hQ
    rcases hcc with rfl | rfl | rfl | rfl | rfl | rfl | rfl | rfl <;> ((apply WP_runI (lv := lvN) LN_ok 999 80; simp (disch := first | decide | omega) only [t180_0, lift_c, o_lload0, o_lstore, s2_0, s2_s, o_lload2, o_lload7, o_inl, o_lcmp, o_ifeq, o_lload5, o_lrem, o_lload9, o_goto, o_iload4, o_ifne, o_ldiv, o_lreturn, z0, z1, z2, z20, z31, runI_0, runI_c, runI_n, liftI_n, liftI_y, run_0, run_c, run_n, fxn, fxi, fxr, fxl, fxl0, ↓swi_n, ↓swi_c, nck0, nck1, nck2, nck3, List.length_cons, List.length_nil, Nat.reduceAdd, Nat.reduceSub, Nat.reduceLeDiff, Nat.reduceEqDiff, Nat.reduceLT, reduceIte, ite_true, ite_false, Nat.sub_zero, Nat.zero_le, true_and, and_true, and_self, true_or, or_true, if_true, if_false, true_implies, implies_true, not_true_eq_false, not_false_eq_true, false_implies, forall_const, ne_eq, or_self, and_false, false_and, Lt, Le, Eq', Cp, In, nI_add, nI_mul, nI_sub, nI_sub1, Neg0, bI_eq0, bI_eq1, bI_01, bft, up2_eq, up2_no, Bool.true_eq_false, Bool.false_eq_true, eq_self, m1_ne, m1_ne2, m1_lt, m1_le, lt_m1, m1_le2, bI_t, bI_f, LM_all hF, LN_all hF, FMu hF, y0, y8, lg0, nL_inj, nL_mul, nL_sub, nL_div, h2, hz, Nat.reduceMul, Nat.reduceDiv]); exact hQ)
  · rw [if_neg hz] at hQ
    rcases hcc with rfl | rfl | rfl | rfl | rfl | rfl | rfl | rfl <;> ((apply WP_runI (lv := lvN) LN_ok 999 80; simp (disch := first | decide | omega) only [t180_0, lift_c, o_lload0, o_lstore, s2_0, s2_s, o_lload2, o_lload7, o_inl, o_lcmp, o_ifeq, o_lload5, o_lrem, o_lload9, o_goto, o_iload4, o_ifne, o_ldiv, o_lreturn, z0, z1, z2, z20, z31, runI_0, runI_c, runI_n, liftI_n, liftI_y, run_0, run_c, run_n, fxn, fxi, fxr, fxl, fxl0, ↓swi_n, ↓swi_c, nck0, nck1, nck2, nck3, List.length_cons, List.length_nil, Nat.reduceAdd, Nat.reduceSub, Nat.reduceLeDiff, Nat.reduceEqDiff, Nat.reduceLT, reduceIte, ite_true, ite_false, Nat.sub_zero, Nat.zero_le, true_and, and_true, and_self, true_or, or_true, if_true, if_false, true_implies, implies_true, not_true_eq_false, not_false_eq_true, false_implies, forall_const, ne_eq, or_self, and_false, false_and, Lt, Le, Eq', Cp, In, nI_add, nI_mul, nI_sub, nI_sub1, Neg0, bI_eq0, bI_eq1, bI_01, bft, up2_eq, up2_no, Bool.true_eq_false, Bool.false_eq_true, eq_self, m1_ne, m1_ne2, m1_lt, m1_le, lt_m1, m1_le2, bI_t, bI_f, LM_all hF, LN_all hF, FMu hF, y0, y8, lg0, nL_inj, nL_mul, nL_sub, nL_div, h2, hz, Nat.reduceMul, Nat.reduceDiv]); exact hQ)
def meanA (F : TF) (E : Nat → Int32) (N : TN) (x z : Int32) : Int64 := if (inR x 0 60 && inR z 0 1) = false then -9223372036854775808 else frS (grnS (hoursS F E N x.toNatClampNeg)).toNatClampNeg z
theorem mean_M (hF : FM sh P) (hB : BK I F E k g r) {x z : Int32} (hd : 42 ≤ d) (hQ : ∀ I', Eo scA I I' → Q (some (.long (meanA F E (I 124) x z))) n sh I' L P) : Cl G d 182 [.ref 123, .int x, .int z] n sh I L P Q := by
  apply e182
  have hd0 : 0 < d := by omega
  unfold meanA at hQ
  cases hx : inR x 0 60 with
  | false =>
    have hx2 : decide (nI 0 ≤ x ∧ x ≤ nI 60) = false := hx
    rw [hx, if_pos (show (false && inR z 0 1) = false from rfl)] at hQ
    have hQ := hQ I Eo.rf
    (apply WP_runI (lv := lvN) LN_ok 30 80; simp (disch := first | decide | omega) only [t182_0, lift_c, o_iload1, o_inl, o_stat3, rpush_n, rpush_s, o_ifeq, o_iload2, o_ifne, o_lreturn, o_aload0, o_virt2, o_istore, s1_0, s1_s, o_iload3, o_icge, o_virt1, o_iinc3, o_goto, o_i2l, z0, z1, z2, z8, z20, z31, z60, runI_0, runI_c, runI_n, liftI_n, liftI_y, run_0, run_c, run_n, fxn, fxi, fxr, fxl, fxl0, ↓swi_n, ↓swi_c, nck0, nck1, nck2, nck3, List.length_cons, List.length_nil, Nat.reduceAdd, Nat.reduceSub, Nat.reduceLeDiff, Nat.reduceEqDiff, Nat.reduceLT, reduceIte, ite_true, ite_false, Nat.sub_zero, Nat.zero_le, true_and, and_true, and_self, true_or, or_true, if_true, if_false, true_implies, implies_true, not_true_eq_false, not_false_eq_true, false_implies, forall_const, ne_eq, or_self, and_false, false_and, Lt, Le, Eq', Cp, In, nI_add, nI_mul, nI_sub, nI_sub1, Neg0, bI_eq0, bI_eq1, bI_01, bft, up2_eq, up2_no, Bool.true_eq_false, Bool.false_eq_true, eq_self, m1_ne, m1_ne2, m1_lt, m1_le, lt_m1, m1_le2, bI_t, bI_f, LM_all hF, LN_all hF, FMu hF, hd0, hx2])
    exact hQ
  | true =>
    have hx2 : decide (nI 0 ≤ x ∧ x ≤ nI 60) = true := hx
    cases hz : inR z 0 1 with
    | false =>
      have hz2 : decide (nI 0 ≤ z ∧ z ≤ nI 1) = false := hz
      rw [hx, hz, if_pos (show (true && false) = false from rfl)] at hQ
      have hQ := hQ I Eo.rf
      (apply WP_runI (lv := lvN) LN_ok 30 80; simp (disch := first | decide | omega) only [t182_0, lift_c, o_iload1, o_inl, o_stat3, rpush_n, rpush_s, o_ifeq, o_iload2, o_ifne, o_lreturn, o_aload0, o_virt2, o_istore, s1_0, s1_s, o_iload3, o_icge, o_virt1, o_iinc3, o_goto, o_i2l, z0, z1, z2, z8, z20, z31, z60, runI_0, runI_c, runI_n, liftI_n, liftI_y, run_0, run_c, run_n, fxn, fxi, fxr, fxl, fxl0, ↓swi_n, ↓swi_c, nck0, nck1, nck2, nck3, List.length_cons, List.length_nil, Nat.reduceAdd, Nat.reduceSub, Nat.reduceLeDiff, Nat.reduceEqDiff, Nat.reduceLT, reduceIte, ite_true, ite_false, Nat.sub_zero, Nat.zero_le, true_and, and_true, and_self, true_or, or_true, if_true, if_false, true_implies, implies_true, not_true_eq_false, not_false_eq_true, false_implies, forall_const, ne_eq, or_self, and_false, false_and, Lt, Le, Eq', Cp, In, nI_add, nI_mul, nI_sub, nI_sub1, Neg0, bI_eq0, bI_eq1, bI_01, bft, up2_eq, up2_no, Bool.true_eq_false, Bool.false_eq_true, eq_self, m1_ne, m1_ne2, m1_lt, m1_le, lt_m1, m1_le2, bI_t, bI_f, LM_all hF, LN_all hF, FMu hF, hd0, hx2, hz2])
      exact hQ
    | true =>
      have hz2 : decide (nI 0 ≤ z ∧ z ≤ nI 1) = true := hz
      rw [hx, hz, if_neg (by decide)] at hQ
      obtain ⟨m, -, hm, rfl⟩ := inR_of (by omega) (by omega) hx
      rw [Cp _ (by omega)] at hQ
      have loop : ∀ l j I1 cc ss, j + l = m → AH I I1 (hoursS F E (I 124) j) k g r → WP G 182 d Q 30 [some (.ref 123), some (.int (nI m)), some (.int z), some (.int (nI j))] [] cc ss n sh I1 L P := by
        intro l
        induction l with
        | zero =>
          intro j I1 cc ss h ha
          have h : j = m := by omega
          subst h
          have h124 := ha.2.1
          obtain ⟨a, ha2, e⟩ := grn_rng ha.2.2.2.2
          have hQ := hQ _ ha.fin
          rw [e, Cp _ (by omega)] at hQ
          (apply WP_runI (lv := lvN) LN_ok 30 80; simp (disch := first | decide | omega) only [t182_0, lift_c, o_iload1, o_inl, o_stat3, rpush_n, rpush_s, o_ifeq, o_iload2, o_ifne, o_lreturn, o_aload0, o_virt2, o_istore, s1_0, s1_s, o_iload3, o_icge, o_virt1, o_iinc3, o_goto, o_i2l, z0, z1, z2, z8, z20, z31, z60, runI_0, runI_c, runI_n, liftI_n, liftI_y, run_0, run_c, run_n, fxn, fxi, fxr, fxl, fxl0, ↓swi_n, ↓swi_c, nck0, nck1, nck2, nck3, List.length_cons, List.length_nil, Nat.reduceAdd, Nat.reduceSub, Nat.reduceLeDiff, Nat.reduceEqDiff, Nat.reduceLT, reduceIte, ite_true, ite_false, Nat.sub_zero, Nat.zero_le, true_and, and_true, and_self, true_or, or_true, if_true, if_false, true_implies, implies_true, not_true_eq_false, not_false_eq_true, false_implies, forall_const, ne_eq, or_self, and_false, false_and, Lt, Le, Eq', Cp, In, nI_add, nI_mul, nI_sub, nI_sub1, Neg0, bI_eq0, bI_eq1, bI_01, bft, up2_eq, up2_no, Bool.true_eq_false, Bool.false_eq_true, eq_self, m1_ne, m1_ne2, m1_lt, m1_le, lt_m1, m1_le2, bI_t, bI_f, LM_all hF, LN_all hF, FMu hF, hd0, h124, e, y8, nL_of, Nat.le_refl])
          refine fraction_M hF ha2 ?_
          generalize frS a z = v at hQ ⊢
          (apply WP_runI (lv := lvN) LN_ok 30 80; simp (disch := first | decide | omega) only [t182_0, lift_c, o_iload1, o_inl, o_stat3, rpush_n, rpush_s, o_ifeq, o_iload2, o_ifne, o_lreturn, o_aload0, o_virt2, o_istore, s1_0, s1_s, o_iload3, o_icge, o_virt1, o_iinc3, o_goto, o_i2l, z0, z1, z2, z8, z20, z31, z60, runI_0, runI_c, runI_n, liftI_n, liftI_y, run_0, run_c, run_n, fxn, fxi, fxr, fxl, fxl0, ↓swi_n, ↓swi_c, nck0, nck1, nck2, nck3, List.length_cons, List.length_nil, Nat.reduceAdd, Nat.reduceSub, Nat.reduceLeDiff, Nat.reduceEqDiff, Nat.reduceLT, reduceIte, ite_true, ite_false, Nat.sub_zero, Nat.zero_le, true_and, and_true, and_self, true_or, or_true, if_true, if_false, true_implies, implies_true, not_true_eq_false, not_false_eq_true, false_implies, forall_const, ne_eq, or_self, and_false, false_and, Lt, Le, Eq', Cp, In, nI_add, nI_mul, nI_sub, nI_sub1, Neg0, bI_eq0, bI_eq1, bI_01, bft, up2_eq, up2_no, Bool.true_eq_false, Bool.false_eq_true, eq_self, m1_ne, m1_ne2, m1_lt, m1_le, lt_m1, m1_le2, bI_t, bI_f, LM_all hF, LN_all hF, FMu hF, hd0])
          exact hQ
        | succ l ih =>
          intro j I1 cc ss h ha
          have hj : ¬ m ≤ j := by omega
          (apply WP_runI (lv := lvN) LN_ok 30 80; simp (disch := first | decide | omega) only [t182_0, lift_c, o_iload1, o_inl, o_stat3, rpush_n, rpush_s, o_ifeq, o_iload2, o_ifne, o_lreturn, o_aload0, o_virt2, o_istore, s1_0, s1_s, o_iload3, o_icge, o_virt1, o_iinc3, o_goto, o_i2l, z0, z1, z2, z8, z20, z31, z60, runI_0, runI_c, runI_n, liftI_n, liftI_y, run_0, run_c, run_n, fxn, fxi, fxr, fxl, fxl0, ↓swi_n, ↓swi_c, nck0, nck1, nck2, nck3, List.length_cons, List.length_nil, Nat.reduceAdd, Nat.reduceSub, Nat.reduceLeDiff, Nat.reduceEqDiff, Nat.reduceLT, reduceIte, ite_true, ite_false, Nat.sub_zero, Nat.zero_le, true_and, and_true, and_self, true_or, or_true, if_true, if_false, true_implies, implies_true, not_true_eq_false, not_false_eq_true, false_implies, forall_const, ne_eq, or_self, and_false, false_and, Lt, Le, Eq', Cp, In, nI_add, nI_mul, nI_sub, nI_sub1, Neg0, bI_eq0, bI_eq1, bI_01, bft, up2_eq, up2_no, Bool.true_eq_false, Bool.false_eq_true, eq_self, m1_ne, m1_ne2, m1_lt, m1_le, lt_m1, m1_le2, bI_t, bI_f, LM_all hF, LN_all hF, FMu hF, hd0, hj])
          refine hour_A hF hB ha (by omega) fun I2 ha2 _ => ?_
          have ih := fun cc ss => ih (j + 1) I2 cc ss (by omega) ha2
          (apply WP_runI (lv := lvN) LN_ok 30 80; simp (disch := first | decide | omega) only [t182_0, lift_c, o_iload1, o_inl, o_stat3, rpush_n, rpush_s, o_ifeq, o_iload2, o_ifne, o_lreturn, o_aload0, o_virt2, o_istore, s1_0, s1_s, o_iload3, o_icge, o_virt1, o_iinc3, o_goto, o_i2l, z0, z1, z2, z8, z20, z31, z60, runI_0, runI_c, runI_n, liftI_n, liftI_y, run_0, run_c, run_n, fxn, fxi, fxr, fxl, fxl0, ↓swi_n, ↓swi_c, nck0, nck1, nck2, nck3, List.length_cons, List.length_nil, Nat.reduceAdd, Nat.reduceSub, Nat.reduceLeDiff, Nat.reduceEqDiff, Nat.reduceLT, reduceIte, ite_true, ite_false, Nat.sub_zero, Nat.zero_le, true_and, and_true, and_self, true_or, or_true, if_true, if_false, true_implies, implies_true, not_true_eq_false, not_false_eq_true, false_implies, forall_const, ne_eq, or_self, and_false, false_and, Lt, Le, Eq', Cp, In, nI_add, nI_mul, nI_sub, nI_sub1, Neg0, bI_eq0, bI_eq1, bI_01, bft, up2_eq, up2_no, Bool.true_eq_false, Bool.false_eq_true, eq_self, m1_ne, m1_ne2, m1_lt, m1_le, lt_m1, m1_le2, bI_t, bI_f, LM_all hF, LN_all hF, FMu hF, hd0])
          exact ih _ _
      have ha := AH.start hB
      (apply WP_runI (lv := lvN) LN_ok 30 80; simp (disch := first | decide | omega) only [t182_0, lift_c, o_iload1, o_inl, o_stat3, rpush_n, rpush_s, o_ifeq, o_iload2, o_ifne, o_lreturn, o_aload0, o_virt2, o_istore, s1_0, s1_s, o_iload3, o_icge, o_virt1, o_iinc3, o_goto, o_i2l, z0, z1, z2, z8, z20, z31, z60, runI_0, runI_c, runI_n, liftI_n, liftI_y, run_0, run_c, run_n, fxn, fxi, fxr, fxl, fxl0, ↓swi_n, ↓swi_c, nck0, nck1, nck2, nck3, List.length_cons, List.length_nil, Nat.reduceAdd, Nat.reduceSub, Nat.reduceLeDiff, Nat.reduceEqDiff, Nat.reduceLT, reduceIte, ite_true, ite_false, Nat.sub_zero, Nat.zero_le, true_and, and_true, and_self, true_or, or_true, if_true, if_false, true_implies, implies_true, not_true_eq_false, not_false_eq_true, false_implies, forall_const, ne_eq, or_self, and_false, false_and, Lt, Le, Eq', Cp, In, nI_add, nI_mul, nI_sub, nI_sub1, Neg0, bI_eq0, bI_eq1, bI_01, bft, up2_eq, up2_no, Bool.true_eq_false, Bool.false_eq_true, eq_self, m1_ne, m1_ne2, m1_lt, m1_le, lt_m1, m1_le2, bI_t, bI_f, LM_all hF, LN_all hF, FMu hF, hd0, hm, hz2, decide_true])
      generalize cpy2 I 124 0 125 0 138 = I1 at ha ⊢
      exact loop m 0 I1 _ _ (by omega) ha
def odC (F : TF) (E : Nat → Int32) (N : TN) (m : Nat) (x : Int32) : Nat → Nat
  | 0 => 0
  | c + 1 => odC F E N m x c + (if bt (openS (hoursS F E (upN N c (mnS (N c + nI 9))) m)) x = true then 1 else 0)
theorem odC_le (F : TF) (E : Nat → Int32) (N : TN) (m : Nat) (x : Int32) : ∀ c, odC F E N m x c ≤ c
  | 0 => by rw [odC]; omega
  | c + 1 => by
    have := odC_le F E N m x c
    rw [odC]
    split <;> omega
def oddsA (F : TF) (E : Nat → Int32) (N : TN) (x y z : Int32) : Int64 := if (isG N x && (inR y 0 20 && inR z 0 1)) = false then -9223372036854775808 else frS (odC F E N y.toNatClampNeg x 8) z
end
