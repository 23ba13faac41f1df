/-! ### pairs: can -/
theorem nI_or (a b : Nat) : nI a ||| nI b = nI (a ||| b) := by
  apply Int32.toBitVec_inj.mp
  rw [Int32.toBitVec_or]
  show BitVec.ofNat 32 a ||| BitVec.ofNat 32 b = BitVec.ofNat 32 (a ||| b)
  apply BitVec.eq_of_getLsbD_eq
  intro i hi
  rw [BitVec.getLsbD_or, BitVec.getLsbD_ofNat, BitVec.getLsbD_ofNat, BitVec.getLsbD_ofNat, Nat.testBit_or]
  simp [hi]
theorem p2_small : ∀ v, v < 10 → p2 (nI v) = nI (2 ^ v) := by decide +kernel
theorem fitL_rng (F : TF) (E : Nat → Int32) (N : TN) (p : Nat) : ∀ j, j ≤ 10 → ∃ m, m < 2 ^ j ∧ fitL F E N p j = nI m
  | 0, _ => ⟨0, by decide, by rw [fitL]⟩
  | j + 1, h => by
    obtain ⟨m, hm, e⟩ := fitL_rng F E N p j (by omega)
    have hm2 : m < 2 ^ (j + 1) := by rw [Nat.pow_succ]; omega
    rw [fitL, e]
    split
    · rw [p2_small j (by omega), nI_or]
      exact ⟨m ||| 2 ^ j, Nat.or_lt_two_pow hm2 (Nat.pow_lt_pow_right (by omega) (by omega)), rfl⟩
    · rw [nI_or, Nat.or_zero]
      exact ⟨m, hm2, rfl⟩
def usS (x y : Int32) : Int32 := (x.toUInt32 >>> (y.toUInt32 &&& (nI 31).toUInt32)).toInt32
def bc1 (x : Int32) : Int32 := x - (usS x (nI 1) &&& 1431655765)
def bc2 (x : Int32) : Int32 := (x &&& 858993459) + (usS x (nI 2) &&& 858993459)
def bc3 (x : Int32) : Int32 := (x + usS x (nI 4)) &&& 252645135
def bc4 (x : Int32) : Int32 := x + usS x (nI 8)
def bc5 (x : Int32) : Int32 := x + usS x (nI 16)
def bcS (x : Int32) : Int32 := bc5 (bc4 (bc3 (bc2 (bc1 x)))) &&& nI 63
def leS (b : Int32) : Nat → Nat → Int32
  | 0, _ => -nI 5
  | m + 1, j => if bt b (nI j) = true then nI j else leS b m (j + 1)
theorem cn_all : ∀ m, m < 1024 → bcS (nI m) = (cnA (nI m) 10 (nI 0, -nI 5)).1 ∧ leS (nI m) 32 0 = (cnA (nI m) 10 (nI 0, -nI 5)).2 := by decide +kernel
section
variable {G : GE} {d : Nat}
theorem bitCount_K {n : Nat} {sh : TS} {I : TI} {L : TL} {P : TP} {Q : TQ} {x : Int32} (hQ : Q (some (.int (bcS x))) n sh I L P) : Cl G d 212 [.int x] n sh I L P Q := by
  apply e212
  unfold bcS bc5 bc4 bc3 bc2 bc1 usS at hQ
  (apply WP_run 999 80; simp (disch := first | decide | omega) only [t212_0, t212_1, lift_c, o_iload0, o_inl, o_iushr, o_iand, o_isub, o_istore, s1_0, s1_s, o_iadd, o_ireturn, z0, z1, z2, z4, z8, z16, z20, z31, z63, run_0, run_c, run_n, fxn, fxi, fxr, fxl, fxl0, ↓swi_n, ↓swi_c, nck0, nck1, nck2, nck3, List.length_cons, List.length_nil, Nat.reduceAdd, Nat.reduceSub, Nat.reduceLeDiff, Nat.reduceEqDiff, Nat.reduceLT, reduceIte, ite_true, ite_false, Nat.sub_zero, Nat.zero_le, true_and, and_true, and_self, true_or, or_true, if_true, if_false, true_implies, implies_true, not_true_eq_false, not_false_eq_true, false_implies, forall_const, ne_eq, or_self, and_false, false_and, Lt, Le, Eq', Cp, In, nI_add, nI_mul, nI_sub, nI_sub1, Neg0, bI_eq0, bI_eq1, bI_01, bft, up2_eq, up2_no, Bool.true_eq_false, Bool.false_eq_true, eq_self, m1_ne, m1_ne2, m1_lt, m1_le, lt_m1, m1_le2, bI_t, bI_f])
  exact hQ
theorem leastIn_K {n : Nat} {sh : TS} {I : TI} {L : TL} {P : TP} {Q : TQ} {x : Int32} (hd : 1 ≤ d) (hQ : Q (some (.int (leS x 32 0))) n sh I L P) : Cl G d 114 [.int x] n sh I L P Q := by
  apply e114
  have hd0 : 0 < d := by omega
  have loop : ∀ m j cc ss, j + m = 32 → Q (some (.int (leS x m j))) n sh I L P → WP G 114 d Q 2 [some (.int x), some (.int (nI j))] [] cc ss n sh I L P := by
    intro m
    induction m with
    | zero =>
      intro j cc ss h hq
      have hj : 32 ≤ j := by omega
      rw [leS] at hq
      (apply WP_runI (lv := lvK) (F := LK) LK_ok 2 20; simp (disch := first | decide | omega) only [t114_0, lift_c, o_inl, o_istore, s1_0, s1_s, o_iload1, o_icge, o_iload0, o_stat2, rpush_n, rpush_s, o_ifeq, o_ireturn, o_iinc1, o_goto, z0, z1, z2, z5, z20, z31, z32, runI_0, runI_c, runI_n, liftI_n, liftI_y, run_0, run_c, run_n, fxn, fxi, fxr, fxl, fxl0, ↓swi_n, ↓swi_c, nck0, nck1, nck2, nck3, List.length_cons, List.length_nil, Nat.reduceAdd, Nat.reduceSub, Nat.reduceLeDiff, Nat.reduceEqDiff, Nat.reduceLT, reduceIte, ite_true, ite_false, Nat.sub_zero, Nat.zero_le, true_and, and_true, and_self, true_or, or_true, if_true, if_false, true_implies, implies_true, not_true_eq_false, not_false_eq_true, false_implies, forall_const, ne_eq, or_self, and_false, false_and, Lt, Le, Eq', Cp, In, nI_add, nI_mul, nI_sub, nI_sub1, Neg0, bI_eq0, bI_eq1, bI_01, bft, up2_eq, up2_no, Bool.true_eq_false, Bool.false_eq_true, eq_self, m1_ne, m1_ne2, m1_lt, m1_le, lt_m1, m1_le2, bI_t, bI_f, LK_st, hj, z5])
      exact hq
    | succ m ih =>
      intro j cc ss h hq
      have hj : ¬ 32 ≤ j := by omega
      rw [leS] at hq
      by_cases hb : bt x (nI j) = true
      · rw [if_pos hb] at hq
        (apply WP_runI (lv := lvK) (F := LK) LK_ok 2 20; simp (disch := first | decide | omega) only [t114_0, lift_c, o_inl, o_istore, s1_0, s1_s, o_iload1, o_icge, o_iload0, o_stat2, rpush_n, rpush_s, o_ifeq, o_ireturn, o_iinc1, o_goto, z0, z1, z2, z5, z20, z31, z32, runI_0, runI_c, runI_n, liftI_n, liftI_y, run_0, run_c, run_n, fxn, fxi, fxr, fxl, fxl0, ↓swi_n, ↓swi_c, nck0, nck1, nck2, nck3, List.length_cons, List.length_nil, Nat.reduceAdd, Nat.reduceSub, Nat.reduceLeDiff, Nat.reduceEqDiff, Nat.reduceLT, reduceIte, ite_true, ite_false, Nat.sub_zero, Nat.zero_le, true_and, and_true, and_self, true_or, or_true, if_true, if_false, true_implies, implies_true, not_true_eq_false, not_false_eq_true, false_implies, forall_const, ne_eq, or_self, and_false, false_and, Lt, Le, Eq', Cp, In, nI_add, nI_mul, nI_sub, nI_sub1, Neg0, bI_eq0, bI_eq1, bI_01, bft, up2_eq, up2_no, Bool.true_eq_false, Bool.false_eq_true, eq_self, m1_ne, m1_ne2, m1_lt, m1_le, lt_m1, m1_le2, bI_t, bI_f, LK_st, hj, hb, hd0])
        exact hq
      · rw [if_neg hb] at hq
        have ih := fun cc ss => ih (j + 1) cc ss (by omega) hq
        have hb : bt x (nI j) = false := by simpa using hb
        (apply WP_runI (lv := lvK) (F := LK) LK_ok 2 20; simp (disch := first | decide | omega) only [t114_0, lift_c, o_inl, o_istore, s1_0, s1_s, o_iload1, o_icge, o_iload0, o_stat2, rpush_n, rpush_s, o_ifeq, o_ireturn, o_iinc1, o_goto, z0, z1, z2, z5, z20, z31, z32, runI_0, runI_c, runI_n, liftI_n, liftI_y, run_0, run_c, run_n, fxn, fxi, fxr, fxl, fxl0, ↓swi_n, ↓swi_c, nck0, nck1, nck2, nck3, List.length_cons, List.length_nil, Nat.reduceAdd, Nat.reduceSub, Nat.reduceLeDiff, Nat.reduceEqDiff, Nat.reduceLT, reduceIte, ite_true, ite_false, Nat.sub_zero, Nat.zero_le, true_and, and_true, and_self, true_or, or_true, if_true, if_false, true_implies, implies_true, not_true_eq_false, not_false_eq_true, false_implies, forall_const, ne_eq, or_self, and_false, false_and, Lt, Le, Eq', Cp, In, nI_add, nI_mul, nI_sub, nI_sub1, Neg0, bI_eq0, bI_eq1, bI_01, bft, up2_eq, up2_no, Bool.true_eq_false, Bool.false_eq_true, eq_self, m1_ne, m1_ne2, m1_lt, m1_le, lt_m1, m1_le2, bI_t, bI_f, LK_st, hj, hb, hd0])
        exact ih _ _
  have loop := fun cc ss => loop 32 0 cc ss (by omega) hQ
  (apply WP_runI (lv := lvK) (F := LK) LK_ok 2 20; simp (disch := first | decide | omega) only [t114_0, lift_c, o_inl, o_istore, s1_0, s1_s, o_iload1, o_icge, o_iload0, o_stat2, rpush_n, rpush_s, o_ifeq, o_ireturn, o_iinc1, o_goto, z0, z1, z2, z5, z20, z31, z32, runI_0, runI_c, runI_n, liftI_n, liftI_y, run_0, run_c, run_n, fxn, fxi, fxr, fxl, fxl0, ↓swi_n, ↓swi_c, nck0, nck1, nck2, nck3, List.length_cons, List.length_nil, Nat.reduceAdd, Nat.reduceSub, Nat.reduceLeDiff, Nat.reduceEqDiff, Nat.reduceLT, reduceIte, ite_true, ite_false, Nat.sub_zero, Nat.zero_le, true_and, and_true, and_self, true_or, or_true, if_true, if_false, true_implies, implies_true, not_true_eq_false, not_false_eq_true, false_implies, forall_const, ne_eq, or_self, and_false, false_and, Lt, Le, Eq', Cp, In, nI_add, nI_mul, nI_sub, nI_sub1, Neg0, bI_eq0, bI_eq1, bI_01, bft, up2_eq, up2_no, Bool.true_eq_false, Bool.false_eq_true, eq_self, m1_ne, m1_ne2, m1_lt, m1_le, lt_m1, m1_le2, bI_t, bI_f, LK_st])
  exact loop _ _
theorem can_P (hd : 50 ≤ d) (x z : Int32) : PAIR G d 84 179 [.ref 20, .int x, .int z] [.ref 123, .int x, .int z] := by
  intro n sh I L P Q hI hQ
  obtain ⟨F, E, k, g, r, hI⟩ := hI
  apply e84
  apply WP_SF
  intro hSF
  have hs2 := hSF.2.2.1
  have hB := hI.cb
  have hG := hB.fg
  have hY22 := hB.y22
  have hY84 := hB.y84
  have h22 : sh 22 = (8, 9) := (FY22u hY22).1
  have hd0 : 0 < d := by omega
  have hk := hI.2.2.1.1.k6
  have hg9 := hI.2.2.1.1.g9
  have hx := gooseB hB x
  have hR := hI.2.2.2.2.1
  have hS := hI.2.2.2.2.2.1
  have fin : ∀ I1 L1 P1, CF I L P I1 L1 P1 → Q (some (.int (canA F E (I 124) x z))) n sh I1 L1 P1 := fun I1 L1 P1 hc => hQ _ _ _ _ _ _ fun Q2 h2 => by
    refine ⟨(FMu hI.1).1, ?_⟩
    have hI1 := hI.cf hc
    refine can_M hI1.1 hI1.2.2.1 hI1.2.2.2.2.2.1 (by omega) fun I2 he => ?_
    rw [hc.n124]
    exact h2 _ _ _ _ _ ⟨F, E, k, g, r, hI1.scA he⟩
  unfold canA at fin
  cases hb : isY (I 124) x with
  | false =>
    rw [hb] at hx
    rw [hb, if_pos (show (false && inR z 0 1) = false from rfl)] at fin
    have fin := fin I L P CF.rf
    (apply WP_runI (lv := lvK) (F := LK) LK_ok 999 40; simp (disch := first | decide | omega) only [t84_0, lift_c, o_aload0, o_iload1, o_virt2, rpush_n, rpush_s, o_ifeq, o_iload2, o_iflt, o_inl, o_icle, o_ireturn, o_getref, o_virt3, o_istore, s1_0, s1_s, o_ifne, o_iload3, o_stat1, o_goto, z0, z1, z2, z20, z31, runI_0, runI_c, runI_n, liftI_n, liftI_y, run_0, run_c, run_n, fxn, fxi, fxr, fxl, fxl0, ↓swi_n, ↓swi_c, nck0, nck1, nck2, nck3, List.length_cons, List.length_nil, Nat.reduceAdd, Nat.reduceSub, Nat.reduceLeDiff, Nat.reduceEqDiff, Nat.reduceLT, reduceIte, ite_true, ite_false, Nat.sub_zero, Nat.zero_le, true_and, and_true, and_self, true_or, or_true, if_true, if_false, true_implies, implies_true, not_true_eq_false, not_false_eq_true, false_implies, forall_const, ne_eq, or_self, and_false, false_and, Lt, Le, Eq', Cp, In, nI_add, nI_mul, nI_sub, nI_sub1, Neg0, bI_eq0, bI_eq1, bI_01, bft, up2_eq, up2_no, Bool.true_eq_false, Bool.false_eq_true, eq_self, m1_ne, m1_ne2, m1_lt, m1_le, lt_m1, m1_le2, bI_t, bI_f, LK_st, FGu hG, LK_g hG h22 hs2, FY22u hY22, hx, hd0])
    exact fin
  | true =>
    obtain ⟨i, hi, ex⟩ := isY_of hB.2.2.1 hb
    rw [hb] at hx
    cases hz : inR z 0 1 with
    | false =>
      rw [hb, hz, if_pos (show (true && false) = false from rfl)] at fin
      have fin := fin I L P CF.rf
      rcases inR_no hz with h | ⟨h1, h2⟩
      · (apply WP_runI (lv := lvK) (F := LK) LK_ok 999 40; simp (disch := first | decide | omega) only [t84_0, lift_c, o_aload0, o_iload1, o_virt2, rpush_n, rpush_s, o_ifeq, o_iload2, o_iflt, o_inl, o_icle, o_ireturn, o_getref, o_virt3, o_istore, s1_0, s1_s, o_ifne, o_iload3, o_stat1, o_goto, z0, z1, z2, z20, z31, runI_0, runI_c, runI_n, liftI_n, liftI_y, run_0, run_c, run_n, fxn, fxi, fxr, fxl, fxl0, ↓swi_n, ↓swi_c, nck0, nck1, nck2, nck3, List.length_cons, List.length_nil, Nat.reduceAdd, Nat.reduceSub, Nat.reduceLeDiff, Nat.reduceEqDiff, Nat.reduceLT, reduceIte, ite_true, ite_false, Nat.sub_zero, Nat.zero_le, true_and, and_true, and_self, true_or, or_true, if_true, if_false, true_implies, implies_true, not_true_eq_false, not_false_eq_true, false_implies, forall_const, ne_eq, or_self, and_false, false_and, Lt, Le, Eq', Cp, In, nI_add, nI_mul, nI_sub, nI_sub1, Neg0, bI_eq0, bI_eq1, bI_01, bft, up2_eq, up2_no, Bool.true_eq_false, Bool.false_eq_true, eq_self, m1_ne, m1_ne2, m1_lt, m1_le, lt_m1, m1_le2, bI_t, bI_f, LK_st, FGu hG, LK_g hG h22 hs2, FY22u hY22, hx, h, hd0])
        exact fin
      · have h3 : ¬ z ≤ nI 1 := Int32.not_le.mpr h2
        (apply WP_runI (lv := lvK) (F := LK) LK_ok 999 40; simp (disch := first | decide | omega) only [t84_0, lift_c, o_aload0, o_iload1, o_virt2, rpush_n, rpush_s, o_ifeq, o_iload2, o_iflt, o_inl, o_icle, o_ireturn, o_getref, o_virt3, o_istore, s1_0, s1_s, o_ifne, o_iload3, o_stat1, o_goto, z0, z1, z2, z20, z31, runI_0, runI_c, runI_n, liftI_n, liftI_y, run_0, run_c, run_n, fxn, fxi, fxr, fxl, fxl0, ↓swi_n, ↓swi_c, nck0, nck1, nck2, nck3, List.length_cons, List.length_nil, Nat.reduceAdd, Nat.reduceSub, Nat.reduceLeDiff, Nat.reduceEqDiff, Nat.reduceLT, reduceIte, ite_true, ite_false, Nat.sub_zero, Nat.zero_le, true_and, and_true, and_self, true_or, or_true, if_true, if_false, true_implies, implies_true, not_true_eq_false, not_false_eq_true, false_implies, forall_const, ne_eq, or_self, and_false, false_and, Lt, Le, Eq', Cp, In, nI_add, nI_mul, nI_sub, nI_sub1, Neg0, bI_eq0, bI_eq1, bI_01, bft, up2_eq, up2_no, Bool.true_eq_false, Bool.false_eq_true, eq_self, m1_ne, m1_ne2, m1_lt, m1_le, lt_m1, m1_le2, bI_t, bI_f, LK_st, FGu hG, LK_g hG h22 hs2, FY22u hY22, hx, h1, h3, hd0])
        exact fin
    | true =>
      have hz1 : ¬ z < nI 0 := (inR_yes hz).1
      have hz3 : z ≤ nI 1 := Int32.not_lt.mp (inR_yes hz).2
      rw [hb, hz, if_neg (show ¬ (true && true) = false by decide), show x.toNatClampNeg = i by rw [ex, Cp _ (by omega)]] at fin
      obtain ⟨m, hm, e⟩ := fitL_rng F E (I 124) (26 + 9 * i + 1) 10 (Nat.le_refl _)
      obtain ⟨c1, c2⟩ := cn_all m (by simpa using hm)
      (apply WP_runI (lv := lvK) (F := LK) LK_ok 999 40; simp (disch := first | decide | omega) only [t84_0, lift_c, o_aload0, o_iload1, o_virt2, rpush_n, rpush_s, o_ifeq, o_iload2, o_iflt, o_inl, o_icle, o_ireturn, o_getref, o_virt3, o_istore, s1_0, s1_s, o_ifne, o_iload3, o_stat1, o_goto, z0, z1, z2, z20, z31, runI_0, runI_c, runI_n, liftI_n, liftI_y, run_0, run_c, run_n, fxn, fxi, fxr, fxl, fxl0, ↓swi_n, ↓swi_c, nck0, nck1, nck2, nck3, List.length_cons, List.length_nil, Nat.reduceAdd, Nat.reduceSub, Nat.reduceLeDiff, Nat.reduceEqDiff, Nat.reduceLT, reduceIte, ite_true, ite_false, Nat.sub_zero, Nat.zero_le, true_and, and_true, and_self, true_or, or_true, if_true, if_false, true_implies, implies_true, not_true_eq_false, not_false_eq_true, false_implies, forall_const, ne_eq, or_self, and_false, false_and, Lt, Le, Eq', Cp, In, nI_add, nI_mul, nI_sub, nI_sub1, Neg0, bI_eq0, bI_eq1, bI_01, bft, up2_eq, up2_no, Bool.true_eq_false, Bool.false_eq_true, eq_self, m1_ne, m1_ne2, m1_lt, m1_le, lt_m1, m1_le2, bI_t, bI_f, LK_st, FGu hG, LK_g hG h22 hs2, FY22u hY22, hx, hz1, hz3, hd0])
      rw [ex]
      refine numbersAsSeen_T hB hR hS hi (by omega) fun I1 L1 P1 hc => ?_
      have fin := fin I1 L1 P1 hc
      rw [e] at fin ⊢
      by_cases h0 : z = nI 0
      · rw [if_pos h0, ← c1] at fin
        (apply WP_runI (lv := lvK) (F := LK) LK_ok 999 40; simp (disch := first | decide | omega) only [t84_0, lift_c, o_aload0, o_iload1, o_virt2, rpush_n, rpush_s, o_ifeq, o_iload2, o_iflt, o_inl, o_icle, o_ireturn, o_getref, o_virt3, o_istore, s1_0, s1_s, o_ifne, o_iload3, o_stat1, o_goto, z0, z1, z2, z20, z31, runI_0, runI_c, runI_n, liftI_n, liftI_y, run_0, run_c, run_n, fxn, fxi, fxr, fxl, fxl0, ↓swi_n, ↓swi_c, nck0, nck1, nck2, nck3, List.length_cons, List.length_nil, Nat.reduceAdd, Nat.reduceSub, Nat.reduceLeDiff, Nat.reduceEqDiff, Nat.reduceLT, reduceIte, ite_true, ite_false, Nat.sub_zero, Nat.zero_le, true_and, and_true, and_self, true_or, or_true, if_true, if_false, true_implies, implies_true, not_true_eq_false, not_false_eq_true, false_implies, forall_const, ne_eq, or_self, and_false, false_and, Lt, Le, Eq', Cp, In, nI_add, nI_mul, nI_sub, nI_sub1, Neg0, bI_eq0, bI_eq1, bI_01, bft, up2_eq, up2_no, Bool.true_eq_false, Bool.false_eq_true, eq_self, m1_ne, m1_ne2, m1_lt, m1_le, lt_m1, m1_le2, bI_t, bI_f, LK_st, FGu hG, LK_g hG h22 hs2, h0, hd0])
        refine bitCount_K ?_
        generalize bcS (nI m) = v at fin ⊢
        (apply WP_runI (lv := lvK) (F := LK) LK_ok 999 40; simp (disch := first | decide | omega) only [t84_0, lift_c, o_aload0, o_iload1, o_virt2, rpush_n, rpush_s, o_ifeq, o_iload2, o_iflt, o_inl, o_icle, o_ireturn, o_getref, o_virt3, o_istore, s1_0, s1_s, o_ifne, o_iload3, o_stat1, o_goto, z0, z1, z2, z20, z31, runI_0, runI_c, runI_n, liftI_n, liftI_y, run_0, run_c, run_n, fxn, fxi, fxr, fxl, fxl0, ↓swi_n, ↓swi_c, nck0, nck1, nck2, nck3, List.length_cons, List.length_nil, Nat.reduceAdd, Nat.reduceSub, Nat.reduceLeDiff, Nat.reduceEqDiff, Nat.reduceLT, reduceIte, ite_true, ite_false, Nat.sub_zero, Nat.zero_le, true_and, and_true, and_self, true_or, or_true, if_true, if_false, true_implies, implies_true, not_true_eq_false, not_false_eq_true, false_implies, forall_const, ne_eq, or_self, and_false, false_and, Lt, Le, Eq', Cp, In, nI_add, nI_mul, nI_sub, nI_sub1, Neg0, bI_eq0, bI_eq1, bI_01, bft, up2_eq, up2_no, Bool.true_eq_false, Bool.false_eq_true, eq_self, m1_ne, m1_ne2, m1_lt, m1_le, lt_m1, m1_le2, bI_t, bI_f, LK_st, FGu hG, LK_g hG h22 hs2, hd0])
        exact fin
      · rw [if_neg h0, ← c2] at fin
        (apply WP_runI (lv := lvK) (F := LK) LK_ok 999 40; simp (disch := first | decide | omega) only [t84_0, lift_c, o_aload0, o_iload1, o_virt2, rpush_n, rpush_s, o_ifeq, o_iload2, o_iflt, o_inl, o_icle, o_ireturn, o_getref, o_virt3, o_istore, s1_0, s1_s, o_ifne, o_iload3, o_stat1, o_goto, z0, z1, z2, z20, z31, runI_0, runI_c, runI_n, liftI_n, liftI_y, run_0, run_c, run_n, fxn, fxi, fxr, fxl, fxl0, ↓swi_n, ↓swi_c, nck0, nck1, nck2, nck3, List.length_cons, List.length_nil, Nat.reduceAdd, Nat.reduceSub, Nat.reduceLeDiff, Nat.reduceEqDiff, Nat.reduceLT, reduceIte, ite_true, ite_false, Nat.sub_zero, Nat.zero_le, true_and, and_true, and_self, true_or, or_true, if_true, if_false, true_implies, implies_true, not_true_eq_false, not_false_eq_true, false_implies, forall_const, ne_eq, or_self, and_false, false_and, Lt, Le, Eq', Cp, In, nI_add, nI_mul, nI_sub, nI_sub1, Neg0, bI_eq0, bI_eq1, bI_01, bft, up2_eq, up2_no, Bool.true_eq_false, Bool.false_eq_true, eq_self, m1_ne, m1_ne2, m1_lt, m1_le, lt_m1, m1_le2, bI_t, bI_f, LK_st, FGu hG, LK_g hG h22 hs2, h0, hd0])
        refine leastIn_K (by omega) ?_
        generalize leS (nI m) 32 0 = v at fin ⊢
        (apply WP_runI (lv := lvK) (F := LK) LK_ok 999 40; simp (disch := first | decide | omega) only [t84_0, lift_c, o_aload0, o_iload1, o_virt2, rpush_n, rpush_s, o_ifeq, o_iload2, o_iflt, o_inl, o_icle, o_ireturn, o_getref, o_virt3, o_istore, s1_0, s1_s, o_ifne, o_iload3, o_stat1, o_goto, z0, z1, z2, z20, z31, runI_0, runI_c, runI_n, liftI_n, liftI_y, run_0, run_c, run_n, fxn, fxi, fxr, fxl, fxl0, ↓swi_n, ↓swi_c, nck0, nck1, nck2, nck3, List.length_cons, List.length_nil, Nat.reduceAdd, Nat.reduceSub, Nat.reduceLeDiff, Nat.reduceEqDiff, Nat.reduceLT, reduceIte, ite_true, ite_false, Nat.sub_zero, Nat.zero_le, true_and, and_true, and_self, true_or, or_true, if_true, if_false, true_implies, implies_true, not_true_eq_false, not_false_eq_true, false_implies, forall_const, ne_eq, or_self, and_false, false_and, Lt, Le, Eq', Cp, In, nI_add, nI_mul, nI_sub, nI_sub1, Neg0, bI_eq0, bI_eq1, bI_01, bft, up2_eq, up2_no, Bool.true_eq_false, Bool.false_eq_true, eq_self, m1_ne, m1_ne2, m1_lt, m1_le, lt_m1, m1_le2, bI_t, bI_f, LK_st, FGu hG, LK_g hG h22 hs2, hd0])
        exact fin
end
