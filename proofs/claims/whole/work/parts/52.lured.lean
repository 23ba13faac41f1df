/-! ### a fortress's steps on a stack of bits -/
def dok : List SP → Nat → Bool
  | [], _ => true
  | x :: r, l => if x.1 < 3 then decide (l < 32) && dok r (l + 1) else if x.1 = 3 then decide (1 ≤ l) && dok r l else if x.1 < 6 then decide (2 ≤ l) && dok r (l - 1) else decide (1 ≤ l) && dok r (l - 1)
def rep (x : Int32) (s : List Bool) : Prop := s.length ≤ 32 ∧ ∀ i, i < s.length → x.toBitVec.getLsbD i = s.getD i false
theorem sh1l (x : Int32) : (x <<< (nI 1 &&& nI 31)).toBitVec = x.toBitVec <<< 1 := by
  rw [Int32.toBitVec_shiftLeft]
  have e : ((nI 1 &&& nI 31).toBitVec.smod 32) = 1#32 := by decide
  rw [e]
  rfl
theorem sh1r (x : Int32) : (x >>> (nI 1 &&& nI 31)).toBitVec = x.toBitVec.sshiftRight 1 := by
  rw [Int32.toBitVec_shiftRight]
  have e : ((nI 1 &&& nI 31).toBitVec.smod 32) = 1#32 := by decide
  rw [e]
  rfl
theorem one_b (i : Nat) : (nI 1).toBitVec.getLsbD i = decide (i = 0) := by
  show (1#32).getLsbD i = _
  rw [BitVec.getLsbD_one]
  simp
theorem bI_b (b : Bool) (i : Nat) : (bI b).toBitVec.getLsbD i = (b && decide (i = 0)) := by
  cases b with
  | true => rw [bI_t, one_b]; rfl
  | false =>
    show (0#32).getLsbD i = _
    rw [BitVec.getLsbD_zero]
    rfl
theorem rep_push {x : Int32} {s : List Bool} (h : rep x s) (hl : s.length < 32) (b : Bool) : rep ((x <<< (nI 1 &&& nI 31)) ||| bI b) (b :: s) := by
  refine ⟨by simp; omega, fun i hi => ?_⟩
  simp only [List.length_cons] at hi
  rw [Int32.toBitVec_or, BitVec.getLsbD_or, sh1l, BitVec.getLsbD_shiftLeft, bI_b]
  cases i with
  | zero => simp
  | succ i =>
    have := h.2 i (by omega)
    simp at this ⊢
    rw [this]
    simp
    omega
theorem rep_not {x : Int32} {b : Bool} {s : List Bool} (h : rep x (b :: s)) : rep (x ^^^ nI 1) ((!b) :: s) := by
  refine ⟨h.1, fun i hi => ?_⟩
  have := h.2 i hi
  rw [Int32.toBitVec_xor, BitVec.getLsbD_xor, this, one_b]
  cases i with
  | zero => simp
  | succ i => simp
theorem rep_tail {x : Int32} {b : Bool} {s : List Bool} (h : rep x (b :: s)) : rep (x >>> (nI 1 &&& nI 31)) s := by
  have h1 := h.1
  simp only [List.length_cons] at h1
  refine ⟨by omega, fun i hi => ?_⟩
  have := h.2 (i + 1) (by simp; omega)
  rw [sh1r, BitVec.getLsbD_sshiftRight, if_pos (by omega), Nat.add_comm 1 i, this]
  simp
  omega
theorem m2b (i : Nat) : (-nI 2 : Int32).toBitVec.getLsbD i = (decide (i < 32) && !decide (i = 0)) := by
  have e : (-nI 2 : Int32).toBitVec = ~~~(1#32) := by decide
  rw [e, BitVec.getLsbD_not, BitVec.getLsbD_one]
  simp
theorem rep_and {x : Int32} {a b : Bool} {s : List Bool} (h : rep x (b :: a :: s)) : rep ((x >>> (nI 1 &&& nI 31)) &&& (x ||| -nI 2)) ((a && b) :: s) := by
  have h1 := h.1
  simp only [List.length_cons] at h1
  have ht := rep_tail h
  refine ⟨by simp; omega, fun i hi => ?_⟩
  simp only [List.length_cons] at hi
  have h2 := ht.2 i (by simp; omega)
  rw [Int32.toBitVec_and, BitVec.getLsbD_and, h2, Int32.toBitVec_or, BitVec.getLsbD_or, m2b]
  cases i with
  | zero =>
    have := h.2 0 (by simp)
    rw [this]
    simp
  | succ i =>
    simp
    intro _
    right
    omega
theorem rep_or {x : Int32} {a b : Bool} {s : List Bool} (h : rep x (b :: a :: s)) : rep ((x >>> (nI 1 &&& nI 31)) ||| (x &&& nI 1)) ((a || b) :: s) := by
  have h1 := h.1
  simp only [List.length_cons] at h1
  have ht := rep_tail h
  refine ⟨by simp; omega, fun i hi => ?_⟩
  simp only [List.length_cons] at hi
  have h2 := ht.2 i (by simp; omega)
  rw [Int32.toBitVec_or, BitVec.getLsbD_or, h2, Int32.toBitVec_and, BitVec.getLsbD_and, one_b]
  cases i with
  | zero =>
    have := h.2 0 (by simp)
    rw [this]
    simp
  | succ i => simp
theorem rep_low {x : Int32} {b : Bool} {s : List Bool} (h : rep x (b :: s)) : x &&& nI 1 = bI b := by
  have h0 := h.2 0 (by simp)
  simp at h0
  have h1 : (x &&& nI 1).toBitVec = BitVec.setWidth 32 (BitVec.ofBool (x.toBitVec.getLsbD 0)) := by
    show x.toBitVec &&& 1#32 = _
    exact BitVec.and_one_eq_setWidth_ofBool_getLsbD
  rw [BitVec.getLsbD_eq_getElem (by omega)] at h1
  apply Int32.toBitVec_inj.mp
  rw [h1, h0]
  cases b <;> rfl
theorem bI_mul (b : Bool) (m : Int32) : bI b * m = if b = true then m else nI 0 := by
  cases b with
  | true => exact Int32.one_mul m
  | false => exact Int32.zero_mul
/-- a fortress's cells hold these steps -/
def FO (sh : TS) (I : TI) (P : TP) (q : Nat) (a : List SP) (e : Int32) : Prop := (q = 104 ∨ 143 ≤ q) ∧ sh q = (2, 5) ∧ P q 1 = q + 1 ∧ P q 2 = q + 2 ∧ P q 3 = q + 3 ∧ sh (q + 1) = (100, 100) ∧ sh (q + 2) = (100, 100) ∧ sh (q + 3) = (100, 100) ∧
  a.length ≤ 100 ∧ I q 4 = nI a.length ∧ I q 0 = e ∧ (∀ j x, a[j]? = some x → I (q + 1) j = nI x.1 ∧ I (q + 2) j = nI x.2.1 ∧ I (q + 3) j = x.2.2)
def stOK (a : List SP) : Prop := ∀ x ∈ a, x.1 < 8 ∧ x.2.1 < 6
section
variable {G : GE} {d n : Nat} {sh : TS} {I : TI} {L : TL} {P : TP} {Q : TQ}
theorem lured_S {q w o k j z : Nat} {m x v : Int32} {nm : TN} (hs : sh q = (2, 5)) (p1 : P q 1 = q + 1) (p2 : P q 2 = q + 2) (p3 : P q 3 = q + 3) (s1 : sh (q + 1) = (100, 100)) (s2 : sh (q + 2) = (100, 100)) (s3 : sh (q + 3) = (100, 100))
    (hw : sh w = (100, 6)) (hn : ∀ j, j < 6 → I w j = nm j) (hz : z ≤ 100) (hj : j < z) (h4 : I q 4 = nI z) (ho : I (q + 1) j = nI o) (hk : I (q + 2) j = nI k) (hm : I (q + 3) j = m) (ho8 : o < 8) (hk6 : k < 6) {s : List Bool} (hr : rep x s) (hd : dok [(o, k, m)] s.length = true)
    {o5 o6 : Option Value} {cc ss : Nat} (hK : ∀ x' o5 o6 cc ss, rep x' (stA nm (o, k, m) (s, v)).1 → WP G 25 d Q 7 [some (.ref q), some (.ref w), some (.int (stA nm (o, k, m) (s, v)).2), some (.int x'), some (.int (nI (j + 1))), o5, o6] [] cc ss n sh I L P) :
    WP G 25 d Q 7 [some (.ref q), some (.ref w), some (.int v), some (.int x), some (.int (nI j)), o5, o6] [] cc ss n sh I L P := by
  have hj2 : ¬ z ≤ j := by omega
  have hkn := hn k hk6
  have hc : o = 0 ∨ o = 1 ∨ o = 2 ∨ o = 3 ∨ o = 4 ∨ o = 5 ∨ o = 6 ∨ o = 7 := by omega
  rcases hc with rfl | rfl | rfl | rfl | rfl | rfl | rfl | rfl
  · have hl : s.length < 32 := by simpa [dok] using hd
    by_cases hb : nm k < m
    · have hK := fun o5 o6 cc ss => hK _ o5 o6 cc ss (by have := rep_push hr hl true; simpa [stA, stB, hb] using this)
      simp only [bI_t, stA] at hK
      have hb2 : ¬ m ≤ nm k := Int32.not_le.mpr hb
      (apply WP_runI (lv := lvK) (F := LK) LK_ok 7 80; simp (disch := first | decide | omega) only [t25_0, t25_1, t25_2, lift_c, o_inl, o_istore, s1_0, s1_s, o_iload4, o_aload0, o_getfield, o_icge, o_aload1, o_getref, o_iaload, o_lookup, o_iload3, o_ishl, o_iload5, o_iload6, o_goto, o_ior, o_icne, o_icle, o_ixor, o_ishr, o_iand, o_iload2, o_imul, o_iadd, o_isub, o_iinc4, o_ireturn, z0, z1, z2, z3, z4, z5, z6, z20, z31, runI_0, runI_c, runI_n, liftI_n, liftI_y, run_0, run_c, run_n, fxn, fxi, fxr, fxl, fxl0, ↓swi_n, ↓swi_c, nck0, nck1, nck2, nck3, List.length_cons, List.length_nil, Nat.reduceAdd, Nat.reduceSub, Nat.reduceLeDiff, Nat.reduceEqDiff, Nat.reduceLT, reduceIte, ite_true, ite_false, Nat.sub_zero, Nat.zero_le, true_and, and_true, and_self, true_or, or_true, if_true, if_false, true_implies, implies_true, not_true_eq_false, not_false_eq_true, false_implies, forall_const, ne_eq, or_self, and_false, false_and, Lt, Le, Eq', Cp, In, nI_add, nI_mul, nI_sub, nI_sub1, Neg0, bI_eq0, bI_eq1, bI_01, bft, up2_eq, up2_no, Bool.true_eq_false, Bool.false_eq_true, eq_self, m1_ne, m1_ne2, m1_lt, m1_le, lt_m1, m1_le2, bI_t, bI_f, LK_st, hs, p1, p2, p3, s1, s2, s3, hw, h4, ho, hk, hm, hkn, hj2, hb2])
      exact hK _ _ _ _
    · have hK := fun o5 o6 cc ss => hK _ o5 o6 cc ss (by have := rep_push hr hl false; simpa [stA, stB, hb] using this)
      simp only [bI_f, stA] at hK
      have hb2 : m ≤ nm k := Int32.not_lt.mp hb
      (apply WP_runI (lv := lvK) (F := LK) LK_ok 7 80; simp (disch := first | decide | omega) only [t25_0, t25_1, t25_2, lift_c, o_inl, o_istore, s1_0, s1_s, o_iload4, o_aload0, o_getfield, o_icge, o_aload1, o_getref, o_iaload, o_lookup, o_iload3, o_ishl, o_iload5, o_iload6, o_goto, o_ior, o_icne, o_icle, o_ixor, o_ishr, o_iand, o_iload2, o_imul, o_iadd, o_isub, o_iinc4, o_ireturn, z0, z1, z2, z3, z4, z5, z6, z20, z31, runI_0, runI_c, runI_n, liftI_n, liftI_y, run_0, run_c, run_n, fxn, fxi, fxr, fxl, fxl0, ↓swi_n, ↓swi_c, nck0, nck1, nck2, nck3, List.length_cons, List.length_nil, Nat.reduceAdd, Nat.reduceSub, Nat.reduceLeDiff, Nat.reduceEqDiff, Nat.reduceLT, reduceIte, ite_true, ite_false, Nat.sub_zero, Nat.zero_le, true_and, and_true, and_self, true_or, or_true, if_true, if_false, true_implies, implies_true, not_true_eq_false, not_false_eq_true, false_implies, forall_const, ne_eq, or_self, and_false, false_and, Lt, Le, Eq', Cp, In, nI_add, nI_mul, nI_sub, nI_sub1, Neg0, bI_eq0, bI_eq1, bI_01, bft, up2_eq, up2_no, Bool.true_eq_false, Bool.false_eq_true, eq_self, m1_ne, m1_ne2, m1_lt, m1_le, lt_m1, m1_le2, bI_t, bI_f, LK_st, hs, p1, p2, p3, s1, s2, s3, hw, h4, ho, hk, hm, hkn, hj2, hb2])
      exact hK _ _ _ _
  · have hl : s.length < 32 := by simpa [dok] using hd
    by_cases hb : nm k = m
    · have hK := fun o5 o6 cc ss => hK _ o5 o6 cc ss (by have := rep_push hr hl true; simpa [stA, stB, hb] using this)
      simp only [bI_t, stA] at hK
      (apply WP_runI (lv := lvK) (F := LK) LK_ok 7 80; simp (disch := first | decide | omega) only [t25_0, t25_1, t25_2, lift_c, o_inl, o_istore, s1_0, s1_s, o_iload4, o_aload0, o_getfield, o_icge, o_aload1, o_getref, o_iaload, o_lookup, o_iload3, o_ishl, o_iload5, o_iload6, o_goto, o_ior, o_icne, o_icle, o_ixor, o_ishr, o_iand, o_iload2, o_imul, o_iadd, o_isub, o_iinc4, o_ireturn, z0, z1, z2, z3, z4, z5, z6, z20, z31, runI_0, runI_c, runI_n, liftI_n, liftI_y, run_0, run_c, run_n, fxn, fxi, fxr, fxl, fxl0, ↓swi_n, ↓swi_c, nck0, nck1, nck2, nck3, List.length_cons, List.length_nil, Nat.reduceAdd, Nat.reduceSub, Nat.reduceLeDiff, Nat.reduceEqDiff, Nat.reduceLT, reduceIte, ite_true, ite_false, Nat.sub_zero, Nat.zero_le, true_and, and_true, and_self, true_or, or_true, if_true, if_false, true_implies, implies_true, not_true_eq_false, not_false_eq_true, false_implies, forall_const, ne_eq, or_self, and_false, false_and, Lt, Le, Eq', Cp, In, nI_add, nI_mul, nI_sub, nI_sub1, Neg0, bI_eq0, bI_eq1, bI_01, bft, up2_eq, up2_no, Bool.true_eq_false, Bool.false_eq_true, eq_self, m1_ne, m1_ne2, m1_lt, m1_le, lt_m1, m1_le2, bI_t, bI_f, LK_st, hs, p1, p2, p3, s1, s2, s3, hw, h4, ho, hk, hm, hkn, hj2, hb])
      exact hK _ _ _ _
    · have hK := fun o5 o6 cc ss => hK _ o5 o6 cc ss (by have := rep_push hr hl false; simpa [stA, stB, hb] using this)
      simp only [bI_f, stA] at hK
      (apply WP_runI (lv := lvK) (F := LK) LK_ok 7 80; simp (disch := first | decide | omega) only [t25_0, t25_1, t25_2, lift_c, o_inl, o_istore, s1_0, s1_s, o_iload4, o_aload0, o_getfield, o_icge, o_aload1, o_getref, o_iaload, o_lookup, o_iload3, o_ishl, o_iload5, o_iload6, o_goto, o_ior, o_icne, o_icle, o_ixor, o_ishr, o_iand, o_iload2, o_imul, o_iadd, o_isub, o_iinc4, o_ireturn, z0, z1, z2, z3, z4, z5, z6, z20, z31, runI_0, runI_c, runI_n, liftI_n, liftI_y, run_0, run_c, run_n, fxn, fxi, fxr, fxl, fxl0, ↓swi_n, ↓swi_c, nck0, nck1, nck2, nck3, List.length_cons, List.length_nil, Nat.reduceAdd, Nat.reduceSub, Nat.reduceLeDiff, Nat.reduceEqDiff, Nat.reduceLT, reduceIte, ite_true, ite_false, Nat.sub_zero, Nat.zero_le, true_and, and_true, and_self, true_or, or_true, if_true, if_false, true_implies, implies_true, not_true_eq_false, not_false_eq_true, false_implies, forall_const, ne_eq, or_self, and_false, false_and, Lt, Le, Eq', Cp, In, nI_add, nI_mul, nI_sub, nI_sub1, Neg0, bI_eq0, bI_eq1, bI_01, bft, up2_eq, up2_no, Bool.true_eq_false, Bool.false_eq_true, eq_self, m1_ne, m1_ne2, m1_lt, m1_le, lt_m1, m1_le2, bI_t, bI_f, LK_st, hs, p1, p2, p3, s1, s2, s3, hw, h4, ho, hk, hm, hkn, hj2, hb])
      exact hK _ _ _ _
  · have hl : s.length < 32 := by simpa [dok] using hd
    by_cases hb : m < nm k
    · have hK := fun o5 o6 cc ss => hK _ o5 o6 cc ss (by have := rep_push hr hl true; simpa [stA, stB, hb] using this)
      simp only [bI_t, stA] at hK
      have hb2 : ¬ nm k ≤ m := Int32.not_le.mpr hb
      (apply WP_runI (lv := lvK) (F := LK) LK_ok 7 80; simp (disch := first | decide | omega) only [t25_0, t25_1, t25_2, lift_c, o_inl, o_istore, s1_0, s1_s, o_iload4, o_aload0, o_getfield, o_icge, o_aload1, o_getref, o_iaload, o_lookup, o_iload3, o_ishl, o_iload5, o_iload6, o_goto, o_ior, o_icne, o_icle, o_ixor, o_ishr, o_iand, o_iload2, o_imul, o_iadd, o_isub, o_iinc4, o_ireturn, z0, z1, z2, z3, z4, z5, z6, z20, z31, runI_0, runI_c, runI_n, liftI_n, liftI_y, run_0, run_c, run_n, fxn, fxi, fxr, fxl, fxl0, ↓swi_n, ↓swi_c, nck0, nck1, nck2, nck3, List.length_cons, List.length_nil, Nat.reduceAdd, Nat.reduceSub, Nat.reduceLeDiff, Nat.reduceEqDiff, Nat.reduceLT, reduceIte, ite_true, ite_false, Nat.sub_zero, Nat.zero_le, true_and, and_true, and_self, true_or, or_true, if_true, if_false, true_implies, implies_true, not_true_eq_false, not_false_eq_true, false_implies, forall_const, ne_eq, or_self, and_false, false_and, Lt, Le, Eq', Cp, In, nI_add, nI_mul, nI_sub, nI_sub1, Neg0, bI_eq0, bI_eq1, bI_01, bft, up2_eq, up2_no, Bool.true_eq_false, Bool.false_eq_true, eq_self, m1_ne, m1_ne2, m1_lt, m1_le, lt_m1, m1_le2, bI_t, bI_f, LK_st, hs, p1, p2, p3, s1, s2, s3, hw, h4, ho, hk, hm, hkn, hj2, hb2])
      exact hK _ _ _ _
    · have hK := fun o5 o6 cc ss => hK _ o5 o6 cc ss (by have := rep_push hr hl false; simpa [stA, stB, hb] using this)
      simp only [bI_f, stA] at hK
      have hb2 : nm k ≤ m := Int32.not_lt.mp hb
      (apply WP_runI (lv := lvK) (F := LK) LK_ok 7 80; simp (disch := first | decide | omega) only [t25_0, t25_1, t25_2, lift_c, o_inl, o_istore, s1_0, s1_s, o_iload4, o_aload0, o_getfield, o_icge, o_aload1, o_getref, o_iaload, o_lookup, o_iload3, o_ishl, o_iload5, o_iload6, o_goto, o_ior, o_icne, o_icle, o_ixor, o_ishr, o_iand, o_iload2, o_imul, o_iadd, o_isub, o_iinc4, o_ireturn, z0, z1, z2, z3, z4, z5, z6, z20, z31, runI_0, runI_c, runI_n, liftI_n, liftI_y, run_0, run_c, run_n, fxn, fxi, fxr, fxl, fxl0, ↓swi_n, ↓swi_c, nck0, nck1, nck2, nck3, List.length_cons, List.length_nil, Nat.reduceAdd, Nat.reduceSub, Nat.reduceLeDiff, Nat.reduceEqDiff, Nat.reduceLT, reduceIte, ite_true, ite_false, Nat.sub_zero, Nat.zero_le, true_and, and_true, and_self, true_or, or_true, if_true, if_false, true_implies, implies_true, not_true_eq_false, not_false_eq_true, false_implies, forall_const, ne_eq, or_self, and_false, false_and, Lt, Le, Eq', Cp, In, nI_add, nI_mul, nI_sub, nI_sub1, Neg0, bI_eq0, bI_eq1, bI_01, bft, up2_eq, up2_no, Bool.true_eq_false, Bool.false_eq_true, eq_self, m1_ne, m1_ne2, m1_lt, m1_le, lt_m1, m1_le2, bI_t, bI_f, LK_st, hs, p1, p2, p3, s1, s2, s3, hw, h4, ho, hk, hm, hkn, hj2, hb2])
      exact hK _ _ _ _
  · have hl : 1 ≤ s.length := by simpa [dok] using hd
    match s, hr, hl, hK with
    | b :: s, hr, hl, hK =>
      have hK := fun o5 o6 cc ss => hK _ o5 o6 cc ss (rep_not hr)
      (apply WP_runI (lv := lvK) (F := LK) LK_ok 7 80; simp (disch := first | decide | omega) only [t25_0, t25_1, t25_2, lift_c, o_inl, o_istore, s1_0, s1_s, o_iload4, o_aload0, o_getfield, o_icge, o_aload1, o_getref, o_iaload, o_lookup, o_iload3, o_ishl, o_iload5, o_iload6, o_goto, o_ior, o_icne, o_icle, o_ixor, o_ishr, o_iand, o_iload2, o_imul, o_iadd, o_isub, o_iinc4, o_ireturn, z0, z1, z2, z3, z4, z5, z6, z20, z31, runI_0, runI_c, runI_n, liftI_n, liftI_y, run_0, run_c, run_n, fxn, fxi, fxr, fxl, fxl0, ↓swi_n, ↓swi_c, nck0, nck1, nck2, nck3, List.length_cons, List.length_nil, Nat.reduceAdd, Nat.reduceSub, Nat.reduceLeDiff, Nat.reduceEqDiff, Nat.reduceLT, reduceIte, ite_true, ite_false, Nat.sub_zero, Nat.zero_le, true_and, and_true, and_self, true_or, or_true, if_true, if_false, true_implies, implies_true, not_true_eq_false, not_false_eq_true, false_implies, forall_const, ne_eq, or_self, and_false, false_and, Lt, Le, Eq', Cp, In, nI_add, nI_mul, nI_sub, nI_sub1, Neg0, bI_eq0, bI_eq1, bI_01, bft, up2_eq, up2_no, Bool.true_eq_false, Bool.false_eq_true, eq_self, m1_ne, m1_ne2, m1_lt, m1_le, lt_m1, m1_le2, bI_t, bI_f, LK_st, hs, p1, p2, p3, s1, s2, s3, hw, h4, ho, hk, hm, hkn, hj2])
      exact hK _ _ _ _
  · have hl : 2 ≤ s.length := by simpa [dok] using hd
    match s, hr, hl, hK with
    | b :: a :: s, hr, hl, hK =>
      have hK := fun o5 o6 cc ss => hK _ o5 o6 cc ss (rep_and hr)
      (apply WP_runI (lv := lvK) (F := LK) LK_ok 7 80; simp (disch := first | decide | omega) only [t25_0, t25_1, t25_2, lift_c, o_inl, o_istore, s1_0, s1_s, o_iload4, o_aload0, o_getfield, o_icge, o_aload1, o_getref, o_iaload, o_lookup, o_iload3, o_ishl, o_iload5, o_iload6, o_goto, o_ior, o_icne, o_icle, o_ixor, o_ishr, o_iand, o_iload2, o_imul, o_iadd, o_isub, o_iinc4, o_ireturn, z0, z1, z2, z3, z4, z5, z6, z20, z31, runI_0, runI_c, runI_n, liftI_n, liftI_y, run_0, run_c, run_n, fxn, fxi, fxr, fxl, fxl0, ↓swi_n, ↓swi_c, nck0, nck1, nck2, nck3, List.length_cons, List.length_nil, Nat.reduceAdd, Nat.reduceSub, Nat.reduceLeDiff, Nat.reduceEqDiff, Nat.reduceLT, reduceIte, ite_true, ite_false, Nat.sub_zero, Nat.zero_le, true_and, and_true, and_self, true_or, or_true, if_true, if_false, true_implies, implies_true, not_true_eq_false, not_false_eq_true, false_implies, forall_const, ne_eq, or_self, and_false, false_and, Lt, Le, Eq', Cp, In, nI_add, nI_mul, nI_sub, nI_sub1, Neg0, bI_eq0, bI_eq1, bI_01, bft, up2_eq, up2_no, Bool.true_eq_false, Bool.false_eq_true, eq_self, m1_ne, m1_ne2, m1_lt, m1_le, lt_m1, m1_le2, bI_t, bI_f, LK_st, hs, p1, p2, p3, s1, s2, s3, hw, h4, ho, hk, hm, hkn, hj2])
      exact hK _ _ _ _
  · have hl : 2 ≤ s.length := by simpa [dok] using hd
    match s, hr, hl, hK with
    | b :: a :: s, hr, hl, hK =>
      have hK := fun o5 o6 cc ss => hK _ o5 o6 cc ss (rep_or hr)
      (apply WP_runI (lv := lvK) (F := LK) LK_ok 7 80; simp (disch := first | decide | omega) only [t25_0, t25_1, t25_2, lift_c, o_inl, o_istore, s1_0, s1_s, o_iload4, o_aload0, o_getfield, o_icge, o_aload1, o_getref, o_iaload, o_lookup, o_iload3, o_ishl, o_iload5, o_iload6, o_goto, o_ior, o_icne, o_icle, o_ixor, o_ishr, o_iand, o_iload2, o_imul, o_iadd, o_isub, o_iinc4, o_ireturn, z0, z1, z2, z3, z4, z5, z6, z20, z31, runI_0, runI_c, runI_n, liftI_n, liftI_y, run_0, run_c, run_n, fxn, fxi, fxr, fxl, fxl0, ↓swi_n, ↓swi_c, nck0, nck1, nck2, nck3, List.length_cons, List.length_nil, Nat.reduceAdd, Nat.reduceSub, Nat.reduceLeDiff, Nat.reduceEqDiff, Nat.reduceLT, reduceIte, ite_true, ite_false, Nat.sub_zero, Nat.zero_le, true_and, and_true, and_self, true_or, or_true, if_true, if_false, true_implies, implies_true, not_true_eq_false, not_false_eq_true, false_implies, forall_const, ne_eq, or_self, and_false, false_and, Lt, Le, Eq', Cp, In, nI_add, nI_mul, nI_sub, nI_sub1, Neg0, bI_eq0, bI_eq1, bI_01, bft, up2_eq, up2_no, Bool.true_eq_false, Bool.false_eq_true, eq_self, m1_ne, m1_ne2, m1_lt, m1_le, lt_m1, m1_le2, bI_t, bI_f, LK_st, hs, p1, p2, p3, s1, s2, s3, hw, h4, ho, hk, hm, hkn, hj2])
      exact hK _ _ _ _
  · have hl : 1 ≤ s.length := by simpa [dok] using hd
    match s, hr, hl, hK with
    | b :: s, hr, hl, hK =>
      have hK := fun o5 o6 cc ss => hK _ o5 o6 cc ss (rep_tail hr)
      have e : (stA nm (6, k, m) (b :: s, v)).2 = v + bI b * m := by rw [bI_mul]; rfl
      rw [e, ← rep_low hr] at hK
      (apply WP_runI (lv := lvK) (F := LK) LK_ok 7 80; simp (disch := first | decide | omega) only [t25_0, t25_1, t25_2, lift_c, o_inl, o_istore, s1_0, s1_s, o_iload4, o_aload0, o_getfield, o_icge, o_aload1, o_getref, o_iaload, o_lookup, o_iload3, o_ishl, o_iload5, o_iload6, o_goto, o_ior, o_icne, o_icle, o_ixor, o_ishr, o_iand, o_iload2, o_imul, o_iadd, o_isub, o_iinc4, o_ireturn, z0, z1, z2, z3, z4, z5, z6, z20, z31, runI_0, runI_c, runI_n, liftI_n, liftI_y, run_0, run_c, run_n, fxn, fxi, fxr, fxl, fxl0, ↓swi_n, ↓swi_c, nck0, nck1, nck2, nck3, List.length_cons, List.length_nil, Nat.reduceAdd, Nat.reduceSub, Nat.reduceLeDiff, Nat.reduceEqDiff, Nat.reduceLT, reduceIte, ite_true, ite_false, Nat.sub_zero, Nat.zero_le, true_and, and_true, and_self, true_or, or_true, if_true, if_false, true_implies, implies_true, not_true_eq_false, not_false_eq_true, false_implies, forall_const, ne_eq, or_self, and_false, false_and, Lt, Le, Eq', Cp, In, nI_add, nI_mul, nI_sub, nI_sub1, Neg0, bI_eq0, bI_eq1, bI_01, bft, up2_eq, up2_no, Bool.true_eq_false, Bool.false_eq_true, eq_self, m1_ne, m1_ne2, m1_lt, m1_le, lt_m1, m1_le2, bI_t, bI_f, LK_st, hs, p1, p2, p3, s1, s2, s3, hw, h4, ho, hk, hm, hkn, hj2])
      exact hK _ _ _ _
  · have hl : 1 ≤ s.length := by simpa [dok] using hd
    match s, hr, hl, hK with
    | b :: s, hr, hl, hK =>
      have hK := fun o5 o6 cc ss => hK _ o5 o6 cc ss (rep_tail hr)
      have e : (stA nm (7, k, m) (b :: s, v)).2 = v - bI b * m := by rw [bI_mul]; rfl
      rw [e, ← rep_low hr] at hK
      (apply WP_runI (lv := lvK) (F := LK) LK_ok 7 80; simp (disch := first | decide | omega) only [t25_0, t25_1, t25_2, lift_c, o_inl, o_istore, s1_0, s1_s, o_iload4, o_aload0, o_getfield, o_icge, o_aload1, o_getref, o_iaload, o_lookup, o_iload3, o_ishl, o_iload5, o_iload6, o_goto, o_ior, o_icne, o_icle, o_ixor, o_ishr, o_iand, o_iload2, o_imul, o_iadd, o_isub, o_iinc4, o_ireturn, z0, z1, z2, z3, z4, z5, z6, z20, z31, runI_0, runI_c, runI_n, liftI_n, liftI_y, run_0, run_c, run_n, fxn, fxi, fxr, fxl, fxl0, ↓swi_n, ↓swi_c, nck0, nck1, nck2, nck3, List.length_cons, List.length_nil, Nat.reduceAdd, Nat.reduceSub, Nat.reduceLeDiff, Nat.reduceEqDiff, Nat.reduceLT, reduceIte, ite_true, ite_false, Nat.sub_zero, Nat.zero_le, true_and, and_true, and_self, true_or, or_true, if_true, if_false, true_implies, implies_true, not_true_eq_false, not_false_eq_true, false_implies, forall_const, ne_eq, or_self, and_false, false_and, Lt, Le, Eq', Cp, In, nI_add, nI_mul, nI_sub, nI_sub1, Neg0, bI_eq0, bI_eq1, bI_01, bft, up2_eq, up2_no, Bool.true_eq_false, Bool.false_eq_true, eq_self, m1_ne, m1_ne2, m1_lt, m1_le, lt_m1, m1_le2, bI_t, bI_f, LK_st, hs, p1, p2, p3, s1, s2, s3, hw, h4, ho, hk, hm, hkn, hj2])
      exact hK _ _ _ _
end
