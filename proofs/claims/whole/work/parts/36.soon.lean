/-! ### the reference: what comes of hours that are laid back -/
def scA (a j : Nat) : Prop := scR a j ∨ a = 125 ∨ a = 135
def scW (a j : Nat) : Prop := scA a j ∨ a = 124
theorem scA_124 (j : Nat) : ¬ scA 124 j := fun q => by rcases q with q | q | q; exact scR_124 j q; omega; omega
theorem scW_128 (j : Nat) : ¬ scW 128 j := fun q => by
  rcases q with (q | q | q) | q
  · exact scR_128 j q
  all_goals omega
theorem scW_129 (j : Nat) : ¬ scW 129 j := fun q => by
  rcases q with (q | q | q) | q
  · exact scR_129 j q
  all_goals omega
theorem scW_g {a j : Nat} (h : scW a j) : ¬ (128 ≤ a ∧ a ≤ 129 ∨ 132 ≤ a ∧ a ≤ 134) := by
  rcases h with (h | h | h) | h
  · exact scR_g h
  all_goals omega
theorem scA_W {a j : Nat} (h : scA a j) : scW a j := Or.inl h
theorem scR_A {a j : Nat} (h : scR a j) : scA a j := Or.inl h
theorem scH_W {a j : Nat} (h : scH a j) : scW a j := by
  rcases h with h | h
  · exact Or.inl (Or.inl h)
  · exact Or.inr h
/-- the row, the rules, what they are worth -/
def BK (I : TI) (F : TF) (E : Nat → Int32) (k g r : Nat) : Prop := WF (I 124) k g r ∧ RG I r ∧ FF (I 128) (I 129) = F ∧ EE (I 128) (I 129) = E
theorem BK.eo {I I' : TI} {F : TF} {E : Nat → Int32} {k g r : Nat} (h : BK I F E k g r) (he : Eo scW I I') (hW : WF (I' 124) k g r) : BK I' F E k g r :=
  ⟨hW, h.2.1.eo he fun _ _ => scW_g, by rw [row_eo he 128 scW_128, row_eo he 129 scW_129]; exact h.2.2.1, by rw [row_eo he 128 scW_128, row_eo he 129 scW_129]; exact h.2.2.2⟩
theorem BK.eoA {I I' : TI} {F : TF} {E : Nat → Int32} {k g r : Nat} (h : BK I F E k g r) (he : Eo scA I I') : BK I' F E k g r :=
  h.eo (he.mono fun _ _ => scA_W) (by rw [row_eo he 124 scA_124]; exact h.1)
theorem BK.eok {I : TI} {F : TF} {E : Nat → Int32} {k g r : Nat} (h : BK I F E k g r) (u : Nat) : eOK (E u) := by rw [← h.2.2.2]; exact EE_rng _ _ _
theorem BK.we {I : TI} {F : TF} {E : Nat → Int32} {k g r : Nat} (h : BK I F E k g r) : WFe (I 124) := ⟨k, g, r, h.1⟩
def AH (I0 I : TI) (N : TN) (k g r : Nat) : Prop := Eo scW I0 I ∧ I 124 = N ∧ (∀ j, j < 138 → I 125 j = I0 124 j) ∧ (∀ j, 138 ≤ j → N j = I0 124 j) ∧ WF N k g r
theorem AH.we {I0 I : TI} {N : TN} {k g r : Nat} (h : AH I0 I N k g r) : WFe N := ⟨k, g, r, h.2.2.2.2⟩
theorem AH.start {I : TI} {F : TF} {E : Nat → Int32} {k g r : Nat} (h : BK I F E k g r) : AH I (cpy2 I 124 0 125 0 138) (I 124) k g r :=
  ⟨Eo.cp Eo.rf fun j _ _ => Or.inl (Or.inr (Or.inl rfl)), cpy2_row _ _ _ _ _ _ _ (by decide), fun j hj => by
    show (if 125 = 125 ∧ 0 ≤ j ∧ j < 0 + 138 then I 124 (0 + (j - 0)) else I 125 j) = I 124 j
    rw [if_pos ⟨rfl, by omega, by omega⟩]
    simp, fun j hj => rfl, h.1⟩
theorem AH.fin {I0 I : TI} {N : TN} {k g r : Nat} (h : AH I0 I N k g r) : Eo scA I0 (cpy2 I 125 0 124 0 138) := fun a j q => by
  show (if a = 124 ∧ 0 ≤ j ∧ j < 0 + 138 then I 125 (0 + (j - 0)) else I a j) = I0 a j
  by_cases e : a = 124
  · subst e
    by_cases hj : j < 138
    · rw [if_pos ⟨rfl, by omega, by omega⟩]
      simpa using h.2.2.1 j hj
    · rw [if_neg (by omega), h.2.1]
      exact h.2.2.2.1 j (by omega)
  · rw [if_neg (by omega)]
    exact h.1 a j fun q2 => by
      rcases q2 with q2 | q2
      · exact q q2
      · exact e q2
theorem AH.up {I0 I : TI} {N : TN} {k g r p : Nat} {v : Int32} (h : AH I0 I N k g r) (hp : p < 138) (hW : WF (upN N p v) k g r) : AH I0 (up2 I 124 p v) (upN N p v) k g r :=
  ⟨h.1.up (Or.inr rfl) _, by rw [up2_upN, h.2.1], fun j hj => (up2_no _ _ _ _ _ _ (by omega)).trans (h.2.2.1 j hj), fun j hj => (upN_no _ _ _ _ (by omega)).trans (h.2.2.2.1 j hj), hW⟩
theorem AH.eo {I0 I I' : TI} {N : TN} {k g r : Nat} (h : AH I0 I N k g r) (he : Eo (fun a _ => a = 135) I I') : AH I0 I' N k g r :=
  ⟨h.1.tr (he.mono fun a j q => Or.inl (Or.inr (Or.inr q))), (row_eo he 124 fun j q => by omega).trans h.2.1, fun j hj => (he 125 j (by omega)).trans (h.2.2.1 j hj), h.2.2.2.1, h.2.2.2.2⟩
set_option maxHeartbeats 200000 in
theorem hourL_hi {F : TF} {e : Int32} (he : eOK e) {N : TN} {k g r : Nat} (hW : WF N k g r) {j : Nat} (hj : 138 ≤ j) : ∀ i, i ≤ k → hourL F e N i j = N j
  | 0, _ => by rw [hourL]
  | i + 1, hi => by
    have ih := hourL_hi (F := F) he hW hj i (by omega)
    have hW2 := WF_hourL (F := F) he hW i (by omega)
    have hg := goS_lt (F := F) hW2 (show i < k by omega)
    have hk := hW.k6
    rw [hourL_s]
    generalize goS F (hourL F e N i) i = c at hg ⊢
    split
    · exact ih
    · rw [upN_no _ _ _ _ (by omega), upN_no _ _ _ _ (by omega)]
      exact ih
set_option maxHeartbeats 200000 in
theorem hour_hi {F : TF} {E : Nat → Int32} (he : ∀ u, eOK (E u)) {N : TN} {k g r : Nat} (hW : WF N k g r) {j : Nat} (hj : 138 ≤ j) : hourS F E N j = N j := by
  unfold hourS
  rw [upN_no _ _ _ _ (by omega), hW.cn]
  exact hourL_hi (he _) hW hj k (Nat.le_refl k)
section
variable {G : GE} {d n : Nat} {sh : TS} {I : TI} {L : TL} {P : TP} {Q : TQ} {F : TF} {E : Nat → Int32} {k g r : Nat}
set_option maxHeartbeats 200000 in
theorem hour_A (hF : FM sh P) {I0 : TI} {N : TN} (hB : BK I0 F E k g r) (ha : AH I0 I N k g r) (hd : 36 ≤ d) (hQ : ∀ I', AH I0 I' (hourS F E N) k g r → (∀ j, I' 135 j = I 135 j) → Q none n sh I' L P) : Cl G d 159 [.ref 123] n sh I L P Q := by
  have hB2 := hB.eo ha.1 (by rw [ha.2.1]; exact ha.2.2.2.2)
  refine hour_M hF hB2.1 hB2.2.1 hB2.2.2.1 hB2.2.2.2 hd fun I' he h124 => hQ I' ?_ fun j => he 135 j fun q => by rcases q with (q | q | q) | q <;> omega
  refine ⟨ha.1.tr (he.mono fun _ _ => scH_W), by rw [h124, ha.2.1], fun j hj => (he 125 j fun q => ?_).trans (ha.2.2.1 j hj), fun j hj => (hour_hi hB.eok ha.2.2.2.2 hj).trans (ha.2.2.2.1 j hj), WF_hour hB.eok ha.2.2.2.2⟩
  rcases q with (q | q | q) | q <;> omega
theorem n5_ne (k : Nat) (h : k < 2 ^ 31) : (nI k = -nI 5) = False := eq_false fun e => by
  have := congrArg Int32.toInt e
  rw [nI_toInt h, show (-nI 5 : Int32).toInt = -5 by decide] at this
  omega
theorem n5_ne2 (k : Nat) (h : k < 2 ^ 31) : (-nI 5 = nI k) = False := by
  rw [← n5_ne k h]
  exact propext ⟨Eq.symm, Eq.symm⟩
/-! the fewest hours behind which a gate is open -/
def soonL (F : TF) (E : Nat → Int32) (N : TN) (x : Int32) : Nat → Nat → Int32
  | 0, _ => -nI 5
  | m + 1, j => if bt (openS (hoursS F E N j)) x = true then nI j else soonL F E N x m (j + 1)
def soonS (F : TF) (E : Nat → Int32) (N : TN) (x : Int32) : Int32 := soonL F E N x 21 0
set_option maxHeartbeats 200000 in
theorem soon_M (hF : FM sh P) (hB : BK I F E k g r) {x : Int32} (hd : 37 ≤ d) (hQ : ∀ I', Eo scA I I' → Q (some (.int (soonS F E (I 124) x))) n sh I' L P) : Cl G d 162 [.ref 123, .int x] n sh I L P Q := by
  apply e162
  have hd0 : 0 < d := by omega
  generalize hv : soonS F E (I 124) x = v at hQ
  have fin : ∀ w I1 M cc ss, AH I I1 M k g r → WP G 162 d Q 51 [some (.ref 123), some (.int x), some (.int v), some (.int (nI w))] [] cc ss n sh I1 L P := by
    intro w I1 M cc ss ha
    have hQ := hQ _ ha.fin
    (apply WP_runI (lv := lvN) LN_ok 999 200; simp (disch := first | decide | omega) only [t162_0, lift_c, o_aload0, o_inl, o_virt2, rpush_n, rpush_s, o_istore, s1_0, s1_s, o_iload3, o_icgt, o_iload2, o_icne, o_virt1, o_iload1, o_ishr, o_iand, o_goto, o_iinc3, o_ireturn, z0, z1, z2, z5, z20, z31, runI_0, runI_c, runI_n, liftI_n, liftI_y, run_0, run_c, run_n, fxn, fxi, fxr, fxl, fxl0, ↓swi_n, ↓swi_c, nck0, nck1, nck2, nck3, List.length_cons, List.length_nil, Nat.reduceAdd, Nat.reduceSub, Nat.reduceLeDiff, Nat.reduceEqDiff, Nat.reduceLT, reduceIte, ite_true, ite_false, Nat.sub_zero, Nat.zero_le, true_and, and_true, and_self, true_or, or_true, if_true, if_false, true_implies, implies_true, not_true_eq_false, not_false_eq_true, false_implies, forall_const, ne_eq, or_self, and_false, false_and, Lt, Le, Eq', Cp, In, nI_add, nI_mul, nI_sub, nI_sub1, Neg0, bI_eq0, bI_eq1, bI_01, bft, up2_eq, up2_no, Bool.true_eq_false, Bool.false_eq_true, eq_self, m1_ne, m1_ne2, m1_lt, m1_le, lt_m1, m1_le2, bI_t, bI_f, LM_all hF, LN_all hF, FMu hF, hd0])
    exact hQ
  have loop : ∀ m j I1 cc ss, j + m = 21 → AH I I1 (hoursS F E (I 124) j) k g r → soonL F E (I 124) x m j = v → WP G 162 d Q 10 [some (.ref 123), some (.int x), some (.int (-nI 5)), some (.int (nI j))] [] cc ss n sh I1 L P := by
    intro m
    induction m with
    | zero =>
      intro j I1 cc ss h ha hs
      have hj : 20 < j := by omega
      have fin := fun cc ss => fin j I1 _ cc ss ha
      rw [← show -nI 5 = v from hs] at fin
      (apply WP_runI (lv := lvN) LN_ok 51 200; simp (disch := first | decide | omega) only [t162_0, lift_c, o_aload0, o_inl, o_virt2, rpush_n, rpush_s, o_istore, s1_0, s1_s, o_iload3, o_icgt, o_iload2, o_icne, o_virt1, o_iload1, o_ishr, o_iand, o_goto, o_iinc3, o_ireturn, z0, z1, z2, z5, z20, z31, runI_0, runI_c, runI_n, liftI_n, liftI_y, run_0, run_c, run_n, fxn, fxi, fxr, fxl, fxl0, ↓swi_n, ↓swi_c, nck0, nck1, nck2, nck3, List.length_cons, List.length_nil, Nat.reduceAdd, Nat.reduceSub, Nat.reduceLeDiff, Nat.reduceEqDiff, Nat.reduceLT, reduceIte, ite_true, ite_false, Nat.sub_zero, Nat.zero_le, true_and, and_true, and_self, true_or, or_true, if_true, if_false, true_implies, implies_true, not_true_eq_false, not_false_eq_true, false_implies, forall_const, ne_eq, or_self, and_false, false_and, Lt, Le, Eq', Cp, In, nI_add, nI_mul, nI_sub, nI_sub1, Neg0, bI_eq0, bI_eq1, bI_01, bft, up2_eq, up2_no, Bool.true_eq_false, Bool.false_eq_true, eq_self, m1_ne, m1_ne2, m1_lt, m1_le, lt_m1, m1_le2, bI_t, bI_f, LM_all hF, LN_all hF, FMu hF, hd0, hj])
      exact fin _ _
    | succ m ih =>
      intro j I1 cc ss h ha hs
      have hj : ¬ 20 < j := by omega
      have h124 := ha.2.1
      have hWe := ha.we
      rw [soonL] at hs
      (apply WP_runI (lv := lvN) LN_ok 10 200; simp (disch := first | decide | omega) only [t162_0, lift_c, o_aload0, o_inl, o_virt2, rpush_n, rpush_s, o_istore, s1_0, s1_s, o_iload3, o_icgt, o_iload2, o_icne, o_virt1, o_iload1, o_ishr, o_iand, o_goto, o_iinc3, o_ireturn, z0, z1, z2, z5, z20, z31, runI_0, runI_c, runI_n, liftI_n, liftI_y, run_0, run_c, run_n, fxn, fxi, fxr, fxl, fxl0, ↓swi_n, ↓swi_c, nck0, nck1, nck2, nck3, List.length_cons, List.length_nil, Nat.reduceAdd, Nat.reduceSub, Nat.reduceLeDiff, Nat.reduceEqDiff, Nat.reduceLT, reduceIte, ite_true, ite_false, Nat.sub_zero, Nat.zero_le, true_and, and_true, and_self, true_or, or_true, if_true, if_false, true_implies, implies_true, not_true_eq_false, not_false_eq_true, false_implies, forall_const, ne_eq, or_self, and_false, false_and, Lt, Le, Eq', Cp, In, nI_add, nI_mul, nI_sub, nI_sub1, Neg0, bI_eq0, bI_eq1, bI_01, bft, up2_eq, up2_no, Bool.true_eq_false, Bool.false_eq_true, eq_self, m1_ne, m1_ne2, m1_lt, m1_le, lt_m1, m1_le2, bI_t, bI_f, LM_all hF, LN_all hF, FMu hF, hd0, hj, h124, hWe])
      refine ⟨fun hb => ?_, fun hb => ?_⟩
      · rw [if_pos (show bt _ x = true from decide_eq_true hb)] at hs
        refine hour_A hF hB ha (by omega) fun I2 ha2 _ => ?_
        have fin := fun cc ss => fin (j + 1) I2 _ cc ss ha2
        rw [← hs] at fin
        (apply WP_runI (lv := lvN) LN_ok 51 200; simp (disch := first | decide | omega) only [t162_0, lift_c, o_aload0, o_inl, o_virt2, rpush_n, rpush_s, o_istore, s1_0, s1_s, o_iload3, o_icgt, o_iload2, o_icne, o_virt1, o_iload1, o_ishr, o_iand, o_goto, o_iinc3, o_ireturn, z0, z1, z2, z5, z20, z31, runI_0, runI_c, runI_n, liftI_n, liftI_y, run_0, run_c, run_n, fxn, fxi, fxr, fxl, fxl0, ↓swi_n, ↓swi_c, nck0, nck1, nck2, nck3, List.length_cons, List.length_nil, Nat.reduceAdd, Nat.reduceSub, Nat.reduceLeDiff, Nat.reduceEqDiff, Nat.reduceLT, reduceIte, ite_true, ite_false, Nat.sub_zero, Nat.zero_le, true_and, and_true, and_self, true_or, or_true, if_true, if_false, true_implies, implies_true, not_true_eq_false, not_false_eq_true, false_implies, forall_const, ne_eq, or_self, and_false, false_and, Lt, Le, Eq', Cp, In, nI_add, nI_mul, nI_sub, nI_sub1, Neg0, bI_eq0, bI_eq1, bI_01, bft, up2_eq, up2_no, Bool.true_eq_false, Bool.false_eq_true, eq_self, m1_ne, m1_ne2, m1_lt, m1_le, lt_m1, m1_le2, bI_t, bI_f, LM_all hF, LN_all hF, FMu hF, hd0, n5_ne])
        exact ⟨fun _ => fin _ _, fun _ => fin _ _⟩
      · rw [if_neg (show ¬ bt _ x = true from fun q => hb (of_decide_eq_true q))] at hs
        refine hour_A hF hB ha (by omega) fun I2 ha2 _ => ?_
        have ih := fun cc ss => ih (j + 1) I2 cc ss (by omega) ha2 hs
        (apply WP_runI (lv := lvN) LN_ok 10 200; simp (disch := first | decide | omega) only [t162_0, lift_c, o_aload0, o_inl, o_virt2, rpush_n, rpush_s, o_istore, s1_0, s1_s, o_iload3, o_icgt, o_iload2, o_icne, o_virt1, o_iload1, o_ishr, o_iand, o_goto, o_iinc3, o_ireturn, z0, z1, z2, z5, z20, z31, runI_0, runI_c, runI_n, liftI_n, liftI_y, run_0, run_c, run_n, fxn, fxi, fxr, fxl, fxl0, ↓swi_n, ↓swi_c, nck0, nck1, nck2, nck3, List.length_cons, List.length_nil, Nat.reduceAdd, Nat.reduceSub, Nat.reduceLeDiff, Nat.reduceEqDiff, Nat.reduceLT, reduceIte, ite_true, ite_false, Nat.sub_zero, Nat.zero_le, true_and, and_true, and_self, true_or, or_true, if_true, if_false, true_implies, implies_true, not_true_eq_false, not_false_eq_true, false_implies, forall_const, ne_eq, or_self, and_false, false_and, Lt, Le, Eq', Cp, In, nI_add, nI_mul, nI_sub, nI_sub1, Neg0, bI_eq0, bI_eq1, bI_01, bft, up2_eq, up2_no, Bool.true_eq_false, Bool.false_eq_true, eq_self, m1_ne, m1_ne2, m1_lt, m1_le, lt_m1, m1_le2, bI_t, bI_f, LM_all hF, LN_all hF, FMu hF, hd0])
        exact ih _ _
  have ha := AH.start hB
  (apply WP_runI (lv := lvN) LN_ok 10 200; simp (disch := first | decide | omega) only [t162_0, lift_c, o_aload0, o_inl, o_virt2, rpush_n, rpush_s, o_istore, s1_0, s1_s, o_iload3, o_icgt, o_iload2, o_icne, o_virt1, o_iload1, o_ishr, o_iand, o_goto, o_iinc3, o_ireturn, z0, z1, z2, z5, z20, z31, runI_0, runI_c, runI_n, liftI_n, liftI_y, run_0, run_c, run_n, fxn, fxi, fxr, fxl, fxl0, ↓swi_n, ↓swi_c, nck0, nck1, nck2, nck3, List.length_cons, List.length_nil, Nat.reduceAdd, Nat.reduceSub, Nat.reduceLeDiff, Nat.reduceEqDiff, Nat.reduceLT, reduceIte, ite_true, ite_false, Nat.sub_zero, Nat.zero_le, true_and, and_true, and_self, true_or, or_true, if_true, if_false, true_implies, implies_true, not_true_eq_false, not_false_eq_true, false_implies, forall_const, ne_eq, or_self, and_false, false_and, Lt, Le, Eq', Cp, In, nI_add, nI_mul, nI_sub, nI_sub1, Neg0, bI_eq0, bI_eq1, bI_01, bft, up2_eq, up2_no, Bool.true_eq_false, Bool.false_eq_true, eq_self, m1_ne, m1_ne2, m1_lt, m1_le, lt_m1, m1_le2, bI_t, bI_f, LM_all hF, LN_all hF, FMu hF, hd0])
  generalize cpy2 I 124 0 125 0 138 = I1 at ha ⊢
  exact loop 21 0 I1 _ _ (by omega) ha hv
/-! gates that are not open in all that time -/
def shutL (F : TF) (E : Nat → Int32) (N : TN) : Nat → Int32
  | 0 => nI 1 <<< (N 81 &&& nI 31) - nI 1
  | j + 1 => shutL F E N j &&& (openS (hoursS F E N j) ^^^ -nI 1)
set_option maxHeartbeats 200000 in
theorem shut_M (hF : FM sh P) (hB : BK I F E k g r) (hd : 37 ≤ d) (hQ : ∀ I', Eo scA I I' → Q (some (.int (shutL F E (I 124) 21))) n sh I' L P) : Cl G d 163 [.ref 123] n sh I L P Q := by
  apply e163
  have hd0 : 0 < d := by omega
  have loop : ∀ m j I1 cc ss, j + m = 21 → AH I I1 (hoursS F E (I 124) j) k g r → WP G 163 d Q 19 [some (.ref 123), some (.int (shutL F E (I 124) j)), some (.int (nI j))] [] cc ss n sh I1 L P := by
    intro m
    induction m with
    | zero =>
      intro j I1 cc ss h ha
      have hj : 20 < j := by omega
      have hQ := hQ _ ha.fin
      rw [show shutL F E (I 124) 21 = shutL F E (I 124) j by rw [show j = 21 by omega]] at hQ
      (apply WP_runI (lv := lvN) LN_ok 999 200; simp (disch := first | decide | omega) only [t163_0, lift_c, o_aload0, o_inl, o_virt2, rpush_n, rpush_s, o_getref, o_iaload, o_ishl, o_isub, o_istore, s1_0, s1_s, o_iload2, o_icgt, o_iload1, o_virt1, o_ixor, o_iand, o_iinc2, o_goto, o_ireturn, z0, z1, z2, z20, z31, z81, runI_0, runI_c, runI_n, liftI_n, liftI_y, run_0, run_c, run_n, fxn, fxi, fxr, fxl, fxl0, ↓swi_n, ↓swi_c, nck0, nck1, nck2, nck3, List.length_cons, List.length_nil, Nat.reduceAdd, Nat.reduceSub, Nat.reduceLeDiff, Nat.reduceEqDiff, Nat.reduceLT, reduceIte, ite_true, ite_false, Nat.sub_zero, Nat.zero_le, true_and, and_true, and_self, true_or, or_true, if_true, if_false, true_implies, implies_true, not_true_eq_false, not_false_eq_true, false_implies, forall_const, ne_eq, or_self, and_false, false_and, Lt, Le, Eq', Cp, In, nI_add, nI_mul, nI_sub, nI_sub1, Neg0, bI_eq0, bI_eq1, bI_01, bft, up2_eq, up2_no, Bool.true_eq_false, Bool.false_eq_true, eq_self, m1_ne, m1_ne2, m1_lt, m1_le, lt_m1, m1_le2, bI_t, bI_f, LM_all hF, LN_all hF, FMu hF, hd0, hj])
      exact hQ
    | succ m ih =>
      intro j I1 cc ss h ha
      have hj : ¬ 20 < j := by omega
      have h124 := ha.2.1
      have hWe := ha.we
      (apply WP_runI (lv := lvN) LN_ok 19 200; simp (disch := first | decide | omega) only [t163_0, lift_c, o_aload0, o_inl, o_virt2, rpush_n, rpush_s, o_getref, o_iaload, o_ishl, o_isub, o_istore, s1_0, s1_s, o_iload2, o_icgt, o_iload1, o_virt1, o_ixor, o_iand, o_iinc2, o_goto, o_ireturn, z0, z1, z2, z20, z31, z81, runI_0, runI_c, runI_n, liftI_n, liftI_y, run_0, run_c, run_n, fxn, fxi, fxr, fxl, fxl0, ↓swi_n, ↓swi_c, nck0, nck1, nck2, nck3, List.length_cons, List.length_nil, Nat.reduceAdd, Nat.reduceSub, Nat.reduceLeDiff, Nat.reduceEqDiff, Nat.reduceLT, reduceIte, ite_true, ite_false, Nat.sub_zero, Nat.zero_le, true_and, and_true, and_self, true_or, or_true, if_true, if_false, true_implies, implies_true, not_true_eq_false, not_false_eq_true, false_implies, forall_const, ne_eq, or_self, and_false, false_and, Lt, Le, Eq', Cp, In, nI_add, nI_mul, nI_sub, nI_sub1, Neg0, bI_eq0, bI_eq1, bI_01, bft, up2_eq, up2_no, Bool.true_eq_false, Bool.false_eq_true, eq_self, m1_ne, m1_ne2, m1_lt, m1_le, lt_m1, m1_le2, bI_t, bI_f, LM_all hF, LN_all hF, FMu hF, hd0, hj, h124, hWe])
      refine hour_A hF hB ha (by omega) fun I2 ha2 _ => ?_
      have ih := fun cc ss => ih (j + 1) I2 cc ss (by omega) ha2
      rw [shutL] at ih
      (apply WP_runI (lv := lvN) LN_ok 19 200; simp (disch := first | decide | omega) only [t163_0, lift_c, o_aload0, o_inl, o_virt2, rpush_n, rpush_s, o_getref, o_iaload, o_ishl, o_isub, o_istore, s1_0, s1_s, o_iload2, o_icgt, o_iload1, o_virt1, o_ixor, o_iand, o_iinc2, o_goto, o_ireturn, z0, z1, z2, z20, z31, z81, runI_0, runI_c, runI_n, liftI_n, liftI_y, run_0, run_c, run_n, fxn, fxi, fxr, fxl, fxl0, ↓swi_n, ↓swi_c, nck0, nck1, nck2, nck3, List.length_cons, List.length_nil, Nat.reduceAdd, Nat.reduceSub, Nat.reduceLeDiff, Nat.reduceEqDiff, Nat.reduceLT, reduceIte, ite_true, ite_false, Nat.sub_zero, Nat.zero_le, true_and, and_true, and_self, true_or, or_true, if_true, if_false, true_implies, implies_true, not_true_eq_false, not_false_eq_true, false_implies, forall_const, ne_eq, or_self, and_false, false_and, Lt, Le, Eq', Cp, In, nI_add, nI_mul, nI_sub, nI_sub1, Neg0, bI_eq0, bI_eq1, bI_01, bft, up2_eq, up2_no, Bool.true_eq_false, Bool.false_eq_true, eq_self, m1_ne, m1_ne2, m1_lt, m1_le, lt_m1, m1_le2, bI_t, bI_f, LM_all hF, LN_all hF, FMu hF, hd0])
      exact ih _ _
  have ha := AH.start hB
  have hl := fun I1 cc ss ha => loop 21 0 I1 cc ss (by omega) ha
  rw [shutL] at hl
  (apply WP_runI (lv := lvN) LN_ok 19 200; simp (disch := first | decide | omega) only [t163_0, lift_c, o_aload0, o_inl, o_virt2, rpush_n, rpush_s, o_getref, o_iaload, o_ishl, o_isub, o_istore, s1_0, s1_s, o_iload2, o_icgt, o_iload1, o_virt1, o_ixor, o_iand, o_iinc2, o_goto, o_ireturn, z0, z1, z2, z20, z31, z81, runI_0, runI_c, runI_n, liftI_n, liftI_y, run_0, run_c, run_n, fxn, fxi, fxr, fxl, fxl0, ↓swi_n, ↓swi_c, nck0, nck1, nck2, nck3, List.length_cons, List.length_nil, Nat.reduceAdd, Nat.reduceSub, Nat.reduceLeDiff, Nat.reduceEqDiff, Nat.reduceLT, reduceIte, ite_true, ite_false, Nat.sub_zero, Nat.zero_le, true_and, and_true, and_self, true_or, or_true, if_true, if_false, true_implies, implies_true, not_true_eq_false, not_false_eq_true, false_implies, forall_const, ne_eq, or_self, and_false, false_and, Lt, Le, Eq', Cp, In, nI_add, nI_mul, nI_sub, nI_sub1, Neg0, bI_eq0, bI_eq1, bI_01, bft, up2_eq, up2_no, Bool.true_eq_false, Bool.false_eq_true, eq_self, m1_ne, m1_ne2, m1_lt, m1_le, lt_m1, m1_le2, bI_t, bI_f, LM_all hF, LN_all hF, FMu hF, hd0, cpy2_no])
  generalize cpy2 I 124 0 125 0 138 = I1 at ha ⊢
  exact hl I1 _ _ ha
end
