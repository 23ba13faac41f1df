/-! ### the reference's small methods, told by formulas -/
def WFe (N : TN) : Prop := ∃ k g r, WF N k g r
def orN (x : Int32) : Int32 := if x = -nI 1 then -nI 5 else x
def lateS (x : Int32) : Int32 := if x = -nI 5 then nI 1000 else x
def isT (x : Int32) : Bool := decide (nI 0 ≤ x ∧ x ≤ nI 5)
def lvM (a : Nat) : Bool := a == 118 || (a == 124 || (a == 125 || (a == 126 || (a == 128 || (a == 127 || (a == 129 || (a == 134 || (a == 132 || (a == 171 || (a == 194 || a == 154))))))))))
def LM (d : Nat) : TC := fun a as n sh I L P Q =>
  if a = 118 then (match as with | [.int x, .int lo, .int hi] => Q (some (.int (bI (decide (lo ≤ x ∧ x ≤ hi))))) n sh I L P | _ => False) else
  if a = 124 then (match as with | [.int x] => 1 ≤ d ∧ Q (some (.int (bI (isC x)))) n sh I L P | _ => False) else
  if a = 125 then (match as with | [.ref q, .int x] => q = 123 ∧ FM sh P ∧ WFe (I 124) ∧ 1 ≤ d ∧ Q (some (.int (bI (isG (I 124) x)))) n sh I L P | _ => False) else
  if a = 126 then (match as with | [.ref q, .int x] => q = 123 ∧ FM sh P ∧ WFe (I 124) ∧ 1 ≤ d ∧ Q (some (.int (bI (isY (I 124) x)))) n sh I L P | _ => False) else
  if a = 128 then (match as with | [.ref q, .int x, .int w] => q = 123 ∧ FM sh P ∧ ∃ i j, i < 6 ∧ j < 9 ∧ x = nI i ∧ w = nI j ∧ Q (some (.int (gs (I 124) i j))) n sh I L P | _ => False) else
  if a = 127 then (match as with | [.ref q, .int x, .int w] => q = 123 ∧ FM sh P ∧ ∃ i j, i < 9 ∧ j < 2 ∧ x = nI i ∧ w = nI j ∧ Q (some (.int (ed (I 124) i j))) n sh I L P | _ => False) else
  if a = 129 then (match as with | [.ref q, .int x] => q = 123 ∧ FM sh P ∧ 1 ≤ d ∧ ∃ i, i < 6 ∧ x = nI i ∧ Q (some (.int (bI (tkn (I 124) i)))) n sh I L P | _ => False) else
  if a = 134 then (match as with | [.ref q, .int x, .int w, .int v] => q = 123 ∧ FM sh P ∧ 1 ≤ d ∧ ∃ i j, i < 6 ∧ j < 9 ∧ x = nI i ∧ w = nI j ∧ Q (some (.int (gs (I 124) i j))) n sh (up2 I 124 (26 + 9 * i + j) v) L P | _ => False) else
  if a = 132 then (match as with | [.int x] => Q (some (.int (orN x))) n sh I L P | _ => False) else
  if a = 171 then (match as with | [.int x] => Q (some (.int (lateS x))) n sh I L P | _ => False) else
  if a = 194 then (match as with | [.int x] => 1 ≤ d ∧ Q (some (.int (bI (isT x)))) n sh I L P | _ => False) else
  if a = 154 then (match as with | [.ref q, .int x, .int y] => q = 123 ∧ FM sh P ∧ WFe (I 124) ∧ 2 ≤ d ∧ ∃ c, y = nI c ∧ Q (some (.int (bI (endB (I 124) x c)))) n sh I L P | _ => False) else False
section
variable {G : GE} {d n : Nat} {sh : TS} {I : TI} {L : TL} {P : TP} {Q : TQ}
theorem orNever_M {x : Int32} (hQ : Q (some (.int (orN x))) n sh I L P) : Cl G d 132 [.int x] n sh I L P Q := by
  apply e132
  unfold orN at hQ
  (apply WP_run 999 80; simp (disch := first | decide | omega) only [t132_0, lift_c, o_iload0, o_inl, o_icne, o_goto, o_ireturn, z0, z1, z2, z5, z20, z31, run_0, run_c, run_n, fxn, fxi, fxr, fxl, fxl0, ↓swi_n, ↓swi_c, nck0, nck1, nck2, nck3, List.length_cons, List.length_nil, Nat.reduceAdd, Nat.reduceSub, Nat.reduceLeDiff, Nat.reduceEqDiff, Nat.reduceLT, reduceIte, ite_true, ite_false, Nat.sub_zero, Nat.zero_le, true_and, and_true, and_self, true_or, or_true, if_true, if_false, true_implies, implies_true, not_true_eq_false, not_false_eq_true, false_implies, forall_const, ne_eq, or_self, and_false, false_and, Lt, Le, Eq', Cp, In, nI_add, nI_mul, nI_sub, nI_sub1, Neg0, bI_eq0, bI_eq1, bI_01, bft, up2_eq, up2_no, Bool.true_eq_false, Bool.false_eq_true, eq_self, m1_ne, m1_ne2, m1_lt, m1_le, lt_m1, m1_le2, bI_t, bI_f, z5])
  refine ⟨fun h => ?_, fun h => ?_⟩
  · rw [if_pos h] at hQ
    exact hQ
  · rw [if_neg h] at hQ
    exact hQ
theorem late_M {x : Int32} (hQ : Q (some (.int (lateS x))) n sh I L P) : Cl G d 171 [.int x] n sh I L P Q := by
  apply e171
  unfold lateS at hQ
  (apply WP_run 999 80; simp (disch := first | decide | omega) only [t171_0, lift_c, o_iload0, o_inl, o_icne, o_goto, o_ireturn, z0, z1, z2, z5, z20, z31, z1000, run_0, run_c, run_n, fxn, fxi, fxr, fxl, fxl0, ↓swi_n, ↓swi_c, nck0, nck1, nck2, nck3, List.length_cons, List.length_nil, Nat.reduceAdd, Nat.reduceSub, Nat.reduceLeDiff, Nat.reduceEqDiff, Nat.reduceLT, reduceIte, ite_true, ite_false, Nat.sub_zero, Nat.zero_le, true_and, and_true, and_self, true_or, or_true, if_true, if_false, true_implies, implies_true, not_true_eq_false, not_false_eq_true, false_implies, forall_const, ne_eq, or_self, and_false, false_and, Lt, Le, Eq', Cp, In, nI_add, nI_mul, nI_sub, nI_sub1, Neg0, bI_eq0, bI_eq1, bI_01, bft, up2_eq, up2_no, Bool.true_eq_false, Bool.false_eq_true, eq_self, m1_ne, m1_ne2, m1_lt, m1_le, lt_m1, m1_le2, bI_t, bI_f, z5])
  refine ⟨fun h => ?_, fun h => ?_⟩
  · rw [if_pos h] at hQ
    exact hQ
  · rw [if_neg h] at hQ
    exact hQ
theorem isTape_M {x : Int32} (hd : 1 ≤ d) (hQ : Q (some (.int (bI (isT x)))) n sh I L P) : Cl G d 194 [.int x] n sh I L P Q := by
  apply e194
  have hd0 : 0 < d := by omega
  (apply WP_run 999 80; simp (disch := first | decide | omega) only [t194_0, lift_c, o_iload0, o_inl, o_stat3, rpush_n, rpush_s, o_ireturn, z0, z1, z2, z5, z20, z31, run_0, run_c, run_n, fxn, fxi, fxr, fxl, fxl0, ↓swi_n, ↓swi_c, nck0, nck1, nck2, nck3, List.length_cons, List.length_nil, Nat.reduceAdd, Nat.reduceSub, Nat.reduceLeDiff, Nat.reduceEqDiff, Nat.reduceLT, reduceIte, ite_true, ite_false, Nat.sub_zero, Nat.zero_le, true_and, and_true, and_self, true_or, or_true, if_true, if_false, true_implies, implies_true, not_true_eq_false, not_false_eq_true, false_implies, forall_const, ne_eq, or_self, and_false, false_and, Lt, Le, Eq', Cp, In, nI_add, nI_mul, nI_sub, nI_sub1, Neg0, bI_eq0, bI_eq1, bI_01, bft, up2_eq, up2_no, Bool.true_eq_false, Bool.false_eq_true, eq_self, m1_ne, m1_ne2, m1_lt, m1_le, lt_m1, m1_le2, bI_t, bI_f, hd0])
  apply isIn_M
  (apply WP_run 999 80; simp (disch := first | decide | omega) only [t194_0, lift_c, o_iload0, o_inl, o_stat3, rpush_n, rpush_s, o_ireturn, z0, z1, z2, z5, z20, z31, run_0, run_c, run_n, fxn, fxi, fxr, fxl, fxl0, ↓swi_n, ↓swi_c, nck0, nck1, nck2, nck3, List.length_cons, List.length_nil, Nat.reduceAdd, Nat.reduceSub, Nat.reduceLeDiff, Nat.reduceEqDiff, Nat.reduceLT, reduceIte, ite_true, ite_false, Nat.sub_zero, Nat.zero_le, true_and, and_true, and_self, true_or, or_true, if_true, if_false, true_implies, implies_true, not_true_eq_false, not_false_eq_true, false_implies, forall_const, ne_eq, or_self, and_false, false_and, Lt, Le, Eq', Cp, In, nI_add, nI_mul, nI_sub, nI_sub1, Neg0, bI_eq0, bI_eq1, bI_01, bft, up2_eq, up2_no, Bool.true_eq_false, Bool.false_eq_true, eq_self, m1_ne, m1_ne2, m1_lt, m1_le, lt_m1, m1_le2, bI_t, bI_f, hd0])
  exact hQ
end
theorem LM_ok {G : GE} {d : Nat} : ∀ a as n sh I L P Q', LM d a as n sh I L P Q' → Cl G d a as n sh I L P Q' := by
  intro a as n sh I L P Q h
  unfold LM at h
  by_cases e : a = 118
  · subst e
    rw [if_pos rfl] at h
    split at h
    · exact isIn_M h
    · exact h.elim
  rw [if_neg e] at h
  by_cases e : a = 124
  · subst e
    rw [if_pos rfl] at h
    split at h
    · exact isCourt_M h.1 h.2
    · exact h.elim
  rw [if_neg e] at h
  by_cases e : a = 125
  · subst e
    rw [if_pos rfl] at h
    split at h
    · obtain ⟨rfl, hF, ⟨k, g, r, hW⟩, hd, hQ⟩ := h
      exact isGate_M hF hW hd hQ
    · exact h.elim
  rw [if_neg e] at h
  by_cases e : a = 126
  · subst e
    rw [if_pos rfl] at h
    split at h
    · obtain ⟨rfl, hF, ⟨k, g, r, hW⟩, hd, hQ⟩ := h
      exact isGoose_M hF hW hd hQ
    · exact h.elim
  rw [if_neg e] at h
  by_cases e : a = 128
  · subst e
    rw [if_pos rfl] at h
    split at h
    · obtain ⟨rfl, hF, i, j, hi, hj, rfl, rfl, hQ⟩ := h
      exact goose_M hF hi hj hQ
    · exact h.elim
  rw [if_neg e] at h
  by_cases e : a = 127
  · subst e
    rw [if_pos rfl] at h
    split at h
    · obtain ⟨rfl, hF, i, j, hi, hj, rfl, rfl, hQ⟩ := h
      exact end_M hF hi hj hQ
    · exact h.elim
  rw [if_neg e] at h
  by_cases e : a = 129
  · subst e
    rw [if_pos rfl] at h
    split at h
    · obtain ⟨rfl, hF, hd, i, hi, rfl, hQ⟩ := h
      exact isTaken_M hF hi hd hQ
    · exact h.elim
  rw [if_neg e] at h
  by_cases e : a = 134
  · subst e
    rw [if_pos rfl] at h
    split at h
    · obtain ⟨rfl, hF, hd, i, j, hi, hj, rfl, rfl, hQ⟩ := h
      exact change_M hF hi hj hd hQ
    · exact h.elim
  rw [if_neg e] at h
  by_cases e : a = 132
  · subst e
    rw [if_pos rfl] at h
    split at h
    · exact orNever_M h
    · exact h.elim
  rw [if_neg e] at h
  by_cases e : a = 171
  · subst e
    rw [if_pos rfl] at h
    split at h
    · exact late_M h
    · exact h.elim
  rw [if_neg e] at h
  by_cases e : a = 194
  · subst e
    rw [if_pos rfl] at h
    split at h
    · exact isTape_M h.1 h.2
    · exact h.elim
  rw [if_neg e] at h
  by_cases e : a = 154
  · subst e
    rw [if_pos rfl] at h
    split at h
    · obtain ⟨rfl, hF, ⟨k, g, r, hW⟩, hd, c, rfl, hQ⟩ := h
      exact isEnd_M hF hW hd hQ
    · exact h.elim
  rw [if_neg e] at h
  exact h.elim
theorem exI2 {p : Nat → Nat → Prop} {a b i j : Nat} (hi : i < a) (hj : j < b) (ha : a ≤ 2 ^ 31) (hb : b ≤ 2 ^ 31) : (∃ i' j', i' < a ∧ j' < b ∧ nI i = nI i' ∧ nI j = nI j' ∧ p i' j') = p i j := propext ⟨fun ⟨i', j', h1, h2, h3, h4, h5⟩ => by
  rw [nI_eq (by omega) (by omega)] at h3 h4
  rw [h3, h4]
  exact h5, fun h => ⟨i, j, hi, hj, rfl, rfl, h⟩⟩
theorem LM_all {sh : TS} {P : TP} (hF : FM sh P) :
    (∀ (d n : Nat) (I : TI) (L : TL) (Q : TQ) (x lo hi : Int32), LM d 118 [.int x, .int lo, .int hi] n sh I L P Q = Q (some (.int (bI (decide (lo ≤ x ∧ x ≤ hi))))) n sh I L P) ∧
    (∀ (d n : Nat) (I : TI) (L : TL) (Q : TQ) (x : Int32), 1 ≤ d → LM d 124 [.int x] n sh I L P Q = Q (some (.int (bI (isC x)))) n sh I L P) ∧
    (∀ (d n : Nat) (I : TI) (L : TL) (Q : TQ) (x : Int32), 1 ≤ d → LM d 125 [.ref 123, .int x] n sh I L P Q = (WFe (I 124) ∧ Q (some (.int (bI (isG (I 124) x)))) n sh I L P)) ∧
    (∀ (d n : Nat) (I : TI) (L : TL) (Q : TQ) (x : Int32), 1 ≤ d → LM d 126 [.ref 123, .int x] n sh I L P Q = (WFe (I 124) ∧ Q (some (.int (bI (isY (I 124) x)))) n sh I L P)) ∧
    (∀ (d n : Nat) (I : TI) (L : TL) (Q : TQ) (i j : Nat), i < 6 → j < 9 → LM d 128 [.ref 123, .int (nI i), .int (nI j)] n sh I L P Q = Q (some (.int (gs (I 124) i j))) n sh I L P) ∧
    (∀ (d n : Nat) (I : TI) (L : TL) (Q : TQ) (i j : Nat), i < 9 → j < 2 → LM d 127 [.ref 123, .int (nI i), .int (nI j)] n sh I L P Q = Q (some (.int (ed (I 124) i j))) n sh I L P) ∧
    (∀ (d n : Nat) (I : TI) (L : TL) (Q : TQ) (i : Nat), i < 6 → 1 ≤ d → LM d 129 [.ref 123, .int (nI i)] n sh I L P Q = Q (some (.int (bI (tkn (I 124) i)))) n sh I L P) ∧
    (∀ (d n : Nat) (I : TI) (L : TL) (Q : TQ) (i j : Nat) (v : Int32), i < 6 → j < 9 → 1 ≤ d → LM d 134 [.ref 123, .int (nI i), .int (nI j), .int v] n sh I L P Q = Q (some (.int (gs (I 124) i j))) n sh (up2 I 124 (26 + 9 * i + j) v) L P) ∧
    (∀ (d n : Nat) (I : TI) (L : TL) (Q : TQ) (x : Int32), LM d 132 [.int x] n sh I L P Q = Q (some (.int (orN x))) n sh I L P) ∧
    (∀ (d n : Nat) (I : TI) (L : TL) (Q : TQ) (x : Int32), LM d 171 [.int x] n sh I L P Q = Q (some (.int (lateS x))) n sh I L P) ∧
    (∀ (d n : Nat) (I : TI) (L : TL) (Q : TQ) (x : Int32), 1 ≤ d → LM d 194 [.int x] n sh I L P Q = Q (some (.int (bI (isT x)))) n sh I L P) ∧
    (∀ (d n : Nat) (I : TI) (L : TL) (Q : TQ) (x : Int32) (c : Nat), 2 ≤ d → LM d 154 [.ref 123, .int x, .int (nI c)] n sh I L P Q = (WFe (I 124) ∧ Q (some (.int (bI (endB (I 124) x c)))) n sh I L P)) := by
  refine ⟨fun d n I L Q x lo hi => rfl, fun d n I L Q x h => ?_, fun d n I L Q x h => ?_, fun d n I L Q x h => ?_, fun d n I L Q i j hi hj => ?_, fun d n I L Q i j hi hj => ?_, fun d n I L Q i hi h => ?_, fun d n I L Q i j v hi hj h => ?_, fun d n I L Q x => rfl, fun d n I L Q x => rfl, fun d n I L Q x h => ?_, fun d n I L Q x c h => ?_⟩
  · show (1 ≤ d ∧ _) = _
    exact propext ⟨fun q => q.2, fun q => ⟨h, q⟩⟩
  · show (123 = 123 ∧ FM sh P ∧ WFe (I 124) ∧ 1 ≤ d ∧ _) = _
    exact propext ⟨fun q => ⟨q.2.2.1, q.2.2.2.2⟩, fun q => ⟨rfl, hF, q.1, h, q.2⟩⟩
  · show (123 = 123 ∧ FM sh P ∧ WFe (I 124) ∧ 1 ≤ d ∧ _) = _
    exact propext ⟨fun q => ⟨q.2.2.1, q.2.2.2.2⟩, fun q => ⟨rfl, hF, q.1, h, q.2⟩⟩
  · show (123 = 123 ∧ FM sh P ∧ ∃ i' j', i' < 6 ∧ j' < 9 ∧ nI i = nI i' ∧ nI j = nI j' ∧ Q (some (.int (gs (I 124) i' j'))) n sh I L P) = _
    rw [exI2 hi hj (by decide) (by decide)]
    exact propext ⟨fun q => q.2.2, fun q => ⟨rfl, hF, q⟩⟩
  · show (123 = 123 ∧ FM sh P ∧ ∃ i' j', i' < 9 ∧ j' < 2 ∧ nI i = nI i' ∧ nI j = nI j' ∧ Q (some (.int (ed (I 124) i' j'))) n sh I L P) = _
    rw [exI2 hi hj (by decide) (by decide)]
    exact propext ⟨fun q => q.2.2, fun q => ⟨rfl, hF, q⟩⟩
  · show (123 = 123 ∧ FM sh P ∧ 1 ≤ d ∧ ∃ i', i' < 6 ∧ nI i = nI i' ∧ Q (some (.int (bI (tkn (I 124) i')))) n sh I L P) = _
    refine propext ⟨fun q => ?_, fun q => ⟨rfl, hF, h, i, hi, rfl, q⟩⟩
    obtain ⟨-, -, -, i', h1, h2, h3⟩ := q
    rw [nI_eq (by omega) (by omega)] at h2
    rw [h2]
    exact h3
  · show (123 = 123 ∧ FM sh P ∧ 1 ≤ d ∧ ∃ i' j', i' < 6 ∧ j' < 9 ∧ nI i = nI i' ∧ nI j = nI j' ∧ Q (some (.int (gs (I 124) i' j'))) n sh (up2 I 124 (26 + 9 * i' + j') v) L P) = _
    rw [exI2 (p := fun i' j' => Q (some (.int (gs (I 124) i' j'))) n sh (up2 I 124 (26 + 9 * i' + j') v) L P) hi hj (by decide) (by decide)]
    exact propext ⟨fun q => q.2.2.2, fun q => ⟨rfl, hF, h, q⟩⟩
  · show (1 ≤ d ∧ _) = _
    exact propext ⟨fun q => q.2, fun q => ⟨h, q⟩⟩
  · show (123 = 123 ∧ FM sh P ∧ WFe (I 124) ∧ 2 ≤ d ∧ ∃ c', nI c = nI c' ∧ Q (some (.int (bI (endB (I 124) x c')))) n sh I L P) = _
    refine propext ⟨fun q => ?_, fun q => ⟨rfl, hF, q.1, h, c, rfl, q.2⟩⟩
    obtain ⟨-, -, h1, -, c', h2, h3⟩ := q
    rw [show endB (I 124) x c' = endB (I 124) x c by unfold endB; rw [h2]] at h3
    exact ⟨h1, h3⟩
