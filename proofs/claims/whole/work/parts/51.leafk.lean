/-! the class's small methods, by program -/
def hpB (z x y : Int32) : Bool := decide (nI 0 ≤ x ∧ nI 0 ≤ y ∧ x ≤ z ∧ y ≤ z - x)
theorem hasPlaces_K {G : GE} {d n : Nat} {sh : TS} {I : TI} {L : TL} {P : TP} {Q : TQ} {q : Nat} {x y : Int32} (hq : sh q = (6, 3)) (hQ : Q (some (.int (bI (hpB (I q 1) x y)))) n sh I L P) : Cl G d 47 [.ref q, .int x, .int y] n sh I L P Q := by
  apply e47
  unfold hpB at hQ
  (apply WP_run 999 80; simp (disch := first | decide | omega) only [t47_0, lift_c, o_iload1, o_iflt, o_iload2, o_aload0, o_getfield, o_icgt, o_isub, o_inl, o_goto, o_ireturn, z0, z1, z2, z20, z31, run_0, run_c, run_n, fxn, fxi, fxr, fxl, fxl0, ↓swi_n, ↓swi_c, nck0, nck1, nck2, nck3, List.length_cons, List.length_nil, Nat.reduceAdd, Nat.reduceSub, Nat.reduceLeDiff, Nat.reduceEqDiff, Nat.reduceLT, reduceIte, ite_true, ite_false, Nat.sub_zero, Nat.zero_le, true_and, and_true, and_self, true_or, or_true, if_true, if_false, true_implies, implies_true, not_true_eq_false, not_false_eq_true, false_implies, forall_const, ne_eq, or_self, and_false, false_and, Lt, Le, Eq', Cp, In, nI_add, nI_mul, nI_sub, nI_sub1, Neg0, bI_eq0, bI_eq1, bI_01, bft, up2_eq, up2_no, Bool.true_eq_false, Bool.false_eq_true, eq_self, m1_ne, m1_ne2, m1_lt, m1_le, lt_m1, m1_le2, bI_t, bI_f, hq])
  refine ⟨fun h => ?_, fun h => ⟨fun h2 => ?_, fun h2 => ⟨fun h3 => ?_, fun h3 => ⟨fun h4 => ?_, fun h4 => ?_⟩⟩⟩⟩
  · rw [decide_eq_false (fun q => absurd q.1 (Int32.not_le.mpr h))] at hQ
    exact hQ
  · rw [decide_eq_false (fun q => absurd q.2.1 (Int32.not_le.mpr h2))] at hQ
    exact hQ
  · rw [decide_eq_false (fun q => absurd q.2.2.1 (Int32.not_le.mpr h3))] at hQ
    exact hQ
  · rw [decide_eq_false (fun q => absurd q.2.2.2 (Int32.not_le.mpr h4))] at hQ
    exact hQ
  · rw [decide_eq_true ⟨Int32.not_lt.mp h, Int32.not_lt.mp h2, Int32.not_lt.mp h3, Int32.not_lt.mp h4⟩] at hQ
    exact hQ
def lvK (a : Nat) : Bool := a == 102 || (a == 104 || (a == 105 || (a == 106 || (a == 107 || (a == 108 || (a == 112 || (a == 113 || (a == 115 || (a == 103 || (a == 109 || (a == 110 || (a == 45 || (a == 47)))))))))))))
def LK : TC := fun a as n sh I L P Q =>
  if a = 102 then (match as with | [.int x] => Q (some (.int (bI (isC x)))) n sh I L P | _ => False) else
  if a = 104 then (match as with | [.int x] => Q (some (.int (bI (keyB x)))) n sh I L P | _ => False) else
  if a = 105 then (match as with | [.int x] => Q (some (.int (bI (inR x 0 99)))) n sh I L P | _ => False) else
  if a = 106 then (match as with | [.int x, .int y] => Q (some (.int (bI (decide (nI 0 ≤ x ∧ x ≤ y))))) n sh I L P | _ => False) else
  if a = 107 then (match as with | [.int x] => Q (some (.int (bI (inR x 0 1)))) n sh I L P | _ => False) else
  if a = 108 then (match as with | [.int x] => Q (some (.int (bI (isT x)))) n sh I L P | _ => False) else
  if a = 112 then (match as with | [.int x] => Q (some (.int (orN x))) n sh I L P | _ => False) else
  if a = 113 then (match as with | [.int x] => Q (some (.int (hnS x))) n sh I L P | _ => False) else
  if a = 115 then (match as with | [.int x, .int y] => Q (some (.int (bI (bt x y)))) n sh I L P | _ => False) else
  if a = 103 then (match as with | [.int x] => sh 2 = (100, 7) ∧ Q (some (.int (bI (inR x 0 6)))) n sh I L P | _ => False) else
  if a = 109 then (match as with | [.ref q, .int x] => q = 20 ∧ FG sh P ∧ sh 22 = (8, 9) ∧ Q (some (.int (bI (decide (nI 0 ≤ x ∧ x < I 22 5))))) n sh I L P | _ => False) else
  if a = 110 then (match as with | [.ref q, .int x] => q = 20 ∧ FG sh P ∧ sh 22 = (8, 9) ∧ Q (some (.int (bI (decide (nI 0 ≤ x ∧ x < I 22 3))))) n sh I L P | _ => False) else
  if a = 45 then (match as with | [.ref q] => sh q = (6, 3) ∧ Q (some (.int (bI (!decide (I q 0 = -nI 1))))) n sh I L P | _ => False) else
  if a = 47 then (match as with | [.ref q, .int x, .int y] => sh q = (6, 3) ∧ Q (some (.int (bI (hpB (I q 1) x y)))) n sh I L P | _ => False) else False
theorem LK_ok {G : GE} {d : Nat} : ∀ a as n sh I L P Q', LK a as n sh I L P Q' → Cl G d a as n sh I L P Q' := by
  intro a as n sh I L P Q h
  unfold LK at h
  by_cases e : a = 102
  · subst e
    rw [if_pos rfl] at h
    split at h
    · have hQ := h
      exact isCourt_K hQ
    · exact h.elim
  rw [if_neg e] at h
  by_cases e : a = 104
  · subst e
    rw [if_pos rfl] at h
    split at h
    · have hQ := h
      exact isKey_K hQ
    · exact h.elim
  rw [if_neg e] at h
  by_cases e : a = 105
  · subst e
    rw [if_pos rfl] at h
    split at h
    · have hQ := h
      exact isGrain_K hQ
    · exact h.elim
  rw [if_neg e] at h
  by_cases e : a = 106
  · subst e
    rw [if_pos rfl] at h
    split at h
    · have hQ := h
      exact isHours_K hQ
    · exact h.elim
  rw [if_neg e] at h
  by_cases e : a = 107
  · subst e
    rw [if_pos rfl] at h
    split at h
    · have hQ := h
      exact isPart_K hQ
    · exact h.elim
  rw [if_neg e] at h
  by_cases e : a = 108
  · subst e
    rw [if_pos rfl] at h
    split at h
    · have hQ := h
      exact isTape_K hQ
    · exact h.elim
  rw [if_neg e] at h
  by_cases e : a = 112
  · subst e
    rw [if_pos rfl] at h
    split at h
    · have hQ := h
      exact orNever_K hQ
    · exact h.elim
  rw [if_neg e] at h
  by_cases e : a = 113
  · subst e
    rw [if_pos rfl] at h
    split at h
    · have hQ := h
      exact hoursOrNever_K hQ
    · exact h.elim
  rw [if_neg e] at h
  by_cases e : a = 115
  · subst e
    rw [if_pos rfl] at h
    split at h
    · have hQ := h
      exact hasBit_K hQ
    · exact h.elim
  rw [if_neg e] at h
  by_cases e : a = 103
  · subst e
    rw [if_pos rfl] at h
    split at h
    · obtain ⟨h0, hQ⟩ := h
      exact isKind_K h0 hQ
    · exact h.elim
  rw [if_neg e] at h
  by_cases e : a = 109
  · subst e
    rw [if_pos rfl] at h
    split at h
    · obtain ⟨rfl, h1, h2, hQ⟩ := h
      exact isGoose_K h1 hQ h2
    · exact h.elim
  rw [if_neg e] at h
  by_cases e : a = 110
  · subst e
    rw [if_pos rfl] at h
    split at h
    · obtain ⟨rfl, h1, h2, hQ⟩ := h
      exact isGate_K h1 hQ h2
    · exact h.elim
  rw [if_neg e] at h
  by_cases e : a = 45
  · subst e
    rw [if_pos rfl] at h
    split at h
    · obtain ⟨h0, hQ⟩ := h
      exact isThere_K h0 hQ
    · exact h.elim
  rw [if_neg e] at h
  by_cases e : a = 47
  · subst e
    rw [if_pos rfl] at h
    split at h
    · obtain ⟨h0, hQ⟩ := h
      exact hasPlaces_K h0 hQ
    · exact h.elim
  rw [if_neg e] at h
  exact h.elim
theorem LK_st : (∀ (n : Nat) (sh : TS) (I : TI) (L : TL) (P : TP) (Q : TQ) (x : Int32), LK 102 [.int x] n sh I L P Q = Q (some (.int (bI (isC x)))) n sh I L P) ∧
    (∀ (n : Nat) (sh : TS) (I : TI) (L : TL) (P : TP) (Q : TQ) (x : Int32), LK 104 [.int x] n sh I L P Q = Q (some (.int (bI (keyB x)))) n sh I L P) ∧
    (∀ (n : Nat) (sh : TS) (I : TI) (L : TL) (P : TP) (Q : TQ) (x : Int32), LK 105 [.int x] n sh I L P Q = Q (some (.int (bI (inR x 0 99)))) n sh I L P) ∧
    (∀ (n : Nat) (sh : TS) (I : TI) (L : TL) (P : TP) (Q : TQ) (x : Int32) (y : Int32), LK 106 [.int x, .int y] n sh I L P Q = Q (some (.int (bI (decide (nI 0 ≤ x ∧ x ≤ y))))) n sh I L P) ∧
    (∀ (n : Nat) (sh : TS) (I : TI) (L : TL) (P : TP) (Q : TQ) (x : Int32), LK 107 [.int x] n sh I L P Q = Q (some (.int (bI (inR x 0 1)))) n sh I L P) ∧
    (∀ (n : Nat) (sh : TS) (I : TI) (L : TL) (P : TP) (Q : TQ) (x : Int32), LK 108 [.int x] n sh I L P Q = Q (some (.int (bI (isT x)))) n sh I L P) ∧
    (∀ (n : Nat) (sh : TS) (I : TI) (L : TL) (P : TP) (Q : TQ) (x : Int32), LK 112 [.int x] n sh I L P Q = Q (some (.int (orN x))) n sh I L P) ∧
    (∀ (n : Nat) (sh : TS) (I : TI) (L : TL) (P : TP) (Q : TQ) (x : Int32), LK 113 [.int x] n sh I L P Q = Q (some (.int (hnS x))) n sh I L P) ∧
    (∀ (n : Nat) (sh : TS) (I : TI) (L : TL) (P : TP) (Q : TQ) (x : Int32) (y : Int32), LK 115 [.int x, .int y] n sh I L P Q = Q (some (.int (bI (bt x y)))) n sh I L P) ∧
    (∀ (n : Nat) (sh : TS) (I : TI) (L : TL) (P : TP) (Q : TQ) (q : Nat), LK 45 [.ref q] n sh I L P Q = (sh q = (6, 3) ∧ Q (some (.int (bI (!decide (I q 0 = -nI 1))))) n sh I L P)) ∧
    (∀ (n : Nat) (sh : TS) (I : TI) (L : TL) (P : TP) (Q : TQ) (q : Nat) (x : Int32) (y : Int32), LK 47 [.ref q, .int x, .int y] n sh I L P Q = (sh q = (6, 3) ∧ Q (some (.int (bI (hpB (I q 1) x y)))) n sh I L P)) :=
  ⟨fun _ _ _ _ _ _ _ => rfl, fun _ _ _ _ _ _ _ => rfl, fun _ _ _ _ _ _ _ => rfl, fun _ _ _ _ _ _ _ _ => rfl, fun _ _ _ _ _ _ _ => rfl, fun _ _ _ _ _ _ _ => rfl, fun _ _ _ _ _ _ _ => rfl, fun _ _ _ _ _ _ _ => rfl, fun _ _ _ _ _ _ _ _ => rfl, fun _ _ _ _ _ _ _ => rfl, fun _ _ _ _ _ _ _ _ _ => rfl⟩
theorem LK_g {sh : TS} {P : TP} (hG : FG sh P) (h22 : sh 22 = (8, 9)) (h2 : sh 2 = (100, 7)) : (∀ (n : Nat) (I : TI) (L : TL) (Q : TQ) (x : Int32), LK 103 [.int x] n sh I L P Q = Q (some (.int (bI (inR x 0 6)))) n sh I L P) ∧
    (∀ (n : Nat) (I : TI) (L : TL) (Q : TQ) (x : Int32), LK 109 [.ref 20, .int x] n sh I L P Q = Q (some (.int (bI (decide (nI 0 ≤ x ∧ x < I 22 5))))) n sh I L P) ∧
    (∀ (n : Nat) (I : TI) (L : TL) (Q : TQ) (x : Int32), LK 110 [.ref 20, .int x] n sh I L P Q = Q (some (.int (bI (decide (nI 0 ≤ x ∧ x < I 22 3))))) n sh I L P) := by
  refine ⟨fun n I L Q x => ?_, fun n I L Q x => ?_, fun n I L Q x => ?_⟩
  · show (sh 2 = (100, 7) ∧ _) = _
    exact propext ⟨fun q => q.2, fun q => ⟨h2, q⟩⟩
  · show (20 = 20 ∧ FG sh P ∧ sh 22 = (8, 9) ∧ _) = _
    exact propext ⟨fun q => q.2.2.2, fun q => ⟨rfl, hG, h22, q⟩⟩
  · show (20 = 20 ∧ FG sh P ∧ sh 22 = (8, 9) ∧ _) = _
    exact propext ⟨fun q => q.2.2.2, fun q => ⟨rfl, hG, h22, q⟩⟩
