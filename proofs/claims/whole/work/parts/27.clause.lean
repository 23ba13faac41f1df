/-! ### the reference's reader: clauses -/
/-- steps with what lures and scares: the truths, the sum -/
def stA (nm : TN) (x : SP) (q : List Bool × Int32) : List Bool × Int32 :=
  if x.1 = 6 then (match q.1 with | b :: s => (s, q.2 + (if b = true then x.2.2 else nI 0)) | [] => q) else
  if x.1 = 7 then (match q.1 with | b :: s => (s, q.2 - (if b = true then x.2.2 else nI 0)) | [] => q) else (stB nm x q.1, q.2)
def evA (nm : TN) : List SP → List Bool × Int32 → List Bool × Int32
  | [], q => q
  | x :: r, q => evA nm r (stA nm x q)
theorem evA_app (nm : TN) : ∀ (a b : List SP) (q : List Bool × Int32), evA nm (a ++ b) q = evA nm b (evA nm a q)
  | [], _, _ => rfl
  | x :: r, b, q => evA_app nm r b (stA nm x q)
def low (a : List SP) : Prop := ∀ x ∈ a, x.1 < 6
theorem low_app {a b : List SP} (ha : low a) (hb : low b) : low (a ++ b) := fun x hx => by
  rcases List.mem_append.mp hx with h | h
  · exact ha x h
  · exact hb x h
theorem low_one {o k : Nat} {x : Int32} (ho : o < 6) : low [(o, k, x)] := fun y hy => by
  simp at hy
  rw [hy]
  exact ho
theorem evA_low (nm : TN) : ∀ (a : List SP) (q : List Bool × Int32), low a → evA nm a q = (evB nm a q.1, q.2)
  | [], _, _ => rfl
  | x :: r, q, h => by
    have h0 : x.1 < 6 := h x List.mem_cons_self
    have e : stA nm x q = (stB nm x q.1, q.2) := by
      unfold stA
      rw [if_neg (by omega), if_neg (by omega)]
    show evA nm r (stA nm x q) = (evB nm r (stB nm x q.1), q.2)
    rw [e, evA_low nm r _ fun y hy => h y (List.mem_cons_of_mem _ hy)]
def lowF (f : PS → PS × List SP) : Prop := ∀ p, low (f p).2
theorem tstS_low (t : TN) (z : Nat) : lowF (tstS t z) := fun p => by
  unfold tstS
  split
  · intro x hx
    cases hx
  · exact low_one (Nat.lt_of_lt_of_le sgn_lt (by decide))
theorem lopS_low {t : TN} {z : Nat} {f : PS → PS × List SP} (hf : lowF f) (c : Int32) {o : Nat} (ho : o < 6) : ∀ (m : Nat) (q : PS × List SP), low q.2 → low (lopS t z f c o m q).2
  | 0, q, h => h
  | m + 1, q, h => by
    unfold lopS
    split
    · exact lopS_low hf c ho m _ (low_app h (low_app (hf _) (low_one ho)))
    · exact h
theorem botS_low {t : TN} {z : Nat} {f : PS → PS × List SP} (hf : lowF f) : lowF (botS t z f) := fun p => lopS_low hf _ (by decide) _ _ (hf p)
theorem anyS_low {t : TN} {z : Nat} {f : PS → PS × List SP} (hf : lowF f) : lowF (anyS t z f) := fun p => lopS_low (botS_low hf) _ (by decide) _ _ (botS_low hf p)
theorem facS_low (t : TN) (z : Nat) : ∀ m, lowF (facS t z m)
  | 0, p => tstS_low t z p
  | m + 1, p => by
    unfold facS
    split
    · exact low_app (facS_low t z m _) (low_one (by decide))
    · split
      · exact anyS_low (facS_low t z m) _
      · exact tstS_low t z p
/-- a clause's worth -/
theorem lure_ev {nm : TN} {a : List SP} {b : Bool} (hl : low a) (h : one nm a b) (x y : Int32) : evA nm (a ++ [(6, 0, x)]) ([], y) = ([], y + (if b = true then x else nI 0)) := by
  rw [evA_app, evA_low _ _ _ hl, h]
  rfl
theorem scare_ev {nm : TN} {a : List SP} {b : Bool} (hl : low a) (h : one nm a b) (x y : Int32) : evA nm (a ++ [(7, 0, x)]) ([], y) = ([], y - (if b = true then x else nI 0)) := by
  rw [evA_app, evA_low _ _ _ hl, h]
  rfl
def scC (a j : Nat) : Prop := a = 123 ∧ 11 ≤ j ∧ j ≤ 15
theorem scP_C {a j : Nat} (h : scP a j) : scC a j := ⟨h.1, by rcases h.2 with q | q <;> omega⟩
def begC (j : Nat) : Int32 := if j = 0 then nI 108 else if j = 1 then nI 115 else nI 101
def begL (t : TN) (z : Nat) (p : PS) : Nat → Option Nat
  | 0 => none
  | k + 1 => if atS t z p (begC k) = true then some k else begL t z p k
section
variable {G : GE} {d n : Nat} {sh : TS} {I : TI} {L : TL} {P : TP} {Q : TQ} {t : TN} {z : Nat} {p : PS} {nm : TN}
theorem clause_L (hF : FM sh P) (hp : RC I t z p nm) (hd : 1 ≤ d) (hQ : ∀ cc ss, WP G 149 d Q 34 [some (.ref 123), some (.int (onI (begL t z p 3))), some (.int (nI 3)), none] [] cc ss n sh I L P) : ∀ m j cc ss, j + m = 3 →
    WP G 149 d Q 4 [some (.ref 123), some (.int (onI (begL t z p j))), some (.int (nI j)), none] [] cc ss n sh I L P
  | 0, j, cc, ss, h => by
    have h : j = 3 := by omega
    subst h
    (apply WP_run 34 80; simp (disch := first | decide | omega) only [t149_0, t149_1, t149_2, lift_c, o_inl, o_istore, s1_0, s1_s, o_iload2, o_icge, o_aload0, o_getref, o_caload, o_virt2, rpush_n, rpush_s, o_ifeq, o_goto, o_iload1, o_iinc2, o_icne, o_putbool, o_return, o_imul, o_iadd, o_virt1, o_putfield, o_dupi, o_dupr, o_getfield, o_iload3, o_ifne, o_ineg, z0, z1, z2, z3, z5, z20, z31, z32, run_0, run_c, run_n, fxn, fxi, fxr, fxl, fxl0, ↓swi_n, ↓swi_c, nck0, nck1, nck2, nck3, List.length_cons, List.length_nil, Nat.reduceAdd, Nat.reduceSub, Nat.reduceLeDiff, Nat.reduceEqDiff, Nat.reduceLT, reduceIte, ite_true, ite_false, Nat.sub_zero, Nat.zero_le, true_and, and_true, and_self, true_or, or_true, if_true, if_false, true_implies, implies_true, not_true_eq_false, not_false_eq_true, false_implies, forall_const, ne_eq, or_self, and_false, false_and, Lt, Le, Eq', Cp, In, nI_add, nI_mul, nI_sub, nI_sub1, Neg0, bI_eq0, bI_eq1, bI_01, bft, up2_eq, up2_no, Bool.true_eq_false, Bool.false_eq_true, eq_self, m1_ne, m1_ne2, m1_lt, m1_le, lt_m1, m1_le2, bI_t, bI_f, Nat.le_refl])
    exact hQ _ _
  | m + 1, j, cc, ss, h => by
    have hF' := hF
    have hj : ¬ 3 ≤ j := by omega
    have hd0 : 0 < d := by omega
    have hc : I 133 j = begC j := by
      have hT := hp.2.1
      unfold TB at hT
      have : j = 0 ∨ j = 1 ∨ j = 2 := by omega
      rcases this with rfl | rfl | rfl
      · exact hT.2.1
      · exact hT.2.2.1
      · exact hT.2.2.2.1
    have ih := clause_L hF' hp hd hQ m (j + 1) cc ss (by omega)
    (apply WP_run 4 80; simp (disch := first | decide | omega) only [t149_0, t149_1, t149_2, lift_c, o_inl, o_istore, s1_0, s1_s, o_iload2, o_icge, o_aload0, o_getref, o_caload, o_virt2, rpush_n, rpush_s, o_ifeq, o_goto, o_iload1, o_iinc2, o_icne, o_putbool, o_return, o_imul, o_iadd, o_virt1, o_putfield, o_dupi, o_dupr, o_getfield, o_iload3, o_ifne, o_ineg, z0, z1, z2, z3, z5, z20, z31, z32, run_0, run_c, run_n, fxn, fxi, fxr, fxl, fxl0, ↓swi_n, ↓swi_c, nck0, nck1, nck2, nck3, List.length_cons, List.length_nil, Nat.reduceAdd, Nat.reduceSub, Nat.reduceLeDiff, Nat.reduceEqDiff, Nat.reduceLT, reduceIte, ite_true, ite_false, Nat.sub_zero, Nat.zero_le, true_and, and_true, and_self, true_or, or_true, if_true, if_false, true_implies, implies_true, not_true_eq_false, not_false_eq_true, false_implies, forall_const, ne_eq, or_self, and_false, false_and, Lt, Le, Eq', Cp, In, nI_add, nI_mul, nI_sub, nI_sub1, Neg0, bI_eq0, bI_eq1, bI_01, bft, up2_eq, up2_no, Bool.true_eq_false, Bool.false_eq_true, eq_self, m1_ne, m1_ne2, m1_lt, m1_le, lt_m1, m1_le2, bI_t, bI_f, FMu hF, hd0, hj, hc])
    apply isAt_M hF' hp.1
    cases hb : atS t z p (begC j) with
    | false =>
      rw [show begL t z p (j + 1) = begL t z p j by simp [begL, hb]] at ih
      (apply WP_run 4 80; simp (disch := first | decide | omega) only [t149_0, t149_1, t149_2, lift_c, o_inl, o_istore, s1_0, s1_s, o_iload2, o_icge, o_aload0, o_getref, o_caload, o_virt2, rpush_n, rpush_s, o_ifeq, o_goto, o_iload1, o_iinc2, o_icne, o_putbool, o_return, o_imul, o_iadd, o_virt1, o_putfield, o_dupi, o_dupr, o_getfield, o_iload3, o_ifne, o_ineg, z0, z1, z2, z3, z5, z20, z31, z32, run_0, run_c, run_n, fxn, fxi, fxr, fxl, fxl0, ↓swi_n, ↓swi_c, nck0, nck1, nck2, nck3, List.length_cons, List.length_nil, Nat.reduceAdd, Nat.reduceSub, Nat.reduceLeDiff, Nat.reduceEqDiff, Nat.reduceLT, reduceIte, ite_true, ite_false, Nat.sub_zero, Nat.zero_le, true_and, and_true, and_self, true_or, or_true, if_true, if_false, true_implies, implies_true, not_true_eq_false, not_false_eq_true, false_implies, forall_const, ne_eq, or_self, and_false, false_and, Lt, Le, Eq', Cp, In, nI_add, nI_mul, nI_sub, nI_sub1, Neg0, bI_eq0, bI_eq1, bI_01, bft, up2_eq, up2_no, Bool.true_eq_false, Bool.false_eq_true, eq_self, m1_ne, m1_ne2, m1_lt, m1_le, lt_m1, m1_le2, bI_t, bI_f, FMu hF])
      exact ih
    | true =>
      rw [show begL t z p (j + 1) = some j by simp [begL, hb]] at ih
      (apply WP_run 4 80; simp (disch := first | decide | omega) only [t149_0, t149_1, t149_2, lift_c, o_inl, o_istore, s1_0, s1_s, o_iload2, o_icge, o_aload0, o_getref, o_caload, o_virt2, rpush_n, rpush_s, o_ifeq, o_goto, o_iload1, o_iinc2, o_icne, o_putbool, o_return, o_imul, o_iadd, o_virt1, o_putfield, o_dupi, o_dupr, o_getfield, o_iload3, o_ifne, o_ineg, z0, z1, z2, z3, z5, z20, z31, z32, run_0, run_c, run_n, fxn, fxi, fxr, fxl, fxl0, ↓swi_n, ↓swi_c, nck0, nck1, nck2, nck3, List.length_cons, List.length_nil, Nat.reduceAdd, Nat.reduceSub, Nat.reduceLeDiff, Nat.reduceEqDiff, Nat.reduceLT, reduceIte, ite_true, ite_false, Nat.sub_zero, Nat.zero_le, true_and, and_true, and_self, true_or, or_true, if_true, if_false, true_implies, implies_true, not_true_eq_false, not_false_eq_true, false_implies, forall_const, ne_eq, or_self, and_false, false_and, Lt, Le, Eq', Cp, In, nI_add, nI_mul, nI_sub, nI_sub1, Neg0, bI_eq0, bI_eq1, bI_01, bft, up2_eq, up2_no, Bool.true_eq_false, Bool.false_eq_true, eq_self, m1_ne, m1_ne2, m1_lt, m1_le, lt_m1, m1_le2, bI_t, bI_f, FMu hF])
      exact ih
theorem word_0 (hF : FM sh P) (hp : RC I t z p nm) (hd : 2 ≤ d) {cc ss : Nat} (hQ : ∀ I' k, Eo scP I I' → PA I' t z (numS t z (takL t z [nI 108, nI 117, nI 114, nI 101, nI 32] p)).1 → WP G 149 d Q 95 [some (.ref 123), some (.int (nI 0)), some (.int k), none] [.int (numS t z (takL t z [nI 108, nI 117, nI 114, nI 101, nI 32] p)).2] cc ss n sh I' L P) :
    WP G 149 d Q 45 [some (.ref 123), some (.int (nI 0)), some (.int (nI 3)), none] [] cc ss n sh I L P := by
  have hF' := hF
  have hd0 : 0 < d := by omega
  have hR0 := hp
  have he0 : Eo scP I I := Eo.rf
  have hT0 := hR0.2.1
  unfold TB at hT0
  (apply WP_run 999 80; simp (disch := first | decide | omega) only [t149_0, t149_1, t149_2, lift_c, o_inl, o_istore, s1_0, s1_s, o_iload2, o_icge, o_aload0, o_getref, o_caload, o_virt2, rpush_n, rpush_s, o_ifeq, o_goto, o_iload1, o_iinc2, o_icne, o_putbool, o_return, o_imul, o_iadd, o_virt1, o_putfield, o_dupi, o_dupr, o_getfield, o_iload3, o_ifne, o_ineg, z0, z1, z2, z3, z5, z20, z31, z32, run_0, run_c, run_n, fxn, fxi, fxr, fxl, fxl0, ↓swi_n, ↓swi_c, nck0, nck1, nck2, nck3, List.length_cons, List.length_nil, Nat.reduceAdd, Nat.reduceSub, Nat.reduceLeDiff, Nat.reduceEqDiff, Nat.reduceLT, reduceIte, ite_true, ite_false, Nat.sub_zero, Nat.zero_le, true_and, and_true, and_self, true_or, or_true, if_true, if_false, true_implies, implies_true, not_true_eq_false, not_false_eq_true, false_implies, forall_const, ne_eq, or_self, and_false, false_and, Lt, Le, Eq', Cp, In, nI_add, nI_mul, nI_sub, nI_sub1, Neg0, bI_eq0, bI_eq1, bI_01, bft, up2_eq, up2_no, Bool.true_eq_false, Bool.false_eq_true, eq_self, m1_ne, m1_ne2, m1_lt, m1_le, lt_m1, m1_le2, bI_t, bI_f, FMu hF, hd0, hT0])
  apply takes_M hF' hR0.1 (by omega)
  intro I1 hf1 hp1
  have hR1 := hR0.eo hf1 hp1
  have he1 := he0.tr hf1
  have hT1 := hR1.2.1
  unfold TB at hT1
  (apply WP_run 999 80; simp (disch := first | decide | omega) only [t149_0, t149_1, t149_2, lift_c, o_inl, o_istore, s1_0, s1_s, o_iload2, o_icge, o_aload0, o_getref, o_caload, o_virt2, rpush_n, rpush_s, o_ifeq, o_goto, o_iload1, o_iinc2, o_icne, o_putbool, o_return, o_imul, o_iadd, o_virt1, o_putfield, o_dupi, o_dupr, o_getfield, o_iload3, o_ifne, o_ineg, z0, z1, z2, z3, z5, z20, z31, z32, run_0, run_c, run_n, fxn, fxi, fxr, fxl, fxl0, ↓swi_n, ↓swi_c, nck0, nck1, nck2, nck3, List.length_cons, List.length_nil, Nat.reduceAdd, Nat.reduceSub, Nat.reduceLeDiff, Nat.reduceEqDiff, Nat.reduceLT, reduceIte, ite_true, ite_false, Nat.sub_zero, Nat.zero_le, true_and, and_true, and_self, true_or, or_true, if_true, if_false, true_implies, implies_true, not_true_eq_false, not_false_eq_true, false_implies, forall_const, ne_eq, or_self, and_false, false_and, Lt, Le, Eq', Cp, In, nI_add, nI_mul, nI_sub, nI_sub1, Neg0, bI_eq0, bI_eq1, bI_01, bft, up2_eq, up2_no, Bool.true_eq_false, Bool.false_eq_true, eq_self, m1_ne, m1_ne2, m1_lt, m1_le, lt_m1, m1_le2, bI_t, bI_f, FMu hF, hd0, hT1])
  apply takes_M hF' hR1.1 (by omega)
  intro I2 hf2 hp2
  have hR2 := hR1.eo hf2 hp2
  have he2 := he1.tr hf2
  have hT2 := hR2.2.1
  unfold TB at hT2
  (apply WP_run 999 80; simp (disch := first | decide | omega) only [t149_0, t149_1, t149_2, lift_c, o_inl, o_istore, s1_0, s1_s, o_iload2, o_icge, o_aload0, o_getref, o_caload, o_virt2, rpush_n, rpush_s, o_ifeq, o_goto, o_iload1, o_iinc2, o_icne, o_putbool, o_return, o_imul, o_iadd, o_virt1, o_putfield, o_dupi, o_dupr, o_getfield, o_iload3, o_ifne, o_ineg, z0, z1, z2, z3, z5, z20, z31, z32, run_0, run_c, run_n, fxn, fxi, fxr, fxl, fxl0, ↓swi_n, ↓swi_c, nck0, nck1, nck2, nck3, List.length_cons, List.length_nil, Nat.reduceAdd, Nat.reduceSub, Nat.reduceLeDiff, Nat.reduceEqDiff, Nat.reduceLT, reduceIte, ite_true, ite_false, Nat.sub_zero, Nat.zero_le, true_and, and_true, and_self, true_or, or_true, if_true, if_false, true_implies, implies_true, not_true_eq_false, not_false_eq_true, false_implies, forall_const, ne_eq, or_self, and_false, false_and, Lt, Le, Eq', Cp, In, nI_add, nI_mul, nI_sub, nI_sub1, Neg0, bI_eq0, bI_eq1, bI_01, bft, up2_eq, up2_no, Bool.true_eq_false, Bool.false_eq_true, eq_self, m1_ne, m1_ne2, m1_lt, m1_le, lt_m1, m1_le2, bI_t, bI_f, FMu hF, hd0, hT2])
  apply takes_M hF' hR2.1 (by omega)
  intro I3 hf3 hp3
  have hR3 := hR2.eo hf3 hp3
  have he3 := he2.tr hf3
  have hT3 := hR3.2.1
  unfold TB at hT3
  (apply WP_run 999 80; simp (disch := first | decide | omega) only [t149_0, t149_1, t149_2, lift_c, o_inl, o_istore, s1_0, s1_s, o_iload2, o_icge, o_aload0, o_getref, o_caload, o_virt2, rpush_n, rpush_s, o_ifeq, o_goto, o_iload1, o_iinc2, o_icne, o_putbool, o_return, o_imul, o_iadd, o_virt1, o_putfield, o_dupi, o_dupr, o_getfield, o_iload3, o_ifne, o_ineg, z0, z1, z2, z3, z5, z20, z31, z32, run_0, run_c, run_n, fxn, fxi, fxr, fxl, fxl0, ↓swi_n, ↓swi_c, nck0, nck1, nck2, nck3, List.length_cons, List.length_nil, Nat.reduceAdd, Nat.reduceSub, Nat.reduceLeDiff, Nat.reduceEqDiff, Nat.reduceLT, reduceIte, ite_true, ite_false, Nat.sub_zero, Nat.zero_le, true_and, and_true, and_self, true_or, or_true, if_true, if_false, true_implies, implies_true, not_true_eq_false, not_false_eq_true, false_implies, forall_const, ne_eq, or_self, and_false, false_and, Lt, Le, Eq', Cp, In, nI_add, nI_mul, nI_sub, nI_sub1, Neg0, bI_eq0, bI_eq1, bI_01, bft, up2_eq, up2_no, Bool.true_eq_false, Bool.false_eq_true, eq_self, m1_ne, m1_ne2, m1_lt, m1_le, lt_m1, m1_le2, bI_t, bI_f, FMu hF, hd0, hT3])
  apply takes_M hF' hR3.1 (by omega)
  intro I4 hf4 hp4
  have hR4 := hR3.eo hf4 hp4
  have he4 := he3.tr hf4
  have hT4 := hR4.2.1
  unfold TB at hT4
  (apply WP_run 999 80; simp (disch := first | decide | omega) only [t149_0, t149_1, t149_2, lift_c, o_inl, o_istore, s1_0, s1_s, o_iload2, o_icge, o_aload0, o_getref, o_caload, o_virt2, rpush_n, rpush_s, o_ifeq, o_goto, o_iload1, o_iinc2, o_icne, o_putbool, o_return, o_imul, o_iadd, o_virt1, o_putfield, o_dupi, o_dupr, o_getfield, o_iload3, o_ifne, o_ineg, z0, z1, z2, z3, z5, z20, z31, z32, run_0, run_c, run_n, fxn, fxi, fxr, fxl, fxl0, ↓swi_n, ↓swi_c, nck0, nck1, nck2, nck3, List.length_cons, List.length_nil, Nat.reduceAdd, Nat.reduceSub, Nat.reduceLeDiff, Nat.reduceEqDiff, Nat.reduceLT, reduceIte, ite_true, ite_false, Nat.sub_zero, Nat.zero_le, true_and, and_true, and_self, true_or, or_true, if_true, if_false, true_implies, implies_true, not_true_eq_false, not_false_eq_true, false_implies, forall_const, ne_eq, or_self, and_false, false_and, Lt, Le, Eq', Cp, In, nI_add, nI_mul, nI_sub, nI_sub1, Neg0, bI_eq0, bI_eq1, bI_01, bft, up2_eq, up2_no, Bool.true_eq_false, Bool.false_eq_true, eq_self, m1_ne, m1_ne2, m1_lt, m1_le, lt_m1, m1_le2, bI_t, bI_f, FMu hF, hd0, hT4])
  apply takes_M hF' hR4.1 (by omega)
  intro I5 hf5 hp5
  have hR5 := hR4.eo hf5 hp5
  have he5 := he4.tr hf5
  (apply WP_run 999 80; simp (disch := first | decide | omega) only [t149_0, t149_1, t149_2, lift_c, o_inl, o_istore, s1_0, s1_s, o_iload2, o_icge, o_aload0, o_getref, o_caload, o_virt2, rpush_n, rpush_s, o_ifeq, o_goto, o_iload1, o_iinc2, o_icne, o_putbool, o_return, o_imul, o_iadd, o_virt1, o_putfield, o_dupi, o_dupr, o_getfield, o_iload3, o_ifne, o_ineg, z0, z1, z2, z3, z5, z20, z31, z32, run_0, run_c, run_n, fxn, fxi, fxr, fxl, fxl0, ↓swi_n, ↓swi_c, nck0, nck1, nck2, nck3, List.length_cons, List.length_nil, Nat.reduceAdd, Nat.reduceSub, Nat.reduceLeDiff, Nat.reduceEqDiff, Nat.reduceLT, reduceIte, ite_true, ite_false, Nat.sub_zero, Nat.zero_le, true_and, and_true, and_self, true_or, or_true, if_true, if_false, true_implies, implies_true, not_true_eq_false, not_false_eq_true, false_implies, forall_const, ne_eq, or_self, and_false, false_and, Lt, Le, Eq', Cp, In, nI_add, nI_mul, nI_sub, nI_sub1, Neg0, bI_eq0, bI_eq1, bI_01, bft, up2_eq, up2_no, Bool.true_eq_false, Bool.false_eq_true, eq_self, m1_ne, m1_ne2, m1_lt, m1_le, lt_m1, m1_le2, bI_t, bI_f, FMu hF, hd0])
  apply number_M hF' hR5.1 (by omega)
  intro I' hf hp'
  exact hQ I' _ (he5.tr hf) hp'
theorem word_1 (hF : FM sh P) (hp : RC I t z p nm) (hd : 2 ≤ d) {cc ss : Nat} (hQ : ∀ I' k, Eo scP I I' → PA I' t z (numS t z (takL t z [nI 115, nI 99, nI 97, nI 114, nI 101, nI 32] p)).1 → WP G 149 d Q 95 [some (.ref 123), some (.int (nI 1)), some (.int k), none] [.int (numS t z (takL t z [nI 115, nI 99, nI 97, nI 114, nI 101, nI 32] p)).2] cc ss n sh I' L P) :
    WP G 149 d Q 45 [some (.ref 123), some (.int (nI 1)), some (.int (nI 3)), none] [] cc ss n sh I L P := by
  have hF' := hF
  have hd0 : 0 < d := by omega
  have hR0 := hp
  have he0 : Eo scP I I := Eo.rf
  have hT0 := hR0.2.1
  unfold TB at hT0
  (apply WP_run 999 80; simp (disch := first | decide | omega) only [t149_0, t149_1, t149_2, lift_c, o_inl, o_istore, s1_0, s1_s, o_iload2, o_icge, o_aload0, o_getref, o_caload, o_virt2, rpush_n, rpush_s, o_ifeq, o_goto, o_iload1, o_iinc2, o_icne, o_putbool, o_return, o_imul, o_iadd, o_virt1, o_putfield, o_dupi, o_dupr, o_getfield, o_iload3, o_ifne, o_ineg, z0, z1, z2, z3, z5, z20, z31, z32, run_0, run_c, run_n, fxn, fxi, fxr, fxl, fxl0, ↓swi_n, ↓swi_c, nck0, nck1, nck2, nck3, List.length_cons, List.length_nil, Nat.reduceAdd, Nat.reduceSub, Nat.reduceLeDiff, Nat.reduceEqDiff, Nat.reduceLT, reduceIte, ite_true, ite_false, Nat.sub_zero, Nat.zero_le, true_and, and_true, and_self, true_or, or_true, if_true, if_false, true_implies, implies_true, not_true_eq_false, not_false_eq_true, false_implies, forall_const, ne_eq, or_self, and_false, false_and, Lt, Le, Eq', Cp, In, nI_add, nI_mul, nI_sub, nI_sub1, Neg0, bI_eq0, bI_eq1, bI_01, bft, up2_eq, up2_no, Bool.true_eq_false, Bool.false_eq_true, eq_self, m1_ne, m1_ne2, m1_lt, m1_le, lt_m1, m1_le2, bI_t, bI_f, FMu hF, hd0, hT0])
  apply takes_M hF' hR0.1 (by omega)
  intro I1 hf1 hp1
  have hR1 := hR0.eo hf1 hp1
  have he1 := he0.tr hf1
  have hT1 := hR1.2.1
  unfold TB at hT1
  (apply WP_run 999 80; simp (disch := first | decide | omega) only [t149_0, t149_1, t149_2, lift_c, o_inl, o_istore, s1_0, s1_s, o_iload2, o_icge, o_aload0, o_getref, o_caload, o_virt2, rpush_n, rpush_s, o_ifeq, o_goto, o_iload1, o_iinc2, o_icne, o_putbool, o_return, o_imul, o_iadd, o_virt1, o_putfield, o_dupi, o_dupr, o_getfield, o_iload3, o_ifne, o_ineg, z0, z1, z2, z3, z5, z20, z31, z32, run_0, run_c, run_n, fxn, fxi, fxr, fxl, fxl0, ↓swi_n, ↓swi_c, nck0, nck1, nck2, nck3, List.length_cons, List.length_nil, Nat.reduceAdd, Nat.reduceSub, Nat.reduceLeDiff, Nat.reduceEqDiff, Nat.reduceLT, reduceIte, ite_true, ite_false, Nat.sub_zero, Nat.zero_le, true_and, and_true, and_self, true_or, or_true, if_true, if_false, true_implies, implies_true, not_true_eq_false, not_false_eq_true, false_implies, forall_const, ne_eq, or_self, and_false, false_and, Lt, Le, Eq', Cp, In, nI_add, nI_mul, nI_sub, nI_sub1, Neg0, bI_eq0, bI_eq1, bI_01, bft, up2_eq, up2_no, Bool.true_eq_false, Bool.false_eq_true, eq_self, m1_ne, m1_ne2, m1_lt, m1_le, lt_m1, m1_le2, bI_t, bI_f, FMu hF, hd0, hT1])
  apply takes_M hF' hR1.1 (by omega)
  intro I2 hf2 hp2
  have hR2 := hR1.eo hf2 hp2
  have he2 := he1.tr hf2
  have hT2 := hR2.2.1
  unfold TB at hT2
  (apply WP_run 999 80; simp (disch := first | decide | omega) only [t149_0, t149_1, t149_2, lift_c, o_inl, o_istore, s1_0, s1_s, o_iload2, o_icge, o_aload0, o_getref, o_caload, o_virt2, rpush_n, rpush_s, o_ifeq, o_goto, o_iload1, o_iinc2, o_icne, o_putbool, o_return, o_imul, o_iadd, o_virt1, o_putfield, o_dupi, o_dupr, o_getfield, o_iload3, o_ifne, o_ineg, z0, z1, z2, z3, z5, z20, z31, z32, run_0, run_c, run_n, fxn, fxi, fxr, fxl, fxl0, ↓swi_n, ↓swi_c, nck0, nck1, nck2, nck3, List.length_cons, List.length_nil, Nat.reduceAdd, Nat.reduceSub, Nat.reduceLeDiff, Nat.reduceEqDiff, Nat.reduceLT, reduceIte, ite_true, ite_false, Nat.sub_zero, Nat.zero_le, true_and, and_true, and_self, true_or, or_true, if_true, if_false, true_implies, implies_true, not_true_eq_false, not_false_eq_true, false_implies, forall_const, ne_eq, or_self, and_false, false_and, Lt, Le, Eq', Cp, In, nI_add, nI_mul, nI_sub, nI_sub1, Neg0, bI_eq0, bI_eq1, bI_01, bft, up2_eq, up2_no, Bool.true_eq_false, Bool.false_eq_true, eq_self, m1_ne, m1_ne2, m1_lt, m1_le, lt_m1, m1_le2, bI_t, bI_f, FMu hF, hd0, hT2])
  apply takes_M hF' hR2.1 (by omega)
  intro I3 hf3 hp3
  have hR3 := hR2.eo hf3 hp3
  have he3 := he2.tr hf3
  have hT3 := hR3.2.1
  unfold TB at hT3
  (apply WP_run 999 80; simp (disch := first | decide | omega) only [t149_0, t149_1, t149_2, lift_c, o_inl, o_istore, s1_0, s1_s, o_iload2, o_icge, o_aload0, o_getref, o_caload, o_virt2, rpush_n, rpush_s, o_ifeq, o_goto, o_iload1, o_iinc2, o_icne, o_putbool, o_return, o_imul, o_iadd, o_virt1, o_putfield, o_dupi, o_dupr, o_getfield, o_iload3, o_ifne, o_ineg, z0, z1, z2, z3, z5, z20, z31, z32, run_0, run_c, run_n, fxn, fxi, fxr, fxl, fxl0, ↓swi_n, ↓swi_c, nck0, nck1, nck2, nck3, List.length_cons, List.length_nil, Nat.reduceAdd, Nat.reduceSub, Nat.reduceLeDiff, Nat.reduceEqDiff, Nat.reduceLT, reduceIte, ite_true, ite_false, Nat.sub_zero, Nat.zero_le, true_and, and_true, and_self, true_or, or_true, if_true, if_false, true_implies, implies_true, not_true_eq_false, not_false_eq_true, false_implies, forall_const, ne_eq, or_self, and_false, false_and, Lt, Le, Eq', Cp, In, nI_add, nI_mul, nI_sub, nI_sub1, Neg0, bI_eq0, bI_eq1, bI_01, bft, up2_eq, up2_no, Bool.true_eq_false, Bool.false_eq_true, eq_self, m1_ne, m1_ne2, m1_lt, m1_le, lt_m1, m1_le2, bI_t, bI_f, FMu hF, hd0, hT3])
  apply takes_M hF' hR3.1 (by omega)
  intro I4 hf4 hp4
  have hR4 := hR3.eo hf4 hp4
  have he4 := he3.tr hf4
  have hT4 := hR4.2.1
  unfold TB at hT4
  (apply WP_run 999 80; simp (disch := first | decide | omega) only [t149_0, t149_1, t149_2, lift_c, o_inl, o_istore, s1_0, s1_s, o_iload2, o_icge, o_aload0, o_getref, o_caload, o_virt2, rpush_n, rpush_s, o_ifeq, o_goto, o_iload1, o_iinc2, o_icne, o_putbool, o_return, o_imul, o_iadd, o_virt1, o_putfield, o_dupi, o_dupr, o_getfield, o_iload3, o_ifne, o_ineg, z0, z1, z2, z3, z5, z20, z31, z32, run_0, run_c, run_n, fxn, fxi, fxr, fxl, fxl0, ↓swi_n, ↓swi_c, nck0, nck1, nck2, nck3, List.length_cons, List.length_nil, Nat.reduceAdd, Nat.reduceSub, Nat.reduceLeDiff, Nat.reduceEqDiff, Nat.reduceLT, reduceIte, ite_true, ite_false, Nat.sub_zero, Nat.zero_le, true_and, and_true, and_self, true_or, or_true, if_true, if_false, true_implies, implies_true, not_true_eq_false, not_false_eq_true, false_implies, forall_const, ne_eq, or_self, and_false, false_and, Lt, Le, Eq', Cp, In, nI_add, nI_mul, nI_sub, nI_sub1, Neg0, bI_eq0, bI_eq1, bI_01, bft, up2_eq, up2_no, Bool.true_eq_false, Bool.false_eq_true, eq_self, m1_ne, m1_ne2, m1_lt, m1_le, lt_m1, m1_le2, bI_t, bI_f, FMu hF, hd0, hT4])
  apply takes_M hF' hR4.1 (by omega)
  intro I5 hf5 hp5
  have hR5 := hR4.eo hf5 hp5
  have he5 := he4.tr hf5
  have hT5 := hR5.2.1
  unfold TB at hT5
  (apply WP_run 999 80; simp (disch := first | decide | omega) only [t149_0, t149_1, t149_2, lift_c, o_inl, o_istore, s1_0, s1_s, o_iload2, o_icge, o_aload0, o_getref, o_caload, o_virt2, rpush_n, rpush_s, o_ifeq, o_goto, o_iload1, o_iinc2, o_icne, o_putbool, o_return, o_imul, o_iadd, o_virt1, o_putfield, o_dupi, o_dupr, o_getfield, o_iload3, o_ifne, o_ineg, z0, z1, z2, z3, z5, z20, z31, z32, run_0, run_c, run_n, fxn, fxi, fxr, fxl, fxl0, ↓swi_n, ↓swi_c, nck0, nck1, nck2, nck3, List.length_cons, List.length_nil, Nat.reduceAdd, Nat.reduceSub, Nat.reduceLeDiff, Nat.reduceEqDiff, Nat.reduceLT, reduceIte, ite_true, ite_false, Nat.sub_zero, Nat.zero_le, true_and, and_true, and_self, true_or, or_true, if_true, if_false, true_implies, implies_true, not_true_eq_false, not_false_eq_true, false_implies, forall_const, ne_eq, or_self, and_false, false_and, Lt, Le, Eq', Cp, In, nI_add, nI_mul, nI_sub, nI_sub1, Neg0, bI_eq0, bI_eq1, bI_01, bft, up2_eq, up2_no, Bool.true_eq_false, Bool.false_eq_true, eq_self, m1_ne, m1_ne2, m1_lt, m1_le, lt_m1, m1_le2, bI_t, bI_f, FMu hF, hd0, hT5])
  apply takes_M hF' hR5.1 (by omega)
  intro I6 hf6 hp6
  have hR6 := hR5.eo hf6 hp6
  have he6 := he5.tr hf6
  (apply WP_run 999 80; simp (disch := first | decide | omega) only [t149_0, t149_1, t149_2, lift_c, o_inl, o_istore, s1_0, s1_s, o_iload2, o_icge, o_aload0, o_getref, o_caload, o_virt2, rpush_n, rpush_s, o_ifeq, o_goto, o_iload1, o_iinc2, o_icne, o_putbool, o_return, o_imul, o_iadd, o_virt1, o_putfield, o_dupi, o_dupr, o_getfield, o_iload3, o_ifne, o_ineg, z0, z1, z2, z3, z5, z20, z31, z32, run_0, run_c, run_n, fxn, fxi, fxr, fxl, fxl0, ↓swi_n, ↓swi_c, nck0, nck1, nck2, nck3, List.length_cons, List.length_nil, Nat.reduceAdd, Nat.reduceSub, Nat.reduceLeDiff, Nat.reduceEqDiff, Nat.reduceLT, reduceIte, ite_true, ite_false, Nat.sub_zero, Nat.zero_le, true_and, and_true, and_self, true_or, or_true, if_true, if_false, true_implies, implies_true, not_true_eq_false, not_false_eq_true, false_implies, forall_const, ne_eq, or_self, and_false, false_and, Lt, Le, Eq', Cp, In, nI_add, nI_mul, nI_sub, nI_sub1, Neg0, bI_eq0, bI_eq1, bI_01, bft, up2_eq, up2_no, Bool.true_eq_false, Bool.false_eq_true, eq_self, m1_ne, m1_ne2, m1_lt, m1_le, lt_m1, m1_le2, bI_t, bI_f, FMu hF, hd0])
  apply number_M hF' hR6.1 (by omega)
  intro I' hf hp'
  exact hQ I' _ (he6.tr hf) hp'
theorem word_2 (hF : FM sh P) (hp : RC I t z p nm) (hd : 2 ≤ d) {cc ss : Nat} (hQ : ∀ I' k, Eo scP I I' → PA I' t z (numS t z (takL t z [nI 101, nI 97, nI 116, nI 32] p)).1 → WP G 149 d Q 95 [some (.ref 123), some (.int (nI 2)), some (.int k), none] [.int (numS t z (takL t z [nI 101, nI 97, nI 116, nI 32] p)).2] cc ss n sh I' L P) :
    WP G 149 d Q 45 [some (.ref 123), some (.int (nI 2)), some (.int (nI 3)), none] [] cc ss n sh I L P := by
  have hF' := hF
  have hd0 : 0 < d := by omega
  have hR0 := hp
  have he0 : Eo scP I I := Eo.rf
  have hT0 := hR0.2.1
  unfold TB at hT0
  (apply WP_run 999 80; simp (disch := first | decide | omega) only [t149_0, t149_1, t149_2, lift_c, o_inl, o_istore, s1_0, s1_s, o_iload2, o_icge, o_aload0, o_getref, o_caload, o_virt2, rpush_n, rpush_s, o_ifeq, o_goto, o_iload1, o_iinc2, o_icne, o_putbool, o_return, o_imul, o_iadd, o_virt1, o_putfield, o_dupi, o_dupr, o_getfield, o_iload3, o_ifne, o_ineg, z0, z1, z2, z3, z5, z20, z31, z32, run_0, run_c, run_n, fxn, fxi, fxr, fxl, fxl0, ↓swi_n, ↓swi_c, nck0, nck1, nck2, nck3, List.length_cons, List.length_nil, Nat.reduceAdd, Nat.reduceSub, Nat.reduceLeDiff, Nat.reduceEqDiff, Nat.reduceLT, reduceIte, ite_true, ite_false, Nat.sub_zero, Nat.zero_le, true_and, and_true, and_self, true_or, or_true, if_true, if_false, true_implies, implies_true, not_true_eq_false, not_false_eq_true, false_implies, forall_const, ne_eq, or_self, and_false, false_and, Lt, Le, Eq', Cp, In, nI_add, nI_mul, nI_sub, nI_sub1, Neg0, bI_eq0, bI_eq1, bI_01, bft, up2_eq, up2_no, Bool.true_eq_false, Bool.false_eq_true, eq_self, m1_ne, m1_ne2, m1_lt, m1_le, lt_m1, m1_le2, bI_t, bI_f, FMu hF, hd0, hT0])
  apply takes_M hF' hR0.1 (by omega)
  intro I1 hf1 hp1
  have hR1 := hR0.eo hf1 hp1
  have he1 := he0.tr hf1
  have hT1 := hR1.2.1
  unfold TB at hT1
  (apply WP_run 999 80; simp (disch := first | decide | omega) only [t149_0, t149_1, t149_2, lift_c, o_inl, o_istore, s1_0, s1_s, o_iload2, o_icge, o_aload0, o_getref, o_caload, o_virt2, rpush_n, rpush_s, o_ifeq, o_goto, o_iload1, o_iinc2, o_icne, o_putbool, o_return, o_imul, o_iadd, o_virt1, o_putfield, o_dupi, o_dupr, o_getfield, o_iload3, o_ifne, o_ineg, z0, z1, z2, z3, z5, z20, z31, z32, run_0, run_c, run_n, fxn, fxi, fxr, fxl, fxl0, ↓swi_n, ↓swi_c, nck0, nck1, nck2, nck3, List.length_cons, List.length_nil, Nat.reduceAdd, Nat.reduceSub, Nat.reduceLeDiff, Nat.reduceEqDiff, Nat.reduceLT, reduceIte, ite_true, ite_false, Nat.sub_zero, Nat.zero_le, true_and, and_true, and_self, true_or, or_true, if_true, if_false, true_implies, implies_true, not_true_eq_false, not_false_eq_true, false_implies, forall_const, ne_eq, or_self, and_false, false_and, Lt, Le, Eq', Cp, In, nI_add, nI_mul, nI_sub, nI_sub1, Neg0, bI_eq0, bI_eq1, bI_01, bft, up2_eq, up2_no, Bool.true_eq_false, Bool.false_eq_true, eq_self, m1_ne, m1_ne2, m1_lt, m1_le, lt_m1, m1_le2, bI_t, bI_f, FMu hF, hd0, hT1])
  apply takes_M hF' hR1.1 (by omega)
  intro I2 hf2 hp2
  have hR2 := hR1.eo hf2 hp2
  have he2 := he1.tr hf2
  have hT2 := hR2.2.1
  unfold TB at hT2
  (apply WP_run 999 80; simp (disch := first | decide | omega) only [t149_0, t149_1, t149_2, lift_c, o_inl, o_istore, s1_0, s1_s, o_iload2, o_icge, o_aload0, o_getref, o_caload, o_virt2, rpush_n, rpush_s, o_ifeq, o_goto, o_iload1, o_iinc2, o_icne, o_putbool, o_return, o_imul, o_iadd, o_virt1, o_putfield, o_dupi, o_dupr, o_getfield, o_iload3, o_ifne, o_ineg, z0, z1, z2, z3, z5, z20, z31, z32, run_0, run_c, run_n, fxn, fxi, fxr, fxl, fxl0, ↓swi_n, ↓swi_c, nck0, nck1, nck2, nck3, List.length_cons, List.length_nil, Nat.reduceAdd, Nat.reduceSub, Nat.reduceLeDiff, Nat.reduceEqDiff, Nat.reduceLT, reduceIte, ite_true, ite_false, Nat.sub_zero, Nat.zero_le, true_and, and_true, and_self, true_or, or_true, if_true, if_false, true_implies, implies_true, not_true_eq_false, not_false_eq_true, false_implies, forall_const, ne_eq, or_self, and_false, false_and, Lt, Le, Eq', Cp, In, nI_add, nI_mul, nI_sub, nI_sub1, Neg0, bI_eq0, bI_eq1, bI_01, bft, up2_eq, up2_no, Bool.true_eq_false, Bool.false_eq_true, eq_self, m1_ne, m1_ne2, m1_lt, m1_le, lt_m1, m1_le2, bI_t, bI_f, FMu hF, hd0, hT2])
  apply takes_M hF' hR2.1 (by omega)
  intro I3 hf3 hp3
  have hR3 := hR2.eo hf3 hp3
  have he3 := he2.tr hf3
  have hT3 := hR3.2.1
  unfold TB at hT3
  (apply WP_run 999 80; simp (disch := first | decide | omega) only [t149_0, t149_1, t149_2, lift_c, o_inl, o_istore, s1_0, s1_s, o_iload2, o_icge, o_aload0, o_getref, o_caload, o_virt2, rpush_n, rpush_s, o_ifeq, o_goto, o_iload1, o_iinc2, o_icne, o_putbool, o_return, o_imul, o_iadd, o_virt1, o_putfield, o_dupi, o_dupr, o_getfield, o_iload3, o_ifne, o_ineg, z0, z1, z2, z3, z5, z20, z31, z32, run_0, run_c, run_n, fxn, fxi, fxr, fxl, fxl0, ↓swi_n, ↓swi_c, nck0, nck1, nck2, nck3, List.length_cons, List.length_nil, Nat.reduceAdd, Nat.reduceSub, Nat.reduceLeDiff, Nat.reduceEqDiff, Nat.reduceLT, reduceIte, ite_true, ite_false, Nat.sub_zero, Nat.zero_le, true_and, and_true, and_self, true_or, or_true, if_true, if_false, true_implies, implies_true, not_true_eq_false, not_false_eq_true, false_implies, forall_const, ne_eq, or_self, and_false, false_and, Lt, Le, Eq', Cp, In, nI_add, nI_mul, nI_sub, nI_sub1, Neg0, bI_eq0, bI_eq1, bI_01, bft, up2_eq, up2_no, Bool.true_eq_false, Bool.false_eq_true, eq_self, m1_ne, m1_ne2, m1_lt, m1_le, lt_m1, m1_le2, bI_t, bI_f, FMu hF, hd0, hT3])
  apply takes_M hF' hR3.1 (by omega)
  intro I4 hf4 hp4
  have hR4 := hR3.eo hf4 hp4
  have he4 := he3.tr hf4
  (apply WP_run 999 80; simp (disch := first | decide | omega) only [t149_0, t149_1, t149_2, lift_c, o_inl, o_istore, s1_0, s1_s, o_iload2, o_icge, o_aload0, o_getref, o_caload, o_virt2, rpush_n, rpush_s, o_ifeq, o_goto, o_iload1, o_iinc2, o_icne, o_putbool, o_return, o_imul, o_iadd, o_virt1, o_putfield, o_dupi, o_dupr, o_getfield, o_iload3, o_ifne, o_ineg, z0, z1, z2, z3, z5, z20, z31, z32, run_0, run_c, run_n, fxn, fxi, fxr, fxl, fxl0, ↓swi_n, ↓swi_c, nck0, nck1, nck2, nck3, List.length_cons, List.length_nil, Nat.reduceAdd, Nat.reduceSub, Nat.reduceLeDiff, Nat.reduceEqDiff, Nat.reduceLT, reduceIte, ite_true, ite_false, Nat.sub_zero, Nat.zero_le, true_and, and_true, and_self, true_or, or_true, if_true, if_false, true_implies, implies_true, not_true_eq_false, not_false_eq_true, false_implies, forall_const, ne_eq, or_self, and_false, false_and, Lt, Le, Eq', Cp, In, nI_add, nI_mul, nI_sub, nI_sub1, Neg0, bI_eq0, bI_eq1, bI_01, bft, up2_eq, up2_no, Bool.true_eq_false, Bool.false_eq_true, eq_self, m1_ne, m1_ne2, m1_lt, m1_le, lt_m1, m1_le2, bI_t, bI_f, FMu hF, hd0])
  apply number_M hF' hR4.1 (by omega)
  intro I' hf hp'
  exact hQ I' _ (he4.tr hf) hp'
theorem onI_s (k : Nat) : onI (some k) = nI k := rfl
theorem begL_3 : begL t z p 3 = if atS t z p (nI 101) = true then some 2 else if atS t z p (nI 115) = true then some 1 else if atS t z p (nI 108) = true then some 0 else none := rfl
/-- what a clause does to the sum and to what is eaten -/
def claP (I I' : TI) (nm : TN) (w : PS × List SP × Option Int32) : Prop :=
  w.1.2 = true → I' 123 15 = oet w.2.2 (I 123 15) ∧ ∀ y, ∃ x, evA nm w.2.1 ([], y) = ([], y + x) ∧ I' 123 14 = I 123 14 + x
theorem takL_w {t : TN} {z : Nat} : ∀ (l : List Int32) (p : PS), (takL t z l p).2 = true → p.2 = true
  | [], _, h => h
  | c :: r, p, h => by
    have h := takL_w r (takS t z p c) h
    unfold takS at h
    split at h
    · exact h
    · cases h
theorem PA.up14 {I : TI} {t : TN} {z : Nat} {p : PS} (h : PA I t z p) (v : Int32) : PA (up2 I 123 14 v) t z p :=
  ⟨h.z100, fun j hj => by rw [up2_no _ _ _ _ _ _ (by omega)]; exact h.txt hj, by rw [up2_no _ _ _ _ _ _ (by omega)]; exact h.sz, h.le, by rw [up2_no _ _ _ _ _ _ (by omega)]; exact h.a, by rw [up2_no _ _ _ _ _ _ (by omega)]; exact h.w⟩
theorem PA.up15 {I : TI} {t : TN} {z : Nat} {p : PS} (h : PA I t z p) (v : Int32) : PA (up2 I 123 15 v) t z p :=
  ⟨h.z100, fun j hj => by rw [up2_no _ _ _ _ _ _ (by omega)]; exact h.txt hj, by rw [up2_no _ _ _ _ _ _ (by omega)]; exact h.sz, h.le, by rw [up2_no _ _ _ _ _ _ (by omega)]; exact h.a, by rw [up2_no _ _ _ _ _ _ (by omega)]; exact h.w⟩
theorem clause_E (hF : FM sh P) (hp : RC I t z p nm) (hd : 30 ≤ d) {w : Nat} (hw : w = 0 ∨ w = 1) {cc ss : Nat} {v : Int32}
    (hQ : ∀ I', Eo scC I I' → PA I' t z (anyS t z (facS t z 4) (takS t z p (nI 32))).1 → ((anyS t z (facS t z 4) (takS t z p (nI 32))).1.2 = true → ∃ b, one nm (anyS t z (facS t z 4) (takS t z p (nI 32))).2 b ∧ I' 123 15 = I 123 15 ∧ I' 123 14 = I 123 14 + (if b = true then (if w = 0 then v else -v) else nI 0)) → Q none n sh I' L P) :
    WP G 149 d Q 107 [some (.ref 123), some (.int (nI w)), some (.int v), none] [] cc ss n sh I L P := by
  have hF' := hF
  have hd0 : 0 < d := by omega
  have hwn : w ≠ 2 := by omega
  (apply WP_run 999 80; simp (disch := first | decide | omega) only [t149_0, t149_1, t149_2, lift_c, o_inl, o_istore, s1_0, s1_s, o_iload2, o_icge, o_aload0, o_getref, o_caload, o_virt2, rpush_n, rpush_s, o_ifeq, o_goto, o_iload1, o_iinc2, o_icne, o_putbool, o_return, o_imul, o_iadd, o_virt1, o_putfield, o_dupi, o_dupr, o_getfield, o_iload3, o_ifne, o_ineg, z0, z1, z2, z3, z5, z20, z31, z32, run_0, run_c, run_n, fxn, fxi, fxr, fxl, fxl0, ↓swi_n, ↓swi_c, nck0, nck1, nck2, nck3, List.length_cons, List.length_nil, Nat.reduceAdd, Nat.reduceSub, Nat.reduceLeDiff, Nat.reduceEqDiff, Nat.reduceLT, reduceIte, ite_true, ite_false, Nat.sub_zero, Nat.zero_le, true_and, and_true, and_self, true_or, or_true, if_true, if_false, true_implies, implies_true, not_true_eq_false, not_false_eq_true, false_implies, forall_const, ne_eq, or_self, and_false, false_and, Lt, Le, Eq', Cp, In, nI_add, nI_mul, nI_sub, nI_sub1, Neg0, bI_eq0, bI_eq1, bI_01, bft, up2_eq, up2_no, Bool.true_eq_false, Bool.false_eq_true, eq_self, m1_ne, m1_ne2, m1_lt, m1_le, lt_m1, m1_le2, bI_t, bI_f, FMu hF, hd0, hwn])
  apply takes_M hF' hp.1 (by omega)
  intro I1 he1 hp1
  have hR1 := hp.eo he1 hp1
  have hp2 := hp1.up13 (nI 0)
  have hR2 : RC (up2 I1 123 13 (nI 0)) t z (takS t z p (nI 32)) nm := hR1.eo' (S := sc13) (Eo.up Eo.rf (show sc13 123 13 from rfl) _) (fun a j q => q) hp2
  have hA := any_M (G := G) (botS_le (facS_le t z 4)) (both_M (facS_le t z 4) (factor_M t z nm 4 (by decide)))
  (apply WP_run 999 80; simp (disch := first | decide | omega) only [t149_0, t149_1, t149_2, lift_c, o_inl, o_istore, s1_0, s1_s, o_iload2, o_icge, o_aload0, o_getref, o_caload, o_virt2, rpush_n, rpush_s, o_ifeq, o_goto, o_iload1, o_iinc2, o_icne, o_putbool, o_return, o_imul, o_iadd, o_virt1, o_putfield, o_dupi, o_dupr, o_getfield, o_iload3, o_ifne, o_ineg, z0, z1, z2, z3, z5, z20, z31, z32, run_0, run_c, run_n, fxn, fxi, fxr, fxl, fxl0, ↓swi_n, ↓swi_c, nck0, nck1, nck2, nck3, List.length_cons, List.length_nil, Nat.reduceAdd, Nat.reduceSub, Nat.reduceLeDiff, Nat.reduceEqDiff, Nat.reduceLT, reduceIte, ite_true, ite_false, Nat.sub_zero, Nat.zero_le, true_and, and_true, and_self, true_or, or_true, if_true, if_false, true_implies, implies_true, not_true_eq_false, not_false_eq_true, false_implies, forall_const, ne_eq, or_self, and_false, false_and, Lt, Le, Eq', Cp, In, nI_add, nI_mul, nI_sub, nI_sub1, Neg0, bI_eq0, bI_eq1, bI_01, bft, up2_eq, up2_no, Bool.true_eq_false, Bool.false_eq_true, eq_self, m1_ne, m1_ne2, m1_lt, m1_le, lt_m1, m1_le2, bI_t, bI_f, FMu hF, hd0])
  refine hA _ _ _ _ _ _ _ _ hF' hR2 (up2_eq _ _ _ _) (by omega) fun I3 b3 he3 hp3 hb3 => ?_
  have e14 : I3 123 14 = I 123 14 := (he3 123 14 (fun q => by rcases q.2 with q | q <;> cases q)).trans ((up2_no _ _ _ _ _ _ (by omega)).trans (he1 123 14 (fun q => by rcases q.2 with q | q <;> cases q)))
  have e15 : I3 123 15 = I 123 15 := (he3 123 15 (fun q => by rcases q.2 with q | q <;> cases q)).trans ((up2_no _ _ _ _ _ _ (by omega)).trans (he1 123 15 (fun q => by rcases q.2 with q | q <;> cases q)))
  have hE : Eo scC I I3 := ((he1.mono fun _ _ => scP_C).tr (Eo.up Eo.rf ⟨rfl, by omega, by omega⟩ _)).tr (he3.mono fun _ _ => scP_C)
  have fin : ∀ x, x = (if b3 = true then (if w = 0 then v else -v) else nI 0) → Q none n sh (up2 I3 123 14 (I 123 14 + x)) L P := fun x hx => by
    refine hQ _ (Eo.up hE ⟨rfl, by omega, by omega⟩ _) (hp3.up14 _) fun q => ⟨b3, hb3 q, ?_, ?_⟩
    · rw [up2_no _ _ _ _ _ _ (by omega)]
      exact e15
    · rw [up2_eq, hx]
  rcases hw with rfl | rfl <;> cases b3 <;> ((apply WP_run 999 80; simp (disch := first | decide | omega) only [t149_0, t149_1, t149_2, lift_c, o_inl, o_istore, s1_0, s1_s, o_iload2, o_icge, o_aload0, o_getref, o_caload, o_virt2, rpush_n, rpush_s, o_ifeq, o_goto, o_iload1, o_iinc2, o_icne, o_putbool, o_return, o_imul, o_iadd, o_virt1, o_putfield, o_dupi, o_dupr, o_getfield, o_iload3, o_ifne, o_ineg, z0, z1, z2, z3, z5, z20, z31, z32, run_0, run_c, run_n, fxn, fxi, fxr, fxl, fxl0, ↓swi_n, ↓swi_c, nck0, nck1, nck2, nck3, List.length_cons, List.length_nil, Nat.reduceAdd, Nat.reduceSub, Nat.reduceLeDiff, Nat.reduceEqDiff, Nat.reduceLT, reduceIte, ite_true, ite_false, Nat.sub_zero, Nat.zero_le, true_and, and_true, and_self, true_or, or_true, if_true, if_false, true_implies, implies_true, not_true_eq_false, not_false_eq_true, false_implies, forall_const, ne_eq, or_self, and_false, false_and, Lt, Le, Eq', Cp, In, nI_add, nI_mul, nI_sub, nI_sub1, Neg0, bI_eq0, bI_eq1, bI_01, bft, up2_eq, up2_no, Bool.true_eq_false, Bool.false_eq_true, eq_self, m1_ne, m1_ne2, m1_lt, m1_le, lt_m1, m1_le2, bI_t, bI_f, FMu hF, hd0, e14]); exact fin _ rfl)
theorem clause_M (hF : FM sh P) (hp : RC I t z p nm) (hd : 31 ≤ d) (hQ : ∀ I', Eo scC I I' → PA I' t z (claS t z p).1 → claP I I' nm (claS t z p) → Q none n sh I' L P) : Cl G d 149 [.ref 123] n sh I L P Q := by
  apply e149
  (apply WP_run 4 80; simp (disch := first | decide | omega) only [t149_0, t149_1, t149_2, lift_c, o_inl, o_istore, s1_0, s1_s, o_iload2, o_icge, o_aload0, o_getref, o_caload, o_virt2, rpush_n, rpush_s, o_ifeq, o_goto, o_iload1, o_iinc2, o_icne, o_putbool, o_return, o_imul, o_iadd, o_virt1, o_putfield, o_dupi, o_dupr, o_getfield, o_iload3, o_ifne, o_ineg, z0, z1, z2, z3, z5, z20, z31, z32, run_0, run_c, run_n, fxn, fxi, fxr, fxl, fxl0, ↓swi_n, ↓swi_c, nck0, nck1, nck2, nck3, List.length_cons, List.length_nil, Nat.reduceAdd, Nat.reduceSub, Nat.reduceLeDiff, Nat.reduceEqDiff, Nat.reduceLT, reduceIte, ite_true, ite_false, Nat.sub_zero, Nat.zero_le, true_and, and_true, and_self, true_or, or_true, if_true, if_false, true_implies, implies_true, not_true_eq_false, not_false_eq_true, false_implies, forall_const, ne_eq, or_self, and_false, false_and, Lt, Le, Eq', Cp, In, nI_add, nI_mul, nI_sub, nI_sub1, Neg0, bI_eq0, bI_eq1, bI_01, bft, up2_eq, up2_no, Bool.true_eq_false, Bool.false_eq_true, eq_self, m1_ne, m1_ne2, m1_lt, m1_le, lt_m1, m1_le2, bI_t, bI_f])
  refine clause_L hF hp (by omega) (fun cc ss => ?_) 3 0 _ _ (by omega)
  have hF' := hF
  have hd0 : 0 < d := by omega
  rw [begL_3]
  cases h1 : atS t z p (nI 101) with
  | true =>
    have e : claS t z p = ((numS t z (takL t z [nI 101, nI 97, nI 116, nI 32] p)).1, [], some (numS t z (takL t z [nI 101, nI 97, nI 116, nI 32] p)).2) := by unfold claS; rw [if_pos h1]
    rw [e] at hQ
    rw [if_pos rfl]
    (apply WP_run 45 80; simp (disch := first | decide | omega) only [t149_0, t149_1, t149_2, lift_c, o_inl, o_istore, s1_0, s1_s, o_iload2, o_icge, o_aload0, o_getref, o_caload, o_virt2, rpush_n, rpush_s, o_ifeq, o_goto, o_iload1, o_iinc2, o_icne, o_putbool, o_return, o_imul, o_iadd, o_virt1, o_putfield, o_dupi, o_dupr, o_getfield, o_iload3, o_ifne, o_ineg, z0, z1, z2, z3, z5, z20, z31, z32, run_0, run_c, run_n, fxn, fxi, fxr, fxl, fxl0, ↓swi_n, ↓swi_c, nck0, nck1, nck2, nck3, List.length_cons, List.length_nil, Nat.reduceAdd, Nat.reduceSub, Nat.reduceLeDiff, Nat.reduceEqDiff, Nat.reduceLT, reduceIte, ite_true, ite_false, Nat.sub_zero, Nat.zero_le, true_and, and_true, and_self, true_or, or_true, if_true, if_false, true_implies, implies_true, not_true_eq_false, not_false_eq_true, false_implies, forall_const, ne_eq, or_self, and_false, false_and, Lt, Le, Eq', Cp, In, nI_add, nI_mul, nI_sub, nI_sub1, Neg0, bI_eq0, bI_eq1, bI_01, bft, up2_eq, up2_no, Bool.true_eq_false, Bool.false_eq_true, eq_self, m1_ne, m1_ne2, m1_lt, m1_le, lt_m1, m1_le2, bI_t, bI_f, FMu hF, hd0, onI_s])
    refine word_2 (d := d) hF' hp (by omega) fun I' k he hp' => ?_
    (apply WP_run 999 80; simp (disch := first | decide | omega) only [t149_0, t149_1, t149_2, lift_c, o_inl, o_istore, s1_0, s1_s, o_iload2, o_icge, o_aload0, o_getref, o_caload, o_virt2, rpush_n, rpush_s, o_ifeq, o_goto, o_iload1, o_iinc2, o_icne, o_putbool, o_return, o_imul, o_iadd, o_virt1, o_putfield, o_dupi, o_dupr, o_getfield, o_iload3, o_ifne, o_ineg, z0, z1, z2, z3, z5, z20, z31, z32, run_0, run_c, run_n, fxn, fxi, fxr, fxl, fxl0, ↓swi_n, ↓swi_c, nck0, nck1, nck2, nck3, List.length_cons, List.length_nil, Nat.reduceAdd, Nat.reduceSub, Nat.reduceLeDiff, Nat.reduceEqDiff, Nat.reduceLT, reduceIte, ite_true, ite_false, Nat.sub_zero, Nat.zero_le, true_and, and_true, and_self, true_or, or_true, if_true, if_false, true_implies, implies_true, not_true_eq_false, not_false_eq_true, false_implies, forall_const, ne_eq, or_self, and_false, false_and, Lt, Le, Eq', Cp, In, nI_add, nI_mul, nI_sub, nI_sub1, Neg0, bI_eq0, bI_eq1, bI_01, bft, up2_eq, up2_no, Bool.true_eq_false, Bool.false_eq_true, eq_self, m1_ne, m1_ne2, m1_lt, m1_le, lt_m1, m1_le2, bI_t, bI_f, FMu hF, hd0])
    refine hQ _ (Eo.up (he.mono fun _ _ => scP_C) ⟨rfl, by omega, by omega⟩ _) (hp'.up15 _) fun q => ⟨by rw [up2_eq]; rfl, fun y => ⟨nI 0, ?_, ?_⟩⟩
    · show ([], y) = ([], y + nI 0)
      rw [show y + nI 0 = y from Int32.add_zero y]
    · rw [up2_no _ _ _ _ _ _ (by omega), he 123 14 (fun q => by rcases q.2 with q | q <;> cases q)]
      exact (Int32.add_zero _).symm
  | false =>
    rw [if_neg (by simp)]
    cases h2 : atS t z p (nI 115) with
    | true =>
      rw [if_pos rfl]
      have e : claS t z p = ((anyS t z (facS t z 4) (takS t z (numS t z (takL t z [nI 115, nI 99, nI 97, nI 114, nI 101, nI 32] p)).1 (nI 32))).1, (anyS t z (facS t z 4) (takS t z (numS t z (takL t z [nI 115, nI 99, nI 97, nI 114, nI 101, nI 32] p)).1 (nI 32))).2 ++ [(7, 0, (numS t z (takL t z [nI 115, nI 99, nI 97, nI 114, nI 101, nI 32] p)).2)], none) := by unfold claS; rw [if_neg (by simp [h1]), if_pos h2]
      rw [e] at hQ
      (apply WP_run 45 80; simp (disch := first | decide | omega) only [t149_0, t149_1, t149_2, lift_c, o_inl, o_istore, s1_0, s1_s, o_iload2, o_icge, o_aload0, o_getref, o_caload, o_virt2, rpush_n, rpush_s, o_ifeq, o_goto, o_iload1, o_iinc2, o_icne, o_putbool, o_return, o_imul, o_iadd, o_virt1, o_putfield, o_dupi, o_dupr, o_getfield, o_iload3, o_ifne, o_ineg, z0, z1, z2, z3, z5, z20, z31, z32, run_0, run_c, run_n, fxn, fxi, fxr, fxl, fxl0, ↓swi_n, ↓swi_c, nck0, nck1, nck2, nck3, List.length_cons, List.length_nil, Nat.reduceAdd, Nat.reduceSub, Nat.reduceLeDiff, Nat.reduceEqDiff, Nat.reduceLT, reduceIte, ite_true, ite_false, Nat.sub_zero, Nat.zero_le, true_and, and_true, and_self, true_or, or_true, if_true, if_false, true_implies, implies_true, not_true_eq_false, not_false_eq_true, false_implies, forall_const, ne_eq, or_self, and_false, false_and, Lt, Le, Eq', Cp, In, nI_add, nI_mul, nI_sub, nI_sub1, Neg0, bI_eq0, bI_eq1, bI_01, bft, up2_eq, up2_no, Bool.true_eq_false, Bool.false_eq_true, eq_self, m1_ne, m1_ne2, m1_lt, m1_le, lt_m1, m1_le2, bI_t, bI_f, FMu hF, hd0, onI_s])
      refine word_1 (d := d) hF' hp (by omega) fun I' k he hp' => ?_
      (apply WP_run 107 80; simp (disch := first | decide | omega) only [t149_0, t149_1, t149_2, lift_c, o_inl, o_istore, s1_0, s1_s, o_iload2, o_icge, o_aload0, o_getref, o_caload, o_virt2, rpush_n, rpush_s, o_ifeq, o_goto, o_iload1, o_iinc2, o_icne, o_putbool, o_return, o_imul, o_iadd, o_virt1, o_putfield, o_dupi, o_dupr, o_getfield, o_iload3, o_ifne, o_ineg, z0, z1, z2, z3, z5, z20, z31, z32, run_0, run_c, run_n, fxn, fxi, fxr, fxl, fxl0, ↓swi_n, ↓swi_c, nck0, nck1, nck2, nck3, List.length_cons, List.length_nil, Nat.reduceAdd, Nat.reduceSub, Nat.reduceLeDiff, Nat.reduceEqDiff, Nat.reduceLT, reduceIte, ite_true, ite_false, Nat.sub_zero, Nat.zero_le, true_and, and_true, and_self, true_or, or_true, if_true, if_false, true_implies, implies_true, not_true_eq_false, not_false_eq_true, false_implies, forall_const, ne_eq, or_self, and_false, false_and, Lt, Le, Eq', Cp, In, nI_add, nI_mul, nI_sub, nI_sub1, Neg0, bI_eq0, bI_eq1, bI_01, bft, up2_eq, up2_no, Bool.true_eq_false, Bool.false_eq_true, eq_self, m1_ne, m1_ne2, m1_lt, m1_le, lt_m1, m1_le2, bI_t, bI_f, FMu hF, hd0])
      refine clause_E (w := 1) hF' (hp.eo he hp') (by omega) (Or.inr rfl) fun I2 he2 hp2 hb => hQ I2 ((he.mono fun _ _ => scP_C).tr he2) hp2 fun q => ?_
      obtain ⟨b, h3, h4, h5⟩ := hb q
      refine ⟨h4.trans (he 123 15 (fun q => by rcases q.2 with q | q <;> cases q)), fun y => ⟨if b = true then -(numS t z (takL t z [nI 115, nI 99, nI 97, nI 114, nI 101, nI 32] p)).2 else nI 0, ?_, ?_⟩⟩
      · show evA nm (_ ++ _) _ = _
        rw [scare_ev (anyS_low (facS_low t z 4) _) h3, Int32.sub_eq_add_neg]
        cases b
        · show ([], y + -nI 0) = ([], y + nI 0)
          rw [show (-nI 0 : Int32) = nI 0 by decide]
        · rfl
      · rw [h5, he 123 14 (fun q => by rcases q.2 with q | q <;> cases q)]
        rfl
    | false =>
      rw [if_neg (by simp)]
      cases h3 : atS t z p (nI 108) with
      | true =>
        rw [if_pos rfl]
        have e : claS t z p = ((anyS t z (facS t z 4) (takS t z (numS t z (takL t z [nI 108, nI 117, nI 114, nI 101, nI 32] p)).1 (nI 32))).1, (anyS t z (facS t z 4) (takS t z (numS t z (takL t z [nI 108, nI 117, nI 114, nI 101, nI 32] p)).1 (nI 32))).2 ++ [(6, 0, (numS t z (takL t z [nI 108, nI 117, nI 114, nI 101, nI 32] p)).2)], none) := by unfold claS; rw [if_neg (by simp [h1]), if_neg (by simp [h2]), if_pos h3]
        rw [e] at hQ
        (apply WP_run 45 80; simp (disch := first | decide | omega) only [t149_0, t149_1, t149_2, lift_c, o_inl, o_istore, s1_0, s1_s, o_iload2, o_icge, o_aload0, o_getref, o_caload, o_virt2, rpush_n, rpush_s, o_ifeq, o_goto, o_iload1, o_iinc2, o_icne, o_putbool, o_return, o_imul, o_iadd, o_virt1, o_putfield, o_dupi, o_dupr, o_getfield, o_iload3, o_ifne, o_ineg, z0, z1, z2, z3, z5, z20, z31, z32, run_0, run_c, run_n, fxn, fxi, fxr, fxl, fxl0, ↓swi_n, ↓swi_c, nck0, nck1, nck2, nck3, List.length_cons, List.length_nil, Nat.reduceAdd, Nat.reduceSub, Nat.reduceLeDiff, Nat.reduceEqDiff, Nat.reduceLT, reduceIte, ite_true, ite_false, Nat.sub_zero, Nat.zero_le, true_and, and_true, and_self, true_or, or_true, if_true, if_false, true_implies, implies_true, not_true_eq_false, not_false_eq_true, false_implies, forall_const, ne_eq, or_self, and_false, false_and, Lt, Le, Eq', Cp, In, nI_add, nI_mul, nI_sub, nI_sub1, Neg0, bI_eq0, bI_eq1, bI_01, bft, up2_eq, up2_no, Bool.true_eq_false, Bool.false_eq_true, eq_self, m1_ne, m1_ne2, m1_lt, m1_le, lt_m1, m1_le2, bI_t, bI_f, FMu hF, hd0, onI_s])
        refine word_0 (d := d) hF' hp (by omega) fun I' k he hp' => ?_
        (apply WP_run 107 80; simp (disch := first | decide | omega) only [t149_0, t149_1, t149_2, lift_c, o_inl, o_istore, s1_0, s1_s, o_iload2, o_icge, o_aload0, o_getref, o_caload, o_virt2, rpush_n, rpush_s, o_ifeq, o_goto, o_iload1, o_iinc2, o_icne, o_putbool, o_return, o_imul, o_iadd, o_virt1, o_putfield, o_dupi, o_dupr, o_getfield, o_iload3, o_ifne, o_ineg, z0, z1, z2, z3, z5, z20, z31, z32, run_0, run_c, run_n, fxn, fxi, fxr, fxl, fxl0, ↓swi_n, ↓swi_c, nck0, nck1, nck2, nck3, List.length_cons, List.length_nil, Nat.reduceAdd, Nat.reduceSub, Nat.reduceLeDiff, Nat.reduceEqDiff, Nat.reduceLT, reduceIte, ite_true, ite_false, Nat.sub_zero, Nat.zero_le, true_and, and_true, and_self, true_or, or_true, if_true, if_false, true_implies, implies_true, not_true_eq_false, not_false_eq_true, false_implies, forall_const, ne_eq, or_self, and_false, false_and, Lt, Le, Eq', Cp, In, nI_add, nI_mul, nI_sub, nI_sub1, Neg0, bI_eq0, bI_eq1, bI_01, bft, up2_eq, up2_no, Bool.true_eq_false, Bool.false_eq_true, eq_self, m1_ne, m1_ne2, m1_lt, m1_le, lt_m1, m1_le2, bI_t, bI_f, FMu hF, hd0])
        refine clause_E (w := 0) hF' (hp.eo he hp') (by omega) (Or.inl rfl) fun I2 he2 hp2 hb => hQ I2 ((he.mono fun _ _ => scP_C).tr he2) hp2 fun q => ?_
        obtain ⟨b, h3, h4, h5⟩ := hb q
        refine ⟨h4.trans (he 123 15 (fun q => by rcases q.2 with q | q <;> cases q)), fun y => ⟨if b = true then (numS t z (takL t z [nI 108, nI 117, nI 114, nI 101, nI 32] p)).2 else nI 0, ?_, ?_⟩⟩
        · show evA nm (_ ++ _) _ = _
          rw [lure_ev (anyS_low (facS_low t z 4) _) h3]
        · rw [h5, he 123 14 (fun q => by rcases q.2 with q | q <;> cases q)]
          rfl
      | false =>
        rw [if_neg (by simp)]
        have e : claS t z p = ((p.1, false), [], none) := by unfold claS; rw [if_neg (by simp [h1]), if_neg (by simp [h2]), if_neg (by simp [h3])]
        rw [e] at hQ
        (apply WP_run 999 80; simp (disch := first | decide | omega) only [t149_0, t149_1, t149_2, lift_c, o_inl, o_istore, s1_0, s1_s, o_iload2, o_icge, o_aload0, o_getref, o_caload, o_virt2, rpush_n, rpush_s, o_ifeq, o_goto, o_iload1, o_iinc2, o_icne, o_putbool, o_return, o_imul, o_iadd, o_virt1, o_putfield, o_dupi, o_dupr, o_getfield, o_iload3, o_ifne, o_ineg, z0, z1, z2, z3, z5, z20, z31, z32, run_0, run_c, run_n, fxn, fxi, fxr, fxl, fxl0, ↓swi_n, ↓swi_c, nck0, nck1, nck2, nck3, List.length_cons, List.length_nil, Nat.reduceAdd, Nat.reduceSub, Nat.reduceLeDiff, Nat.reduceEqDiff, Nat.reduceLT, reduceIte, ite_true, ite_false, Nat.sub_zero, Nat.zero_le, true_and, and_true, and_self, true_or, or_true, if_true, if_false, true_implies, implies_true, not_true_eq_false, not_false_eq_true, false_implies, forall_const, ne_eq, or_self, and_false, false_and, Lt, Le, Eq', Cp, In, nI_add, nI_mul, nI_sub, nI_sub1, Neg0, bI_eq0, bI_eq1, bI_01, bft, up2_eq, up2_no, Bool.true_eq_false, Bool.false_eq_true, eq_self, m1_ne, m1_ne2, m1_lt, m1_le, lt_m1, m1_le2, bI_t, bI_f, FMu hF, hd0, onI])
        exact hQ _ (Eo.up Eo.rf ⟨rfl, by omega, by omega⟩ _) hp.1.bad (fun q => by cases q)
end
