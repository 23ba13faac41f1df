/-! ### the text of a fortress: how it is read, the steps it stands for -/
abbrev PS : Type := Nat × Bool
abbrev SP : Type := Nat × Nat × Int32
def atS (t : TN) (z : Nat) (p : PS) (c : Int32) : Bool := p.2 && (decide (p.1 < z) && decide (t p.1 = c))
def takS (t : TN) (z : Nat) (p : PS) (c : Int32) : PS := if atS t z p c = true then (p.1 + 1, p.2) else (p.1, false)
def digS (t : TN) (z : Nat) (p : PS) : Bool := p.2 && (decide (p.1 < z) && (decide (nI 48 ≤ t p.1) && decide (t p.1 ≤ nI 57)))
def numS (t : TN) (z : Nat) (p : PS) : PS × Int32 :=
  if digS t z p = true then (if digS t z (p.1 + 1, p.2) = true then ((p.1 + 2, p.2), nI 10 * (t p.1 - nI 48) + t (p.1 + 1) - nI 48) else ((p.1 + 1, p.2), t p.1 - nI 48)) else ((p.1, false), nI 0)
def letC : Nat → Int32
  | 0 => nI 112
  | 1 => nI 107
  | 2 => nI 118
  | 3 => nI 99
  | 4 => nI 103
  | _ => nI 104
def letL (t : TN) (z : Nat) (p : PS) : Nat → Option Nat
  | 0 => none
  | k + 1 => if atS t z p (letC k) = true then some k else letL t z p k
def sgn (t : TN) (z : Nat) (p : PS) : Nat := if atS t z p (nI 60) = true then 0 else if atS t z p (nI 62) = true then 2 else 1
def sgC (o : Nat) : Int32 := if o = 0 then nI 60 else if o = 2 then nI 62 else nI 61
def tstS (t : TN) (z : Nat) (p : PS) : PS × List SP :=
  match letL t z p 6 with
  | none => ((p.1, false), [])
  | some k => ((numS t z (takS t z (p.1 + 1, p.2) (sgC (sgn t z (p.1 + 1, p.2))))).1, [(sgn t z (p.1 + 1, p.2), k, (numS t z (takS t z (p.1 + 1, p.2) (sgC (sgn t z (p.1 + 1, p.2))))).2)])
def lopS (t : TN) (z : Nat) (f : PS → PS × List SP) (c : Int32) (o : Nat) : Nat → PS × List SP → PS × List SP
  | 0, q => q
  | m + 1, q => if atS t z q.1 c = true then lopS t z f c o m ((f (q.1.1 + 1, q.1.2)).1, q.2 ++ ((f (q.1.1 + 1, q.1.2)).2 ++ [(o, 0, nI 0)])) else q
def botS (t : TN) (z : Nat) (f : PS → PS × List SP) (p : PS) : PS × List SP := lopS t z f (nI 38) 4 z (f p)
def anyS (t : TN) (z : Nat) (f : PS → PS × List SP) (p : PS) : PS × List SP := lopS t z (botS t z f) (nI 124) 5 z (botS t z f p)
def facS (t : TN) (z : Nat) : Nat → PS → PS × List SP
  | 0, p => tstS t z p
  | m + 1, p => if atS t z p (nI 33) = true then ((facS t z m (p.1 + 1, p.2)).1, (facS t z m (p.1 + 1, p.2)).2 ++ [(3, 0, nI 0)]) else
      if atS t z p (nI 40) = true then (takS t z (anyS t z (facS t z m) (p.1 + 1, p.2)).1 (nI 41), (anyS t z (facS t z m) (p.1 + 1, p.2)).2) else tstS t z p
def takL (t : TN) (z : Nat) : List Int32 → PS → PS
  | [], p => p
  | c :: r, p => takL t z r (takS t z p c)
/-- a clause: where the reader stands, its steps, what is eaten if it says so -/
def claS (t : TN) (z : Nat) (p : PS) : PS × List SP × Option Int32 :=
  if atS t z p (nI 101) = true then ((numS t z (takL t z [nI 101, nI 97, nI 116, nI 32] p)).1, [], some (numS t z (takL t z [nI 101, nI 97, nI 116, nI 32] p)).2) else
  if atS t z p (nI 115) = true then
    ((anyS t z (facS t z 4) (takS t z (numS t z (takL t z [nI 115, nI 99, nI 97, nI 114, nI 101, nI 32] p)).1 (nI 32))).1,
      (anyS t z (facS t z 4) (takS t z (numS t z (takL t z [nI 115, nI 99, nI 97, nI 114, nI 101, nI 32] p)).1 (nI 32))).2 ++ [(7, 0, (numS t z (takL t z [nI 115, nI 99, nI 97, nI 114, nI 101, nI 32] p)).2)], none) else
  if atS t z p (nI 108) = true then
    ((anyS t z (facS t z 4) (takS t z (numS t z (takL t z [nI 108, nI 117, nI 114, nI 101, nI 32] p)).1 (nI 32))).1,
      (anyS t z (facS t z 4) (takS t z (numS t z (takL t z [nI 108, nI 117, nI 114, nI 101, nI 32] p)).1 (nI 32))).2 ++ [(6, 0, (numS t z (takL t z [nI 108, nI 117, nI 114, nI 101, nI 32] p)).2)], none) else
  ((p.1, false), [], none)
def oet (o : Option Int32) (e : Int32) : Int32 := match o with
  | none => e
  | some x => x
abbrev RS : Type := PS × List SP × Int32
def addC (q : RS) (w : PS × List SP × Option Int32) : RS := (w.1, q.2.1 ++ w.2.1, oet w.2.2 q.2.2)
def reaL (t : TN) (z : Nat) : Nat → RS → RS
  | 0, q => q
  | m + 1, q => if atS t z q.1 (nI 59) = true then reaL t z m (addC q (claS t z (q.1.1 + 1, q.1.2))) else q
def reaS (t : TN) (z : Nat) : RS := reaL t z 9 (addC ((0, true), [], nI 1) (claS t z (0, true)))
def okS (t : TN) (z : Nat) : Bool := (reaS t z).1.2 && decide ((reaS t z).1.1 = z)
/-- what the steps are worth -/
def stB (nm : TN) (x : SP) (s : List Bool) : List Bool :=
  if x.1 = 0 then decide (nm x.2.1 < x.2.2) :: s else if x.1 = 1 then decide (nm x.2.1 = x.2.2) :: s else if x.1 = 2 then decide (x.2.2 < nm x.2.1) :: s else
  if x.1 = 3 then (match s with | b :: s => (!b) :: s | [] => []) else
  if x.1 = 4 then (match s with | b :: a :: s => (a && b) :: s | s => s) else (match s with | b :: a :: s => (a || b) :: s | s => s)
def evB (nm : TN) : List SP → List Bool → List Bool
  | [], s => s
  | x :: r, s => evB nm r (stB nm x s)
theorem evB_app (nm : TN) : ∀ (a b : List SP) (s : List Bool), evB nm (a ++ b) s = evB nm b (evB nm a s)
  | [], _, _ => rfl
  | x :: r, b, s => evB_app nm r b (stB nm x s)
def one (nm : TN) (a : List SP) (b : Bool) : Prop := ∀ s, evB nm a s = b :: s
theorem one_not {nm : TN} {a : List SP} {b : Bool} (h : one nm a b) (x : Int32) : one nm (a ++ [(3, 0, x)]) (!b) := fun s => by
  rw [evB_app, h s]; rfl
theorem one_and {nm : TN} {a a' : List SP} {b b' : Bool} (h : one nm a b) (h' : one nm a' b') (x : Int32) : one nm (a ++ (a' ++ [(4, 0, x)])) (b && b') := fun s => by
  rw [evB_app, h s, evB_app, h' _]; rfl
theorem one_or {nm : TN} {a a' : List SP} {b b' : Bool} (h : one nm a b) (h' : one nm a' b') (x : Int32) : one nm (a ++ (a' ++ [(5, 0, x)])) (b || b') := fun s => by
  rw [evB_app, h s, evB_app, h' _]; rfl
/-! ### the reference's reader -/
def scP (a j : Nat) : Prop := a = 123 ∧ (j = 11 ∨ j = 12)
def PA (I : TI) (t : TN) (z : Nat) (p : PS) : Prop := z ≤ 100 ∧ (∀ j, j < z → I 130 j = t j) ∧ I 123 10 = nI z ∧ p.1 ≤ z ∧ I 123 11 = nI p.1 ∧ I 123 12 = bI p.2
theorem PA.z100 {I : TI} {t : TN} {z : Nat} {p : PS} (h : PA I t z p) : z ≤ 100 := h.1
theorem PA.txt {I : TI} {t : TN} {z : Nat} {p : PS} (h : PA I t z p) {j : Nat} (hj : j < z) : I 130 j = t j := h.2.1 j hj
theorem PA.sz {I : TI} {t : TN} {z : Nat} {p : PS} (h : PA I t z p) : I 123 10 = nI z := h.2.2.1
theorem PA.le {I : TI} {t : TN} {z : Nat} {p : PS} (h : PA I t z p) : p.1 ≤ z := h.2.2.2.1
theorem PA.a {I : TI} {t : TN} {z : Nat} {p : PS} (h : PA I t z p) : I 123 11 = nI p.1 := h.2.2.2.2.1
theorem PA.w {I : TI} {t : TN} {z : Nat} {p : PS} (h : PA I t z p) : I 123 12 = bI p.2 := h.2.2.2.2.2
theorem PA.inc {I : TI} {t : TN} {z : Nat} {p : PS} (h : PA I t z p) (hl : p.1 < z) : PA (up2 I 123 11 (nI (p.1 + 1))) t z (p.1 + 1, p.2) :=
  ⟨h.z100, fun j hj => by rw [up2_no _ _ _ _ _ _ (by omega)]; exact h.txt hj, by rw [up2_no _ _ _ _ _ _ (by omega)]; exact h.sz, hl, up2_eq _ _ _ _, by rw [up2_no _ _ _ _ _ _ (by omega)]; exact h.w⟩
theorem PA.bad {I : TI} {t : TN} {z : Nat} {p : PS} (h : PA I t z p) : PA (up2 I 123 12 (nI 0)) t z (p.1, false) :=
  ⟨h.z100, fun j hj => by rw [up2_no _ _ _ _ _ _ (by omega)]; exact h.txt hj, by rw [up2_no _ _ _ _ _ _ (by omega)]; exact h.sz, h.le, by rw [up2_no _ _ _ _ _ _ (by omega)]; exact h.a, up2_eq _ _ _ _⟩
theorem atS_lt {t : TN} {z : Nat} {p : PS} {c : Int32} (h : atS t z p c = true) : p.1 < z := by
  simp [atS] at h; exact h.2.1
theorem atS_w {t : TN} {z : Nat} {p : PS} {c : Int32} (h : atS t z p c = true) : p.2 = true := by
  simp [atS] at h; exact h.1
section
variable {G : GE} {d n : Nat} {sh : TS} {I : TI} {L : TL} {P : TP} {Q : TQ} {t : TN} {z : Nat} {p : PS}
theorem isAt_M (hF : FM sh P) (hp : PA I t z p) {c : Int32} (hQ : Q (some (.int (bI (atS t z p c)))) n sh I L P) : Cl G d 141 [.ref 123, .int c] n sh I L P Q := by
  apply e141
  have h1 := hp.z100
  have h2 := hp.sz
  have h3 := hp.le
  have h4 := hp.a
  have h5 := hp.w
  (apply WP_run 999 80; simp (disch := first | decide | omega) only [t141_0, lift_c, o_aload0, o_getfield, o_ifeq, o_icge, o_getref, o_iaload, o_iload1, o_icne, o_inl, o_goto, o_ireturn, z0, z1, z2, z20, z31, run_0, run_c, run_n, fxn, fxi, fxr, fxl, fxl0, ↓swi_n, ↓swi_c, nck0, nck1, nck2, nck3, List.length_cons, List.length_nil, Nat.reduceAdd, Nat.reduceSub, Nat.reduceLeDiff, Nat.reduceEqDiff, Nat.reduceLT, reduceIte, ite_true, ite_false, Nat.sub_zero, Nat.zero_le, true_and, and_true, and_self, true_or, or_true, if_true, if_false, true_implies, implies_true, not_true_eq_false, not_false_eq_true, false_implies, forall_const, ne_eq, or_self, and_false, false_and, Lt, Le, Eq', Cp, In, nI_add, nI_mul, nI_sub, nI_sub1, Neg0, bI_eq0, bI_eq1, bI_01, bft, up2_eq, up2_no, Bool.true_eq_false, Bool.false_eq_true, eq_self, m1_ne, m1_ne2, m1_lt, m1_le, lt_m1, m1_le2, bI_t, bI_f, FMu hF, h2, h4, h5])
  refine ⟨fun h => ?_, fun h => ⟨fun h6 => ?_, fun h6 => ?_⟩⟩
  · rw [show atS t z p c = false by simp [atS, h]] at hQ
    exact hQ
  · rw [show atS t z p c = false by simp [atS]; intro _ h7; omega] at hQ
    exact hQ
  · have h7 := hp.txt (Nat.lt_of_not_le h6)
    simp (disch := omega) only [In, true_and, h7]
    refine ⟨fun h8 => ?_, fun h8 => ?_⟩
    · rw [show atS t z p c = true by simp [atS, h8] ; exact ⟨by simpa using h, by omega⟩] at hQ
      exact hQ
    · rw [show atS t z p c = false by simp [atS, h8]] at hQ
      exact hQ
theorem takes_M (hF : FM sh P) (hp : PA I t z p) {c : Int32} (hd : 1 ≤ d) (hQ : ∀ I', Eo scP I I' → PA I' t z (takS t z p c) → Q none n sh I' L P) : Cl G d 142 [.ref 123, .int c] n sh I L P Q := by
  apply e142
  have hF' := hF
  have hd0 : 0 < d := by omega
  have h4 := hp.a
  (apply WP_run 999 80; simp (disch := first | decide | omega) only [t142_0, lift_c, o_aload0, o_iload1, o_virt2, rpush_n, rpush_s, o_ifeq, o_dupi, o_dupr, o_getfield, o_inl, o_iadd, o_putfield, o_goto, o_putbool, o_return, z0, z1, z2, z20, z31, run_0, run_c, run_n, fxn, fxi, fxr, fxl, fxl0, ↓swi_n, ↓swi_c, nck0, nck1, nck2, nck3, List.length_cons, List.length_nil, Nat.reduceAdd, Nat.reduceSub, Nat.reduceLeDiff, Nat.reduceEqDiff, Nat.reduceLT, reduceIte, ite_true, ite_false, Nat.sub_zero, Nat.zero_le, true_and, and_true, and_self, true_or, or_true, if_true, if_false, true_implies, implies_true, not_true_eq_false, not_false_eq_true, false_implies, forall_const, ne_eq, or_self, and_false, false_and, Lt, Le, Eq', Cp, In, nI_add, nI_mul, nI_sub, nI_sub1, Neg0, bI_eq0, bI_eq1, bI_01, bft, up2_eq, up2_no, Bool.true_eq_false, Bool.false_eq_true, eq_self, m1_ne, m1_ne2, m1_lt, m1_le, lt_m1, m1_le2, bI_t, bI_f, FMu hF, hd0])
  apply isAt_M hF' hp
  (apply WP_run 999 80; simp (disch := first | decide | omega) only [t142_0, lift_c, o_aload0, o_iload1, o_virt2, rpush_n, rpush_s, o_ifeq, o_dupi, o_dupr, o_getfield, o_inl, o_iadd, o_putfield, o_goto, o_putbool, o_return, z0, z1, z2, z20, z31, run_0, run_c, run_n, fxn, fxi, fxr, fxl, fxl0, ↓swi_n, ↓swi_c, nck0, nck1, nck2, nck3, List.length_cons, List.length_nil, Nat.reduceAdd, Nat.reduceSub, Nat.reduceLeDiff, Nat.reduceEqDiff, Nat.reduceLT, reduceIte, ite_true, ite_false, Nat.sub_zero, Nat.zero_le, true_and, and_true, and_self, true_or, or_true, if_true, if_false, true_implies, implies_true, not_true_eq_false, not_false_eq_true, false_implies, forall_const, ne_eq, or_self, and_false, false_and, Lt, Le, Eq', Cp, In, nI_add, nI_mul, nI_sub, nI_sub1, Neg0, bI_eq0, bI_eq1, bI_01, bft, up2_eq, up2_no, Bool.true_eq_false, Bool.false_eq_true, eq_self, m1_ne, m1_ne2, m1_lt, m1_le, lt_m1, m1_le2, bI_t, bI_f, FMu hF, hd0, h4])
  refine ⟨fun h => ?_, fun h => ?_⟩
  · apply hQ _ (Eo.up Eo.rf ⟨rfl, Or.inr rfl⟩ _)
    rw [show takS t z p c = (p.1, false) by simp [takS, h]]
    exact hp.bad
  · apply hQ _ (Eo.up Eo.rf ⟨rfl, Or.inl rfl⟩ _)
    have h : atS t z p c = true := by simpa using h
    rw [show takS t z p c = (p.1 + 1, p.2) by simp [takS, h]]
    exact hp.inc (atS_lt h)
theorem isDigit_M (hF : FM sh P) (hp : PA I t z p) (hQ : Q (some (.int (bI (digS t z p)))) n sh I L P) : Cl G d 143 [.ref 123] n sh I L P Q := by
  apply e143
  have h1 := hp.z100
  have h2 := hp.sz
  have h3 := hp.le
  have h4 := hp.a
  have h5 := hp.w
  (apply WP_run 999 80; simp (disch := first | decide | omega) only [t143_0, lift_c, o_aload0, o_getfield, o_ifeq, o_icge, o_getref, o_iaload, o_inl, o_iclt, o_icgt, o_goto, o_ireturn, z0, z1, z2, z20, z31, z48, z57, run_0, run_c, run_n, fxn, fxi, fxr, fxl, fxl0, ↓swi_n, ↓swi_c, nck0, nck1, nck2, nck3, List.length_cons, List.length_nil, Nat.reduceAdd, Nat.reduceSub, Nat.reduceLeDiff, Nat.reduceEqDiff, Nat.reduceLT, reduceIte, ite_true, ite_false, Nat.sub_zero, Nat.zero_le, true_and, and_true, and_self, true_or, or_true, if_true, if_false, true_implies, implies_true, not_true_eq_false, not_false_eq_true, false_implies, forall_const, ne_eq, or_self, and_false, false_and, Lt, Le, Eq', Cp, In, nI_add, nI_mul, nI_sub, nI_sub1, Neg0, bI_eq0, bI_eq1, bI_01, bft, up2_eq, up2_no, Bool.true_eq_false, Bool.false_eq_true, eq_self, m1_ne, m1_ne2, m1_lt, m1_le, lt_m1, m1_le2, bI_t, bI_f, FMu hF, h2, h4, h5])
  refine ⟨fun h => ?_, fun h => ⟨fun h6 => ?_, fun h6 => ?_⟩⟩
  · rw [show digS t z p = false by simp [digS, h]] at hQ
    exact hQ
  · rw [show digS t z p = false by simp [digS]; intro _ h7; omega] at hQ
    exact hQ
  · have h7 := hp.txt (Nat.lt_of_not_le h6)
    have h0 : p.2 = true := by simpa using h
    simp (disch := omega) only [In, true_and, h7]
    refine ⟨fun h8 => ?_, fun h8 => ⟨fun h9 => ?_, fun h9 => ?_⟩⟩
    · rw [show digS t z p = false by simp [digS]; intro _ _ h9; rw [i_lt] at h8; rw [i_le] at h9; omega] at hQ
      exact hQ
    · rw [show digS t z p = false by simp [digS]; intro _ _ _; exact h9] at hQ
      exact hQ
    · rw [show digS t z p = true by simp [digS, h0]; rw [i_lt] at h8 h9; rw [i_le, i_le]; omega] at hQ
      exact hQ
end
