/-! ### the reference's reader: a whole text -/
def RSP (I : TI) (t : TN) (z : Nat) (nm : TN) (q : RS) : Prop := RC I t z q.1 nm ∧ (q.1.2 = true → I 123 15 = q.2.2 ∧ ∃ x, evA nm q.2.1 ([], nI 0) = ([], x) ∧ I 123 14 = nm 4 + x)
theorem RC.eoC {I I' : TI} {t : TN} {z : Nat} {p p' : PS} {nm : TN} (h : RC I t z p nm) (he : Eo scC I I') (hp : PA I' t z p') : RC I' t z p' nm := h.eo' he (fun _ _ q => q.1) hp
theorem RSP.add {I I' : TI} {t : TN} {z : Nat} {nm : TN} {q : RS} {w : PS × List SP × Option Int32} (h : RSP I t z nm q) (hq : q.1.2 = true) (he : Eo scC I I') (hp : PA I' t z w.1) (hc : claP I I' nm w) : RSP I' t z nm (addC q w) := by
  refine ⟨h.1.eoC he hp, fun hw => ?_⟩
  obtain ⟨h1, h2⟩ := hc hw
  obtain ⟨h3, x, h4, h5⟩ := h.2 hq
  obtain ⟨x', h6, h7⟩ := h2 x
  refine ⟨?_, x + x', ?_, ?_⟩
  · rw [h1, h3]
    rfl
  · show evA nm (q.2.1 ++ w.2.1) _ = _
    rw [evA_app, h4, h6]
  · rw [h7, h5, Int32.add_assoc]
theorem RSP.eq {I I' : TI} {t : TN} {z : Nat} {nm : TN} {q : RS} {p : PS} (h : RSP I t z nm q) (he : Eo scP I I') (hp : PA I' t z p) (hq : p.2 = q.1.2) : RSP I' t z nm (p, q.2) :=
  ⟨h.1.eo he hp, fun hw => by
    rw [he 123 15 (fun q => by rcases q.2 with q | q <;> cases q), he 123 14 (fun q => by rcases q.2 with q | q <;> cases q)]
    exact h.2 (hq ▸ hw)⟩
section
variable {G : GE} {d n : Nat} {sh : TS} {L : TL} {P : TP} {Q : TQ} {t : TN} {z : Nat} {nm : TN}
theorem readAll_L (hF : FM sh P) (hd : 32 ≤ d) : ∀ (m j : Nat) (I : TI) (q : RS) (cc ss : Nat), j + m = 10 → RSP I t z nm q →
    (∀ I', Eo scC I I' → RSP I' t z nm (reaL t z m q) → Q (some (.int (bI ((reaL t z m q).1.2 && decide ((reaL t z m q).1.1 = z))))) n sh I' L P) →
    WP G 150 d Q 31 [some (.ref 123), some (.int (nI j))] [] cc ss n sh I L P
  | 0, j, I, q, cc, ss, hj, hp, hQ => by
    have hj : j = 10 := by omega
    subst hj
    have hF' := hF
    have hd0 : 0 < d := by omega
    have h1 := hp.1.1.z100
    have h2 := hp.1.1.sz
    have h3 := hp.1.1.le
    have h4 := hp.1.1.a
    have h5 := hp.1.1.w
    have hQ := hQ I Eo.rf hp
    have e : reaL t z 0 q = q := rfl
    rw [e] at hQ
    (apply WP_run 999 80; simp (disch := first | decide | omega) only [t150_0, t150_1, lift_c, o_aload0, o_inl, o_putfield, o_putbool, o_getref, o_iaload, o_istore, s1_0, s1_s, o_virt1, rpush_n, rpush_s, o_iload1, o_icge, o_virt2, o_ifeq, o_dupi, o_dupr, o_getfield, o_iadd, o_iinc1, o_goto, o_icne, o_ireturn, z0, z1, z2, z4, z10, z20, z31, z59, run_0, run_c, run_n, fxn, fxi, fxr, fxl, fxl0, ↓swi_n, ↓swi_c, nck0, nck1, nck2, nck3, List.length_cons, List.length_nil, Nat.reduceAdd, Nat.reduceSub, Nat.reduceLeDiff, Nat.reduceEqDiff, Nat.reduceLT, reduceIte, ite_true, ite_false, Nat.sub_zero, Nat.zero_le, true_and, and_true, and_self, true_or, or_true, if_true, if_false, true_implies, implies_true, not_true_eq_false, not_false_eq_true, false_implies, forall_const, ne_eq, or_self, and_false, false_and, Lt, Le, Eq', Cp, In, nI_add, nI_mul, nI_sub, nI_sub1, Neg0, bI_eq0, bI_eq1, bI_01, bft, up2_eq, up2_no, Bool.true_eq_false, Bool.false_eq_true, eq_self, m1_ne, m1_ne2, m1_lt, m1_le, lt_m1, m1_le2, bI_t, bI_f, FMu hF, hd0, Nat.le_refl, h2, h4, h5])
    refine ⟨fun h => ?_, fun h => ⟨fun h6 => ?_, fun h6 => ?_⟩⟩
    · rw [show (q.1.2 && decide (q.1.1 = z)) = false by simp [h]] at hQ
      exact hQ
    · rw [show (q.1.2 && decide (q.1.1 = z)) = true by simp [h6]; simpa using h] at hQ
      exact hQ
    · rw [show (q.1.2 && decide (q.1.1 = z)) = false by simp [h6]] at hQ
      exact hQ
  | m + 1, j, I, q, cc, ss, hj, hp, hQ => by
    have hF' := hF
    have hd0 : 0 < d := by omega
    have hj2 : ¬ 10 ≤ j := by omega
    have h1 := hp.1.1.z100
    have h2 := hp.1.1.sz
    have h3 := hp.1.1.le
    have h4 := hp.1.1.a
    have h5 := hp.1.1.w
    (apply WP_run 999 80; simp (disch := first | decide | omega) only [t150_0, t150_1, lift_c, o_aload0, o_inl, o_putfield, o_putbool, o_getref, o_iaload, o_istore, s1_0, s1_s, o_virt1, rpush_n, rpush_s, o_iload1, o_icge, o_virt2, o_ifeq, o_dupi, o_dupr, o_getfield, o_iadd, o_iinc1, o_goto, o_icne, o_ireturn, z0, z1, z2, z4, z10, z20, z31, z59, run_0, run_c, run_n, fxn, fxi, fxr, fxl, fxl0, ↓swi_n, ↓swi_c, nck0, nck1, nck2, nck3, List.length_cons, List.length_nil, Nat.reduceAdd, Nat.reduceSub, Nat.reduceLeDiff, Nat.reduceEqDiff, Nat.reduceLT, reduceIte, ite_true, ite_false, Nat.sub_zero, Nat.zero_le, true_and, and_true, and_self, true_or, or_true, if_true, if_false, true_implies, implies_true, not_true_eq_false, not_false_eq_true, false_implies, forall_const, ne_eq, or_self, and_false, false_and, Lt, Le, Eq', Cp, In, nI_add, nI_mul, nI_sub, nI_sub1, Neg0, bI_eq0, bI_eq1, bI_01, bft, up2_eq, up2_no, Bool.true_eq_false, Bool.false_eq_true, eq_self, m1_ne, m1_ne2, m1_lt, m1_le, lt_m1, m1_le2, bI_t, bI_f, FMu hF, hd0, hj2])
    apply isAt_M hF' hp.1.1
    cases h0 : atS t z q.1 (nI 59) with
    | false =>
      have e : reaL t z (m + 1) q = q := by rw [reaL]; simp [h0]
      have hQ := hQ I Eo.rf (by rw [e]; exact hp)
      rw [e] at hQ
      (apply WP_run 999 80; simp (disch := first | decide | omega) only [t150_0, t150_1, lift_c, o_aload0, o_inl, o_putfield, o_putbool, o_getref, o_iaload, o_istore, s1_0, s1_s, o_virt1, rpush_n, rpush_s, o_iload1, o_icge, o_virt2, o_ifeq, o_dupi, o_dupr, o_getfield, o_iadd, o_iinc1, o_goto, o_icne, o_ireturn, z0, z1, z2, z4, z10, z20, z31, z59, run_0, run_c, run_n, fxn, fxi, fxr, fxl, fxl0, ↓swi_n, ↓swi_c, nck0, nck1, nck2, nck3, List.length_cons, List.length_nil, Nat.reduceAdd, Nat.reduceSub, Nat.reduceLeDiff, Nat.reduceEqDiff, Nat.reduceLT, reduceIte, ite_true, ite_false, Nat.sub_zero, Nat.zero_le, true_and, and_true, and_self, true_or, or_true, if_true, if_false, true_implies, implies_true, not_true_eq_false, not_false_eq_true, false_implies, forall_const, ne_eq, or_self, and_false, false_and, Lt, Le, Eq', Cp, In, nI_add, nI_mul, nI_sub, nI_sub1, Neg0, bI_eq0, bI_eq1, bI_01, bft, up2_eq, up2_no, Bool.true_eq_false, Bool.false_eq_true, eq_self, m1_ne, m1_ne2, m1_lt, m1_le, lt_m1, m1_le2, bI_t, bI_f, FMu hF, hd0, h2, h4, h5])
      refine ⟨fun h => ?_, fun h => ⟨fun h6 => ?_, fun h6 => ?_⟩⟩
      · rw [show (q.1.2 && decide (q.1.1 = z)) = false by simp [h]] at hQ
        exact hQ
      · rw [show (q.1.2 && decide (q.1.1 = z)) = true by simp [h6]; simpa using h] at hQ
        exact hQ
      · rw [show (q.1.2 && decide (q.1.1 = z)) = false by simp [h6]] at hQ
        exact hQ
    | true =>
      have e : reaL t z (m + 1) q = reaL t z m (addC q (claS t z (q.1.1 + 1, q.1.2))) := by rw [reaL]; simp [h0]
      rw [e] at hQ
      have hl := atS_lt h0
      have e2 : Eo scP I (up2 I 123 11 (nI (q.1.1 + 1))) := Eo.up Eo.rf ⟨rfl, Or.inl rfl⟩ _
      have hp2 := hp.1.1.inc hl
      have hS2 := hp.eq e2 hp2 rfl
      (apply WP_run 999 80; simp (disch := first | decide | omega) only [t150_0, t150_1, lift_c, o_aload0, o_inl, o_putfield, o_putbool, o_getref, o_iaload, o_istore, s1_0, s1_s, o_virt1, rpush_n, rpush_s, o_iload1, o_icge, o_virt2, o_ifeq, o_dupi, o_dupr, o_getfield, o_iadd, o_iinc1, o_goto, o_icne, o_ireturn, z0, z1, z2, z4, z10, z20, z31, z59, run_0, run_c, run_n, fxn, fxi, fxr, fxl, fxl0, ↓swi_n, ↓swi_c, nck0, nck1, nck2, nck3, List.length_cons, List.length_nil, Nat.reduceAdd, Nat.reduceSub, Nat.reduceLeDiff, Nat.reduceEqDiff, Nat.reduceLT, reduceIte, ite_true, ite_false, Nat.sub_zero, Nat.zero_le, true_and, and_true, and_self, true_or, or_true, if_true, if_false, true_implies, implies_true, not_true_eq_false, not_false_eq_true, false_implies, forall_const, ne_eq, or_self, and_false, false_and, Lt, Le, Eq', Cp, In, nI_add, nI_mul, nI_sub, nI_sub1, Neg0, bI_eq0, bI_eq1, bI_01, bft, up2_eq, up2_no, Bool.true_eq_false, Bool.false_eq_true, eq_self, m1_ne, m1_ne2, m1_lt, m1_le, lt_m1, m1_le2, bI_t, bI_f, FMu hF, hd0, h4])
      apply clause_M hF' hS2.1 (by omega)
      intro I3 he3 hp3 hc3
      have hS3 := hS2.add (show q.1.2 = true from atS_w h0) he3 hp3 hc3
      have ih := readAll_L hF' hd m (j + 1) I3 (addC q (claS t z (q.1.1 + 1, q.1.2))) cc ss (by omega) hS3 (fun I' he h => hQ I' (((e2.mono fun _ _ => scP_C).tr he3).tr he) h)
      (apply WP_run 31 80; simp (disch := first | decide | omega) only [t150_0, t150_1, lift_c, o_aload0, o_inl, o_putfield, o_putbool, o_getref, o_iaload, o_istore, s1_0, s1_s, o_virt1, rpush_n, rpush_s, o_iload1, o_icge, o_virt2, o_ifeq, o_dupi, o_dupr, o_getfield, o_iadd, o_iinc1, o_goto, o_icne, o_ireturn, z0, z1, z2, z4, z10, z20, z31, z59, run_0, run_c, run_n, fxn, fxi, fxr, fxl, fxl0, ↓swi_n, ↓swi_c, nck0, nck1, nck2, nck3, List.length_cons, List.length_nil, Nat.reduceAdd, Nat.reduceSub, Nat.reduceLeDiff, Nat.reduceEqDiff, Nat.reduceLT, reduceIte, ite_true, ite_false, Nat.sub_zero, Nat.zero_le, true_and, and_true, and_self, true_or, or_true, if_true, if_false, true_implies, implies_true, not_true_eq_false, not_false_eq_true, false_implies, forall_const, ne_eq, or_self, and_false, false_and, Lt, Le, Eq', Cp, In, nI_add, nI_mul, nI_sub, nI_sub1, Neg0, bI_eq0, bI_eq1, bI_01, bft, up2_eq, up2_no, Bool.true_eq_false, Bool.false_eq_true, eq_self, m1_ne, m1_ne2, m1_lt, m1_le, lt_m1, m1_le2, bI_t, bI_f, FMu hF, hd0])
      exact ih
theorem readAll_M (hF : FM sh P) (hd : 32 ≤ d) {I : TI} (hz : z ≤ 100) (ht : ∀ j, j < z → I 130 j = t j) (hs : I 123 10 = nI z) (hT : TB I) (hn : ∀ j, j < 6 → I 131 j = nm j)
    (hQ : ∀ I', Eo scC I I' → RSP I' t z nm (reaS t z) → Q (some (.int (bI (okS t z)))) n sh I' L P) : Cl G d 150 [.ref 123] n sh I L P Q := by
  apply e150
  have hF' := hF
  have hd0 : 0 < d := by omega
  have h4 := hn 4 (by omega)
  have he : Eo scC I (up2 (up2 (up2 (up2 I 123 11 (nI 0)) 123 12 (nI 1)) 123 14 (nm 4)) 123 15 (nI 1)) :=
    Eo.up (Eo.up (Eo.up (Eo.up Eo.rf ⟨rfl, by omega, by omega⟩ _) ⟨rfl, by omega, by omega⟩ _) ⟨rfl, by omega, by omega⟩ _) ⟨rfl, by omega, by omega⟩ _
  have hPA : PA (up2 (up2 (up2 (up2 I 123 11 (nI 0)) 123 12 (nI 1)) 123 14 (nm 4)) 123 15 (nI 1)) t z (0, true) :=
    ⟨hz, fun j hj => (he 130 j (fun q => by cases q.1)).trans (ht j hj), (he 123 10 (fun q => by have := q.2.1; omega)).trans hs, Nat.zero_le _, by simp (disch := omega) only [up2_eq, up2_no], by simp (disch := omega) only [up2_eq, up2_no]; rfl⟩
  have hRC : RC (up2 (up2 (up2 (up2 I 123 11 (nI 0)) 123 12 (nI 1)) 123 14 (nm 4)) 123 15 (nI 1)) t z (0, true) nm := ⟨hPA, hT.eo he (fun a j q => by have := q.1; omega), fun j hj => (he 131 j (fun q => by cases q.1)).trans (hn j hj)⟩
  have hS : RSP (up2 (up2 (up2 (up2 I 123 11 (nI 0)) 123 12 (nI 1)) 123 14 (nm 4)) 123 15 (nI 1)) t z nm ((0, true), [], nI 1) := ⟨hRC, fun _ => ⟨up2_eq _ _ _ _, nI 0, rfl, by simp (disch := omega) only [up2_eq, up2_no]; exact (Int32.add_zero _).symm⟩⟩
  (apply WP_run 31 80; simp (disch := first | decide | omega) only [t150_0, t150_1, lift_c, o_aload0, o_inl, o_putfield, o_putbool, o_getref, o_iaload, o_istore, s1_0, s1_s, o_virt1, rpush_n, rpush_s, o_iload1, o_icge, o_virt2, o_ifeq, o_dupi, o_dupr, o_getfield, o_iadd, o_iinc1, o_goto, o_icne, o_ireturn, z0, z1, z2, z4, z10, z20, z31, z59, run_0, run_c, run_n, fxn, fxi, fxr, fxl, fxl0, ↓swi_n, ↓swi_c, nck0, nck1, nck2, nck3, List.length_cons, List.length_nil, Nat.reduceAdd, Nat.reduceSub, Nat.reduceLeDiff, Nat.reduceEqDiff, Nat.reduceLT, reduceIte, ite_true, ite_false, Nat.sub_zero, Nat.zero_le, true_and, and_true, and_self, true_or, or_true, if_true, if_false, true_implies, implies_true, not_true_eq_false, not_false_eq_true, false_implies, forall_const, ne_eq, or_self, and_false, false_and, Lt, Le, Eq', Cp, In, nI_add, nI_mul, nI_sub, nI_sub1, Neg0, bI_eq0, bI_eq1, bI_01, bft, up2_eq, up2_no, Bool.true_eq_false, Bool.false_eq_true, eq_self, m1_ne, m1_ne2, m1_lt, m1_le, lt_m1, m1_le2, bI_t, bI_f, FMu hF, hd0, h4])
  apply clause_M hF' hRC (by omega)
  intro I3 he3 hp3 hc3
  have hS3 := hS.add rfl he3 hp3 hc3
  have hL := readAll_L (G := G) (n := n) (L := L) (Q := Q) hF' hd 9 1 I3 _ 0 0 (by omega) hS3 (fun I' he' h => hQ I' ((he.tr he3).tr he') h)
  exact hL
end
