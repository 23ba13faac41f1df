/-! ### pairs: act, both -/
def ranS (a j : Nat) : Prop := a = 108 ∨ a = 109 ∨ (a = 123 ∧ j = 24) ∨ a = 138
theorem IW.ranu {n : Nat} {sh : TS} {I I' : TI} {L : TL} {P : TP} {F : TF} {E : Nat → Int32} {k g r : Nat} (h : IW n sh I L P F E k g r) (hI : Eo ranS I I') {a : Nat} (ha : a ≤ 1000) (e1 : I' 108 1 = nI a) (e2 : I' 123 24 = nI a) (e3 : ∀ j, j < a → j < 20 → I' 109 j = I' 138 j) : IW n sh I' L P F E k g r :=
  h.side (hI.mono fun a j q => by unfold ranS at q; unfold siS; omega) (h.2.2.2.2.2.2.2.2.1.eo hI fun a j q => by unfold ranS at q; omega) ⟨a, ha, e1, e2, e3⟩ (h.2.2.2.2.2.2.2.2.2.2.1.eo (T := fun _ _ => False) hI Eo.rf (fun a j q => by unfold ranS at q; omega) fun a j q => q.elim)
def s00 : AS := (0, fun _ => nI 0)
def acT (i v : Int32) (u t : Nat) (x : Int32) : Int32 × AS := if t = 0 then hoS i v u x s00 else if t = 1 then stS i v u u x s00 else teS i v u u x s00
theorem acT_b (i v : Int32) (u t : Nat) (x : Int32) : (acT i v u t x).2.1 ≤ 12 := by
  unfold acT
  split
  · exact Nat.le_trans (hoS_b i v u x s00) (by decide)
  · split
    · exact Nat.le_trans (stS_b i v u u x s00) (by decide)
    · exact Nat.le_trans (teS_b i v u u x s00) (by decide)
section
variable {G : GE} {d : Nat}
theorem done_K {n : Nat} {sh : TS} {I : TI} {L : TL} {P : TP} {Q : TQ} (hG : FG sh P) {q u t : Nat} {i v x : Int32} (hq : sh q = (3, 6)) (hu : u < 7) (e0 : I q 0 = nI u) (e1 : I q 1 = v) (er : I 108 1 = nI 0) (ht : t < 3) (hd : 20 ≤ d)
    (hQ : ∀ I', Eo ranS I I' → I' 108 1 = nI (acT i v u t x).2.1 → (∀ j, j < (acT i v u t x).2.1 → j < 20 → I' 109 j = (acT i v u t x).2.2 j) → Q (some (.int (acT i v u t x).1)) n sh I' L P) : Cl G d 2 [.ref 108, .ref q, .int i, .int (nI t), .int x] n sh I L P Q := by
  apply e2
  have hd0 : 0 < d := by omega
  have n108 : nle 20 108 := by show 20 ≤ 108; decide
  have f2 : (up2 (up2 (up2 I 108 2 (nI u)) 108 3 i) 108 4 v) 108 2 = nI u := by simp (disch := omega) only [up2_no, up2_eq]
  have f3 : (up2 (up2 (up2 I 108 2 (nI u)) 108 3 i) 108 4 v) 108 3 = i := by simp (disch := omega) only [up2_no, up2_eq]
  have f4 : (up2 (up2 (up2 I 108 2 (nI u)) 108 3 i) 108 4 v) 108 4 = v := up2_eq _ _ _ _
  have f1 : (up2 (up2 (up2 I 108 2 (nI u)) 108 3 i) 108 4 v) 108 1 = nI 0 := by simp (disch := omega) only [up2_no]; exact er
  have fE : Eo ranS I (up2 (up2 (up2 I 108 2 (nI u)) 108 3 i) 108 4 v) := ((Eo.rf.up (by unfold ranS; omega) _).up (by unfold ranS; omega) _).up (by unfold ranS; omega) _
  have main : ∀ I3, Eo ranS I I3 → I3 108 1 = nI 0 → I3 108 2 = nI u → I3 108 3 = i → I3 108 4 = v → ∀ cc ss, WP G 2 d Q 21 [some (.ref 108), some (.ref q), some (.int i), some (.int (nI t)), some (.int x)] [] cc ss n sh I3 L P := by
    intro I3 hE f1 f2 f3 f4 cc ss
    have hA : ACK I3 I3 s00 := ⟨Eo.rf, f1, fun j hj => absurd hj (Nat.not_lt_zero j)⟩
    have fin : ∀ I', ACK I3 I' (acT i v u t x).2 → Q (some (.int (acT i v u t x).1)) n sh I' L P := fun I' h => hQ I' (hE.tr (h.1.mono fun a j q => by unfold acS at q; unfold ranS; omega)) h.2.1 h.2.2
    clear hQ
    have hc : t = 0 ∨ t = 1 ∨ t = 2 := by omega
    rcases hc with rfl | rfl | rfl
    · have fin : ∀ I', ACK I3 I' (hoS i v u x s00).2 → Q (some (.int (hoS i v u x s00).1)) n sh I' L P := fin
      (apply WP_runI (lv := lvK) (F := LK) LK_ok 999 30; simp (disch := first | decide | omega) only [t2_0, lift_c, o_aload0, o_aload1, o_getfield, o_putfield, o_iload2, o_iload3, o_lookup, o_iload4, o_stat3, rpush_n, rpush_s, o_ireturn, z0, z1, z2, z20, z31, runI_0, runI_c, runI_n, liftI_n, liftI_y, run_0, run_c, run_n, fxn, fxi, fxr, fxl, fxl0, ↓swi_n, ↓swi_c, nck0, nck1, nck2, nck3, List.length_cons, List.length_nil, Nat.reduceAdd, Nat.reduceSub, Nat.reduceLeDiff, Nat.reduceEqDiff, Nat.reduceLT, reduceIte, ite_true, ite_false, Nat.sub_zero, Nat.zero_le, true_and, and_true, and_self, true_or, or_true, if_true, if_false, true_implies, implies_true, not_true_eq_false, not_false_eq_true, false_implies, forall_const, ne_eq, or_self, and_false, false_and, Lt, Le, Eq', Cp, In, nI_add, nI_mul, nI_sub, nI_sub1, Neg0, bI_eq0, bI_eq1, bI_01, bft, up2_eq, up2_no, Bool.true_eq_false, Bool.false_eq_true, eq_self, m1_ne, m1_ne2, m1_lt, m1_le, lt_m1, m1_le2, bI_t, bI_f, LK_st, FGu hG, f2, hd0])
      refine honks_K hG f3 f4 hu hA (by show 0 ≤ 880; decide) (by omega) fun I4 hA4 => ?_
      have fin := fin I4 hA4
      generalize (hoS i v u x s00).1 = w at fin ⊢
      (apply WP_runI (lv := lvK) (F := LK) LK_ok 999 30; simp (disch := first | decide | omega) only [t2_0, lift_c, o_aload0, o_aload1, o_getfield, o_putfield, o_iload2, o_iload3, o_lookup, o_iload4, o_stat3, rpush_n, rpush_s, o_ireturn, z0, z1, z2, z20, z31, runI_0, runI_c, runI_n, liftI_n, liftI_y, run_0, run_c, run_n, fxn, fxi, fxr, fxl, fxl0, ↓swi_n, ↓swi_c, nck0, nck1, nck2, nck3, List.length_cons, List.length_nil, Nat.reduceAdd, Nat.reduceSub, Nat.reduceLeDiff, Nat.reduceEqDiff, Nat.reduceLT, reduceIte, ite_true, ite_false, Nat.sub_zero, Nat.zero_le, true_and, and_true, and_self, true_or, or_true, if_true, if_false, true_implies, implies_true, not_true_eq_false, not_false_eq_true, false_implies, forall_const, ne_eq, or_self, and_false, false_and, Lt, Le, Eq', Cp, In, nI_add, nI_mul, nI_sub, nI_sub1, Neg0, bI_eq0, bI_eq1, bI_01, bft, up2_eq, up2_no, Bool.true_eq_false, Bool.false_eq_true, eq_self, m1_ne, m1_ne2, m1_lt, m1_le, lt_m1, m1_le2, bI_t, bI_f, LK_st, hd0])
      exact fin
    · have fin : ∀ I', ACK I3 I' (stS i v u u x s00).2 → Q (some (.int (stS i v u u x s00).1)) n sh I' L P := fin
      (apply WP_runI (lv := lvK) (F := LK) LK_ok 999 30; simp (disch := first | decide | omega) only [t2_0, lift_c, o_aload0, o_aload1, o_getfield, o_putfield, o_iload2, o_iload3, o_lookup, o_iload4, o_stat3, rpush_n, rpush_s, o_ireturn, z0, z1, z2, z20, z31, runI_0, runI_c, runI_n, liftI_n, liftI_y, run_0, run_c, run_n, fxn, fxi, fxr, fxl, fxl0, ↓swi_n, ↓swi_c, nck0, nck1, nck2, nck3, List.length_cons, List.length_nil, Nat.reduceAdd, Nat.reduceSub, Nat.reduceLeDiff, Nat.reduceEqDiff, Nat.reduceLT, reduceIte, ite_true, ite_false, Nat.sub_zero, Nat.zero_le, true_and, and_true, and_self, true_or, or_true, if_true, if_false, true_implies, implies_true, not_true_eq_false, not_false_eq_true, false_implies, forall_const, ne_eq, or_self, and_false, false_and, Lt, Le, Eq', Cp, In, nI_add, nI_mul, nI_sub, nI_sub1, Neg0, bI_eq0, bI_eq1, bI_01, bft, up2_eq, up2_no, Bool.true_eq_false, Bool.false_eq_true, eq_self, m1_ne, m1_ne2, m1_lt, m1_le, lt_m1, m1_le2, bI_t, bI_f, LK_st, FGu hG, f2, hd0])
      refine struts_K hG f2 f3 f4 hu hu hA (by show 0 ≤ 860; decide) (by omega) fun I4 hA4 => ?_
      have fin := fin I4 hA4
      generalize (stS i v u u x s00).1 = w at fin ⊢
      (apply WP_runI (lv := lvK) (F := LK) LK_ok 999 30; simp (disch := first | decide | omega) only [t2_0, lift_c, o_aload0, o_aload1, o_getfield, o_putfield, o_iload2, o_iload3, o_lookup, o_iload4, o_stat3, rpush_n, rpush_s, o_ireturn, z0, z1, z2, z20, z31, runI_0, runI_c, runI_n, liftI_n, liftI_y, run_0, run_c, run_n, fxn, fxi, fxr, fxl, fxl0, ↓swi_n, ↓swi_c, nck0, nck1, nck2, nck3, List.length_cons, List.length_nil, Nat.reduceAdd, Nat.reduceSub, Nat.reduceLeDiff, Nat.reduceEqDiff, Nat.reduceLT, reduceIte, ite_true, ite_false, Nat.sub_zero, Nat.zero_le, true_and, and_true, and_self, true_or, or_true, if_true, if_false, true_implies, implies_true, not_true_eq_false, not_false_eq_true, false_implies, forall_const, ne_eq, or_self, and_false, false_and, Lt, Le, Eq', Cp, In, nI_add, nI_mul, nI_sub, nI_sub1, Neg0, bI_eq0, bI_eq1, bI_01, bft, up2_eq, up2_no, Bool.true_eq_false, Bool.false_eq_true, eq_self, m1_ne, m1_ne2, m1_lt, m1_le, lt_m1, m1_le2, bI_t, bI_f, LK_st, hd0])
      exact fin
    · have fin : ∀ I', ACK I3 I' (teS i v u u x s00).2 → Q (some (.int (teS i v u u x s00).1)) n sh I' L P := fin
      (apply WP_runI (lv := lvK) (F := LK) LK_ok 999 30; simp (disch := first | decide | omega) only [t2_0, lift_c, o_aload0, o_aload1, o_getfield, o_putfield, o_iload2, o_iload3, o_lookup, o_iload4, o_stat3, rpush_n, rpush_s, o_ireturn, z0, z1, z2, z20, z31, runI_0, runI_c, runI_n, liftI_n, liftI_y, run_0, run_c, run_n, fxn, fxi, fxr, fxl, fxl0, ↓swi_n, ↓swi_c, nck0, nck1, nck2, nck3, List.length_cons, List.length_nil, Nat.reduceAdd, Nat.reduceSub, Nat.reduceLeDiff, Nat.reduceEqDiff, Nat.reduceLT, reduceIte, ite_true, ite_false, Nat.sub_zero, Nat.zero_le, true_and, and_true, and_self, true_or, or_true, if_true, if_false, true_implies, implies_true, not_true_eq_false, not_false_eq_true, false_implies, forall_const, ne_eq, or_self, and_false, false_and, Lt, Le, Eq', Cp, In, nI_add, nI_mul, nI_sub, nI_sub1, Neg0, bI_eq0, bI_eq1, bI_01, bft, up2_eq, up2_no, Bool.true_eq_false, Bool.false_eq_true, eq_self, m1_ne, m1_ne2, m1_lt, m1_le, lt_m1, m1_le2, bI_t, bI_f, LK_st, FGu hG, f2, hd0])
      refine tells_K hG f2 f3 f4 hu hu hA (by show 0 ≤ 840; decide) (by omega) fun I4 hA4 => ?_
      have fin := fin I4 hA4
      generalize (teS i v u u x s00).1 = w at fin ⊢
      (apply WP_runI (lv := lvK) (F := LK) LK_ok 999 30; simp (disch := first | decide | omega) only [t2_0, lift_c, o_aload0, o_aload1, o_getfield, o_putfield, o_iload2, o_iload3, o_lookup, o_iload4, o_stat3, rpush_n, rpush_s, o_ireturn, z0, z1, z2, z20, z31, runI_0, runI_c, runI_n, liftI_n, liftI_y, run_0, run_c, run_n, fxn, fxi, fxr, fxl, fxl0, ↓swi_n, ↓swi_c, nck0, nck1, nck2, nck3, List.length_cons, List.length_nil, Nat.reduceAdd, Nat.reduceSub, Nat.reduceLeDiff, Nat.reduceEqDiff, Nat.reduceLT, reduceIte, ite_true, ite_false, Nat.sub_zero, Nat.zero_le, true_and, and_true, and_self, true_or, or_true, if_true, if_false, true_implies, implies_true, not_true_eq_false, not_false_eq_true, false_implies, forall_const, ne_eq, or_self, and_false, false_and, Lt, Le, Eq', Cp, In, nI_add, nI_mul, nI_sub, nI_sub1, Neg0, bI_eq0, bI_eq1, bI_01, bft, up2_eq, up2_no, Bool.true_eq_false, Bool.false_eq_true, eq_self, m1_ne, m1_ne2, m1_lt, m1_le, lt_m1, m1_le2, bI_t, bI_f, LK_st, hd0])
      exact fin
  have main := main _ fE f1 f2 f3 f4
  clear hQ fE f1 f2 f3 f4
  (apply WP_runI (lv := lvK) (F := LK) LK_ok 21 30; simp (disch := first | decide | omega) only [t2_0, lift_c, o_aload0, o_aload1, o_getfield, o_putfield, o_iload2, o_iload3, o_lookup, o_iload4, o_stat3, rpush_n, rpush_s, o_ireturn, z0, z1, z2, z20, z31, runI_0, runI_c, runI_n, liftI_n, liftI_y, run_0, run_c, run_n, fxn, fxi, fxr, fxl, fxl0, ↓swi_n, ↓swi_c, nck0, nck1, nck2, nck3, List.length_cons, List.length_nil, Nat.reduceAdd, Nat.reduceSub, Nat.reduceLeDiff, Nat.reduceEqDiff, Nat.reduceLT, reduceIte, ite_true, ite_false, Nat.sub_zero, Nat.zero_le, true_and, and_true, and_self, true_or, or_true, if_true, if_false, true_implies, implies_true, not_true_eq_false, not_false_eq_true, false_implies, forall_const, ne_eq, or_self, and_false, false_and, Lt, Le, Eq', Cp, In, nI_add, nI_mul, nI_sub, nI_sub1, Neg0, bI_eq0, bI_eq1, bI_01, bft, up2_eq, up2_no, Bool.true_eq_false, Bool.false_eq_true, eq_self, m1_ne, m1_ne2, m1_lt, m1_le, lt_m1, m1_le2, bI_t, bI_f, LK_st, FGu hG, hq, e0, e1, n108, hd0])
  exact main _ _
theorem acts_R {n : Nat} {sh : TS} {I : TI} {L : TL} {P : TP} {Q : TQ} (hF : FM sh P) (hm : IVm I) {i u t : Nat} {v x : Int32} (hi : i < 6) (hu : u < 7) (e0 : gs (I 124) i 0 = nI u) (e1 : gs (I 124) i 1 = v) (er : I 123 24 = nI 0) (ht : t < 3) (hd : 22 ≤ d)
    (hQ : ∀ I', Eo ranS I I' → (∀ a j, (a = 108 ∨ a = 109) → I' a j = I a j) → I' 123 24 = nI (acT (nI i) v u t x).2.1 → (∀ j, j < (acT (nI i) v u t x).2.1 → j < 20 → I' 138 j = (acT (nI i) v u t x).2.2 j) → Q (some (.int (acT (nI i) v u t x).1)) n sh I' L P) : Cl G d 188 [.ref 123, .int (nI i), .int (nI t), .int x] n sh I L P Q := by
  have hA : ACR I I s00 := ⟨Eo.rf, er, fun j hj => absurd hj (Nat.not_lt_zero j)⟩
  have fin : ∀ I', ACR I I' (acT (nI i) v u t x).2 → Q (some (.int (acT (nI i) v u t x).1)) n sh I' L P := fun I' h => hQ I' (h.1.mono fun a j q => by unfold acR at q; unfold ranS; omega) (fun a j q => h.1 a j fun w => by unfold acR at w; omega) h.2.1 h.2.2
  clear hQ
  have hc : t = 0 ∨ t = 1 ∨ t = 2 := by omega
  rcases hc with rfl | rfl | rfl
  · exact all_R hF hi e0 hA (by omega) (hoS (nI i) v u x s00).2 (fun Q' hq => honks_R hF hm hi e1 hu hA (by show 0 ≤ 880; decide) (by omega) hq) fin
  · exact all_R hF hi e0 hA (by omega) (stS (nI i) v u u x s00).2 (fun Q' hq => struts_R hF hm hi hu e0 e1 hu hA (by show 0 ≤ 860; decide) (by omega) hq) fin
  · exact all_R hF hi e0 hA (by omega) (teS (nI i) v u u x s00).2 (fun Q' hq => tells_R hF hm hi hu e0 e1 hu hA (by show 0 ≤ 840; decide) (by omega) hq) fin
theorem forget_K {n : Nat} {sh : TS} {I : TI} {L : TL} {P : TP} {Q : TQ} (hG : FG sh P) (hQ : Q none n sh (up2 I 108 1 (nI 0)) L P) : Cl G d 1 [.ref 108] n sh I L P Q := by
  apply e1
  have n108 : nle 20 108 := by show 20 ≤ 108; decide
  (apply WP_runI (lv := lvK) (F := LK) LK_ok 999 30; simp (disch := first | decide | omega) only [t1_0, lift_c, o_aload0, o_inl, o_putfield, o_return, z0, z1, z2, z20, z31, runI_0, runI_c, runI_n, liftI_n, liftI_y, run_0, run_c, run_n, fxn, fxi, fxr, fxl, fxl0, ↓swi_n, ↓swi_c, nck0, nck1, nck2, nck3, List.length_cons, List.length_nil, Nat.reduceAdd, Nat.reduceSub, Nat.reduceLeDiff, Nat.reduceEqDiff, Nat.reduceLT, reduceIte, ite_true, ite_false, Nat.sub_zero, Nat.zero_le, true_and, and_true, and_self, true_or, or_true, if_true, if_false, true_implies, implies_true, not_true_eq_false, not_false_eq_true, false_implies, forall_const, ne_eq, or_self, and_false, false_and, Lt, Le, Eq', Cp, In, nI_add, nI_mul, nI_sub, nI_sub1, Neg0, bI_eq0, bI_eq1, bI_01, bft, up2_eq, up2_no, Bool.true_eq_false, Bool.false_eq_true, eq_self, m1_ne, m1_ne2, m1_lt, m1_le, lt_m1, m1_le2, bI_t, bI_f, LK_st, FGu hG, n108])
  exact hQ
theorem act_P (hd : 50 ≤ d) (x y z : Int32) : PAIR G d 94 190 [.ref 20, .int x, .int y, .int z] [.ref 123, .int x, .int y, .int z] := by
  intro n sh I L P Q hI hQ
  obtain ⟨F, E, k, g, r, hI⟩ := hI
  apply e94
  apply WP_SF
  intro hSF
  have hs2 := hSF.2.2.1
  have hB := hI.cb
  have hG := hB.fg
  have hY22 := hB.y22
  have hY84 := hB.y84
  have h22 : sh 22 = (8, 9) := (FY22u hY22).1
  have hd0 : 0 < d := by omega
  have hk := hI.2.2.1.1.k6
  have hg9 := hI.2.2.1.1.g9
  have hWe := hI.2.2.1.we
  have hF := hI.1
  have h5 := hB.count
  have hx := gooseB hB x
  have n123 : nle 20 123 := by show 20 ≤ 123; decide
  have hZ : IW n sh (up2 (up2 I 108 1 (nI 0)) 123 24 (nI 0)) L P F E k g r := hI.ranu ((Eo.rf.up (by unfold ranS; omega) _).up (by unfold ranS; omega) _) (a := 0) (by omega) (by rw [up2_no _ _ _ _ _ _ (by omega), up2_eq]) (up2_eq _ _ _ _) (fun j hj => absurd hj (Nat.not_lt_zero j))
  (apply WP_runI (lv := lvK) (F := LK) LK_ok 999 20; simp (disch := first | decide | omega) only [t94_0, lift_c, o_aload0, o_getref, o_virt1, rpush_n, rpush_s, o_iload1, o_virt2, o_ifeq, o_iload2, o_iflt, o_inl, o_icle, o_ireturn, o_aaload, o_iload3, o_virt5, z0, z1, z2, z20, z31, runI_0, runI_c, runI_n, liftI_n, liftI_y, run_0, run_c, run_n, fxn, fxi, fxr, fxl, fxl0, ↓swi_n, ↓swi_c, nck0, nck1, nck2, nck3, List.length_cons, List.length_nil, Nat.reduceAdd, Nat.reduceSub, Nat.reduceLeDiff, Nat.reduceEqDiff, Nat.reduceLT, reduceIte, ite_true, ite_false, Nat.sub_zero, Nat.zero_le, true_and, and_true, and_self, true_or, or_true, if_true, if_false, true_implies, implies_true, not_true_eq_false, not_false_eq_true, false_implies, forall_const, ne_eq, or_self, and_false, false_and, Lt, Le, Eq', Cp, In, nI_add, nI_mul, nI_sub, nI_sub1, Neg0, bI_eq0, bI_eq1, bI_01, bft, up2_eq, up2_no, Bool.true_eq_false, Bool.false_eq_true, eq_self, m1_ne, m1_ne2, m1_lt, m1_le, lt_m1, m1_le2, bI_t, bI_f, LK_st, FGu hG, LK_g hG h22 hs2, hd0])
  refine forget_K hG ?_
  have g22 : ∀ j, (up2 I 108 1 (nI 0)) 22 j = I 22 j := fun j => up2_no _ _ _ _ _ _ (by omega)
  cases hb : isY (I 124) x with
  | false =>
    rw [hb] at hx
    have bad := hQ (nI 0) n sh (up2 I 108 1 (nI 0)) L P fun Q2 h2 => by
      refine ⟨(FMu hI.1).1, ?_⟩
      have h2 := h2 _ _ _ _ _ ⟨F, E, k, g, r, hZ⟩
      have h124 : (up2 (up2 I 108 1 (nI 0)) 123 24 (nI 0)) 124 = I 124 := by rw [up2_row _ _ _ _ _ (by omega), up2_row _ _ _ _ _ (by omega)]
      apply e190
      (apply WP_runI (lv := lvM) LM_ok 999 40; simp (disch := first | decide | omega) only [t190_0, lift_c, o_aload0, o_inl, o_putfield, o_iload1, o_virt2, rpush_n, rpush_s, o_ifeq, o_iload2, o_stat3, o_iload3, o_virt4, o_goto, o_ireturn, z0, z1, z2, z20, z31, runI_0, runI_c, runI_n, liftI_n, liftI_y, run_0, run_c, run_n, fxn, fxi, fxr, fxl, fxl0, ↓swi_n, ↓swi_c, nck0, nck1, nck2, nck3, List.length_cons, List.length_nil, Nat.reduceAdd, Nat.reduceSub, Nat.reduceLeDiff, Nat.reduceEqDiff, Nat.reduceLT, reduceIte, ite_true, ite_false, Nat.sub_zero, Nat.zero_le, true_and, and_true, and_self, true_or, or_true, if_true, if_false, true_implies, implies_true, not_true_eq_false, not_false_eq_true, false_implies, forall_const, ne_eq, or_self, and_false, false_and, Lt, Le, Eq', Cp, In, nI_add, nI_mul, nI_sub, nI_sub1, Neg0, bI_eq0, bI_eq1, bI_01, bft, up2_eq, up2_no, Bool.true_eq_false, Bool.false_eq_true, eq_self, m1_ne, m1_ne2, m1_lt, m1_le, lt_m1, m1_le2, bI_t, bI_f, LM_all hF, FMu hF, hWe, h124, n123, hb, hd0])
      exact h2
    (apply WP_runI (lv := lvK) (F := LK) LK_ok 999 40; simp (disch := first | decide | omega) only [t94_0, lift_c, o_aload0, o_getref, o_virt1, rpush_n, rpush_s, o_iload1, o_virt2, o_ifeq, o_iload2, o_iflt, o_inl, o_icle, o_ireturn, o_aaload, o_iload3, o_virt5, z0, z1, z2, z20, z31, runI_0, runI_c, runI_n, liftI_n, liftI_y, run_0, run_c, run_n, fxn, fxi, fxr, fxl, fxl0, ↓swi_n, ↓swi_c, nck0, nck1, nck2, nck3, List.length_cons, List.length_nil, Nat.reduceAdd, Nat.reduceSub, Nat.reduceLeDiff, Nat.reduceEqDiff, Nat.reduceLT, reduceIte, ite_true, ite_false, Nat.sub_zero, Nat.zero_le, true_and, and_true, and_self, true_or, or_true, if_true, if_false, true_implies, implies_true, not_true_eq_false, not_false_eq_true, false_implies, forall_const, ne_eq, or_self, and_false, false_and, Lt, Le, Eq', Cp, In, nI_add, nI_mul, nI_sub, nI_sub1, Neg0, bI_eq0, bI_eq1, bI_01, bft, up2_eq, up2_no, Bool.true_eq_false, Bool.false_eq_true, eq_self, m1_ne, m1_ne2, m1_lt, m1_le, lt_m1, m1_le2, bI_t, bI_f, LK_st, FGu hG, LK_g hG h22 hs2, FY22u hY22, g22, hx, hd0])
    exact bad
  | true =>
    obtain ⟨i, hi, ex⟩ := isY_of hB.2.2.1 hb
    rw [hb] at hx
    cases hy : inR y 0 2 with
    | false =>
      have hy2 : decide (nI 0 ≤ y ∧ y ≤ nI 2) = false := hy
      have bad := hQ (nI 0) n sh (up2 I 108 1 (nI 0)) L P fun Q2 h2 => by
        refine ⟨(FMu hI.1).1, ?_⟩
        have h2 := h2 _ _ _ _ _ ⟨F, E, k, g, r, hZ⟩
        have h124 : (up2 (up2 I 108 1 (nI 0)) 123 24 (nI 0)) 124 = I 124 := by rw [up2_row _ _ _ _ _ (by omega), up2_row _ _ _ _ _ (by omega)]
        apply e190
        (apply WP_runI (lv := lvM) LM_ok 999 40; simp (disch := first | decide | omega) only [t190_0, lift_c, o_aload0, o_inl, o_putfield, o_iload1, o_virt2, rpush_n, rpush_s, o_ifeq, o_iload2, o_stat3, o_iload3, o_virt4, o_goto, o_ireturn, z0, z1, z2, z20, z31, runI_0, runI_c, runI_n, liftI_n, liftI_y, run_0, run_c, run_n, fxn, fxi, fxr, fxl, fxl0, ↓swi_n, ↓swi_c, nck0, nck1, nck2, nck3, List.length_cons, List.length_nil, Nat.reduceAdd, Nat.reduceSub, Nat.reduceLeDiff, Nat.reduceEqDiff, Nat.reduceLT, reduceIte, ite_true, ite_false, Nat.sub_zero, Nat.zero_le, true_and, and_true, and_self, true_or, or_true, if_true, if_false, true_implies, implies_true, not_true_eq_false, not_false_eq_true, false_implies, forall_const, ne_eq, or_self, and_false, false_and, Lt, Le, Eq', Cp, In, nI_add, nI_mul, nI_sub, nI_sub1, Neg0, bI_eq0, bI_eq1, bI_01, bft, up2_eq, up2_no, Bool.true_eq_false, Bool.false_eq_true, eq_self, m1_ne, m1_ne2, m1_lt, m1_le, lt_m1, m1_le2, bI_t, bI_f, LM_all hF, FMu hF, hWe, h124, n123, hb, hy2, hd0])
        exact h2
      rcases inR_no hy with h | ⟨h1, h2⟩
      · skip
        (apply WP_runI (lv := lvK) (F := LK) LK_ok 999 40; simp (disch := first | decide | omega) only [t94_0, lift_c, o_aload0, o_getref, o_virt1, rpush_n, rpush_s, o_iload1, o_virt2, o_ifeq, o_iload2, o_iflt, o_inl, o_icle, o_ireturn, o_aaload, o_iload3, o_virt5, z0, z1, z2, z20, z31, runI_0, runI_c, runI_n, liftI_n, liftI_y, run_0, run_c, run_n, fxn, fxi, fxr, fxl, fxl0, ↓swi_n, ↓swi_c, nck0, nck1, nck2, nck3, List.length_cons, List.length_nil, Nat.reduceAdd, Nat.reduceSub, Nat.reduceLeDiff, Nat.reduceEqDiff, Nat.reduceLT, reduceIte, ite_true, ite_false, Nat.sub_zero, Nat.zero_le, true_and, and_true, and_self, true_or, or_true, if_true, if_false, true_implies, implies_true, not_true_eq_false, not_false_eq_true, false_implies, forall_const, ne_eq, or_self, and_false, false_and, Lt, Le, Eq', Cp, In, nI_add, nI_mul, nI_sub, nI_sub1, Neg0, bI_eq0, bI_eq1, bI_01, bft, up2_eq, up2_no, Bool.true_eq_false, Bool.false_eq_true, eq_self, m1_ne, m1_ne2, m1_lt, m1_le, lt_m1, m1_le2, bI_t, bI_f, LK_st, FGu hG, LK_g hG h22 hs2, FY22u hY22, g22, hx, h, hd0])
        exact bad
      · have h3 : ¬ y ≤ nI 2 := Int32.not_le.mpr h2
        (apply WP_runI (lv := lvK) (F := LK) LK_ok 999 40; simp (disch := first | decide | omega) only [t94_0, lift_c, o_aload0, o_getref, o_virt1, rpush_n, rpush_s, o_iload1, o_virt2, o_ifeq, o_iload2, o_iflt, o_inl, o_icle, o_ireturn, o_aaload, o_iload3, o_virt5, z0, z1, z2, z20, z31, runI_0, runI_c, runI_n, liftI_n, liftI_y, run_0, run_c, run_n, fxn, fxi, fxr, fxl, fxl0, ↓swi_n, ↓swi_c, nck0, nck1, nck2, nck3, List.length_cons, List.length_nil, Nat.reduceAdd, Nat.reduceSub, Nat.reduceLeDiff, Nat.reduceEqDiff, Nat.reduceLT, reduceIte, ite_true, ite_false, Nat.sub_zero, Nat.zero_le, true_and, and_true, and_self, true_or, or_true, if_true, if_false, true_implies, implies_true, not_true_eq_false, not_false_eq_true, false_implies, forall_const, ne_eq, or_self, and_false, false_and, Lt, Le, Eq', Cp, In, nI_add, nI_mul, nI_sub, nI_sub1, Neg0, bI_eq0, bI_eq1, bI_01, bft, up2_eq, up2_no, Bool.true_eq_false, Bool.false_eq_true, eq_self, m1_ne, m1_ne2, m1_lt, m1_le, lt_m1, m1_le2, bI_t, bI_f, LK_st, FGu hG, LK_g hG h22 hs2, FY22u hY22, g22, hx, h1, h3, hd0])
        exact bad
    | true =>
      have hy2 : decide (nI 0 ≤ y ∧ y ≤ nI 2) = true := hy
      obtain ⟨t, -, ht, ey⟩ := inR_of (by omega) (by omega) hy
      have y1 : ¬ y < nI 0 := (inR_yes hy).1
      have y2 : y ≤ nI 2 := Int32.not_lt.mp (inR_yes hy).2
      obtain ⟨u, hu, eu⟩ := hB.2.2.1.kind hi
      have hg0 : I (28 + 2 * i) 0 = gs (I 124) i 0 := hB.2.1.geese i 0 hi (by omega)
      have hg1 : I (28 + 2 * i) 1 = gs (I 124) i 1 := hB.2.1.geese i 1 hi (by omega)
      rw [eu] at hg0
      have hq : sh (28 + 2 * i) = (3, 6) := (FY22u hY22).2.2.2.2.2.2.2.2.2.2.2.2.1 i (by omega)
      (apply WP_runI (lv := lvK) (F := LK) LK_ok 26 40; simp (disch := first | decide | omega) only [t94_0, lift_c, o_aload0, o_getref, o_virt1, rpush_n, rpush_s, o_iload1, o_virt2, o_ifeq, o_iload2, o_iflt, o_inl, o_icle, o_ireturn, o_aaload, o_iload3, o_virt5, z0, z1, z2, z20, z31, runI_0, runI_c, runI_n, liftI_n, liftI_y, run_0, run_c, run_n, fxn, fxi, fxr, fxl, fxl0, ↓swi_n, ↓swi_c, nck0, nck1, nck2, nck3, List.length_cons, List.length_nil, Nat.reduceAdd, Nat.reduceSub, Nat.reduceLeDiff, Nat.reduceEqDiff, Nat.reduceLT, reduceIte, ite_true, ite_false, Nat.sub_zero, Nat.zero_le, true_and, and_true, and_self, true_or, or_true, if_true, if_false, true_implies, implies_true, not_true_eq_false, not_false_eq_true, false_implies, forall_const, ne_eq, or_self, and_false, false_and, Lt, Le, Eq', Cp, In, nI_add, nI_mul, nI_sub, nI_sub1, Neg0, bI_eq0, bI_eq1, bI_01, bft, up2_eq, up2_no, Bool.true_eq_false, Bool.false_eq_true, eq_self, m1_ne, m1_ne2, m1_lt, m1_le, lt_m1, m1_le2, bI_t, bI_f, LK_st, FGu hG, LK_g hG h22 hs2, FY22u hY22, g22, hx, y1, y2, hd0])
      rw [ex, ey]
      have hi6 : i < 6 := by omega
      (apply WP_runI (lv := lvK) (F := LK) LK_ok 999 40; simp (disch := first | decide | omega) only [t94_0, lift_c, o_aload0, o_getref, o_virt1, rpush_n, rpush_s, o_iload1, o_virt2, o_ifeq, o_iload2, o_iflt, o_inl, o_icle, o_ireturn, o_aaload, o_iload3, o_virt5, z0, z1, z2, z20, z31, runI_0, runI_c, runI_n, liftI_n, liftI_y, run_0, run_c, run_n, fxn, fxi, fxr, fxl, fxl0, ↓swi_n, ↓swi_c, nck0, nck1, nck2, nck3, List.length_cons, List.length_nil, Nat.reduceAdd, Nat.reduceSub, Nat.reduceLeDiff, Nat.reduceEqDiff, Nat.reduceLT, reduceIte, ite_true, ite_false, Nat.sub_zero, Nat.zero_le, true_and, and_true, and_self, true_or, or_true, if_true, if_false, true_implies, implies_true, not_true_eq_false, not_false_eq_true, false_implies, forall_const, ne_eq, or_self, and_false, false_and, Lt, Le, Eq', Cp, In, nI_add, nI_mul, nI_sub, nI_sub1, Neg0, bI_eq0, bI_eq1, bI_01, bft, up2_eq, up2_no, Bool.true_eq_false, Bool.false_eq_true, eq_self, m1_ne, m1_ne2, m1_lt, m1_le, lt_m1, m1_le2, bI_t, bI_f, LK_st, FGu hG, LK_g hG h22 hs2, FY22u hY22, hi6, hd0])
      refine done_K hG hq hu (v := gs (I 124) i 1) ((up2_no _ _ _ _ _ _ (by omega)).trans hg0) ((up2_no _ _ _ _ _ _ (by omega)).trans hg1) (up2_eq _ _ _ _) (show t < 3 by omega) (by omega) fun I1 hE1 f1 f2 => ?_
      have hb12 := acT_b (nI i) (gs (I 124) i 1) u t z
      have good := hQ (acT (nI i) (gs (I 124) i 1) u t z).1 n sh I1 L P fun Q2 h2 => by
        refine ⟨(FMu hI.1).1, ?_⟩
        have hE0 : Eo ranS I I1 := (Eo.rf.up (by unfold ranS; omega) _).tr hE1
        have e124 : I1 124 = I 124 := funext fun j => hE0 _ _ (by unfold ranS; omega)
        have e124b : (up2 I1 123 24 (nI 0)) 124 = I 124 := (up2_row _ _ _ _ _ (by omega)).trans e124
        have hm1 : IVm (up2 I1 123 24 (nI 0)) := hI.2.2.2.2.2.2.2.2.2.2.2.1.eo (hE0.up (show ranS 123 24 by unfold ranS; omega) (nI 0)) fun a j q => by unfold ranS at q; omega
        apply e190
        (apply WP_runI (lv := lvM) LM_ok 22 40; simp (disch := first | decide | omega) only [t190_0, lift_c, o_aload0, o_inl, o_putfield, o_iload1, o_virt2, rpush_n, rpush_s, o_ifeq, o_iload2, o_stat3, o_iload3, o_virt4, o_goto, o_ireturn, z0, z1, z2, z20, z31, runI_0, runI_c, runI_n, liftI_n, liftI_y, run_0, run_c, run_n, fxn, fxi, fxr, fxl, fxl0, ↓swi_n, ↓swi_c, nck0, nck1, nck2, nck3, List.length_cons, List.length_nil, Nat.reduceAdd, Nat.reduceSub, Nat.reduceLeDiff, Nat.reduceEqDiff, Nat.reduceLT, reduceIte, ite_true, ite_false, Nat.sub_zero, Nat.zero_le, true_and, and_true, and_self, true_or, or_true, if_true, if_false, true_implies, implies_true, not_true_eq_false, not_false_eq_true, false_implies, forall_const, ne_eq, or_self, and_false, false_and, Lt, Le, Eq', Cp, In, nI_add, nI_mul, nI_sub, nI_sub1, Neg0, bI_eq0, bI_eq1, bI_01, bft, up2_eq, up2_no, Bool.true_eq_false, Bool.false_eq_true, eq_self, m1_ne, m1_ne2, m1_lt, m1_le, lt_m1, m1_le2, bI_t, bI_f, LM_all hF, FMu hF, hWe, hb, hy2, e124b, n123, hd0])
        rw [ex, ey]
        (apply WP_runI (lv := lvM) LM_ok 999 40; simp (disch := first | decide | omega) only [t190_0, lift_c, o_aload0, o_inl, o_putfield, o_iload1, o_virt2, rpush_n, rpush_s, o_ifeq, o_iload2, o_stat3, o_iload3, o_virt4, o_goto, o_ireturn, z0, z1, z2, z20, z31, runI_0, runI_c, runI_n, liftI_n, liftI_y, run_0, run_c, run_n, fxn, fxi, fxr, fxl, fxl0, ↓swi_n, ↓swi_c, nck0, nck1, nck2, nck3, List.length_cons, List.length_nil, Nat.reduceAdd, Nat.reduceSub, Nat.reduceLeDiff, Nat.reduceEqDiff, Nat.reduceLT, reduceIte, ite_true, ite_false, Nat.sub_zero, Nat.zero_le, true_and, and_true, and_self, true_or, or_true, if_true, if_false, true_implies, implies_true, not_true_eq_false, not_false_eq_true, false_implies, forall_const, ne_eq, or_self, and_false, false_and, Lt, Le, Eq', Cp, In, nI_add, nI_mul, nI_sub, nI_sub1, Neg0, bI_eq0, bI_eq1, bI_01, bft, up2_eq, up2_no, Bool.true_eq_false, Bool.false_eq_true, eq_self, m1_ne, m1_ne2, m1_lt, m1_le, lt_m1, m1_le2, bI_t, bI_f, LM_all hF, FMu hF, hd0])
        refine acts_R hF hm1 hi6 hu (v := gs (I 124) i 1) (by rw [e124b]; exact eu) (by rw [e124b]) (up2_eq _ _ _ _) (show t < 3 by omega) (by omega) fun I2 hE2 k1 k2 k3 => ?_
        have hD : IW n sh I2 L P F E k g r := hI.ranu ((hE0.up (show ranS 123 24 by unfold ranS; omega) (nI 0)).tr hE2) (show (acT (nI i) (gs (I 124) i 1) u t z).2.1 ≤ 1000 from Nat.le_trans hb12 (by decide)) ((k1 108 1 (Or.inl rfl)).trans ((up2_no _ _ _ _ _ _ (by omega)).trans f1)) k2 (fun j hj hj2 => by
          rw [k1 109 j (Or.inr rfl), up2_no _ _ _ _ _ _ (by omega), f2 j hj hj2, k3 j hj hj2])
        have h2 := h2 _ _ _ _ _ ⟨F, E, k, g, r, hD⟩
        clear hD hm1
        generalize (acT (nI i) (gs (I 124) i 1) u t z).1 = w at h2 ⊢
        (apply WP_runI (lv := lvM) LM_ok 999 40; simp (disch := first | decide | omega) only [t190_0, lift_c, o_aload0, o_inl, o_putfield, o_iload1, o_virt2, rpush_n, rpush_s, o_ifeq, o_iload2, o_stat3, o_iload3, o_virt4, o_goto, o_ireturn, z0, z1, z2, z20, z31, runI_0, runI_c, runI_n, liftI_n, liftI_y, run_0, run_c, run_n, fxn, fxi, fxr, fxl, fxl0, ↓swi_n, ↓swi_c, nck0, nck1, nck2, nck3, List.length_cons, List.length_nil, Nat.reduceAdd, Nat.reduceSub, Nat.reduceLeDiff, Nat.reduceEqDiff, Nat.reduceLT, reduceIte, ite_true, ite_false, Nat.sub_zero, Nat.zero_le, true_and, and_true, and_self, true_or, or_true, if_true, if_false, true_implies, implies_true, not_true_eq_false, not_false_eq_true, false_implies, forall_const, ne_eq, or_self, and_false, false_and, Lt, Le, Eq', Cp, In, nI_add, nI_mul, nI_sub, nI_sub1, Neg0, bI_eq0, bI_eq1, bI_01, bft, up2_eq, up2_no, Bool.true_eq_false, Bool.false_eq_true, eq_self, m1_ne, m1_ne2, m1_lt, m1_le, lt_m1, m1_le2, bI_t, bI_f, LM_all hF, FMu hF, hd0])
        exact h2
      generalize (acT (nI i) (gs (I 124) i 1) u t z).1 = w at good ⊢
      (apply WP_runI (lv := lvK) (F := LK) LK_ok 999 40; simp (disch := first | decide | omega) only [t94_0, lift_c, o_aload0, o_getref, o_virt1, rpush_n, rpush_s, o_iload1, o_virt2, o_ifeq, o_iload2, o_iflt, o_inl, o_icle, o_ireturn, o_aaload, o_iload3, o_virt5, z0, z1, z2, z20, z31, runI_0, runI_c, runI_n, liftI_n, liftI_y, run_0, run_c, run_n, fxn, fxi, fxr, fxl, fxl0, ↓swi_n, ↓swi_c, nck0, nck1, nck2, nck3, List.length_cons, List.length_nil, Nat.reduceAdd, Nat.reduceSub, Nat.reduceLeDiff, Nat.reduceEqDiff, Nat.reduceLT, reduceIte, ite_true, ite_false, Nat.sub_zero, Nat.zero_le, true_and, and_true, and_self, true_or, or_true, if_true, if_false, true_implies, implies_true, not_true_eq_false, not_false_eq_true, false_implies, forall_const, ne_eq, or_self, and_false, false_and, Lt, Le, Eq', Cp, In, nI_add, nI_mul, nI_sub, nI_sub1, Neg0, bI_eq0, bI_eq1, bI_01, bft, up2_eq, up2_no, Bool.true_eq_false, Bool.false_eq_true, eq_self, m1_ne, m1_ne2, m1_lt, m1_le, lt_m1, m1_le2, bI_t, bI_f, LK_st, FGu hG, LK_g hG h22 hs2, hd0])
      exact good
end
