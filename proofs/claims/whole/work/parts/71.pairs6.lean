/-! ### pairs: see, plan, book -/
theorem WF.lo {N M : TN} {k g r : Nat} (h : WF N k g r) (he : ∀ j, j < 84 → M j = N j) : WF M k g r := by
  have hk := h.k6
  have hg := h.g9
  have hgs : ∀ i w, i < k → w < 5 → gs M i w = gs N i w := fun i w hi hw => he _ (by omega)
  refine ⟨hk, (he _ (by omega)).trans h.n80, hg, (he _ (by omega)).trans h.n81, h.r6, ?_, fun i hi => ?_, fun j w hj hw => ?_, fun c hc => ?_, fun i hi => ?_, fun i hi => ?_, fun i hi => ?_, fun i hi => ?_⟩
  · obtain ⟨u, h1, h2⟩ := h.n83
    exact ⟨u, h1, (he _ (by omega)).trans h2⟩
  · rw [hgs i 2 hi (by omega)]; exact h.court hi
  · rw [show ed M j w = ed N j w from he _ (by omega)]; exact h.ends hj hw
  · rw [he c (by omega)]; exact h.grain hc
  · rw [hgs i 3 hi (by omega)]; exact h.key hi
  · rw [hgs i 0 hi (by omega)]; exact h.kind hi
  · rw [hgs i 1 hi (by omega)]; exact h.v9 hi
  · rw [hgs i 4 hi (by omega)]; exact h.taken hi
theorem YD.lo {sh : TS} {I : TI} {P : TP} {b : Nat} {N M : TN} {F : TF} {E : Nat → Int32} {k g : Nat} (h : YD sh I P b N F E k g) (hk : k ≤ 6) (hg : g ≤ 9) (he : ∀ j, j < 84 → M j = N j) : YD sh I P b M F E k g := by
  refine ⟨h.y, h.gates, h.count, h.hour.trans (he _ (by omega)).symm, fun c hc => (h.grain c hc).trans (he _ (by omega)).symm, fun j hj => (h.one j hj).trans (show ed M j 0 = ed N j 0 from he _ (by omega)).symm, fun j hj => (h.other j hj).trans (show ed M j 1 = ed N j 1 from he _ (by omega)).symm, fun i w hi hw => (h.geese i w hi hw).trans (show gs M i w = gs N i w from he _ (by omega)).symm, fun i w hi hw => (h.rows i w hi hw).trans (show gs M i (5 + w) = gs N i (5 + w) from he _ (by omega)).symm, ?_⟩
  rw [show rl M = rl N by show (M 83).toNatClampNeg = _; rw [he 83 (by omega)]; rfl]
  exact h.holds
section
variable {G : GE} {d n : Nat} {sh : TS} {I : TI} {L : TL} {P : TP} {Q : TQ}
theorem add_K {a z s : Nat} (hr : FR sh P a z) (ha : 20 ≤ a) (hz : z ≤ 10) (hs : s ≤ z) (h3 : I a 3 = nI s) {x y w : Int32} (hf : s = z → Q (some (.int (-nI 4))) n sh I L P)
    (hQ : s < z → Q (some (.int (nI (s + 1)))) n sh (up2 (up2 (up2 (up2 I (a + 1) s x) (a + 2) s y) (a + 3) s w) a 3 (nI (s + 1))) L P) : Cl G d 42 [.ref a, .int x, .int y, .int w] n sh I L P Q := by
  apply e42
  have hr := FRu hr
  have n1 : nle 20 (a + 1) := by show 20 ≤ a + 1; omega
  have n2 : nle 20 (a + 2) := by show 20 ≤ a + 2; omega
  have n3 : nle 20 (a + 3) := by show 20 ≤ a + 3; omega
  by_cases h : s = z
  · have hf2 := hf h
    subst h
    (apply WP_runI (lv := lvK) (F := LK) LK_ok 999 80; simp (disch := first | decide | omega) only [t42_0, lift_c, o_aload0, o_getfield, o_getref, o_arraylength, o_icne, o_inl, o_ireturn, o_iload1, o_iastore, o_iload2, o_iload3, o_dupi, o_dupr, o_iadd, o_putfield, z0, z1, z2, z4, z20, z31, runI_0, runI_c, runI_n, liftI_n, liftI_y, run_0, run_c, run_n, fxn, fxi, fxr, fxl, fxl0, ↓swi_n, ↓swi_c, nck0, nck1, nck2, nck3, List.length_cons, List.length_nil, Nat.reduceAdd, Nat.reduceSub, Nat.reduceLeDiff, Nat.reduceEqDiff, Nat.reduceLT, reduceIte, ite_true, ite_false, Nat.sub_zero, Nat.zero_le, true_and, and_true, and_self, true_or, or_true, if_true, if_false, true_implies, implies_true, not_true_eq_false, not_false_eq_true, false_implies, forall_const, ne_eq, or_self, and_false, false_and, Lt, Le, Eq', Cp, In, nI_add, nI_mul, nI_sub, nI_sub1, Neg0, bI_eq0, bI_eq1, bI_01, bft, up2_eq, up2_no, Bool.true_eq_false, Bool.false_eq_true, eq_self, m1_ne, m1_ne2, m1_lt, m1_le, lt_m1, m1_le2, bI_t, bI_f, LK_st, hr, h3, z4])
    exact hf2
  · have hQ := hQ (by omega)
    (apply WP_runI (lv := lvK) (F := LK) LK_ok 999 80; simp (disch := first | decide | omega) only [t42_0, lift_c, o_aload0, o_getfield, o_getref, o_arraylength, o_icne, o_inl, o_ireturn, o_iload1, o_iastore, o_iload2, o_iload3, o_dupi, o_dupr, o_iadd, o_putfield, z0, z1, z2, z4, z20, z31, runI_0, runI_c, runI_n, liftI_n, liftI_y, run_0, run_c, run_n, fxn, fxi, fxr, fxl, fxl0, ↓swi_n, ↓swi_c, nck0, nck1, nck2, nck3, List.length_cons, List.length_nil, Nat.reduceAdd, Nat.reduceSub, Nat.reduceLeDiff, Nat.reduceEqDiff, Nat.reduceLT, reduceIte, ite_true, ite_false, Nat.sub_zero, Nat.zero_le, true_and, and_true, and_self, true_or, or_true, if_true, if_false, true_implies, implies_true, not_true_eq_false, not_false_eq_true, false_implies, forall_const, ne_eq, or_self, and_false, false_and, Lt, Le, Eq', Cp, In, nI_add, nI_mul, nI_sub, nI_sub1, Neg0, bI_eq0, bI_eq1, bI_01, bft, up2_eq, up2_no, Bool.true_eq_false, Bool.false_eq_true, eq_self, m1_ne, m1_ne2, m1_lt, m1_le, lt_m1, m1_le2, bI_t, bI_f, LK_st, hr, h3, h, n1, n2, n3, z4])
    exact hQ
/-- rows told by hand change, of both -/
theorem IW.told {n : Nat} {sh : TS} {I I' : TI} {L : TL} {P : TP} {F : TF} {E : Nat → Int32} {k g r : Nat} (h : IW n sh I L P F E k g r) (hI : Eo (fun a j => (40 ≤ a ∧ a ≤ 51) ∨ (a = 124 ∧ 84 ≤ j)) I I') (hR : RD I' (I' 124)) (hS : WS (I' 124) k) : IW n sh I' L P F E k g r := by
  have hk := h.2.2.1.1.k6
  have hg := h.2.2.1.1.g9
  have e : ∀ j, j < 84 → I' 124 j = I 124 j := fun j hj => hI 124 j (by omega)
  refine h.row (hI.mono fun a j q => by unfold mS; omega) (h.2.2.1.1.lo e) ?_ hR hS
  exact ((h.2.2.2.1.eo hk hI fun c j q => by omega).lo hk hg e)
theorem IW.tseen {n : Nat} {sh : TS} {I I' : TI} {L : TL} {P : TP} {F : TF} {E : Nat → Int32} {k g r : Nat} (h : IW n sh I L P F E k g r) (hI : Eo (fun a j => (40 ≤ a ∧ a ≤ 43) ∨ (a = 124 ∧ 84 ≤ j ∧ j < 100)) I I') {s : Nat} (hs : s ≤ 5) (h1 : I' 40 3 = nI s) (h2 : I' 124 84 = nI s)
    (h3 : ∀ j, j < s → (I' 41 j = I' 124 (85 + 3 * j) ∧ I' 42 j = I' 124 (86 + 3 * j) ∧ I' 43 j = I' 124 (87 + 3 * j)) ∧ (∃ i, i < k ∧ I' 124 (85 + 3 * j) = nI i) ∧ (∃ t, t ≤ 12 ∧ I' 124 (86 + 3 * j) = nI t) ∧ ∃ c, c < 8 ∧ I' 124 (87 + 3 * j) = nI c) : IW n sh I' L P F E k g r := by
  have e : ∀ a j, ¬ ((40 ≤ a ∧ a ≤ 43) ∨ (a = 124 ∧ 84 ≤ j ∧ j < 100)) → I' a j = I a j := fun a j q => hI a j q
  obtain ⟨r1, r2, r3, r4, r5, r6⟩ := h.2.2.2.2.1
  obtain ⟨-, ⟨p, p1, p2, p3⟩, ⟨b, b1, b2, b3⟩⟩ := h.2.2.2.2.2.1
  refine h.told (hI.mono fun a j q => by omega) ⟨h1.trans h2.symm, ?_, ?_, fun s' h10 hs' j hj => ?_, fun s' h10 hs' j hj => ?_, fun s' h10 hs' j hj => ?_⟩ ⟨⟨s, hs, h2, fun j hj => (h3 j hj).2⟩, ⟨p, p1, (e _ _ (by omega)).trans p2, fun j hj => ?_⟩, ⟨b, b1, (e _ _ (by omega)).trans b2, fun j hj => ?_⟩⟩
  · rw [e 44 3 (by omega), e 124 100 (by omega)]; exact r2
  · rw [e 48 3 (by omega), e 124 121 (by omega)]; exact r3
  · rw [h2, nI_eq (by omega) (by omega)] at hs'
    exact (h3 j (by omega)).1
  · rw [e 124 100 (by omega)] at hs'
    rw [e _ _ (by omega), e _ _ (by omega), e _ _ (by omega), e _ _ (by omega)]
    exact r5 s' h10 hs' j hj
  · rw [e 124 121 (by omega)] at hs'
    rw [e _ _ (by omega), e _ _ (by omega), e _ _ (by omega), e _ _ (by omega)]
    exact r6 s' h10 hs' j hj
  · rw [e _ _ (by omega), e _ _ (by omega)]; exact p3 j hj
  · rw [e _ _ (by omega), e _ _ (by omega)]; exact b3 j hj
theorem IW.tplan {n : Nat} {sh : TS} {I I' : TI} {L : TL} {P : TP} {F : TF} {E : Nat → Int32} {k g r : Nat} (h : IW n sh I L P F E k g r) (hI : Eo (fun a j => (44 ≤ a ∧ a ≤ 47) ∨ (a = 124 ∧ 100 ≤ j ∧ j < 121)) I I') {s : Nat} (hs : s ≤ 10) (h1 : I' 44 3 = nI s) (h2 : I' 124 100 = nI s)
    (h3 : ∀ j, j < s → (I' 45 j = I' 124 (101 + 2 * j) ∧ I' 46 j = I' 124 (102 + 2 * j)) ∧ ∃ t, t < 4 ∧ I' 124 (101 + 2 * j) = nI t ∧ (t = 1 → ∃ c, c < 8 ∧ I' 124 (102 + 2 * j) = nI c) ∧ (1 < t → ∃ i, i < k ∧ I' 124 (102 + 2 * j) = nI i)) : IW n sh I' L P F E k g r := by
  have e : ∀ a j, ¬ ((44 ≤ a ∧ a ≤ 47) ∨ (a = 124 ∧ 100 ≤ j ∧ j < 121)) → I' a j = I a j := fun a j q => hI a j q
  obtain ⟨r1, r2, r3, r4, r5, r6⟩ := h.2.2.2.2.1
  obtain ⟨⟨p, p1, p2, p3⟩, -, ⟨b, b1, b2, b3⟩⟩ := h.2.2.2.2.2.1
  refine h.told (hI.mono fun a j q => by omega) ⟨?_, h1.trans h2.symm, ?_, fun s' h10 hs' j hj => ?_, fun s' h10 hs' j hj => ?_, fun s' h10 hs' j hj => ?_⟩ ⟨⟨p, p1, (e _ _ (by omega)).trans p2, fun j hj => ?_⟩, ⟨s, hs, h2, fun j hj => (h3 j hj).2⟩, ⟨b, b1, (e _ _ (by omega)).trans b2, fun j hj => ?_⟩⟩
  · rw [e 40 3 (by omega), e 124 84 (by omega)]; exact r1
  · rw [e 48 3 (by omega), e 124 121 (by omega)]; exact r3
  · rw [e 124 84 (by omega), p2, nI_eq (by omega) (by omega)] at hs'
    rw [e _ _ (by omega), e _ _ (by omega), e _ _ (by omega), e _ _ (by omega), e _ _ (by omega), e _ _ (by omega)]
    exact r4 s' h10 (by rw [p2, hs']) j hj
  · rw [h2, nI_eq (by omega) (by omega)] at hs'
    exact (h3 j (by omega)).1
  · rw [e 124 121 (by omega)] at hs'
    rw [e _ _ (by omega), e _ _ (by omega), e _ _ (by omega), e _ _ (by omega)]
    exact r6 s' h10 hs' j hj
  · rw [e _ _ (by omega), e _ _ (by omega), e _ _ (by omega)]; exact p3 j hj
  · rw [e _ _ (by omega), e _ _ (by omega)]; exact b3 j hj
theorem IW.tbook {n : Nat} {sh : TS} {I I' : TI} {L : TL} {P : TP} {F : TF} {E : Nat → Int32} {k g r : Nat} (h : IW n sh I L P F E k g r) (hI : Eo (fun a j => (48 ≤ a ∧ a ≤ 51) ∨ (a = 124 ∧ 121 ≤ j)) I I') {s : Nat} (hs : s ≤ 8) (h1 : I' 48 3 = nI s) (h2 : I' 124 121 = nI s)
    (h3 : ∀ j, j < s → (I' 49 j = I' 124 (122 + 2 * j) ∧ I' 50 j = I' 124 (123 + 2 * j)) ∧ (∃ c, c < 8 ∧ I' 124 (122 + 2 * j) = nI c) ∧ ∃ u, u ≤ 99 ∧ I' 124 (123 + 2 * j) = nI u) : IW n sh I' L P F E k g r := by
  have e : ∀ a j, ¬ ((48 ≤ a ∧ a ≤ 51) ∨ (a = 124 ∧ 121 ≤ j)) → I' a j = I a j := fun a j q => hI a j q
  obtain ⟨r1, r2, r3, r4, r5, r6⟩ := h.2.2.2.2.1
  obtain ⟨⟨p, p1, p2, p3⟩, ⟨b, b1, b2, b3⟩, -⟩ := h.2.2.2.2.2.1
  refine h.told (hI.mono fun a j q => by omega) ⟨?_, ?_, h1.trans h2.symm, fun s' h10 hs' j hj => ?_, fun s' h10 hs' j hj => ?_, fun s' h10 hs' j hj => ?_⟩ ⟨⟨p, p1, (e _ _ (by omega)).trans p2, fun j hj => ?_⟩, ⟨b, b1, (e _ _ (by omega)).trans b2, fun j hj => ?_⟩, ⟨s, hs, h2, fun j hj => (h3 j hj).2⟩⟩
  · rw [e 40 3 (by omega), e 124 84 (by omega)]; exact r1
  · rw [e 44 3 (by omega), e 124 100 (by omega)]; exact r2
  · rw [e 124 84 (by omega), p2, nI_eq (by omega) (by omega)] at hs'
    rw [e _ _ (by omega), e _ _ (by omega), e _ _ (by omega), e _ _ (by omega), e _ _ (by omega), e _ _ (by omega)]
    exact r4 s' h10 (by rw [p2, hs']) j hj
  · rw [e 124 100 (by omega), b2, nI_eq (by omega) (by omega)] at hs'
    rw [e _ _ (by omega), e _ _ (by omega), e _ _ (by omega), e _ _ (by omega)]
    exact r5 s' h10 (by rw [b2, hs']) j hj
  · rw [h2, nI_eq (by omega) (by omega)] at hs'
    exact (h3 j (by omega)).1
  · rw [e _ _ (by omega), e _ _ (by omega), e _ _ (by omega)]; exact p3 j hj
  · rw [e _ _ (by omega), e _ _ (by omega)]; exact b3 j hj
end
section
variable {G : GE} {d : Nat}
theorem see_P (hd : 50 ≤ d) (x y z : Int32) : PAIR G d 82 175 [.ref 20, .int x, .int y, .int z] [.ref 123, .int x, .int y, .int z] := by
  intro n sh I L P Q hI hQ
  obtain ⟨F, E, k, g, r, hI⟩ := hI
  apply e82
  apply WP_SF
  intro hSF
  have hs2 := hSF.2.2.1
  have hB := hI.cb
  have hG := hB.fg
  have hY22 := hB.y22
  have hY84 := hB.y84
  have h22 : sh 22 = (8, 9) := (FY22u hY22).1
  have hd0 : 0 < d := by omega
  have hk := hI.2.2.1.1.k6
  have hg9 := hI.2.2.1.1.g9
  have hWe := hI.2.2.1.we
  have hF := hI.1
  have h5 := hB.count
  have hx := gooseB hB x
  have hr40 := FR40 hB.r40
  have h20 : nle 20 124 := by show 20 ≤ 124; decide
  obtain ⟨s, hs5, hs, hrow⟩ := hI.2.2.2.2.2.1.1
  have e3 : I 40 3 = nI s := hI.2.2.2.2.1.1.trans hs
  have hrd := hI.2.2.2.2.1.2.2.2.1 s (by omega) hs
  by_cases h1 : x = -nI 1
  · subst h1
    have hD : IW n sh (up2 (up2 I 40 3 (nI 0)) 124 84 (nI 0)) L P F E k g r := hI.tseen (s := 0) (fun a j q => by rw [up2_no _ _ _ _ _ _ (by omega), up2_no _ _ _ _ _ _ (by omega)]) (by omega) (by rw [up2_no _ _ _ _ _ _ (by omega), up2_eq]) (up2_eq _ _ _ _) (fun j hj => by omega)
    have hQ := hQ (nI 0) n sh (up2 I 40 3 (nI 0)) L P fun Q2 h2 => by
      refine ⟨(FMu hI.1).1, ?_⟩
      have h2 := h2 _ _ _ _ _ ⟨F, E, k, g, r, hD⟩
      apply e175
      (apply WP_runI (lv := lvM) LM_ok 999 20; simp (disch := first | decide | omega) only [t175_0, t175_1, lift_c, o_iload1, o_inl, o_icne, o_aload0, o_getref, o_iastore, o_ireturn, o_virt2, rpush_n, rpush_s, o_ifeq, o_iload3, o_stat1, o_ifne, o_iload2, o_stat3, o_iaload, o_imul, o_iadd, o_istore, s1_0, s1_s, o_iload4, o_dup2, z0, z1, z2, z3, z4, z5, z12, z20, z31, z84, z85, runI_0, runI_c, runI_n, liftI_n, liftI_y, run_0, run_c, run_n, fxn, fxi, fxr, fxl, fxl0, ↓swi_n, ↓swi_c, nck0, nck1, nck2, nck3, List.length_cons, List.length_nil, Nat.reduceAdd, Nat.reduceSub, Nat.reduceLeDiff, Nat.reduceEqDiff, Nat.reduceLT, reduceIte, ite_true, ite_false, Nat.sub_zero, Nat.zero_le, true_and, and_true, and_self, true_or, or_true, if_true, if_false, true_implies, implies_true, not_true_eq_false, not_false_eq_true, false_implies, forall_const, ne_eq, or_self, and_false, false_and, Lt, Le, Eq', Cp, In, nI_add, nI_mul, nI_sub, nI_sub1, Neg0, bI_eq0, bI_eq1, bI_01, bft, up2_eq, up2_no, Bool.true_eq_false, Bool.false_eq_true, eq_self, m1_ne, m1_ne2, m1_lt, m1_le, lt_m1, m1_le2, bI_t, bI_f, LM_all hF, FMu hF, h20, hd0])
      exact h2
    clear hD
    (apply WP_runI (lv := lvK) (F := LK) LK_ok 999 20; simp (disch := first | decide | omega) only [t82_0, lift_c, o_iload1, o_inl, o_icne, o_aload0, o_getref, o_putfield, o_ireturn, o_virt2, rpush_n, rpush_s, o_ifeq, o_iload3, o_stat1, o_ifne, o_iload2, o_stat2, o_virt4, z0, z1, z2, z12, z20, z31, runI_0, runI_c, runI_n, liftI_n, liftI_y, run_0, run_c, run_n, fxn, fxi, fxr, fxl, fxl0, ↓swi_n, ↓swi_c, nck0, nck1, nck2, nck3, List.length_cons, List.length_nil, Nat.reduceAdd, Nat.reduceSub, Nat.reduceLeDiff, Nat.reduceEqDiff, Nat.reduceLT, reduceIte, ite_true, ite_false, Nat.sub_zero, Nat.zero_le, true_and, and_true, and_self, true_or, or_true, if_true, if_false, true_implies, implies_true, not_true_eq_false, not_false_eq_true, false_implies, forall_const, ne_eq, or_self, and_false, false_and, Lt, Le, Eq', Cp, In, nI_add, nI_mul, nI_sub, nI_sub1, Neg0, bI_eq0, bI_eq1, bI_01, bft, up2_eq, up2_no, Bool.true_eq_false, Bool.false_eq_true, eq_self, m1_ne, m1_ne2, m1_lt, m1_le, lt_m1, m1_le2, bI_t, bI_f, LK_st, FGu hG, LK_g hG h22 hs2, FY22u hY22, hr40, hd0])
    exact hQ
  · cases hb : isY (I 124) x with
    | false =>
      rw [hb] at hx
      have bad := hQ (-nI 1) n sh I L P fun Q2 h2 => by
        refine ⟨(FMu hI.1).1, ?_⟩
        have h2 := h2 _ _ _ _ _ ⟨F, E, k, g, r, hI⟩
        apply e175
        (apply WP_runI (lv := lvM) LM_ok 999 40; simp (disch := first | decide | omega) only [t175_0, t175_1, lift_c, o_iload1, o_inl, o_icne, o_aload0, o_getref, o_iastore, o_ireturn, o_virt2, rpush_n, rpush_s, o_ifeq, o_iload3, o_stat1, o_ifne, o_iload2, o_stat3, o_iaload, o_imul, o_iadd, o_istore, s1_0, s1_s, o_iload4, o_dup2, z0, z1, z2, z3, z4, z5, z12, z20, z31, z84, z85, runI_0, runI_c, runI_n, liftI_n, liftI_y, run_0, run_c, run_n, fxn, fxi, fxr, fxl, fxl0, ↓swi_n, ↓swi_c, nck0, nck1, nck2, nck3, List.length_cons, List.length_nil, Nat.reduceAdd, Nat.reduceSub, Nat.reduceLeDiff, Nat.reduceEqDiff, Nat.reduceLT, reduceIte, ite_true, ite_false, Nat.sub_zero, Nat.zero_le, true_and, and_true, and_self, true_or, or_true, if_true, if_false, true_implies, implies_true, not_true_eq_false, not_false_eq_true, false_implies, forall_const, ne_eq, or_self, and_false, false_and, Lt, Le, Eq', Cp, In, nI_add, nI_mul, nI_sub, nI_sub1, Neg0, bI_eq0, bI_eq1, bI_01, bft, up2_eq, up2_no, Bool.true_eq_false, Bool.false_eq_true, eq_self, m1_ne, m1_ne2, m1_lt, m1_le, lt_m1, m1_le2, bI_t, bI_f, LM_all hF, FMu hF, hWe, h1, hb, hd0])
        exact h2
      (apply WP_runI (lv := lvK) (F := LK) LK_ok 999 40; simp (disch := first | decide | omega) only [t82_0, lift_c, o_iload1, o_inl, o_icne, o_aload0, o_getref, o_putfield, o_ireturn, o_virt2, rpush_n, rpush_s, o_ifeq, o_iload3, o_stat1, o_ifne, o_iload2, o_stat2, o_virt4, z0, z1, z2, z12, z20, z31, runI_0, runI_c, runI_n, liftI_n, liftI_y, run_0, run_c, run_n, fxn, fxi, fxr, fxl, fxl0, ↓swi_n, ↓swi_c, nck0, nck1, nck2, nck3, List.length_cons, List.length_nil, Nat.reduceAdd, Nat.reduceSub, Nat.reduceLeDiff, Nat.reduceEqDiff, Nat.reduceLT, reduceIte, ite_true, ite_false, Nat.sub_zero, Nat.zero_le, true_and, and_true, and_self, true_or, or_true, if_true, if_false, true_implies, implies_true, not_true_eq_false, not_false_eq_true, false_implies, forall_const, ne_eq, or_self, and_false, false_and, Lt, Le, Eq', Cp, In, nI_add, nI_mul, nI_sub, nI_sub1, Neg0, bI_eq0, bI_eq1, bI_01, bft, up2_eq, up2_no, Bool.true_eq_false, Bool.false_eq_true, eq_self, m1_ne, m1_ne2, m1_lt, m1_le, lt_m1, m1_le2, bI_t, bI_f, LK_st, FGu hG, LK_g hG h22 hs2, FY22u hY22, hx, h1, hd0])
      exact bad
    | true =>
      obtain ⟨i, hi, ex⟩ := isY_of hB.2.2.1 hb
      subst ex
      cases hz : isC z with
      | false =>
        have bad := hQ (-nI 1) n sh I L P fun Q2 h2 => by
          refine ⟨(FMu hI.1).1, ?_⟩
          have h2 := h2 _ _ _ _ _ ⟨F, E, k, g, r, hI⟩
          apply e175
          (apply WP_runI (lv := lvM) LM_ok 999 40; simp (disch := first | decide | omega) only [t175_0, t175_1, lift_c, o_iload1, o_inl, o_icne, o_aload0, o_getref, o_iastore, o_ireturn, o_virt2, rpush_n, rpush_s, o_ifeq, o_iload3, o_stat1, o_ifne, o_iload2, o_stat3, o_iaload, o_imul, o_iadd, o_istore, s1_0, s1_s, o_iload4, o_dup2, z0, z1, z2, z3, z4, z5, z12, z20, z31, z84, z85, runI_0, runI_c, runI_n, liftI_n, liftI_y, run_0, run_c, run_n, fxn, fxi, fxr, fxl, fxl0, ↓swi_n, ↓swi_c, nck0, nck1, nck2, nck3, List.length_cons, List.length_nil, Nat.reduceAdd, Nat.reduceSub, Nat.reduceLeDiff, Nat.reduceEqDiff, Nat.reduceLT, reduceIte, ite_true, ite_false, Nat.sub_zero, Nat.zero_le, true_and, and_true, and_self, true_or, or_true, if_true, if_false, true_implies, implies_true, not_true_eq_false, not_false_eq_true, false_implies, forall_const, ne_eq, or_self, and_false, false_and, Lt, Le, Eq', Cp, In, nI_add, nI_mul, nI_sub, nI_sub1, Neg0, bI_eq0, bI_eq1, bI_01, bft, up2_eq, up2_no, Bool.true_eq_false, Bool.false_eq_true, eq_self, m1_ne, m1_ne2, m1_lt, m1_le, lt_m1, m1_le2, bI_t, bI_f, LM_all hF, FMu hF, hWe, hb, hz, hd0])
          exact h2
        (apply WP_runI (lv := lvK) (F := LK) LK_ok 999 40; simp (disch := first | decide | omega) only [t82_0, lift_c, o_iload1, o_inl, o_icne, o_aload0, o_getref, o_putfield, o_ireturn, o_virt2, rpush_n, rpush_s, o_ifeq, o_iload3, o_stat1, o_ifne, o_iload2, o_stat2, o_virt4, z0, z1, z2, z12, z20, z31, runI_0, runI_c, runI_n, liftI_n, liftI_y, run_0, run_c, run_n, fxn, fxi, fxr, fxl, fxl0, ↓swi_n, ↓swi_c, nck0, nck1, nck2, nck3, List.length_cons, List.length_nil, Nat.reduceAdd, Nat.reduceSub, Nat.reduceLeDiff, Nat.reduceEqDiff, Nat.reduceLT, reduceIte, ite_true, ite_false, Nat.sub_zero, Nat.zero_le, true_and, and_true, and_self, true_or, or_true, if_true, if_false, true_implies, implies_true, not_true_eq_false, not_false_eq_true, false_implies, forall_const, ne_eq, or_self, and_false, false_and, Lt, Le, Eq', Cp, In, nI_add, nI_mul, nI_sub, nI_sub1, Neg0, bI_eq0, bI_eq1, bI_01, bft, up2_eq, up2_no, Bool.true_eq_false, Bool.false_eq_true, eq_self, m1_ne, m1_ne2, m1_lt, m1_le, lt_m1, m1_le2, bI_t, bI_f, LK_st, FGu hG, LK_g hG h22 hs2, FY22u hY22, h5, hi, hz, decide_true, hd0])
        exact bad
      | true =>
        cases hy : inR y 0 12 with
        | false =>
          have hy2 : decide (nI 0 ≤ y ∧ y ≤ nI 12) = false := hy
          have bad := hQ (-nI 2) n sh I L P fun Q2 h2 => by
            refine ⟨(FMu hI.1).1, ?_⟩
            have h2 := h2 _ _ _ _ _ ⟨F, E, k, g, r, hI⟩
            apply e175
            (apply WP_runI (lv := lvM) LM_ok 999 40; simp (disch := first | decide | omega) only [t175_0, t175_1, lift_c, o_iload1, o_inl, o_icne, o_aload0, o_getref, o_iastore, o_ireturn, o_virt2, rpush_n, rpush_s, o_ifeq, o_iload3, o_stat1, o_ifne, o_iload2, o_stat3, o_iaload, o_imul, o_iadd, o_istore, s1_0, s1_s, o_iload4, o_dup2, z0, z1, z2, z3, z4, z5, z12, z20, z31, z84, z85, runI_0, runI_c, runI_n, liftI_n, liftI_y, run_0, run_c, run_n, fxn, fxi, fxr, fxl, fxl0, ↓swi_n, ↓swi_c, nck0, nck1, nck2, nck3, List.length_cons, List.length_nil, Nat.reduceAdd, Nat.reduceSub, Nat.reduceLeDiff, Nat.reduceEqDiff, Nat.reduceLT, reduceIte, ite_true, ite_false, Nat.sub_zero, Nat.zero_le, true_and, and_true, and_self, true_or, or_true, if_true, if_false, true_implies, implies_true, not_true_eq_false, not_false_eq_true, false_implies, forall_const, ne_eq, or_self, and_false, false_and, Lt, Le, Eq', Cp, In, nI_add, nI_mul, nI_sub, nI_sub1, Neg0, bI_eq0, bI_eq1, bI_01, bft, up2_eq, up2_no, Bool.true_eq_false, Bool.false_eq_true, eq_self, m1_ne, m1_ne2, m1_lt, m1_le, lt_m1, m1_le2, bI_t, bI_f, LM_all hF, FMu hF, hWe, hb, hz, hy2, hd0])
            exact h2
          (apply WP_runI (lv := lvK) (F := LK) LK_ok 999 40; simp (disch := first | decide | omega) only [t82_0, lift_c, o_iload1, o_inl, o_icne, o_aload0, o_getref, o_putfield, o_ireturn, o_virt2, rpush_n, rpush_s, o_ifeq, o_iload3, o_stat1, o_ifne, o_iload2, o_stat2, o_virt4, z0, z1, z2, z12, z20, z31, runI_0, runI_c, runI_n, liftI_n, liftI_y, run_0, run_c, run_n, fxn, fxi, fxr, fxl, fxl0, ↓swi_n, ↓swi_c, nck0, nck1, nck2, nck3, List.length_cons, List.length_nil, Nat.reduceAdd, Nat.reduceSub, Nat.reduceLeDiff, Nat.reduceEqDiff, Nat.reduceLT, reduceIte, ite_true, ite_false, Nat.sub_zero, Nat.zero_le, true_and, and_true, and_self, true_or, or_true, if_true, if_false, true_implies, implies_true, not_true_eq_false, not_false_eq_true, false_implies, forall_const, ne_eq, or_self, and_false, false_and, Lt, Le, Eq', Cp, In, nI_add, nI_mul, nI_sub, nI_sub1, Neg0, bI_eq0, bI_eq1, bI_01, bft, up2_eq, up2_no, Bool.true_eq_false, Bool.false_eq_true, eq_self, m1_ne, m1_ne2, m1_lt, m1_le, lt_m1, m1_le2, bI_t, bI_f, LK_st, FGu hG, LK_g hG h22 hs2, FY22u hY22, h5, hi, hz, hy2, decide_true, hd0])
          exact bad
        | true =>
          have hy2 : decide (nI 0 ≤ y ∧ y ≤ nI 12) = true := hy
          obtain ⟨c, hc, ez⟩ := isC_of hz
          obtain ⟨t, -, ht, ey⟩ := inR_of (by omega) (by omega) hy
          (apply WP_runI (lv := lvK) (F := LK) LK_ok 999 60; simp (disch := first | decide | omega) only [t82_0, lift_c, o_iload1, o_inl, o_icne, o_aload0, o_getref, o_putfield, o_ireturn, o_virt2, rpush_n, rpush_s, o_ifeq, o_iload3, o_stat1, o_ifne, o_iload2, o_stat2, o_virt4, z0, z1, z2, z12, z20, z31, runI_0, runI_c, runI_n, liftI_n, liftI_y, run_0, run_c, run_n, fxn, fxi, fxr, fxl, fxl0, ↓swi_n, ↓swi_c, nck0, nck1, nck2, nck3, List.length_cons, List.length_nil, Nat.reduceAdd, Nat.reduceSub, Nat.reduceLeDiff, Nat.reduceEqDiff, Nat.reduceLT, reduceIte, ite_true, ite_false, Nat.sub_zero, Nat.zero_le, true_and, and_true, and_self, true_or, or_true, if_true, if_false, true_implies, implies_true, not_true_eq_false, not_false_eq_true, false_implies, forall_const, ne_eq, or_self, and_false, false_and, Lt, Le, Eq', Cp, In, nI_add, nI_mul, nI_sub, nI_sub1, Neg0, bI_eq0, bI_eq1, bI_01, bft, up2_eq, up2_no, Bool.true_eq_false, Bool.false_eq_true, eq_self, m1_ne, m1_ne2, m1_lt, m1_le, lt_m1, m1_le2, bI_t, bI_f, LK_st, FGu hG, LK_g hG h22 hs2, FY22u hY22, hr40, h5, hi, hz, hy2, decide_true, hd0])
          refine add_K hB.r40 (by omega) (by omega) hs5 e3 (fun hf => ?_) fun hlt => ?_
          · have full := hQ (-nI 4) n sh I L P fun Q2 h2 => by
              refine ⟨(FMu hI.1).1, ?_⟩
              have h2 := h2 _ _ _ _ _ ⟨F, E, k, g, r, hI⟩
              apply e175
              (apply WP_runI (lv := lvM) LM_ok 999 60; simp (disch := first | decide | omega) only [t175_0, t175_1, lift_c, o_iload1, o_inl, o_icne, o_aload0, o_getref, o_iastore, o_ireturn, o_virt2, rpush_n, rpush_s, o_ifeq, o_iload3, o_stat1, o_ifne, o_iload2, o_stat3, o_iaload, o_imul, o_iadd, o_istore, s1_0, s1_s, o_iload4, o_dup2, z0, z1, z2, z3, z4, z5, z12, z20, z31, z84, z85, runI_0, runI_c, runI_n, liftI_n, liftI_y, run_0, run_c, run_n, fxn, fxi, fxr, fxl, fxl0, ↓swi_n, ↓swi_c, nck0, nck1, nck2, nck3, List.length_cons, List.length_nil, Nat.reduceAdd, Nat.reduceSub, Nat.reduceLeDiff, Nat.reduceEqDiff, Nat.reduceLT, reduceIte, ite_true, ite_false, Nat.sub_zero, Nat.zero_le, true_and, and_true, and_self, true_or, or_true, if_true, if_false, true_implies, implies_true, not_true_eq_false, not_false_eq_true, false_implies, forall_const, ne_eq, or_self, and_false, false_and, Lt, Le, Eq', Cp, In, nI_add, nI_mul, nI_sub, nI_sub1, Neg0, bI_eq0, bI_eq1, bI_01, bft, up2_eq, up2_no, Bool.true_eq_false, Bool.false_eq_true, eq_self, m1_ne, m1_ne2, m1_lt, m1_le, lt_m1, m1_le2, bI_t, bI_f, LM_all hF, FMu hF, hWe, hb, hz, hy2, hs, hf, hd0])
              exact h2
            (apply WP_runI (lv := lvK) (F := LK) LK_ok 999 20; simp (disch := first | decide | omega) only [t82_0, lift_c, o_iload1, o_inl, o_icne, o_aload0, o_getref, o_putfield, o_ireturn, o_virt2, rpush_n, rpush_s, o_ifeq, o_iload3, o_stat1, o_ifne, o_iload2, o_stat2, o_virt4, z0, z1, z2, z12, z20, z31, runI_0, runI_c, runI_n, liftI_n, liftI_y, run_0, run_c, run_n, fxn, fxi, fxr, fxl, fxl0, ↓swi_n, ↓swi_c, nck0, nck1, nck2, nck3, List.length_cons, List.length_nil, Nat.reduceAdd, Nat.reduceSub, Nat.reduceLeDiff, Nat.reduceEqDiff, Nat.reduceLT, reduceIte, ite_true, ite_false, Nat.sub_zero, Nat.zero_le, true_and, and_true, and_self, true_or, or_true, if_true, if_false, true_implies, implies_true, not_true_eq_false, not_false_eq_true, false_implies, forall_const, ne_eq, or_self, and_false, false_and, Lt, Le, Eq', Cp, In, nI_add, nI_mul, nI_sub, nI_sub1, Neg0, bI_eq0, bI_eq1, bI_01, bft, up2_eq, up2_no, Bool.true_eq_false, Bool.false_eq_true, eq_self, m1_ne, m1_ne2, m1_lt, m1_le, lt_m1, m1_le2, bI_t, bI_f, LK_st, FGu hG, LK_g hG h22 hs2, hd0])
            exact full
          · have hD : IW n sh (up2 (up2 (up2 (up2 (up2 (up2 (up2 (up2 I 41 s (nI i)) 42 s y) 43 s z) 40 3 (nI (s + 1))) 124 (85 + 3 * s) (nI i)) 124 (85 + 3 * s + 1) y) 124 (85 + 3 * s + 2) z) 124 84 (nI (s + 1))) L P F E k g r := by
              refine hI.tseen (s := s + 1) (fun a j q => by simp (disch := omega) only [up2_no]) (by omega) (by simp (disch := omega) only [up2_no, up2_eq]) (up2_eq _ _ _ _) fun j hj => ?_
              by_cases ej : j = s
              · subst ej
                rw [show 86 + 3 * j = 85 + 3 * j + 1 by omega, show 87 + 3 * j = 85 + 3 * j + 2 by omega]
                simp (disch := omega) only [up2_no, up2_eq]
                exact ⟨⟨trivial, trivial, trivial⟩, ⟨i, hi, rfl⟩, ⟨t, ht, ey⟩, ⟨c, hc, ez⟩⟩
              · simp (disch := omega) only [up2_no, up2_eq]
                exact ⟨hrd j (by omega), hrow j (by omega)⟩
            have hns : ¬ s = 5 := by omega
            have good := hQ (nI (s + 1)) n sh (up2 (up2 (up2 (up2 I 41 s (nI i)) 42 s y) 43 s z) 40 3 (nI (s + 1))) L P fun Q2 h2 => by
              refine ⟨(FMu hI.1).1, ?_⟩
              have h2 := h2 _ _ _ _ _ ⟨F, E, k, g, r, hD⟩
              apply e175
              (apply WP_runI (lv := lvM) LM_ok 999 120; simp (disch := first | decide | omega) only [t175_0, t175_1, lift_c, o_iload1, o_inl, o_icne, o_aload0, o_getref, o_iastore, o_ireturn, o_virt2, rpush_n, rpush_s, o_ifeq, o_iload3, o_stat1, o_ifne, o_iload2, o_stat3, o_iaload, o_imul, o_iadd, o_istore, s1_0, s1_s, o_iload4, o_dup2, z0, z1, z2, z3, z4, z5, z12, z20, z31, z84, z85, runI_0, runI_c, runI_n, liftI_n, liftI_y, run_0, run_c, run_n, fxn, fxi, fxr, fxl, fxl0, ↓swi_n, ↓swi_c, nck0, nck1, nck2, nck3, List.length_cons, List.length_nil, Nat.reduceAdd, Nat.reduceSub, Nat.reduceLeDiff, Nat.reduceEqDiff, Nat.reduceLT, reduceIte, ite_true, ite_false, Nat.sub_zero, Nat.zero_le, true_and, and_true, and_self, true_or, or_true, if_true, if_false, true_implies, implies_true, not_true_eq_false, not_false_eq_true, false_implies, forall_const, ne_eq, or_self, and_false, false_and, Lt, Le, Eq', Cp, In, nI_add, nI_mul, nI_sub, nI_sub1, Neg0, bI_eq0, bI_eq1, bI_01, bft, up2_eq, up2_no, Bool.true_eq_false, Bool.false_eq_true, eq_self, m1_ne, m1_ne2, m1_lt, m1_le, lt_m1, m1_le2, bI_t, bI_f, LM_all hF, FMu hF, hWe, hb, hz, hy2, hs, hns, h20, up2_row, hd0])
              exact h2
            clear hD
            (apply WP_runI (lv := lvK) (F := LK) LK_ok 999 20; simp (disch := first | decide | omega) only [t82_0, lift_c, o_iload1, o_inl, o_icne, o_aload0, o_getref, o_putfield, o_ireturn, o_virt2, rpush_n, rpush_s, o_ifeq, o_iload3, o_stat1, o_ifne, o_iload2, o_stat2, o_virt4, z0, z1, z2, z12, z20, z31, runI_0, runI_c, runI_n, liftI_n, liftI_y, run_0, run_c, run_n, fxn, fxi, fxr, fxl, fxl0, ↓swi_n, ↓swi_c, nck0, nck1, nck2, nck3, List.length_cons, List.length_nil, Nat.reduceAdd, Nat.reduceSub, Nat.reduceLeDiff, Nat.reduceEqDiff, Nat.reduceLT, reduceIte, ite_true, ite_false, Nat.sub_zero, Nat.zero_le, true_and, and_true, and_self, true_or, or_true, if_true, if_false, true_implies, implies_true, not_true_eq_false, not_false_eq_true, false_implies, forall_const, ne_eq, or_self, and_false, false_and, Lt, Le, Eq', Cp, In, nI_add, nI_mul, nI_sub, nI_sub1, Neg0, bI_eq0, bI_eq1, bI_01, bft, up2_eq, up2_no, Bool.true_eq_false, Bool.false_eq_true, eq_self, m1_ne, m1_ne2, m1_lt, m1_le, lt_m1, m1_le2, bI_t, bI_f, LK_st, FGu hG, LK_g hG h22 hs2, hd0])
            exact good
end
