/-! ### the reference: the fortress that holds, read for a goose and a court -/
def rtx (R : TN) (u : Nat) : TN := fun j => R (100 * u + j)
def rsz (S : TN) (u : Nat) : Nat := (S u).toNatClampNeg
def FF (R S : TN) : TF := fun u nm => if u = 0 then nm 4 else nm 4 + (evA nm (reaS (rtx R (u - 1)) (rsz S (u - 1))).2.1 ([], nI 0)).2
def EE (R S : TN) : Nat → Int32 := fun u => if u = 0 then nI 1 else (reaS (rtx R (u - 1)) (rsz S (u - 1))).2.2
/-- the rules told so far are in order -/
def RV (I : TI) (r : Nat) : Prop := ∀ u, u < r → ∃ z, z ≤ 100 ∧ I 129 u = nI z ∧ okS (rtx (I 128) u) z = true
def scR (a j : Nat) : Prop := a = 130 ∨ a = 131 ∨ (a = 123 ∧ 10 ≤ j ∧ j ≤ 15)
theorem scC_R {a j : Nat} (h : scC a j) : scR a j := Or.inr (Or.inr ⟨h.1, by have := h.2.1; omega, h.2.2⟩)
theorem WF.rule {N : TN} {k g r : Nat} (h : WF N k g r) : rl N ≤ r ∧ N 83 = nI (rl N) := by
  obtain ⟨u, h1, h2⟩ := h.n83
  have := h.r6
  have e : rl N = u := by show (N 83).toNatClampNeg = u; rw [h2, Cp _ (by omega)]
  rw [e]
  exact ⟨h1, h2⟩
section
variable {G : GE} {d n : Nat} {sh : TS} {L : TL} {P : TP} {Q : TQ}
theorem readFor_L (hF : FM sh P) {u z i c : Nat} (hu : u < 6) (hz : z ≤ 100) (hd : 1 ≤ d) : ∀ (m j : Nat) (I : TI) (cc ss : Nat), j + m = z → I 123 10 = nI z → (∀ x, x < j → I 130 x = I 128 (100 * u + x)) →
    (∀ I' cc ss, (∀ a x, ¬ a = 130 → I' a x = I a x) → (∀ x, x < z → I' 130 x = I 128 (100 * u + x)) → WP G 151 d Q 149 [some (.ref 123), some (.int (nI i)), some (.int (nI c)), some (.int (nI u)), some (.int (nI z))] [] cc ss n sh I' L P) →
    WP G 151 d Q 115 [some (.ref 123), some (.int (nI i)), some (.int (nI c)), some (.int (nI u)), some (.int (nI j))] [] cc ss n sh I L P
  | 0, j, I, cc, ss, hj, hs, hx, hQ => by
    have hj : j = z := by omega
    subst hj
    (apply WP_run 149 80; simp (disch := first | decide | omega) only [t151_0, t151_1, t151_2, lift_c, o_aload0, o_getref, o_inl, o_iload1, o_iastore, o_virt3, rpush_n, rpush_s, o_iload2, o_iaload, o_irem, o_ifne, o_putfield, o_return, o_isub, o_istore, s1_0, s1_s, o_iload3, o_iload4, o_getfield, o_icge, o_imul, o_iadd, o_iinc4, o_goto, o_virt1, o_popi, o_popr, z0, z1, z2, z3, z4, z5, z10, z20, z31, z82, z83, z100, run_0, run_c, run_n, fxn, fxi, fxr, fxl, fxl0, ↓swi_n, ↓swi_c, nck0, nck1, nck2, nck3, List.length_cons, List.length_nil, Nat.reduceAdd, Nat.reduceSub, Nat.reduceLeDiff, Nat.reduceEqDiff, Nat.reduceLT, reduceIte, ite_true, ite_false, Nat.sub_zero, Nat.zero_le, true_and, and_true, and_self, true_or, or_true, if_true, if_false, true_implies, implies_true, not_true_eq_false, not_false_eq_true, false_implies, forall_const, ne_eq, or_self, and_false, false_and, Lt, Le, Eq', Cp, In, nI_add, nI_mul, nI_sub, nI_sub1, Neg0, bI_eq0, bI_eq1, bI_01, bft, up2_eq, up2_no, Bool.true_eq_false, Bool.false_eq_true, eq_self, m1_ne, m1_ne2, m1_lt, m1_le, lt_m1, m1_le2, bI_t, bI_f, FMu hF, hs, Nat.le_refl])
    exact hQ I _ _ (fun _ _ _ => rfl) hx
  | m + 1, j, I, cc, ss, hj, hs, hx, hQ => by
    have hF' := hF
    have hj2 : ¬ z ≤ j := by omega
    have ih := readFor_L hF' hu hz hd m (j + 1) (up2 I 130 j (I 128 (100 * u + j))) cc ss (by omega) (by rw [up2_no _ _ _ _ _ _ (by omega)]; exact hs)
      (fun x h => by
        rw [up2_no I 130 j 128 _ _ (by omega)]
        by_cases e : x = j
        · rw [e, up2_eq]
        · rw [up2_no _ _ _ _ _ _ (by omega)]
          exact hx x (by omega))
      (fun I' cc ss h1 h2 => hQ I' cc ss (fun a x ha => (h1 a x ha).trans (up2_no _ _ _ _ _ _ (by omega))) (fun x h => (h2 x h).trans (up2_no _ _ _ _ _ _ (by omega))))
    (apply WP_run 115 80; simp (disch := first | decide | omega) only [t151_0, t151_1, t151_2, lift_c, o_aload0, o_getref, o_inl, o_iload1, o_iastore, o_virt3, rpush_n, rpush_s, o_iload2, o_iaload, o_irem, o_ifne, o_putfield, o_return, o_isub, o_istore, s1_0, s1_s, o_iload3, o_iload4, o_getfield, o_icge, o_imul, o_iadd, o_iinc4, o_goto, o_virt1, o_popi, o_popr, z0, z1, z2, z3, z4, z5, z10, z20, z31, z82, z83, z100, run_0, run_c, run_n, fxn, fxi, fxr, fxl, fxl0, ↓swi_n, ↓swi_c, nck0, nck1, nck2, nck3, List.length_cons, List.length_nil, Nat.reduceAdd, Nat.reduceSub, Nat.reduceLeDiff, Nat.reduceEqDiff, Nat.reduceLT, reduceIte, ite_true, ite_false, Nat.sub_zero, Nat.zero_le, true_and, and_true, and_self, true_or, or_true, if_true, if_false, true_implies, implies_true, not_true_eq_false, not_false_eq_true, false_implies, forall_const, ne_eq, or_self, and_false, false_and, Lt, Le, Eq', Cp, In, nI_add, nI_mul, nI_sub, nI_sub1, Neg0, bI_eq0, bI_eq1, bI_01, bft, up2_eq, up2_no, Bool.true_eq_false, Bool.false_eq_true, eq_self, m1_ne, m1_ne2, m1_lt, m1_le, lt_m1, m1_le2, bI_t, bI_f, FMu hF, hs, hj2])
    exact ⟨by show 20 ≤ 130; decide, ih⟩
theorem names_eq {I : TI} {i c : Nat} : ∀ j, j < 6 → up2 (up2 (up2 (up2 (up2 (up2 I 131 0 (nI i)) 131 1 (gs (I 124) i 0)) 131 2 (gs (I 124) i 1)) 131 3 (nI c)) 131 4 (I 124 c)) 131 5 (I 124 82 - I 124 82 / nI 10 * nI 10) 131 j = nmS (I 124) i c j := fun j hj => by
  have : j = 0 ∨ j = 1 ∨ j = 2 ∨ j = 3 ∨ j = 4 ∨ j = 5 := by omega
  rcases this with rfl | rfl | rfl | rfl | rfl | rfl <;> simp (disch := omega) only [up2_eq, up2_no] <;> rfl
theorem readFor_T (hF : FM sh P) {I J : TI} {k g r i c : Nat} (hW : WF (I 124) k g r) (hT : TB I) (hR : RV I r) (hc : c < 8) (hd : 33 ≤ d) (hJ : ∀ a j, ¬ a = 131 → J a j = I a j) (hn : ∀ j, j < 6 → J 131 j = nmS (I 124) i c j)
    (hQ : ∀ I', Eo scR I I' → I' 123 14 = FF (I 128) (I 129) (rl (I 124)) (nmS (I 124) i c) → I' 123 15 = EE (I 128) (I 129) (rl (I 124)) → Q none n sh I' L P) {cc ss : Nat} :
    WP G 151 d Q 66 [some (.ref 123), some (.int (nI i)), some (.int (nI c)), none, none] [] cc ss n sh J L P := by
  have hF' := hF
  have hd0 : 0 < d := by omega
  have h6 := hW.r6
  obtain ⟨hr, h83⟩ := hW.rule
  have hE : Eo scR I J := fun a j q => hJ a j fun e => q (Or.inr (Or.inl e))
  have e83 : J 124 83 = nI (rl (I 124)) := (hJ 124 83 (by decide)).trans h83
  have ec : J 124 c = I 124 c := hJ 124 c (by decide)
  rcases Nat.eq_zero_or_pos (rl (I 124)) with h0 | h0
  · rw [h0] at e83
    rw [h0] at hQ
    (apply WP_run 999 80; simp (disch := first | decide | omega) only [t151_0, t151_1, t151_2, lift_c, o_aload0, o_getref, o_inl, o_iload1, o_iastore, o_virt3, rpush_n, rpush_s, o_iload2, o_iaload, o_irem, o_ifne, o_putfield, o_return, o_isub, o_istore, s1_0, s1_s, o_iload3, o_iload4, o_getfield, o_icge, o_imul, o_iadd, o_iinc4, o_goto, o_virt1, o_popi, o_popr, z0, z1, z2, z3, z4, z5, z10, z20, z31, z82, z83, z100, run_0, run_c, run_n, fxn, fxi, fxr, fxl, fxl0, ↓swi_n, ↓swi_c, nck0, nck1, nck2, nck3, List.length_cons, List.length_nil, Nat.reduceAdd, Nat.reduceSub, Nat.reduceLeDiff, Nat.reduceEqDiff, Nat.reduceLT, reduceIte, ite_true, ite_false, Nat.sub_zero, Nat.zero_le, true_and, and_true, and_self, true_or, or_true, if_true, if_false, true_implies, implies_true, not_true_eq_false, not_false_eq_true, false_implies, forall_const, ne_eq, or_self, and_false, false_and, Lt, Le, Eq', Cp, In, nI_add, nI_mul, nI_sub, nI_sub1, Neg0, bI_eq0, bI_eq1, bI_01, bft, up2_eq, up2_no, Bool.true_eq_false, Bool.false_eq_true, eq_self, m1_ne, m1_ne2, m1_lt, m1_le, lt_m1, m1_le2, bI_t, bI_f, FMu hF, hd0, e83, ec])
    refine hQ _ (Eo.up (Eo.up hE (Or.inr (Or.inr ⟨rfl, by omega, by omega⟩)) _) (Or.inr (Or.inr ⟨rfl, by omega, by omega⟩)) _) ?_ ?_
    · simp (disch := omega) only [up2_eq, up2_no]
      rfl
    · rw [up2_eq]
      rfl
  · obtain ⟨u, hu⟩ : ∃ u, rl (I 124) = u + 1 := ⟨rl (I 124) - 1, by omega⟩
    rw [hu] at e83
    rw [hu] at hQ
    obtain ⟨z, hz, hs, hok⟩ := hR u (by omega)
    have hs' : J 129 u = nI z := (hJ 129 u (by decide)).trans hs
    have hu0 : ¬ u + 1 = 0 := by omega
    have hu1 : u + 1 - 1 = u := by omega
    have hz2 : rsz (I 129) u = z := by show (I 129 u).toNatClampNeg = z; rw [hs, Cp _ (by omega)]
    (apply WP_run 115 80; simp (disch := first | decide | omega) only [t151_0, t151_1, t151_2, lift_c, o_aload0, o_getref, o_inl, o_iload1, o_iastore, o_virt3, rpush_n, rpush_s, o_iload2, o_iaload, o_irem, o_ifne, o_putfield, o_return, o_isub, o_istore, s1_0, s1_s, o_iload3, o_iload4, o_getfield, o_icge, o_imul, o_iadd, o_iinc4, o_goto, o_virt1, o_popi, o_popr, z0, z1, z2, z3, z4, z5, z10, z20, z31, z82, z83, z100, run_0, run_c, run_n, fxn, fxi, fxr, fxl, fxl0, ↓swi_n, ↓swi_c, nck0, nck1, nck2, nck3, List.length_cons, List.length_nil, Nat.reduceAdd, Nat.reduceSub, Nat.reduceLeDiff, Nat.reduceEqDiff, Nat.reduceLT, reduceIte, ite_true, ite_false, Nat.sub_zero, Nat.zero_le, true_and, and_true, and_self, true_or, or_true, if_true, if_false, true_implies, implies_true, not_true_eq_false, not_false_eq_true, false_implies, forall_const, ne_eq, or_self, and_false, false_and, Lt, Le, Eq', Cp, In, nI_add, nI_mul, nI_sub, nI_sub1, Neg0, bI_eq0, bI_eq1, bI_01, bft, up2_eq, up2_no, Bool.true_eq_false, Bool.false_eq_true, eq_self, m1_ne, m1_ne2, m1_lt, m1_le, lt_m1, m1_le2, bI_t, bI_f, FMu hF, hd0, e83, hu0, hu1, hs'])
    refine readFor_L hF' (u := u) (z := z) (by omega) hz (by omega) z 0 _ _ _ (by omega) (up2_eq _ _ _ _) (fun x h => by omega) fun I1 c1 s1 h1 h2 => ?_
    have hE1 : Eo scR I I1 := (Eo.up hE (Or.inr (Or.inr ⟨rfl, by omega, by omega⟩)) _).tr fun a j q => h1 a j fun e => q (Or.inl e)
    have hx : ∀ x, x < z → I1 130 x = rtx (I 128) u x := fun x hx => by
      rw [h2 x hx, up2_no _ _ _ _ _ _ (by omega)]
      exact hJ 128 _ (by decide)
    have h10 : I1 123 10 = nI z := (h1 123 10 (by decide)).trans (up2_eq _ _ _ _)
    have hn1 : ∀ j, j < 6 → I1 131 j = nmS (I 124) i c j := fun j hj => by
      rw [h1 131 j (by decide), up2_no _ _ _ _ _ _ (by omega)]
      exact hn j hj
    (apply WP_run 999 80; simp (disch := first | decide | omega) only [t151_0, t151_1, t151_2, lift_c, o_aload0, o_getref, o_inl, o_iload1, o_iastore, o_virt3, rpush_n, rpush_s, o_iload2, o_iaload, o_irem, o_ifne, o_putfield, o_return, o_isub, o_istore, s1_0, s1_s, o_iload3, o_iload4, o_getfield, o_icge, o_imul, o_iadd, o_iinc4, o_goto, o_virt1, o_popi, o_popr, z0, z1, z2, z3, z4, z5, z10, z20, z31, z82, z83, z100, run_0, run_c, run_n, fxn, fxi, fxr, fxl, fxl0, ↓swi_n, ↓swi_c, nck0, nck1, nck2, nck3, List.length_cons, List.length_nil, Nat.reduceAdd, Nat.reduceSub, Nat.reduceLeDiff, Nat.reduceEqDiff, Nat.reduceLT, reduceIte, ite_true, ite_false, Nat.sub_zero, Nat.zero_le, true_and, and_true, and_self, true_or, or_true, if_true, if_false, true_implies, implies_true, not_true_eq_false, not_false_eq_true, false_implies, forall_const, ne_eq, or_self, and_false, false_and, Lt, Le, Eq', Cp, In, nI_add, nI_mul, nI_sub, nI_sub1, Neg0, bI_eq0, bI_eq1, bI_01, bft, up2_eq, up2_no, Bool.true_eq_false, Bool.false_eq_true, eq_self, m1_ne, m1_ne2, m1_lt, m1_le, lt_m1, m1_le2, bI_t, bI_f, FMu hF, hd0])
    refine readAll_M hF' (by omega) hz hx h10 (hT.eo hE1 (fun a j q => by rcases q with q | q | q <;> omega)) hn1 fun I2 he2 hS2 => ?_
    (apply WP_run 999 80; simp (disch := first | decide | omega) only [t151_0, t151_1, t151_2, lift_c, o_aload0, o_getref, o_inl, o_iload1, o_iastore, o_virt3, rpush_n, rpush_s, o_iload2, o_iaload, o_irem, o_ifne, o_putfield, o_return, o_isub, o_istore, s1_0, s1_s, o_iload3, o_iload4, o_getfield, o_icge, o_imul, o_iadd, o_iinc4, o_goto, o_virt1, o_popi, o_popr, z0, z1, z2, z3, z4, z5, z10, z20, z31, z82, z83, z100, run_0, run_c, run_n, fxn, fxi, fxr, fxl, fxl0, ↓swi_n, ↓swi_c, nck0, nck1, nck2, nck3, List.length_cons, List.length_nil, Nat.reduceAdd, Nat.reduceSub, Nat.reduceLeDiff, Nat.reduceEqDiff, Nat.reduceLT, reduceIte, ite_true, ite_false, Nat.sub_zero, Nat.zero_le, true_and, and_true, and_self, true_or, or_true, if_true, if_false, true_implies, implies_true, not_true_eq_false, not_false_eq_true, false_implies, forall_const, ne_eq, or_self, and_false, false_and, Lt, Le, Eq', Cp, In, nI_add, nI_mul, nI_sub, nI_sub1, Neg0, bI_eq0, bI_eq1, bI_01, bft, up2_eq, up2_no, Bool.true_eq_false, Bool.false_eq_true, eq_self, m1_ne, m1_ne2, m1_lt, m1_le, lt_m1, m1_le2, bI_t, bI_f, FMu hF, hd0])
    obtain ⟨h3, x, h4, h5⟩ := hS2.2 (by
      unfold okS at hok
      simp only [Bool.and_eq_true] at hok
      exact hok.1)
    refine hQ I2 (hE1.tr (he2.mono fun _ _ => scC_R)) ?_ ?_
    · rw [h5]
      show _ = if u + 1 = 0 then _ else _
      rw [if_neg hu0, hu1, hz2, h4]
    · rw [h3]
      show _ = if u + 1 = 0 then _ else _
      rw [if_neg hu0, hu1, hz2]
theorem readFor_M (hF : FM sh P) {I : TI} {k g r i c : Nat} (hW : WF (I 124) k g r) (hT : TB I) (hR : RV I r) (hi : i < 6) (hc : c < 8) (hd : 33 ≤ d)
    (hQ : ∀ I', Eo scR I I' → I' 123 14 = FF (I 128) (I 129) (rl (I 124)) (nmS (I 124) i c) → I' 123 15 = EE (I 128) (I 129) (rl (I 124)) → Q none n sh I' L P) : Cl G d 151 [.ref 123, .int (nI i), .int (nI c)] n sh I L P Q := by
  apply e151
  have hF' := hF
  have hd0 : 0 < d := by omega
  have h20 : nle 20 131 := by show 20 ≤ 131; decide
  have h10 : ¬ (nI 10 = nI 0) := by decide
  have h6 := hW.r6
  obtain ⟨hr, h83⟩ := hW.rule
  (apply WP_run 999 80; simp (disch := first | decide | omega) only [t151_0, t151_1, t151_2, lift_c, o_aload0, o_getref, o_inl, o_iload1, o_iastore, o_virt3, rpush_n, rpush_s, o_iload2, o_iaload, o_irem, o_ifne, o_putfield, o_return, o_isub, o_istore, s1_0, s1_s, o_iload3, o_iload4, o_getfield, o_icge, o_imul, o_iadd, o_iinc4, o_goto, o_virt1, o_popi, o_popr, z0, z1, z2, z3, z4, z5, z10, z20, z31, z82, z83, z100, run_0, run_c, run_n, fxn, fxi, fxr, fxl, fxl0, ↓swi_n, ↓swi_c, nck0, nck1, nck2, nck3, List.length_cons, List.length_nil, Nat.reduceAdd, Nat.reduceSub, Nat.reduceLeDiff, Nat.reduceEqDiff, Nat.reduceLT, reduceIte, ite_true, ite_false, Nat.sub_zero, Nat.zero_le, true_and, and_true, and_self, true_or, or_true, if_true, if_false, true_implies, implies_true, not_true_eq_false, not_false_eq_true, false_implies, forall_const, ne_eq, or_self, and_false, false_and, Lt, Le, Eq', Cp, In, nI_add, nI_mul, nI_sub, nI_sub1, Neg0, bI_eq0, bI_eq1, bI_01, bft, up2_eq, up2_no, Bool.true_eq_false, Bool.false_eq_true, eq_self, m1_ne, m1_ne2, m1_lt, m1_le, lt_m1, m1_le2, bI_t, bI_f, FMu hF, hd0, h20])
  refine goose_M hF' (w := 0) hi (by decide) ?_
  rw [show gs (up2 I 131 0 (nI i) 124) i 0 = gs (I 124) i 0 by rw [up2_row _ _ _ _ _ (by decide)]]
  (apply WP_run 999 80; simp (disch := first | decide | omega) only [t151_0, t151_1, t151_2, lift_c, o_aload0, o_getref, o_inl, o_iload1, o_iastore, o_virt3, rpush_n, rpush_s, o_iload2, o_iaload, o_irem, o_ifne, o_putfield, o_return, o_isub, o_istore, s1_0, s1_s, o_iload3, o_iload4, o_getfield, o_icge, o_imul, o_iadd, o_iinc4, o_goto, o_virt1, o_popi, o_popr, z0, z1, z2, z3, z4, z5, z10, z20, z31, z82, z83, z100, run_0, run_c, run_n, fxn, fxi, fxr, fxl, fxl0, ↓swi_n, ↓swi_c, nck0, nck1, nck2, nck3, List.length_cons, List.length_nil, Nat.reduceAdd, Nat.reduceSub, Nat.reduceLeDiff, Nat.reduceEqDiff, Nat.reduceLT, reduceIte, ite_true, ite_false, Nat.sub_zero, Nat.zero_le, true_and, and_true, and_self, true_or, or_true, if_true, if_false, true_implies, implies_true, not_true_eq_false, not_false_eq_true, false_implies, forall_const, ne_eq, or_self, and_false, false_and, Lt, Le, Eq', Cp, In, nI_add, nI_mul, nI_sub, nI_sub1, Neg0, bI_eq0, bI_eq1, bI_01, bft, up2_eq, up2_no, Bool.true_eq_false, Bool.false_eq_true, eq_self, m1_ne, m1_ne2, m1_lt, m1_le, lt_m1, m1_le2, bI_t, bI_f, FMu hF, hd0, h20])
  refine goose_M hF' (w := 1) hi (by decide) ?_
  rw [show gs (up2 (up2 I 131 0 (nI i)) 131 1 (gs (I 124) i 0) 124) i 1 = gs (I 124) i 1 by rw [up2_row _ _ _ _ _ (by decide), up2_row _ _ _ _ _ (by decide)]]
  have hnm := names_eq (I := I) (i := i) (c := c)
  (apply WP_run 66 80; simp (disch := first | decide | omega) only [t151_0, t151_1, t151_2, lift_c, o_aload0, o_getref, o_inl, o_iload1, o_iastore, o_virt3, rpush_n, rpush_s, o_iload2, o_iaload, o_irem, o_ifne, o_putfield, o_return, o_isub, o_istore, s1_0, s1_s, o_iload3, o_iload4, o_getfield, o_icge, o_imul, o_iadd, o_iinc4, o_goto, o_virt1, o_popi, o_popr, z0, z1, z2, z3, z4, z5, z10, z20, z31, z82, z83, z100, run_0, run_c, run_n, fxn, fxi, fxr, fxl, fxl0, ↓swi_n, ↓swi_c, nck0, nck1, nck2, nck3, List.length_cons, List.length_nil, Nat.reduceAdd, Nat.reduceSub, Nat.reduceLeDiff, Nat.reduceEqDiff, Nat.reduceLT, reduceIte, ite_true, ite_false, Nat.sub_zero, Nat.zero_le, true_and, and_true, and_self, true_or, or_true, if_true, if_false, true_implies, implies_true, not_true_eq_false, not_false_eq_true, false_implies, forall_const, ne_eq, or_self, and_false, false_and, Lt, Le, Eq', Cp, In, nI_add, nI_mul, nI_sub, nI_sub1, Neg0, bI_eq0, bI_eq1, bI_01, bft, up2_eq, up2_no, Bool.true_eq_false, Bool.false_eq_true, eq_self, m1_ne, m1_ne2, m1_lt, m1_le, lt_m1, m1_le2, bI_t, bI_f, FMu hF, hd0, h20, h10])
  refine readFor_T hF' hW hT hR hc hd (fun a j e => ?_) hnm hQ
  simp (disch := omega) only [up2_no]
end
