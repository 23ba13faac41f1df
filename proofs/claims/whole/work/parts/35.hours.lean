/-! ### the reference: an hour -/
def scH (a j : Nat) : Prop := scR a j ∨ a = 124
theorem scR_H {a j : Nat} (h : scR a j) : scH a j := Or.inl h
theorem scH_128 (j : Nat) : ¬ scH 128 j := fun q => by rcases q with q | q; exact scR_128 j q; omega
theorem scH_129 (j : Nat) : ¬ scH 129 j := fun q => by rcases q with q | q; exact scR_129 j q; omega
theorem scH_g {a j : Nat} (h : scH a j) : ¬ (128 ≤ a ∧ a ≤ 129 ∨ 132 ≤ a ∧ a ≤ 134) := by
  rcases h with h | h
  · exact scR_g h
  · omega
theorem hourL_s (F : TF) (e : Int32) (N : TN) (i : Nat) : hourL F e N (i + 1) = if tkn (hourL F e N i) i = true then hourL F e N i else
      upN (upN (hourL F e N i) (26 + 9 * i + 2) (nI (goS F (hourL F e N i) i))) (goS F (hourL F e N i) i) (mx0 (hourL F e N i (goS F (hourL F e N i) i) - e)) := by rw [hourL]
theorem hourL_y {F : TF} {e : Int32} {N M : TN} {i : Nat} (hM : hourL F e N i = M) (h : tkn M i = true) : hourL F e N (i + 1) = M := by
  rw [hourL_s, hM, if_pos h]
theorem hourL_n {F : TF} {e : Int32} {N M : TN} {i c : Nat} (hM : hourL F e N i = M) (h : tkn M i = false) (hc : neq (goS F M i) c) : hourL F e N (i + 1) = upN (upN M (26 + 9 * i + 2) (nI c)) c (mx0 (M c - e)) := by
  rw [hourL_s, hM, if_neg (by rw [h]; decide), show goS F M i = c from hc]
section
variable {G : GE} {d n : Nat} {sh : TS} {L : TL} {P : TP} {Q : TQ}
theorem eatNow_M (hF : FM sh P) {I : TI} {k g r : Nat} (hW : WF (I 124) k g r) (hG : RG I r) {E : Nat → Int32} (hEE : EE (I 128) (I 129) = E) (hd : 34 ≤ d)
    (hQ : ∀ I', Eo scR I I' → Q (some (.int (E (rl (I 124))))) n sh I' L P) : Cl G d 158 [.ref 123] n sh I L P Q := by
  apply e158
  have hd0 : 0 < d := by omega
  (apply WP_runI (lv := lvM) LM_ok 999 80; simp (disch := first | decide | omega) only [t158_0, lift_c, o_aload0, o_inl, o_virt3, rpush_n, rpush_s, o_getfield, o_ireturn, z0, z1, z2, z20, z31, runI_0, runI_c, runI_n, liftI_n, liftI_y, run_0, run_c, run_n, fxn, fxi, fxr, fxl, fxl0, ↓swi_n, ↓swi_c, nck0, nck1, nck2, nck3, List.length_cons, List.length_nil, Nat.reduceAdd, Nat.reduceSub, Nat.reduceLeDiff, Nat.reduceEqDiff, Nat.reduceLT, reduceIte, ite_true, ite_false, Nat.sub_zero, Nat.zero_le, true_and, and_true, and_self, true_or, or_true, if_true, if_false, true_implies, implies_true, not_true_eq_false, not_false_eq_true, false_implies, forall_const, ne_eq, or_self, and_false, false_and, Lt, Le, Eq', Cp, In, nI_add, nI_mul, nI_sub, nI_sub1, Neg0, bI_eq0, bI_eq1, bI_01, bft, up2_eq, up2_no, Bool.true_eq_false, Bool.false_eq_true, eq_self, m1_ne, m1_ne2, m1_lt, m1_le, lt_m1, m1_le2, bI_t, bI_f, LM_all hF, FMu hF, hd0])
  refine readFor_M hF (i := 0) (c := 0) hW hG.1 hG.2 (by omega) (by omega) (by omega) fun I1 he1 h14 h15 => ?_
  rw [hEE] at h15
  have hQ := hQ I1 he1
  rw [← h15] at hQ
  (apply WP_runI (lv := lvM) LM_ok 999 80; simp (disch := first | decide | omega) only [t158_0, lift_c, o_aload0, o_inl, o_virt3, rpush_n, rpush_s, o_getfield, o_ireturn, z0, z1, z2, z20, z31, runI_0, runI_c, runI_n, liftI_n, liftI_y, run_0, run_c, run_n, fxn, fxi, fxr, fxl, fxl0, ↓swi_n, ↓swi_c, nck0, nck1, nck2, nck3, List.length_cons, List.length_nil, Nat.reduceAdd, Nat.reduceSub, Nat.reduceLeDiff, Nat.reduceEqDiff, Nat.reduceLT, reduceIte, ite_true, ite_false, Nat.sub_zero, Nat.zero_le, true_and, and_true, and_self, true_or, or_true, if_true, if_false, true_implies, implies_true, not_true_eq_false, not_false_eq_true, false_implies, forall_const, ne_eq, or_self, and_false, false_and, Lt, Le, Eq', Cp, In, nI_add, nI_mul, nI_sub, nI_sub1, Neg0, bI_eq0, bI_eq1, bI_01, bft, up2_eq, up2_no, Bool.true_eq_false, Bool.false_eq_true, eq_self, m1_ne, m1_ne2, m1_lt, m1_le, lt_m1, m1_le2, bI_t, bI_f, LM_all hF, FMu hF, hd0])
  exact hQ
def hourP (G : GE) (d n : Nat) (sh : TS) (L : TL) (P : TP) (Q : TQ) (I0 : TI) (F : TF) (e : Int32) (N : TN) (i : Nat) : Prop := ∀ (I : TI) (o3 : Option Value) (cc ss : Nat), Eo scH I0 I → I 124 = hourL F e N i → (∀ k, fx k o3 = o3) →
    WP G 159 d Q 7 [some (.ref 123), some (.int e), some (.int (nI i)), o3] [] cc ss n sh I L P
theorem hour_Z (hF : FM sh P) {I0 : TI} {F : TF} {E : Nat → Int32} {e : Int32} {N : TN} {k g r : Nat} (hW : WF N k g r) (he : eOK e) (hee : e = E (rl N)) (hQ : ∀ I', Eo scH I0 I' → I' 124 = hourS F E N → Q none n sh I' L P) : hourP G d n sh L P Q I0 F e N k := by
  intro I o3 cc ss hE h124 h3
  have hk := hW.k6
  have hW2 := WF_hourL (F := F) he hW k (Nat.le_refl k)
  rw [← h124] at hW2
  have h80 := hW2.n80
  have hQ := hQ (up2 I 124 82 (I 124 82 + nI 1)) (hE.up (Or.inr rfl) _) (by
    rw [up2_upN, h124]
    unfold hourS
    rw [hW.cn, hee])
  have h20 : nle 20 124 := by show 20 ≤ 124; decide
  (apply WP_runI (lv := lvM) LM_ok 999 80; simp (disch := first | decide | omega) only [t159_0, t159_1, lift_c, o_aload0, o_virt1, rpush_n, rpush_s, o_istore, s1_0, s1_s, o_inl, o_iload2, o_getref, o_iaload, o_icge, o_virt2, o_ifne, o_iload3, o_virt4, o_popi, o_popr, o_iload1, o_isub, o_fadd, o_iastore, o_iinc2, o_goto, o_dup2, o_iadd, o_return, z0, z1, z2, z20, z31, z80, z82, runI_0, runI_c, runI_n, liftI_n, liftI_y, run_0, run_c, run_n, fxn, fxi, fxr, fxl, fxl0, ↓swi_n, ↓swi_c, nck0, nck1, nck2, nck3, List.length_cons, List.length_nil, Nat.reduceAdd, Nat.reduceSub, Nat.reduceLeDiff, Nat.reduceEqDiff, Nat.reduceLT, reduceIte, ite_true, ite_false, Nat.sub_zero, Nat.zero_le, true_and, and_true, and_self, true_or, or_true, if_true, if_false, true_implies, implies_true, not_true_eq_false, not_false_eq_true, false_implies, forall_const, ne_eq, or_self, and_false, false_and, Lt, Le, Eq', Cp, In, nI_add, nI_mul, nI_sub, nI_sub1, Neg0, bI_eq0, bI_eq1, bI_01, bft, up2_eq, up2_no, Bool.true_eq_false, Bool.false_eq_true, eq_self, m1_ne, m1_ne2, m1_lt, m1_le, lt_m1, m1_le2, bI_t, bI_f, LM_all hF, FMu hF, h80, h3, Nat.le_refl, h20])
  exact hQ
theorem hour_S (hF : FM sh P) {I0 : TI} {F : TF} {e : Int32} {N : TN} {k g r i : Nat} (hFF : FF (I0 128) (I0 129) = F) (hG : RG I0 r) (hW : WF N k g r) (he : eOK e) (hi : i < k) (hd : 36 ≤ d) (ih : hourP G d n sh L P Q I0 F e N (i + 1)) : hourP G d n sh L P Q I0 F e N i := by
  intro I o3 cc ss hE h124 h3
  have hk := hW.k6
  have hd0 : 0 < d := by omega
  have hW2 := WF_hourL (F := F) he hW i (by omega)
  have h20 : nle 20 124 := by show 20 ≤ 124; decide
  have hGI := hG.eo hE fun _ _ => scH_g
  have e128 := row_eo hE 128 scH_128
  have e129 := row_eo hE 129 scH_129
  generalize hM : hourL F e N i = M at h124 hW2
  have hWI : WF (I 124) k g r := by rw [h124]; exact hW2
  have h80 := hW2.n80
  have hki : ¬ k ≤ i := by omega
  cases ht : tkn M i with
  | true =>
    have ih := fun o3 h => ih I o3 cc ss hE (h124.trans (hourL_y hM ht).symm) h
    (apply WP_runI (lv := lvM) LM_ok 7 80; simp (disch := first | decide | omega) only [t159_0, t159_1, lift_c, o_aload0, o_virt1, rpush_n, rpush_s, o_istore, s1_0, s1_s, o_inl, o_iload2, o_getref, o_iaload, o_icge, o_virt2, o_ifne, o_iload3, o_virt4, o_popi, o_popr, o_iload1, o_isub, o_fadd, o_iastore, o_iinc2, o_goto, o_dup2, o_iadd, o_return, z0, z1, z2, z20, z31, z80, z82, runI_0, runI_c, runI_n, liftI_n, liftI_y, run_0, run_c, run_n, fxn, fxi, fxr, fxl, fxl0, ↓swi_n, ↓swi_c, nck0, nck1, nck2, nck3, List.length_cons, List.length_nil, Nat.reduceAdd, Nat.reduceSub, Nat.reduceLeDiff, Nat.reduceEqDiff, Nat.reduceLT, reduceIte, ite_true, ite_false, Nat.sub_zero, Nat.zero_le, true_and, and_true, and_self, true_or, or_true, if_true, if_false, true_implies, implies_true, not_true_eq_false, not_false_eq_true, false_implies, forall_const, ne_eq, or_self, and_false, false_and, Lt, Le, Eq', Cp, In, nI_add, nI_mul, nI_sub, nI_sub1, Neg0, bI_eq0, bI_eq1, bI_01, bft, up2_eq, up2_no, Bool.true_eq_false, Bool.false_eq_true, eq_self, m1_ne, m1_ne2, m1_lt, m1_le, lt_m1, m1_le2, bI_t, bI_f, LM_all hF, FMu hF, h80, h124, h3, hki, ht, hd0])
    exact ih _ h3
  | false =>
    (apply WP_runI (lv := lvM) LM_ok 7 80; simp (disch := first | decide | omega) only [t159_0, t159_1, lift_c, o_aload0, o_virt1, rpush_n, rpush_s, o_istore, s1_0, s1_s, o_inl, o_iload2, o_getref, o_iaload, o_icge, o_virt2, o_ifne, o_iload3, o_virt4, o_popi, o_popr, o_iload1, o_isub, o_fadd, o_iastore, o_iinc2, o_goto, o_dup2, o_iadd, o_return, z0, z1, z2, z20, z31, z80, z82, runI_0, runI_c, runI_n, liftI_n, liftI_y, run_0, run_c, run_n, fxn, fxi, fxr, fxl, fxl0, ↓swi_n, ↓swi_c, nck0, nck1, nck2, nck3, List.length_cons, List.length_nil, Nat.reduceAdd, Nat.reduceSub, Nat.reduceLeDiff, Nat.reduceEqDiff, Nat.reduceLT, reduceIte, ite_true, ite_false, Nat.sub_zero, Nat.zero_le, true_and, and_true, and_self, true_or, or_true, if_true, if_false, true_implies, implies_true, not_true_eq_false, not_false_eq_true, false_implies, forall_const, ne_eq, or_self, and_false, false_and, Lt, Le, Eq', Cp, In, nI_add, nI_mul, nI_sub, nI_sub1, Neg0, bI_eq0, bI_eq1, bI_01, bft, up2_eq, up2_no, Bool.true_eq_false, Bool.false_eq_true, eq_self, m1_ne, m1_ne2, m1_lt, m1_le, lt_m1, m1_le2, bI_t, bI_f, LM_all hF, FMu hF, h80, h124, h3, hki, ht, hd0])
    refine goesTo_M hF hWI hGI hi (by omega) fun I1 he1 => ?_
    rw [e128, e129, hFF, h124]
    have hg := goS_lt (F := F) hW2 hi
    have h1 : I1 124 = M := (row_eo he1 124 scR_124).trans h124
    have hn := fun c hc => hourL_n (c := c) hM ht hc
    clear hM
    generalize hc : goS F M i = c at hg ⊢
    have hn := hn c hc
    clear hc
    have hcn : ¬ c = 26 + 9 * i + 2 := by omega
    have h138 : 26 + 9 * i + 2 < 138 := by omega
    have ih := fun cc ss => ih (up2 (up2 I1 124 (26 + 9 * i + 2) (nI c)) 124 c (mx0 (M c - e))) (some (.int (nI c))) cc ss (((hE.tr (he1.mono fun _ _ => scR_H)).up (Or.inr rfl) _).up (Or.inr rfl) _) (by rw [hn, up2_upN, up2_upN, h1]) (fun k => fxi k _)
    unfold mx0 at ih
    (apply WP_runI (lv := lvM) LM_ok 7 80; simp (disch := first | decide | omega) only [t159_0, t159_1, lift_c, o_aload0, o_virt1, rpush_n, rpush_s, o_istore, s1_0, s1_s, o_inl, o_iload2, o_getref, o_iaload, o_icge, o_virt2, o_ifne, o_iload3, o_virt4, o_popi, o_popr, o_iload1, o_isub, o_fadd, o_iastore, o_iinc2, o_goto, o_dup2, o_iadd, o_return, z0, z1, z2, z20, z31, z80, z82, runI_0, runI_c, runI_n, liftI_n, liftI_y, run_0, run_c, run_n, fxn, fxi, fxr, fxl, fxl0, ↓swi_n, ↓swi_c, nck0, nck1, nck2, nck3, List.length_cons, List.length_nil, Nat.reduceAdd, Nat.reduceSub, Nat.reduceLeDiff, Nat.reduceEqDiff, Nat.reduceLT, reduceIte, ite_true, ite_false, Nat.sub_zero, Nat.zero_le, true_and, and_true, and_self, true_or, or_true, if_true, if_false, true_implies, implies_true, not_true_eq_false, not_false_eq_true, false_implies, forall_const, ne_eq, or_self, and_false, false_and, Lt, Le, Eq', Cp, In, nI_add, nI_mul, nI_sub, nI_sub1, Neg0, bI_eq0, bI_eq1, bI_01, bft, up2_eq, up2_no, Bool.true_eq_false, Bool.false_eq_true, eq_self, m1_ne, m1_ne2, m1_lt, m1_le, lt_m1, m1_le2, bI_t, bI_f, LM_all hF, FMu hF, h1, h3, hd0, h20])
    exact ih _ _
theorem hour_L (hF : FM sh P) {I0 : TI} {F : TF} {E : Nat → Int32} {e : Int32} {N : TN} {k g r : Nat} (hFF : FF (I0 128) (I0 129) = F) (hG : RG I0 r) (hW : WF N k g r) (he : eOK e) (hee : e = E (rl N)) (hd : 36 ≤ d) (hQ : ∀ I', Eo scH I0 I' → I' 124 = hourS F E N → Q none n sh I' L P) : ∀ m i, i + m = k → hourP G d n sh L P Q I0 F e N i
  | 0, i, h => by
    have h : i = k := by omega
    rw [h]
    exact hour_Z hF hW he hee hQ
  | m + 1, i, h => hour_S hF hFF hG hW he (by omega) hd (hour_L hF hFF hG hW he hee hd hQ m (i + 1) (by omega))
theorem hour_M (hF : FM sh P) {I : TI} {k g r : Nat} (hW : WF (I 124) k g r) (hG : RG I r) {F : TF} {E : Nat → Int32} (hFF : FF (I 128) (I 129) = F) (hEE : EE (I 128) (I 129) = E) (hd : 36 ≤ d)
    (hQ : ∀ I', Eo scH I I' → I' 124 = hourS F E (I 124) → Q none n sh I' L P) : Cl G d 159 [.ref 123] n sh I L P Q := by
  apply e159
  have hd0 : 0 < d := by omega
  (apply WP_runI (lv := lvM) LM_ok 7 80; simp (disch := first | decide | omega) only [t159_0, t159_1, lift_c, o_aload0, o_virt1, rpush_n, rpush_s, o_istore, s1_0, s1_s, o_inl, o_iload2, o_getref, o_iaload, o_icge, o_virt2, o_ifne, o_iload3, o_virt4, o_popi, o_popr, o_iload1, o_isub, o_fadd, o_iastore, o_iinc2, o_goto, o_dup2, o_iadd, o_return, z0, z1, z2, z20, z31, z80, z82, runI_0, runI_c, runI_n, liftI_n, liftI_y, run_0, run_c, run_n, fxn, fxi, fxr, fxl, fxl0, ↓swi_n, ↓swi_c, nck0, nck1, nck2, nck3, List.length_cons, List.length_nil, Nat.reduceAdd, Nat.reduceSub, Nat.reduceLeDiff, Nat.reduceEqDiff, Nat.reduceLT, reduceIte, ite_true, ite_false, Nat.sub_zero, Nat.zero_le, true_and, and_true, and_self, true_or, or_true, if_true, if_false, true_implies, implies_true, not_true_eq_false, not_false_eq_true, false_implies, forall_const, ne_eq, or_self, and_false, false_and, Lt, Le, Eq', Cp, In, nI_add, nI_mul, nI_sub, nI_sub1, Neg0, bI_eq0, bI_eq1, bI_01, bft, up2_eq, up2_no, Bool.true_eq_false, Bool.false_eq_true, eq_self, m1_ne, m1_ne2, m1_lt, m1_le, lt_m1, m1_le2, bI_t, bI_f, LM_all hF, FMu hF, hd0])
  refine eatNow_M hF hW hG hEE (by omega) fun I1 he1 => ?_
  have hL := fun cc ss => hour_L (G := G) (n := n) (L := L) (P := P) (Q := Q) hF hFF hG hW (by rw [← hEE]; exact EE_rng _ _ _) rfl hd hQ k 0 (by omega) I1 none cc ss (he1.mono fun _ _ => scR_H) (row_eo he1 124 scR_124) (fun k => fxn k)
  generalize E (rl (I 124)) = e at hL ⊢
  (apply WP_runI (lv := lvM) LM_ok 7 80; simp (disch := first | decide | omega) only [t159_0, t159_1, lift_c, o_aload0, o_virt1, rpush_n, rpush_s, o_istore, s1_0, s1_s, o_inl, o_iload2, o_getref, o_iaload, o_icge, o_virt2, o_ifne, o_iload3, o_virt4, o_popi, o_popr, o_iload1, o_isub, o_fadd, o_iastore, o_iinc2, o_goto, o_dup2, o_iadd, o_return, z0, z1, z2, z20, z31, z80, z82, runI_0, runI_c, runI_n, liftI_n, liftI_y, run_0, run_c, run_n, fxn, fxi, fxr, fxl, fxl0, ↓swi_n, ↓swi_c, nck0, nck1, nck2, nck3, List.length_cons, List.length_nil, Nat.reduceAdd, Nat.reduceSub, Nat.reduceLeDiff, Nat.reduceEqDiff, Nat.reduceLT, reduceIte, ite_true, ite_false, Nat.sub_zero, Nat.zero_le, true_and, and_true, and_self, true_or, or_true, if_true, if_false, true_implies, implies_true, not_true_eq_false, not_false_eq_true, false_implies, forall_const, ne_eq, or_self, and_false, false_and, Lt, Le, Eq', Cp, In, nI_add, nI_mul, nI_sub, nI_sub1, Neg0, bI_eq0, bI_eq1, bI_01, bft, up2_eq, up2_no, Bool.true_eq_false, Bool.false_eq_true, eq_self, m1_ne, m1_ne2, m1_lt, m1_le, lt_m1, m1_le2, bI_t, bI_f, LM_all hF, FMu hF, hd0])
  exact hL _ _
end
