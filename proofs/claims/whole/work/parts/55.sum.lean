/-! ### a yard: sum, pull -/
section
variable {sh : TS} {I : TI} {P : TP} {b : Nat} {N : TN} {F : TF} {E : Nat → Int32} {k g : Nat}
theorem rl_up {N : TN} {p : Nat} {v : Int32} (h : ¬ p = 83) : rl (upN N p v) = rl N := by
  show (upN N p v 83).toNatClampNeg = (N 83).toNatClampNeg
  rw [upN_no _ _ _ _ (fun e => h e.symm)]
theorem HO.up {q u c j : Nat} {v : Int32} (h : HO sh I P q u F E) (hc : ¬ (104 ≤ c ∧ c ≤ 107 ∨ 143 ≤ c)) : HO sh (up2 I c j v) P q u F E :=
  h.eo (S := fun a _ => a = c) (fun a x q => up2_no _ _ _ _ _ _ fun e => q e.1) fun a x e => by
    have e : a = c := e
    rw [e]
    exact hc
theorem YD.goose_up (h : YD sh I P b N F E k g) (hk : k ≤ 6) (hg : g ≤ 9) (hb : b ≤ 84) {i w : Nat} {v : Int32} (hi : i < k) (hw : w < 5) : YD sh (up2 I (b + 6 + 2 * i) w v) P b (upN N (26 + 9 * i + w) v) F E k g := by
  refine ⟨h.y, ?_, ?_, ?_, fun c hc => ?_, fun j hj => ?_, fun j hj => ?_, fun i' w' hi' hw' => ?_, fun i' w' hi' hw' => ?_, ?_⟩
  · rw [up2_no _ _ _ _ _ _ (by omega)]; exact h.gates
  · rw [up2_no _ _ _ _ _ _ (by omega)]; exact h.count
  · rw [up2_no _ _ _ _ _ _ (by omega), upN_no _ _ _ _ (by omega)]; exact h.hour
  · rw [up2_no _ _ _ _ _ _ (by omega), upN_no _ _ _ _ (by omega)]; exact h.grain c hc
  · rw [up2_no _ _ _ _ _ _ (by omega), show ed (upN N (26 + 9 * i + w) v) j 0 = ed N j 0 from upN_no _ _ _ _ (by omega)]; exact h.one j hj
  · rw [up2_no _ _ _ _ _ _ (by omega), show ed (upN N (26 + 9 * i + w) v) j 1 = ed N j 1 from upN_no _ _ _ _ (by omega)]; exact h.other j hj
  · by_cases e : i' = i ∧ w' = w
    · rw [e.1, e.2, up2_eq]
      exact (upN_eq N (26 + 9 * i + w) v).symm
    · rw [up2_no _ _ _ _ _ _ (by omega), show gs (upN N (26 + 9 * i + w) v) i' w' = gs N i' w' from upN_no _ _ _ _ (by omega)]; exact h.geese i' w' hi' hw'
  · rw [up2_no _ _ _ _ _ _ (by omega), show gs (upN N (26 + 9 * i + w) v) i' (5 + w') = gs N i' (5 + w') from upN_no _ _ _ _ (by omega)]; exact h.rows i' w' hi' hw'
  · rw [rl_up (by omega)]; exact h.holds.up (by omega)
theorem YD.grain_up (h : YD sh I P b N F E k g) (hk : k ≤ 6) (hg : g ≤ 9) (hb : b ≤ 84) {c : Nat} {v : Int32} (hc : c < 8) : YD sh (up2 I (b + 1) c v) P b (upN N c v) F E k g := by
  refine ⟨h.y, ?_, ?_, ?_, fun c' hc' => ?_, fun j hj => ?_, fun j hj => ?_, fun i' w' hi' hw' => ?_, fun i' w' hi' hw' => ?_, ?_⟩
  · rw [up2_no _ _ _ _ _ _ (by omega)]; exact h.gates
  · rw [up2_no _ _ _ _ _ _ (by omega)]; exact h.count
  · rw [up2_no _ _ _ _ _ _ (by omega), upN_no _ _ _ _ (by omega)]; exact h.hour
  · by_cases e : c' = c
    · rw [e, up2_eq, upN_eq]
    · rw [up2_no _ _ _ _ _ _ (by omega), upN_no _ _ _ _ e]; exact h.grain c' hc'
  · rw [up2_no _ _ _ _ _ _ (by omega), show ed (upN N c v) j 0 = ed N j 0 from upN_no _ _ _ _ (by omega)]; exact h.one j hj
  · rw [up2_no _ _ _ _ _ _ (by omega), show ed (upN N c v) j 1 = ed N j 1 from upN_no _ _ _ _ (by omega)]; exact h.other j hj
  · rw [up2_no _ _ _ _ _ _ (by omega), show gs (upN N c v) i' w' = gs N i' w' from upN_no _ _ _ _ (by omega)]; exact h.geese i' w' hi' hw'
  · rw [up2_no _ _ _ _ _ _ (by omega), show gs (upN N c v) i' (5 + w') = gs N i' (5 + w') from upN_no _ _ _ _ (by omega)]; exact h.rows i' w' hi' hw'
  · rw [rl_up (by omega)]; exact h.holds.up (by omega)
theorem YD.hour_up (h : YD sh I P b N F E k g) (hk : k ≤ 6) (hg : g ≤ 9) (hb : b ≤ 84) {v : Int32} : YD sh (up2 I b 6 v) P b (upN N 82 v) F E k g := by
  refine ⟨h.y, ?_, ?_, ?_, fun c' hc' => ?_, fun j hj => ?_, fun j hj => ?_, fun i' w' hi' hw' => ?_, fun i' w' hi' hw' => ?_, ?_⟩
  · rw [up2_no _ _ _ _ _ _ (by omega)]; exact h.gates
  · rw [up2_no _ _ _ _ _ _ (by omega)]; exact h.count
  · rw [up2_eq, upN_eq]
  · rw [up2_no _ _ _ _ _ _ (by omega), upN_no _ _ _ _ (by omega)]; exact h.grain c' hc'
  · rw [up2_no _ _ _ _ _ _ (by omega), show ed (upN N 82 v) j 0 = ed N j 0 from upN_no _ _ _ _ (by omega)]; exact h.one j hj
  · rw [up2_no _ _ _ _ _ _ (by omega), show ed (upN N 82 v) j 1 = ed N j 1 from upN_no _ _ _ _ (by omega)]; exact h.other j hj
  · rw [up2_no _ _ _ _ _ _ (by omega), show gs (upN N 82 v) i' w' = gs N i' w' from upN_no _ _ _ _ (by omega)]; exact h.geese i' w' hi' hw'
  · rw [up2_no _ _ _ _ _ _ (by omega), show gs (upN N 82 v) i' (5 + w') = gs N i' (5 + w') from upN_no _ _ _ _ (by omega)]; exact h.rows i' w' hi' hw'
  · rw [rl_up (by omega)]; exact h.holds.up (by omega)
end
def scV (b a j : Nat) : Prop := a = b + 5
theorem scV_y {b c j : Nat} (hb : b ≤ 84) (h : scV b c j) : ¬ (104 ≤ c ∧ c ≤ 107 ∨ 143 ≤ c) ∧ ¬ (b ≤ c ∧ c ≤ b + 4 ∨ b + 6 ≤ c ∧ c ≤ b + 17) := by
  have h : c = b + 5 := h
  omega
section
variable {G : GE} {d n : Nat} {sh : TS} {I : TI} {L : TL} {P : TP} {Q : TQ} {b : Nat} {N : TN} {F : TF} {E : Nat → Int32} {k g r : Nat}
theorem sum_Y (hD : YD sh I P b N F E k g) (hW : WF N k g r) (hb : 20 ≤ b ∧ b ≤ 84) {i c : Nat} (hi : i < k) (hc : c < 8) (hd : 1 ≤ d) (hQ : ∀ I', Eo (scV b) I I' → Q (some (.int (sumS F N i c))) n sh I' L P) : Cl G d 60 [.ref b, .int (nI i), .int (nI c)] n sh I L P Q := by
  apply e60
  have hY := hD.y
  have hh := hD.holds
  have hk := hW.k6
  have hd0 : 0 < d := by omega
  have hg := hD.grain c hc
  unfold sumS at hQ
  generalize hu : rl N = u at hh hQ
  rcases Nat.eq_zero_or_pos u with h0 | h0
  · obtain ⟨h1, -, h2⟩ := hh.1 h0
    have hQ := hQ I Eo.rf
    rw [h0, h2 (nmS N i c)] at hQ
    have hQ : Q (some (.int (N c))) n sh I L P := hQ
    (apply WP_runI (lv := lvK) (F := LK) LK_ok 14 80; simp (disch := first | decide | omega) only [t60_0, t60_1, lift_c, o_aload0, o_getref, o_ifnonnull, o_iload2, o_iaload, o_ireturn, o_inl, o_iload1, o_iastore, o_aaload, o_getfield, o_irem, o_virt2, rpush_n, rpush_s, o_iadd, z0, z1, z2, z3, z4, z5, z10, z20, z31, runI_0, runI_c, runI_n, liftI_n, liftI_y, run_0, run_c, run_n, fxn, fxi, fxr, fxl, fxl0, ↓swi_n, ↓swi_c, nck0, nck1, nck2, nck3, List.length_cons, List.length_nil, Nat.reduceAdd, Nat.reduceSub, Nat.reduceLeDiff, Nat.reduceEqDiff, Nat.reduceLT, reduceIte, ite_true, ite_false, Nat.sub_zero, Nat.zero_le, true_and, and_true, and_self, true_or, or_true, if_true, if_false, true_implies, implies_true, not_true_eq_false, not_false_eq_true, false_implies, forall_const, ne_eq, or_self, and_false, false_and, Lt, Le, Eq', Cp, In, nI_add, nI_mul, nI_sub, nI_sub1, Neg0, bI_eq0, bI_eq1, bI_01, bft, up2_eq, up2_no, Bool.true_eq_false, Bool.false_eq_true, eq_self, m1_ne, m1_ne2, m1_lt, m1_le, lt_m1, m1_le2, bI_t, bI_f, LK_st, FYu hY, h1, neq, hg])
    exact hQ
  · obtain ⟨a, hf, hok, hdk, hfu⟩ := hh.2 h0
    have n1 : ¬ neq (P b 7) 1 := fun e => by
      have e : P b 7 = 1 := e
      have := hf.1
      omega
    have n0 : ¬ neq (P b 7) 0 := fun e => by
      have e : P b 7 = 0 := e
      have := hf.1
      omega
    have h20 : nle 20 (b + 5) := by show 20 ≤ b + 5; omega
    have h10 : ¬ (nI 10 = nI 0) := by decide
    have e0 := hD.geese i 0 hi (by omega)
    have e1 := hD.geese i 1 hi (by omega)
    have e6 := hD.hour
    have he : Eo (scV b) I (up2 (up2 (up2 (up2 (up2 (up2 I (b + 5) 0 (nI i)) (b + 5) 1 (gs N i 0)) (b + 5) 2 (gs N i 1)) (b + 5) 3 (nI c)) (b + 5) 4 (N c)) (b + 5) 5 (N 82 - N 82 / nI 10 * nI 10)) := by
      refine Eo.up (Eo.up (Eo.up (Eo.up (Eo.up (Eo.up Eo.rf ?_ _) ?_ _) ?_ _) ?_ _) ?_ _) ?_ _ <;> exact rfl
    have hn : ∀ j, j < 6 → up2 (up2 (up2 (up2 (up2 (up2 I (b + 5) 0 (nI i)) (b + 5) 1 (gs N i 0)) (b + 5) 2 (gs N i 1)) (b + 5) 3 (nI c)) (b + 5) 4 (N c)) (b + 5) 5 (N 82 - N 82 / nI 10 * nI 10) (b + 5) j = nmS N i c j := fun j hj => by
      have : j = 0 ∨ j = 1 ∨ j = 2 ∨ j = 3 ∨ j = 4 ∨ j = 5 := by omega
      rcases this with rfl | rfl | rfl | rfl | rfl | rfl <;> simp (disch := omega) only [up2_eq, up2_no] <;> rfl
    have hQ := hQ _ he
    rw [hfu (nmS N i c)] at hQ
    have hL := lured_K (G := G) (d := d - 1) (n := n) (L := L) (Q := fun v n' sh' I' L' P' => WP G 60 d Q 100 [some (.ref b), some (.int (nI i)), some (.int (nI c))] (rpush v [.int (N c)]) 0 0 n' sh' I' L' P') (hf.eo he fun c j q => (scV_y hb.2 q).1) hok hdk (FYu hY).2.2.2.2.2.1 hn
    have f2 := hf.2.1
    clear hn he hf hfu hh
    generalize (evA (nmS N i c) a ([], nI 0)).2 = v at hQ hL
    have hQ : Q (some (.int (N c + v))) n sh _ L P := hQ
    (apply WP_runI (lv := lvK) (F := LK) LK_ok 999 80; simp (disch := first | decide | omega) only [t60_0, t60_1, lift_c, o_aload0, o_getref, o_ifnonnull, o_iload2, o_iaload, o_ireturn, o_inl, o_iload1, o_iastore, o_aaload, o_getfield, o_irem, o_virt2, rpush_n, rpush_s, o_iadd, z0, z1, z2, z3, z4, z5, z10, z20, z31, runI_0, runI_c, runI_n, liftI_n, liftI_y, run_0, run_c, run_n, fxn, fxi, fxr, fxl, fxl0, ↓swi_n, ↓swi_c, nck0, nck1, nck2, nck3, List.length_cons, List.length_nil, Nat.reduceAdd, Nat.reduceSub, Nat.reduceLeDiff, Nat.reduceEqDiff, Nat.reduceLT, reduceIte, ite_true, ite_false, Nat.sub_zero, Nat.zero_le, true_and, and_true, and_self, true_or, or_true, if_true, if_false, true_implies, implies_true, not_true_eq_false, not_false_eq_true, false_implies, forall_const, ne_eq, or_self, and_false, false_and, Lt, Le, Eq', Cp, In, nI_add, nI_mul, nI_sub, nI_sub1, Neg0, bI_eq0, bI_eq1, bI_01, bft, up2_eq, up2_no, Bool.true_eq_false, Bool.false_eq_true, eq_self, m1_ne, m1_ne2, m1_lt, m1_le, lt_m1, m1_le2, bI_t, bI_f, LK_st, FYu hY, n0, n1, f2, hg, h20, h10, e0, e1, e6, hd0])
    refine hL ?_
    (apply WP_runI (lv := lvK) (F := LK) LK_ok 999 80; simp (disch := first | decide | omega) only [t60_0, t60_1, lift_c, o_aload0, o_getref, o_ifnonnull, o_iload2, o_iaload, o_ireturn, o_inl, o_iload1, o_iastore, o_aaload, o_getfield, o_irem, o_virt2, rpush_n, rpush_s, o_iadd, z0, z1, z2, z3, z4, z5, z10, z20, z31, runI_0, runI_c, runI_n, liftI_n, liftI_y, run_0, run_c, run_n, fxn, fxi, fxr, fxl, fxl0, ↓swi_n, ↓swi_c, nck0, nck1, nck2, nck3, List.length_cons, List.length_nil, Nat.reduceAdd, Nat.reduceSub, Nat.reduceLeDiff, Nat.reduceEqDiff, Nat.reduceLT, reduceIte, ite_true, ite_false, Nat.sub_zero, Nat.zero_le, true_and, and_true, and_self, true_or, or_true, if_true, if_false, true_implies, implies_true, not_true_eq_false, not_false_eq_true, false_implies, forall_const, ne_eq, or_self, and_false, false_and, Lt, Le, Eq', Cp, In, nI_add, nI_mul, nI_sub, nI_sub1, Neg0, bI_eq0, bI_eq1, bI_01, bft, up2_eq, up2_no, Bool.true_eq_false, Bool.false_eq_true, eq_self, m1_ne, m1_ne2, m1_lt, m1_le, lt_m1, m1_le2, bI_t, bI_f, LK_st, FYu hY])
    exact hQ
end
