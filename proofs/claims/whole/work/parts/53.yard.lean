/-! ### a yard: its picture, its small methods -/
theorem dok_cons {nm : TN} {y : SP} {r : List SP} {s : List Bool} {v : Int32} (h8 : y.1 < 8) (h : dok (y :: r) s.length = true) : dok [y] s.length = true ∧ dok r (stA nm y (s, v)).1.length = true := by
  obtain ⟨o, k, m⟩ := y
  unfold dok at h
  simp only at h
  by_cases h3 : o < 3
  · rw [if_pos h3, Bool.and_eq_true] at h
    refine ⟨by simp [dok, h3]; simpa using h.1, ?_⟩
    have e : (stA nm (o, k, m) (s, v)).1.length = s.length + 1 := by
      have hc : o = 0 ∨ o = 1 ∨ o = 2 := by omega
      rcases hc with rfl | rfl | rfl <;> simp [stA, stB]
    rw [e]
    exact h.2
  · rw [if_neg h3] at h
    by_cases e3 : o = 3
    · rw [if_pos e3, Bool.and_eq_true] at h
      subst e3
      have hl : 1 ≤ s.length := by simpa using h.1
      refine ⟨by simp [dok]; exact hl, ?_⟩
      match s, hl, h with
      | b :: s, _, h => exact h.2
    · rw [if_neg e3] at h
      by_cases h6 : o < 6
      · rw [if_pos h6, Bool.and_eq_true] at h
        have hl : 2 ≤ s.length := by simpa using h.1
        refine ⟨by simp [dok, h3, e3, h6]; exact hl, ?_⟩
        match s, hl, h with
        | b :: a :: s, _, h =>
          have e : (stA nm (o, k, m) (b :: a :: s, v)).1.length = s.length + 1 := by
            have hc : o = 4 ∨ o = 5 := by omega
            rcases hc with rfl | rfl <;> simp [stA, stB]
          rw [e]
          exact h.2
      · rw [if_neg h6, Bool.and_eq_true] at h
        have hl : 1 ≤ s.length := by simpa using h.1
        refine ⟨by simp [dok, h3, e3, h6]; exact hl, ?_⟩
        match s, hl, h with
        | b :: s, _, h =>
          by_cases e6 : o = 6
          · subst e6
            exact h.2
          · have e7 : o = 7 := by
              simp only at h8
              omega
            subst e7
            exact h.2
def HO (sh : TS) (I : TI) (P : TP) (q u : Nat) (F : TF) (E : Nat → Int32) : Prop := (u = 0 → q = 0 ∧ E 0 = nI 1 ∧ ∀ nm, F 0 nm = nm 4) ∧ (0 < u → ∃ a, FO sh I P q a (E u) ∧ stOK a ∧ dok a 0 = true ∧ ∀ nm, F u nm = nm 4 + (evA nm a ([], nI 0)).2)
def YD (sh : TS) (I : TI) (P : TP) (b : Nat) (N : TN) (F : TF) (E : Nat → Int32) (k g : Nat) : Prop := FY sh P b ∧ I b 3 = nI g ∧ I b 5 = nI k ∧ I b 6 = N 82 ∧ (∀ c, c < 8 → I (b + 1) c = N c) ∧ (∀ j, j < g → I (b + 2) j = ed N j 0) ∧ (∀ j, j < g → I (b + 3) j = ed N j 1) ∧
  (∀ i w, i < k → w < 5 → I (b + 6 + 2 * i) w = gs N i w) ∧ (∀ i w, i < k → w < 4 → I (b + 7 + 2 * i) w = gs N i (5 + w)) ∧ HO sh I P (P b 7) (rl N) F E
section
variable {sh : TS} {I : TI} {P : TP} {b : Nat} {N : TN} {F : TF} {E : Nat → Int32} {k g : Nat}
theorem YD.y (h : YD sh I P b N F E k g) : FY sh P b := h.1
theorem YD.gates (h : YD sh I P b N F E k g) : I b 3 = nI g := h.2.1
theorem YD.count (h : YD sh I P b N F E k g) : I b 5 = nI k := h.2.2.1
theorem YD.hour (h : YD sh I P b N F E k g) : I b 6 = N 82 := h.2.2.2.1
theorem YD.grain (h : YD sh I P b N F E k g) : ∀ c, c < 8 → I (b + 1) c = N c := h.2.2.2.2.1
theorem YD.one (h : YD sh I P b N F E k g) : ∀ j, j < g → I (b + 2) j = ed N j 0 := h.2.2.2.2.2.1
theorem YD.other (h : YD sh I P b N F E k g) : ∀ j, j < g → I (b + 3) j = ed N j 1 := h.2.2.2.2.2.2.1
theorem YD.geese (h : YD sh I P b N F E k g) : ∀ i w, i < k → w < 5 → I (b + 6 + 2 * i) w = gs N i w := h.2.2.2.2.2.2.2.1
theorem YD.rows (h : YD sh I P b N F E k g) : ∀ i w, i < k → w < 4 → I (b + 7 + 2 * i) w = gs N i (5 + w) := h.2.2.2.2.2.2.2.2.1
theorem YD.holds (h : YD sh I P b N F E k g) : HO sh I P (P b 7) (rl N) F E := h.2.2.2.2.2.2.2.2.2
theorem FO.eo {I' : TI} {q : Nat} {a : List SP} {e : Int32} (h : FO sh I P q a e) {S : Nat → Nat → Prop} (he : Eo S I I') (hS : ∀ c j, S c j → ¬ (104 ≤ c ∧ c ≤ 107 ∨ 143 ≤ c)) : FO sh I' P q a e := by
  obtain ⟨h1, h2, h3, h4, h5, h6, h7, h8, h9, h10, h11, h12⟩ := h
  have e0 : ∀ c j, q ≤ c → c ≤ q + 3 → I' c j = I c j := fun c j ha hb => he c j fun hs => hS c j hs (by omega)
  refine ⟨h1, h2, h3, h4, h5, h6, h7, h8, h9, (e0 _ _ (by omega) (by omega)).trans h10, (e0 _ _ (by omega) (by omega)).trans h11, fun j x hx => ?_⟩
  rw [e0 _ _ (by omega) (by omega), e0 _ _ (by omega) (by omega), e0 _ _ (by omega) (by omega)]
  exact h12 j x hx
theorem HO.eo {I' : TI} {q u : Nat} (h : HO sh I P q u F E) {S : Nat → Nat → Prop} (he : Eo S I I') (hS : ∀ c j, S c j → ¬ (104 ≤ c ∧ c ≤ 107 ∨ 143 ≤ c)) : HO sh I' P q u F E :=
  ⟨h.1, fun hu => by
    obtain ⟨a, h1, h2⟩ := h.2 hu
    exact ⟨a, h1.eo he hS, h2⟩⟩
theorem YD.eo {I' : TI} (h : YD sh I P b N F E k g) (hk : k ≤ 6) {S : Nat → Nat → Prop} (he : Eo S I I') (hS : ∀ c j, S c j → ¬ (104 ≤ c ∧ c ≤ 107 ∨ 143 ≤ c) ∧ ¬ (b ≤ c ∧ c ≤ b + 4 ∨ b + 6 ≤ c ∧ c ≤ b + 17)) : YD sh I' P b N F E k g := by
  have e0 : ∀ c j, (b ≤ c ∧ c ≤ b + 4 ∨ b + 6 ≤ c ∧ c ≤ b + 17) → I' c j = I c j := fun c j ha => he c j fun hs => (hS c j hs).2 ha
  refine ⟨h.y, (e0 _ _ (by omega)).trans h.gates, (e0 _ _ (by omega)).trans h.count, (e0 _ _ (by omega)).trans h.hour, fun c hc => (e0 _ _ (by omega)).trans (h.grain c hc), fun j hj => (e0 _ _ (by omega)).trans (h.one j hj), fun j hj => (e0 _ _ (by omega)).trans (h.other j hj), fun i w hi hw => (e0 _ _ (by omega)).trans (h.geese i w hi hw), fun i w hi hw => (e0 _ _ (by omega)).trans (h.rows i w hi hw), h.holds.eo he fun c j hs => (hS c j hs).1⟩
end
section
variable {G : GE} {d n : Nat} {sh : TS} {I : TI} {L : TL} {P : TP} {Q : TQ} {b : Nat} {N : TN} {F : TF} {E : Nat → Int32} {k g r : Nat}
theorem lured_K {q w : Nat} {a : List SP} {e : Int32} {nm : TN} (hf : FO sh I P q a e) (hok : stOK a) (hdk : dok a 0 = true) (hw : sh w = (100, 6)) (hn : ∀ j, j < 6 → I w j = nm j) (hQ : Q (some (.int (evA nm a ([], nI 0)).2)) n sh I L P) : Cl G d 25 [.ref q, .ref w] n sh I L P Q := by
  apply e25
  obtain ⟨f1, f2, f3, f4, f5, f6, f7, f8, f9, f10, f11, f12⟩ := hf
  generalize hv : (evA nm a ([], nI 0)).2 = u at hQ
  have loop : ∀ l j s v x o5 o6 cc ss, j + l = a.length → rep x s → dok (a.drop j) s.length = true → (evA nm (a.drop j) (s, v)).2 = u → WP G 25 d Q 7 [some (.ref q), some (.ref w), some (.int v), some (.int x), some (.int (nI j)), o5, o6] [] cc ss n sh I L P := by
    intro l
    induction l with
    | zero =>
      intro j s v x o5 o6 cc ss h hr hd hu
      have hj : a.length ≤ j := by omega
      rw [List.drop_eq_nil_of_le hj] at hu
      rw [← show v = u from hu] at hQ
      (apply WP_runI (lv := lvK) (F := LK) LK_ok 7 20; simp (disch := first | decide | omega) only [t25_0, t25_1, t25_2, lift_c, o_inl, o_istore, s1_0, s1_s, o_iload4, o_aload0, o_getfield, o_icge, o_aload1, o_getref, o_iaload, o_lookup, o_iload3, o_ishl, o_iload5, o_iload6, o_goto, o_ior, o_icne, o_icle, o_ixor, o_ishr, o_iand, o_iload2, o_imul, o_iadd, o_isub, o_iinc4, o_ireturn, z0, z1, z2, z3, z4, z5, z6, z20, z31, runI_0, runI_c, runI_n, liftI_n, liftI_y, run_0, run_c, run_n, fxn, fxi, fxr, fxl, fxl0, ↓swi_n, ↓swi_c, nck0, nck1, nck2, nck3, List.length_cons, List.length_nil, Nat.reduceAdd, Nat.reduceSub, Nat.reduceLeDiff, Nat.reduceEqDiff, Nat.reduceLT, reduceIte, ite_true, ite_false, Nat.sub_zero, Nat.zero_le, true_and, and_true, and_self, true_or, or_true, if_true, if_false, true_implies, implies_true, not_true_eq_false, not_false_eq_true, false_implies, forall_const, ne_eq, or_self, and_false, false_and, Lt, Le, Eq', Cp, In, nI_add, nI_mul, nI_sub, nI_sub1, Neg0, bI_eq0, bI_eq1, bI_01, bft, up2_eq, up2_no, Bool.true_eq_false, Bool.false_eq_true, eq_self, m1_ne, m1_ne2, m1_lt, m1_le, lt_m1, m1_le2, bI_t, bI_f, LK_st, f2, f10, hj])
      exact hQ
    | succ l ih =>
      intro j s v x o5 o6 cc ss h hr hd hu
      have hj : j < a.length := by omega
      have hdr := List.drop_eq_getElem_cons hj
      have hx := f12 j a[j] (List.getElem?_eq_getElem hj)
      have hy := hok a[j] (List.getElem_mem hj)
      generalize a[j] = y at hdr hx hy
      rw [hdr] at hd hu
      obtain ⟨hd1, hd2⟩ := dok_cons (nm := nm) (v := v) hy.1 hd
      obtain ⟨o, kk, m⟩ := y
      refine lured_S f2 f3 f4 f5 f6 f7 f8 hw hn f9 hj f10 hx.1 hx.2.1 hx.2.2 hy.1 hy.2 hr hd1 fun x' o5 o6 cc ss hr2 => ?_
      exact ih (j + 1) _ _ x' o5 o6 cc ss (by omega) hr2 hd2 hu
  have loop := fun cc ss => loop a.length 0 [] (nI 0) (nI 0) none none cc ss (by omega) ⟨by simp, fun i hi => by simp at hi⟩ hdk hv
  (apply WP_runI (lv := lvK) (F := LK) LK_ok 7 20; simp (disch := first | decide | omega) only [t25_0, t25_1, t25_2, lift_c, o_inl, o_istore, s1_0, s1_s, o_iload4, o_aload0, o_getfield, o_icge, o_aload1, o_getref, o_iaload, o_lookup, o_iload3, o_ishl, o_iload5, o_iload6, o_goto, o_ior, o_icne, o_icle, o_ixor, o_ishr, o_iand, o_iload2, o_imul, o_iadd, o_isub, o_iinc4, o_ireturn, z0, z1, z2, z3, z4, z5, z6, z20, z31, runI_0, runI_c, runI_n, liftI_n, liftI_y, run_0, run_c, run_n, fxn, fxi, fxr, fxl, fxl0, ↓swi_n, ↓swi_c, nck0, nck1, nck2, nck3, List.length_cons, List.length_nil, Nat.reduceAdd, Nat.reduceSub, Nat.reduceLeDiff, Nat.reduceEqDiff, Nat.reduceLT, reduceIte, ite_true, ite_false, Nat.sub_zero, Nat.zero_le, true_and, and_true, and_self, true_or, or_true, if_true, if_false, true_implies, implies_true, not_true_eq_false, not_false_eq_true, false_implies, forall_const, ne_eq, or_self, and_false, false_and, Lt, Le, Eq', Cp, In, nI_add, nI_mul, nI_sub, nI_sub1, Neg0, bI_eq0, bI_eq1, bI_01, bft, up2_eq, up2_no, Bool.true_eq_false, Bool.false_eq_true, eq_self, m1_ne, m1_ne2, m1_lt, m1_le, lt_m1, m1_le2, bI_t, bI_f, LK_st, f2])
  exact loop _ _
end
