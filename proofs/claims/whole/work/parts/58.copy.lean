/-! ### a yard is copied -/
theorem cpy2_at {α : Type} (f : Nat → Nat → α) (sq dq n j : Nat) (h : j < n) : cpy2 f sq 0 dq 0 n dq j = f sq j := by
  show (if dq = dq ∧ 0 ≤ j ∧ j < 0 + n then f sq (0 + (j - 0)) else f dq j) = f sq j
  rw [if_pos ⟨rfl, by omega, by omega⟩]
  simp
theorem cpy2_ot {α : Type} (f : Nat → Nat → α) (sq dq n a j : Nat) (h : ¬ a = dq) : cpy2 f sq 0 dq 0 n a j = f a j := if_neg fun q => h q.1
section
variable {G : GE} {d n : Nat} {sh : TS} {I : TI} {L : TL} {P : TP} {Q : TQ}
theorem gooseCopy_K {q p : Nat} (hq : sh q = (3, 6)) (hp : sh p = (3, 6)) (hq1 : sh (q + 1) = (100, 4)) (hp1 : sh (p + 1) = (100, 4)) (pq : P q 5 = q + 1) (pp : P p 5 = p + 1) (h4 : I p 4 = nI 0 ∨ I p 4 = nI 1) (hne : q + 1 < p ∨ p + 1 < q) (h20 : 20 ≤ q ∧ 20 ≤ p) (hd : 1 ≤ d)
    (hQ : ∀ I' L', Eo (fun a _ => a = q ∨ a = q + 1) I I' → Eo (fun a _ => a = q ∨ a = q + 1) L L' → (∀ w, w < 5 → I' q w = I p w) → (∀ w, w < 4 → I' (q + 1) w = I (p + 1) w) → Q none n sh I' L' P) : Cl G d 28 [.ref q, .ref p] n sh I L P Q := by
  apply e28
  have hd0 : 0 < d := by omega
  have n1 : nle 20 (q + 1) := by show 20 ≤ q + 1; omega
  have n2 : nle 20 (p + 1) := by show 20 ≤ p + 1; omega
  have h5 : up2 (up2 (up2 (up2 I q 0 (I p 0)) q 1 (I p 1)) q 2 (I p 2)) q 3 (I p 3) p 4 = I p 4 := by simp (disch := omega) only [up2_no]
  have hQ := hQ (cpy2 (up2 (up2 (up2 (up2 (up2 I q 0 (I p 0)) q 1 (I p 1)) q 2 (I p 2)) q 3 (I p 3)) q 4 (I p 4)) (p + 1) 0 (q + 1) 0 4) (cpy2 L (p + 1) 0 (q + 1) 0 4)
    (Eo.cp (Eo.up (Eo.up (Eo.up (Eo.up (Eo.up Eo.rf (Or.inl rfl) _) (Or.inl rfl) _) (Or.inl rfl) _) (Or.inl rfl) _) (Or.inl rfl) _) fun _ _ _ => Or.inr rfl) (Eo.cp Eo.rf fun _ _ _ => Or.inr rfl)
    (fun w hw => by
      rw [cpy2_ot _ _ _ _ _ _ (by omega)]
      have : w = 0 ∨ w = 1 ∨ w = 2 ∨ w = 3 ∨ w = 4 := by omega
      rcases this with rfl | rfl | rfl | rfl | rfl <;> simp (disch := omega) only [up2_eq, up2_no])
    (fun w hw => by
      rw [cpy2_at _ _ _ _ _ hw]
      simp (disch := omega) only [up2_no])
  generalize hv : I p 4 = v at h4 h5 hQ
  (apply WP_runI (lv := lvK) (F := LK) LK_ok 999 80; simp (disch := first | decide | omega) only [t28_0, lift_c, o_aload0, o_aload1, o_getfield, o_putfield, o_putbool, o_getref, o_inl, o_dadd, o_return, z0, z1, z2, z4, z20, z31, runI_0, runI_c, runI_n, liftI_n, liftI_y, run_0, run_c, run_n, fxn, fxi, fxr, fxl, fxl0, ↓swi_n, ↓swi_c, nck0, nck1, nck2, nck3, List.length_cons, List.length_nil, Nat.reduceAdd, Nat.reduceSub, Nat.reduceLeDiff, Nat.reduceEqDiff, Nat.reduceLT, reduceIte, ite_true, ite_false, Nat.sub_zero, Nat.zero_le, true_and, and_true, and_self, true_or, or_true, if_true, if_false, true_implies, implies_true, not_true_eq_false, not_false_eq_true, false_implies, forall_const, ne_eq, or_self, and_false, false_and, Lt, Le, Eq', Cp, In, nI_add, nI_mul, nI_sub, nI_sub1, Neg0, bI_eq0, bI_eq1, bI_01, bft, up2_eq, up2_no, Bool.true_eq_false, Bool.false_eq_true, eq_self, m1_ne, m1_ne2, m1_lt, m1_le, lt_m1, m1_le2, bI_t, bI_f, LK_st, hq, hp, hq1, hp1, pq, pp, hv, h4, n1, n2, hd0])
  exact hQ
end
theorem FY.p7 {sh : TS} {P : TP} {b c x : Nat} (h : FY sh P c) : FY sh (up2 P b 7 x) c := by
  obtain ⟨h1, h2, h3, h4, h5, h6, p0, p1, p2, p4, p8, q1, q2, q3, q4⟩ := h
  refine ⟨h1, h2, h3, h4, h5, h6, ?_, ?_, ?_, ?_, ?_, fun i hi => ?_, q2, q3, fun i hi => ?_⟩
  · rw [up2_no _ _ _ _ _ _ (by omega)]; exact p0
  · rw [up2_no _ _ _ _ _ _ (by omega)]; exact p1
  · rw [up2_no _ _ _ _ _ _ (by omega)]; exact p2
  · rw [up2_no _ _ _ _ _ _ (by omega)]; exact p4
  · rw [up2_no _ _ _ _ _ _ (by omega)]; exact p8
  · rw [up2_no _ _ _ _ _ _ (by omega)]; exact q1 i hi
  · rw [up2_no _ _ _ _ _ _ (by omega)]; exact q4 i hi
theorem FO.eoP {sh : TS} {I : TI} {P P' : TP} {q : Nat} {a : List SP} {e : Int32} (h : FO sh I P q a e) (he : ∀ c j, 104 ≤ c → P' c j = P c j) : FO sh I P' q a e := by
  obtain ⟨h1, h2, h3, h4, h5, h6⟩ := h
  exact ⟨h1, h2, (he _ _ (by omega)).trans h3, (he _ _ (by omega)).trans h4, (he _ _ (by omega)).trans h5, h6⟩
theorem HO.eoP {sh : TS} {I : TI} {P P' : TP} {q u : Nat} {F : TF} {E : Nat → Int32} (h : HO sh I P q u F E) (he : ∀ c j, 104 ≤ c → P' c j = P c j) : HO sh I P' q u F E :=
  ⟨h.1, fun hu => by
    obtain ⟨a, h1, h2⟩ := h.2 hu
    exact ⟨a, h1.eoP he, h2⟩⟩
theorem HO.ne {sh : TS} {I : TI} {P : TP} {q u : Nat} {F : TF} {E : Nat → Int32} (h : HO sh I P q u F E) : ¬ q = 1 := by
  rcases Nat.eq_zero_or_pos u with h0 | h0
  · have := (h.1 h0).1
    omega
  · obtain ⟨a, h1, -⟩ := h.2 h0
    have := h1.1
    omega
theorem YD.p7 {sh : TS} {I : TI} {P : TP} {b c x : Nat} {N : TN} {F : TF} {E : Nat → Int32} {k g : Nat} (h : YD sh I P c N F E k g) (hb : b ≤ 84) (hbc : ¬ b = c) : YD sh I (up2 P b 7 x) c N F E k g := by
  refine ⟨h.y.p7, h.gates, h.count, h.hour, h.grain, h.one, h.other, h.geese, h.rows, ?_⟩
  rw [up2_no _ _ _ _ _ _ (by omega)]
  exact h.holds.eoP fun c j hc => up2_no _ _ _ _ _ _ (by omega)
section
variable {G : GE} {d n : Nat} {sh : TS} {I : TI} {L : TL} {P : TP} {Q : TQ} {b s : Nat} {N : TN} {F : TF} {E : Nat → Int32} {k g r : Nat}
theorem copy_Y (hD : YD sh I P s N F E k g) (hW : WF N k g r) (hY : FY sh P b) (hb : 20 ≤ b ∧ b ≤ 84) (hs : 20 ≤ s ∧ s ≤ 84) (hne : s + 17 < b ∨ b + 17 < s) (hd : 2 ≤ d)
    (hQ : ∀ I' L', Eo (scY b) I I' → Eo (scY b) L L' → YD sh I' (up2 P b 7 (P s 7)) b N F E k g → Q none n sh I' L' (up2 P b 7 (P s 7))) : Cl G d 52 [.ref b, .ref s] n sh I L P Q := by
  apply e52
  have hS := hD.y
  have hk := hW.k6
  have hg9 := hW.g9
  have hd0 : 0 < d := by omega
  have n1 : nle 20 (b + 1) := by show 20 ≤ b + 1; omega
  have n2 : nle 20 (b + 2) := by show 20 ≤ b + 2; omega
  have n3 : nle 20 (b + 3) := by show 20 ≤ b + 3; omega
  have m1 : nle 20 (s + 1) := by show 20 ≤ s + 1; omega
  have m2 : nle 20 (s + 2) := by show 20 ≤ s + 2; omega
  have m3 : nle 20 (s + 3) := by show 20 ≤ s + 3; omega
  have hx1 : ¬ neq (P s 7) 1 := hD.holds.ne
  have loop : ∀ m j I1 L1 cc ss, j + m = k → Eo (scY b) I I1 → Eo (scY b) L L1 → (∀ c, c < 8 → I1 (b + 1) c = N c) → (∀ j, j < g → I1 (b + 2) j = ed N j 0) → (∀ j, j < g → I1 (b + 3) j = ed N j 1) → I1 b 3 = nI g →
      (∀ i w, i < j → w < 5 → I1 (b + 6 + 2 * i) w = gs N i w) → (∀ i w, i < j → w < 4 → I1 (b + 7 + 2 * i) w = gs N i (5 + w)) → WP G 52 d Q 55 [some (.ref b), some (.ref s), some (.int (nI j))] [] cc ss n sh I1 L1 P := by
    intro m
    induction m with
    | zero =>
      intro j I1 L1 cc ss h hE hL c1 c2 c3 c4 c5 c6
      have hj : k ≤ j := by omega
      have s5 : I1 s 5 = nI k := (hE s 5 fun q => by have q1 := q.1; have q2 := q.2; omega).trans hD.count
      have s6 : I1 s 6 = N 82 := (hE s 6 fun q => by have q1 := q.1; have q2 := q.2; omega).trans hD.hour
      have hQ := hQ (up2 (up2 I1 b 5 (nI k)) b 6 (N 82)) L1 ((hE.up ⟨by omega, by omega⟩ _).up ⟨by omega, by omega⟩ _) hL (by
        refine ⟨hY.p7, ?_, ?_, ?_, fun c hc => ?_, fun j hj => ?_, fun j hj => ?_, fun i w hi hw => ?_, fun i w hi hw => ?_, ?_⟩
        · rw [up2_no _ _ _ _ _ _ (by omega), up2_no _ _ _ _ _ _ (by omega)]; exact c4
        · rw [up2_no _ _ _ _ _ _ (by omega), up2_eq]
        · rw [up2_eq]
        · rw [up2_no _ _ _ _ _ _ (by omega), up2_no _ _ _ _ _ _ (by omega)]; exact c1 c hc
        · rw [up2_no _ _ _ _ _ _ (by omega), up2_no _ _ _ _ _ _ (by omega)]; exact c2 j hj
        · rw [up2_no _ _ _ _ _ _ (by omega), up2_no _ _ _ _ _ _ (by omega)]; exact c3 j hj
        · rw [up2_no _ _ _ _ _ _ (by omega), up2_no _ _ _ _ _ _ (by omega)]; exact c5 i w (by omega) hw
        · rw [up2_no _ _ _ _ _ _ (by omega), up2_no _ _ _ _ _ _ (by omega)]; exact c6 i w (by omega) hw
        · rw [up2_eq]
          exact (((hD.holds.eo (S := scY b) hE (fun c j q => by have q1 := q.1; have q2 := q.2; omega)).up (by omega)).up (by omega)).eoP fun c j hc => up2_no _ _ _ _ _ _ (by omega))
      (apply WP_runI (lv := lvK) (F := LK) LK_ok 55 60; simp (disch := first | decide | omega) only [t52_0, t52_1, lift_c, o_aload1, o_getref, o_inl, o_aload0, o_dadd, o_getfield, o_putfield, o_istore, s1_0, s1_s, o_iload2, o_icge, o_aaload, o_virt2, rpush_n, rpush_s, o_iinc2, o_goto, o_putref, o_return, z0, z1, z2, z8, z9, z20, z31, runI_0, runI_c, runI_n, liftI_n, liftI_y, run_0, run_c, run_n, fxn, fxi, fxr, fxl, fxl0, ↓swi_n, ↓swi_c, nck0, nck1, nck2, nck3, List.length_cons, List.length_nil, Nat.reduceAdd, Nat.reduceSub, Nat.reduceLeDiff, Nat.reduceEqDiff, Nat.reduceLT, reduceIte, ite_true, ite_false, Nat.sub_zero, Nat.zero_le, true_and, and_true, and_self, true_or, or_true, if_true, if_false, true_implies, implies_true, not_true_eq_false, not_false_eq_true, false_implies, forall_const, ne_eq, or_self, and_false, false_and, Lt, Le, Eq', Cp, In, nI_add, nI_mul, nI_sub, nI_sub1, Neg0, bI_eq0, bI_eq1, bI_01, bft, up2_eq, up2_no, Bool.true_eq_false, Bool.false_eq_true, eq_self, m1_ne, m1_ne2, m1_lt, m1_le, lt_m1, m1_le2, bI_t, bI_f, LK_st, FYu hY, FYu hS, s5, s6, hj, hx1])
      exact hQ
    | succ m ih =>
      intro j I1 L1 cc ss h hE hL c1 c2 c3 c4 c5 c6
      have hj : ¬ k ≤ j := by omega
      have hjk : j < k := by omega
      have s5 : I1 s 5 = nI k := (hE s 5 fun q => by have q1 := q.1; have q2 := q.2; omega).trans hD.count
      have e0 : ∀ a x, s ≤ a → a ≤ s + 17 → I1 a x = I a x := fun a x h1 h2 => hE a x fun q => by have q1 := q.1; have q2 := q.2; omega
      obtain ⟨y1, y2, y3, y4, y5, y6, y7, y8, y9, y10, y11, y12, y13, y14, y15⟩ := hY
      obtain ⟨zz1, zz2, zz3, zz4, zz5, zz6, zz7, zz8, zz9, zz10, zz11, zz12, zz13, zz14, zz15⟩ := hS
      have run1 : ∀ cc ss, Cl G (d - 1) 28 [.ref (b + 6 + 2 * j), .ref (s + 6 + 2 * j)] n sh I1 L1 P (fun v n' sh' I' L' P' => WP G 52 d Q 78 [some (.ref b), some (.ref s), some (.int (nI j))] (rpush v []) cc ss n' sh' I' L' P') := by
        intro cc ss
        refine gooseCopy_K (y13 j (by omega)) (zz13 j (by omega)) ?_ ?_ ?_ ?_ ?_ (by omega) (by omega) (by omega) fun I2 L2 he2 hl2 g1 g2 => ?_
        · rw [show b + 6 + 2 * j + 1 = b + 7 + 2 * j by omega]; exact y14 j (by omega)
        · rw [show s + 6 + 2 * j + 1 = s + 7 + 2 * j by omega]; exact zz14 j (by omega)
        · rw [show b + 6 + 2 * j + 1 = b + 7 + 2 * j by omega]; exact y15 j (by omega)
        · rw [show s + 6 + 2 * j + 1 = s + 7 + 2 * j by omega]; exact zz15 j (by omega)
        · rw [e0 _ _ (by omega) (by omega), hD.geese j 4 hjk (by omega)]
          exact hW.taken hjk
        · have ne : ∀ a x, ¬ (a = b + 6 + 2 * j ∨ a = b + 6 + 2 * j + 1) → I2 a x = I1 a x := fun a x h => he2 a x h
          have ih := fun cc ss => ih (j + 1) I2 L2 cc ss (by omega) (hE.tr (he2.mono fun a x q => ⟨by omega, by omega⟩)) (hL.tr (hl2.mono fun a x q => ⟨by omega, by omega⟩)) (fun c hc => (ne _ _ (by omega)).trans (c1 c hc)) (fun x hx => (ne _ _ (by omega)).trans (c2 x hx)) (fun x hx => (ne _ _ (by omega)).trans (c3 x hx)) ((ne _ _ (by omega)).trans c4)
            (fun i w hi hw => by
              by_cases e : i = j
              · rw [e, g1 w hw, e0 _ _ (by omega) (by omega)]
                exact hD.geese j w hjk hw
              · rw [ne _ _ (by omega)]
                exact c5 i w (by omega) hw)
            (fun i w hi hw => by
              by_cases e : i = j
              · rw [e, show b + 7 + 2 * j = b + 6 + 2 * j + 1 by omega, g2 w hw, e0 _ _ (by omega) (by omega), show s + 6 + 2 * j + 1 = s + 7 + 2 * j by omega]
                exact hD.rows j w hjk hw
              · rw [ne _ _ (by omega)]
                exact c6 i w (by omega) hw)
          (apply WP_runI (lv := lvK) (F := LK) LK_ok 55 80; simp (disch := first | decide | omega) only [t52_0, t52_1, lift_c, o_aload1, o_getref, o_inl, o_aload0, o_dadd, o_getfield, o_putfield, o_istore, s1_0, s1_s, o_iload2, o_icge, o_aaload, o_virt2, rpush_n, rpush_s, o_iinc2, o_goto, o_putref, o_return, z0, z1, z2, z8, z9, z20, z31, runI_0, runI_c, runI_n, liftI_n, liftI_y, run_0, run_c, run_n, fxn, fxi, fxr, fxl, fxl0, ↓swi_n, ↓swi_c, nck0, nck1, nck2, nck3, List.length_cons, List.length_nil, Nat.reduceAdd, Nat.reduceSub, Nat.reduceLeDiff, Nat.reduceEqDiff, Nat.reduceLT, reduceIte, ite_true, ite_false, Nat.sub_zero, Nat.zero_le, true_and, and_true, and_self, true_or, or_true, if_true, if_false, true_implies, implies_true, not_true_eq_false, not_false_eq_true, false_implies, forall_const, ne_eq, or_self, and_false, false_and, Lt, Le, Eq', Cp, In, nI_add, nI_mul, nI_sub, nI_sub1, Neg0, bI_eq0, bI_eq1, bI_01, bft, up2_eq, up2_no, Bool.true_eq_false, Bool.false_eq_true, eq_self, m1_ne, m1_ne2, m1_lt, m1_le, lt_m1, m1_le2, bI_t, bI_f, LK_st])
          exact ih _ _
      clear ih
      have yb := y12 j (by omega)
      have yg := y13 j (by omega)
      have zb := zz12 j (by omega)
      clear hD hW c5 c6
      (apply WP_runI (lv := lvK) (F := LK) LK_ok 55 40; simp (disch := first | decide | omega) only [t52_0, t52_1, lift_c, o_aload1, o_getref, o_inl, o_aload0, o_dadd, o_getfield, o_putfield, o_istore, s1_0, s1_s, o_iload2, o_icge, o_aaload, o_virt2, rpush_n, rpush_s, o_iinc2, o_goto, o_putref, o_return, z0, z1, z2, z8, z9, z20, z31, runI_0, runI_c, runI_n, liftI_n, liftI_y, run_0, run_c, run_n, fxn, fxi, fxr, fxl, fxl0, ↓swi_n, ↓swi_c, nck0, nck1, nck2, nck3, List.length_cons, List.length_nil, Nat.reduceAdd, Nat.reduceSub, Nat.reduceLeDiff, Nat.reduceEqDiff, Nat.reduceLT, reduceIte, ite_true, ite_false, Nat.sub_zero, Nat.zero_le, true_and, and_true, and_self, true_or, or_true, if_true, if_false, true_implies, implies_true, not_true_eq_false, not_false_eq_true, false_implies, forall_const, ne_eq, or_self, and_false, false_and, Lt, Le, Eq', Cp, In, nI_add, nI_mul, nI_sub, nI_sub1, Neg0, bI_eq0, bI_eq1, bI_01, bft, up2_eq, up2_no, Bool.true_eq_false, Bool.false_eq_true, eq_self, m1_ne, m1_ne2, m1_lt, m1_le, lt_m1, m1_le2, bI_t, bI_f, LK_st, y1, y5, y10, zz1, zz5, zz10, yb, yg, zb, s5, hj, hd0])
      exact run1 _ _
  have r3 : I s 3 = nI g := hD.gates
  have loop := fun I1 L1 cc ss => loop k 0 I1 L1 cc ss (by omega)
  have L4 := fun cc ss => loop (up2 (cpy2 (cpy2 (cpy2 I (s + 1) 0 (b + 1) 0 8) (s + 2) 0 (b + 2) 0 9) (s + 3) 0 (b + 3) 0 9) b 3 (nI g)) (cpy2 (cpy2 (cpy2 L (s + 1) 0 (b + 1) 0 8) (s + 2) 0 (b + 2) 0 9) (s + 3) 0 (b + 3) 0 9) cc ss
    ((((Eo.cp (p := scY b) Eo.rf fun _ _ _ => ⟨by omega, by omega⟩).cp fun _ _ _ => ⟨by omega, by omega⟩).cp fun _ _ _ => ⟨by omega, by omega⟩).up ⟨by omega, by omega⟩ _)
    (((Eo.cp (p := scY b) Eo.rf fun _ _ _ => ⟨by omega, by omega⟩).cp fun _ _ _ => ⟨by omega, by omega⟩).cp fun _ _ _ => ⟨by omega, by omega⟩)
    (fun c hc => by
      rw [up2_no _ _ _ _ _ _ (by omega), cpy2_ot _ _ _ _ _ _ (by omega), cpy2_ot _ _ _ _ _ _ (by omega), cpy2_at _ _ _ _ _ hc]
      exact hD.grain c hc)
    (fun j hj => by
      rw [up2_no _ _ _ _ _ _ (by omega), cpy2_ot _ _ _ _ _ _ (by omega), cpy2_at _ _ _ _ _ (by omega), cpy2_ot _ _ _ _ _ _ (by omega)]
      exact hD.one j hj)
    (fun j hj => by
      rw [up2_no _ _ _ _ _ _ (by omega), cpy2_at _ _ _ _ _ (by omega), cpy2_ot _ _ _ _ _ _ (by omega), cpy2_ot _ _ _ _ _ _ (by omega)]
      exact hD.other j hj)
    (up2_eq _ _ _ _) (fun i w hi => by omega) (fun i w hi => by omega)
  clear loop
  (apply WP_runI (lv := lvK) (F := LK) LK_ok 55 80; simp (disch := first | decide | omega) only [t52_0, t52_1, lift_c, o_aload1, o_getref, o_inl, o_aload0, o_dadd, o_getfield, o_putfield, o_istore, s1_0, s1_s, o_iload2, o_icge, o_aaload, o_virt2, rpush_n, rpush_s, o_iinc2, o_goto, o_putref, o_return, z0, z1, z2, z8, z9, z20, z31, runI_0, runI_c, runI_n, liftI_n, liftI_y, run_0, run_c, run_n, fxn, fxi, fxr, fxl, fxl0, ↓swi_n, ↓swi_c, nck0, nck1, nck2, nck3, List.length_cons, List.length_nil, Nat.reduceAdd, Nat.reduceSub, Nat.reduceLeDiff, Nat.reduceEqDiff, Nat.reduceLT, reduceIte, ite_true, ite_false, Nat.sub_zero, Nat.zero_le, true_and, and_true, and_self, true_or, or_true, if_true, if_false, true_implies, implies_true, not_true_eq_false, not_false_eq_true, false_implies, forall_const, ne_eq, or_self, and_false, false_and, Lt, Le, Eq', Cp, In, nI_add, nI_mul, nI_sub, nI_sub1, Neg0, bI_eq0, bI_eq1, bI_01, bft, up2_eq, up2_no, Bool.true_eq_false, Bool.false_eq_true, eq_self, m1_ne, m1_ne2, m1_lt, m1_le, lt_m1, m1_le2, bI_t, bI_f, LK_st, FYu hY, FYu hS, r3, n1, n2, n3, m1, m2, m3, cpy2_ot, hd0])
  exact L4 _ _
end
