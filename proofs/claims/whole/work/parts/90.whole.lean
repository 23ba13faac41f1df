/-! ### pairs: the image -/
def pb7 (a j : Nat) : Prop := (a = 22 ∨ a = 53) ∧ j = 7
theorem FY.pb {sh : TS} {P P' : TP} {c : Nat} (he : Eo pb7 P P') (h : FY sh P c) : FY sh P' c := by
  obtain ⟨h1, h2, h3, h4, h5, h6, p0, p1, p2, p4, p8, q1, q2, q3, q4⟩ := h
  have e : ∀ a j, ¬ j = 7 → P' a j = P a j := fun a j hj => he a j fun q => hj q.2
  exact ⟨h1, h2, h3, h4, h5, h6, (e _ _ (by omega)).trans p0, (e _ _ (by omega)).trans p1, (e _ _ (by omega)).trans p2, (e _ _ (by omega)).trans p4, (e _ _ (by omega)).trans p8, fun i hi => (e _ _ (by omega)).trans (q1 i hi), q2, q3, fun i hi => (e _ _ (by omega)).trans (q4 i hi)⟩
theorem FR.pb {sh : TS} {P P' : TP} {c z : Nat} (he : Eo pb7 P P') (h : FR sh P c z) : FR sh P' c z := by
  obtain ⟨h1, h2, h3, h4, p0, p1, p2⟩ := h
  have e : ∀ a j, ¬ j = 7 → P' a j = P a j := fun a j hj => he a j fun q => hj q.2
  exact ⟨h1, h2, h3, h4, (e _ _ (by omega)).trans p0, (e _ _ (by omega)).trans p1, (e _ _ (by omega)).trans p2⟩
theorem FG.pb {sh : TS} {P P' : TP} (he : Eo pb7 P P') (h : FG sh P) : FG sh P' := by
  have e : ∀ a j, ¬ (a = 22 ∨ a = 53) → P' a j = P a j := fun a j hj => he a j fun q => hj q.1
  unfold FG at h ⊢
  rw [e 20 0 (by omega), e 20 1 (by omega), e 20 3 (by omega), e 20 4 (by omega), e 20 6 (by omega), e 20 7 (by omega), e 21 0 (by omega), e 21 1 (by omega), e 21 2 (by omega), e 21 3 (by omega), e 52 0 (by omega), e 52 1 (by omega), e 52 2 (by omega), e 52 3 (by omega), e 83 0 (by omega), e 102 0 (by omega), e 108 0 (by omega)]
  refine ⟨h.1, h.2.1, h.2.2.1, h.2.2.2.1, h.2.2.2.2.1, h.2.2.2.2.2.1, h.2.2.2.2.2.2.1, h.2.2.2.2.2.2.2.1, h.2.2.2.2.2.2.2.2.1, h.2.2.2.2.2.2.2.2.2.1, h.2.2.2.2.2.2.2.2.2.2.1, h.2.2.2.2.2.2.2.2.2.2.2.1, h.2.2.2.2.2.2.2.2.2.2.2.2.1, h.2.2.2.2.2.2.2.2.2.2.2.2.2.1, h.2.2.2.2.2.2.2.2.2.2.2.2.2.2.1, h.2.2.2.2.2.2.2.2.2.2.2.2.2.2.2.1, h.2.2.2.2.2.2.2.2.2.2.2.2.2.2.2.2.1, h.2.2.2.2.2.2.2.2.2.2.2.2.2.2.2.2.2.1, h.2.2.2.2.2.2.2.2.2.2.2.2.2.2.2.2.2.2.1, h.2.2.2.2.2.2.2.2.2.2.2.2.2.2.2.2.2.2.2.1, h.2.2.2.2.2.2.2.2.2.2.2.2.2.2.2.2.2.2.2.2.1, h.2.2.2.2.2.2.2.2.2.2.2.2.2.2.2.2.2.2.2.2.2.1, h.2.2.2.2.2.2.2.2.2.2.2.2.2.2.2.2.2.2.2.2.2.2.1, h.2.2.2.2.2.2.2.2.2.2.2.2.2.2.2.2.2.2.2.2.2.2.2.1, h.2.2.2.2.2.2.2.2.2.2.2.2.2.2.2.2.2.2.2.2.2.2.2.2.1, h.2.2.2.2.2.2.2.2.2.2.2.2.2.2.2.2.2.2.2.2.2.2.2.2.2.1, ?_⟩
  obtain ⟨q1, q2, q3, q4⟩ := h.2.2.2.2.2.2.2.2.2.2.2.2.2.2.2.2.2.2.2.2.2.2.2.2.2.2
  exact ⟨fun i hi => (e _ _ (by omega)).trans (q1 i hi), q2, q3, fun i hi => (e _ _ (by omega)).trans (q4 i hi)⟩
theorem FA.pb {sh : TS} {P P' : TP} (he : Eo pb7 P P') (h : FA sh P) : FA sh P' := by
  obtain ⟨h1, h2, h3, h4, h5, h6, h7, h8, h9, h10⟩ := h
  exact ⟨h1.pb he, h2.pb he, h3.pb he, h4.pb he, h5.pb he, h6.pb he, h7.pb he, h8.pb he, h9.pb he, h10.pb he⟩
theorem FM.pb {sh : TS} {P P' : TP} (he : Eo pb7 P P') (h : FM sh P) : FM sh P' := by
  have e : ∀ j, P' 123 j = P 123 j := fun j => he 123 j fun q => by have := q.1; omega
  unfold FM at h ⊢
  simp only [e]
  exact h
/-! rows of numbers that agree below 138 -/
section
variable {N M : TN} {k g r : Nat}
theorem WF.cg (h : WF N k g r) (e : ∀ j, j < 138 → M j = N j) : WF M k g r := by
  have hk := h.k6
  have hg := h.g9
  have hgs : ∀ i w, i < k → w < 9 → gs M i w = gs N i w := fun i w hi hw => e _ (by omega)
  have hed : ∀ j w, j < g → w < 2 → ed M j w = ed N j w := fun j w hj hw => e _ (by omega)
  refine ⟨hk, (e _ (by omega)).trans h.n80, hg, (e _ (by omega)).trans h.n81, h.r6, ?_, fun i hi => ?_, fun j w hj hw => ?_, fun c hc => ?_, fun i hi => ?_, fun i hi => ?_, fun i hi => ?_, fun i hi => ?_⟩
  · obtain ⟨u, h1, h2⟩ := h.n83
    exact ⟨u, h1, (e _ (by omega)).trans h2⟩
  · rw [hgs i 2 hi (by omega)]; exact h.court hi
  · rw [hed j w hj hw]; exact h.ends hj hw
  · rw [e c (by omega)]; exact h.grain hc
  · rw [hgs i 3 hi (by omega)]; exact h.key hi
  · rw [hgs i 0 hi (by omega)]; exact h.kind hi
  · rw [hgs i 1 hi (by omega)]; exact h.v9 hi
  · rw [hgs i 4 hi (by omega)]; exact h.taken hi
theorem YD.cg {sh : TS} {I : TI} {P : TP} {b : Nat} {F : TF} {E : Nat → Int32} (h : YD sh I P b N F E k g) (hk : k ≤ 6) (hg : g ≤ 9) (e : ∀ j, j < 138 → M j = N j) : YD sh I P b M F E k g := by
  have hgs : ∀ i w, i < k → w < 9 → gs M i w = gs N i w := fun i w hi hw => e _ (by omega)
  have hed : ∀ j w, j < g → w < 2 → ed M j w = ed N j w := fun j w hj hw => e _ (by omega)
  refine ⟨h.y, h.gates, h.count, ?_, fun c hc => ?_, fun j hj => ?_, fun j hj => ?_, fun i w hi hw => ?_, fun i w hi hw => ?_, ?_⟩
  · rw [e 82 (by omega)]; exact h.hour
  · rw [e c (by omega)]; exact h.grain c hc
  · rw [hed j 0 hj (by omega)]; exact h.one j hj
  · rw [hed j 1 hj (by omega)]; exact h.other j hj
  · rw [hgs i w hi (by omega)]; exact h.geese i w hi hw
  · rw [hgs i (5 + w) hi (by omega)]; exact h.rows i w hi hw
  · rw [show rl M = rl N by show (M 83).toNatClampNeg = _; rw [e 83 (by omega)]; rfl]
    exact h.holds
theorem WS.cg (h : WS N k) (e : ∀ j, j < 138 → M j = N j) : WS M k := by
  obtain ⟨⟨s, h1, h2, h3⟩, ⟨p, h4, h5, h6⟩, ⟨b, h7, h8, h9⟩⟩ := h
  refine ⟨⟨s, h1, (e _ (by omega)).trans h2, fun j hj => ?_⟩, ⟨p, h4, (e _ (by omega)).trans h5, fun j hj => ?_⟩, ⟨b, h7, (e _ (by omega)).trans h8, fun j hj => ?_⟩⟩
  · rw [e _ (by omega), e _ (by omega), e _ (by omega)]
    exact h3 j hj
  · rw [e _ (by omega), e _ (by omega)]
    exact h6 j hj
  · rw [e _ (by omega), e _ (by omega)]
    exact h9 j hj
/-- rows told by hand, wherever they lie -/
def RX (I : TI) (a b c : Nat) (N : TN) : Prop := I a 3 = N 84 ∧ I b 3 = N 100 ∧ I c 3 = N 121 ∧
  (∀ s, s ≤ 10 → N 84 = nI s → ∀ j, j < s → I (a + 1) j = N (85 + 3 * j) ∧ I (a + 2) j = N (86 + 3 * j) ∧ I (a + 3) j = N (87 + 3 * j)) ∧
  (∀ s, s ≤ 10 → N 100 = nI s → ∀ j, j < s → I (b + 1) j = N (101 + 2 * j) ∧ I (b + 2) j = N (102 + 2 * j)) ∧
  (∀ s, s ≤ 10 → N 121 = nI s → ∀ j, j < s → I (c + 1) j = N (122 + 2 * j) ∧ I (c + 2) j = N (123 + 2 * j))
theorem WS.bd (h : WS N k) : (∀ s, s ≤ 10 → N 84 = nI s → s ≤ 5) ∧ ∀ s, s ≤ 10 → N 121 = nI s → s ≤ 8 := by
  obtain ⟨⟨s, h1, h2, -⟩, -, ⟨b, h7, h8, -⟩⟩ := h
  refine ⟨fun t ht e => ?_, fun t ht e => ?_⟩
  · rw [h2, nI_eq (by omega) (by omega)] at e
    omega
  · rw [h8, nI_eq (by omega) (by omega)] at e
    omega
theorem RX.cg {I : TI} {a b c : Nat} (h : RX I a b c N) (hS : WS N k) (e : ∀ j, j < 138 → M j = N j) : RX I a b c M := by
  obtain ⟨h1, h2, h3, h4, h5, h6⟩ := h
  obtain ⟨b1, b2⟩ := hS.bd
  refine ⟨h1.trans (e _ (by omega)).symm, h2.trans (e _ (by omega)).symm, h3.trans (e _ (by omega)).symm, fun s h10 hs j hj => ?_, fun s h10 hs j hj => ?_, fun s h10 hs j hj => ?_⟩
  · rw [e _ (by omega)] at hs
    have := b1 s h10 hs
    rw [e _ (by omega), e _ (by omega), e _ (by omega)]
    exact h4 s h10 hs j hj
  · rw [e _ (by omega)] at hs
    rw [e _ (by omega), e _ (by omega)]
    exact h5 s h10 hs j hj
  · rw [e _ (by omega)] at hs
    have := b2 s h10 hs
    rw [e _ (by omega), e _ (by omega)]
    exact h6 s h10 hs j hj
/-- rows that are a copy of others -/
theorem RX.cp {I I' : TI} {a b c a' b' c' : Nat} (h : RX I a b c N) (hS : WS N k) (c1 : I' a' 3 = I a 3) (c2 : I' b' 3 = I b 3) (c3 : I' c' 3 = I c 3) (d1 : ∀ j, j < 5 → I' (a' + 1) j = I (a + 1) j ∧ I' (a' + 2) j = I (a + 2) j ∧ I' (a' + 3) j = I (a + 3) j)
    (d2 : ∀ j, j < 10 → I' (b' + 1) j = I (b + 1) j ∧ I' (b' + 2) j = I (b + 2) j ∧ I' (b' + 3) j = I (b + 3) j) (d3 : ∀ j, j < 8 → I' (c' + 1) j = I (c + 1) j ∧ I' (c' + 2) j = I (c + 2) j ∧ I' (c' + 3) j = I (c + 3) j) : RX I' a' b' c' N := by
  obtain ⟨h1, h2, h3, h4, h5, h6⟩ := h
  obtain ⟨b1, b2⟩ := hS.bd
  refine ⟨c1.trans h1, c2.trans h2, c3.trans h3, fun s h10 hs j hj => ?_, fun s h10 hs j hj => ?_, fun s h10 hs j hj => ?_⟩
  · have := b1 s h10 hs
    obtain ⟨q1, q2, q3⟩ := d1 j (by omega)
    rw [q1, q2, q3]
    exact h4 s h10 hs j hj
  · obtain ⟨q1, q2, q3⟩ := d2 j (by omega)
    rw [q1, q2]
    exact h5 s h10 hs j hj
  · have := b2 s h10 hs
    obtain ⟨q1, q2, q3⟩ := d3 j (by omega)
    rw [q1, q2]
    exact h6 s h10 hs j hj
end
/-- all that an image changes, or that comes of one -/
def pS (a j : Nat) : Prop := qS a j ∨ (a = 20 ∧ j = 2) ∨ (22 ≤ a ∧ a ≤ 82) ∨ (a = 123 ∧ j = 3) ∨ a = 124 ∨ a = 126
def pL (a _ : Nat) : Prop := 22 ≤ a ∧ a ≤ 101
theorem IW.re {n : Nat} {sh : TS} {I I' : TI} {L L' : TL} {P P' : TP} {F : TF} {E : Nat → Int32} {k g r k' g' : Nat} (h : IW n sh I L P F E k g r) (hI : Eo pS I I') (hL : Eo pL L L') (h1 : FM sh P') (h2 : FA sh P') (hW : WF (I' 124) k' g' r) (hD : YD sh I' P' 22 (I' 124) F E k' g') (hR : RD I' (I' 124)) (hS : WS (I' 124) k') (hK : IVk sh I' P' F E r) (hz : IVz n sh P') : IW n sh I' L' P' F E k' g' r := by
  obtain ⟨-, -, h3, -, -, -, -, h8, h9, h10, h11, h12, -⟩ := h
  have e128 : I' 128 = I 128 := funext fun j => hI 128 j (by unfold pS qS; omega)
  have e129 : I' 129 = I 129 := funext fun j => hI 129 j (by unfold pS qS; omega)
  exact ⟨h1, h2, ⟨hW, h3.2.1.eo hI (fun a j q => by unfold pS qS at q; omega), by rw [e128, e129]; exact h3.2.2.1, by rw [e128, e129]; exact h3.2.2.2⟩, hD, hR, hS, hK, h8.eo hI fun a j q => by unfold pS qS at q; omega, h9.eo hI fun a j q => by unfold pS qS at q; omega, h10.eo hI fun a j q => by unfold pS qS at q; omega, h11.eo hI hL (fun a j q => by unfold pS qS at q; omega) (fun a j q => by unfold pL at q; omega), h12.eo hI fun a j q => by unfold pS qS at q; omega, hz⟩
section
variable {G : GE} {d n : Nat} {sh : TS} {I : TI} {L : TL} {P : TP} {Q : TQ}
def r3S (a c _ : Nat) : Prop := a ≤ c ∧ c ≤ a + 3
theorem rowsCopy_K {a b z : Nat} (ha : FR sh P a z) (hb : FR sh P b z) (h20 : 20 ≤ a ∧ 20 ≤ b) (hne : a + 3 < b ∨ b + 3 < a) (hz : z ≤ 10) (hd : 1 ≤ d)
    (hQ : ∀ I' L', Eo (r3S a) I I' → Eo (r3S a) L L' → (∀ j, j < z → I' (a + 1) j = I (b + 1) j ∧ I' (a + 2) j = I (b + 2) j ∧ I' (a + 3) j = I (b + 3) j) → I' a 3 = I b 3 → Q none n sh I' L' P) : Cl G d 43 [.ref a, .ref b] n sh I L P Q := by
  apply e43
  have hd0 : 0 < d := by omega
  obtain ⟨a1, a2, a3, a4, a5, a6, a7⟩ := ha
  obtain ⟨b1, b2, b3, b4, b5, b6, b7⟩ := hb
  have na0 : nle 20 a := h20.1
  have na1 : nle 20 (a + 1) := by show 20 ≤ a + 1; omega
  have na2 : nle 20 (a + 2) := by show 20 ≤ a + 2; omega
  have na3 : nle 20 (a + 3) := by show 20 ≤ a + 3; omega
  have nb1 : nle 20 (b + 1) := by show 20 ≤ b + 1; omega
  have nb2 : nle 20 (b + 2) := by show 20 ≤ b + 2; omega
  have nb3 : nle 20 (b + 3) := by show 20 ≤ b + 3; omega
  have hQ := hQ (up2 (cpy2 (cpy2 (cpy2 I (b + 1) 0 (a + 1) 0 z) (b + 2) 0 (a + 2) 0 z) (b + 3) 0 (a + 3) 0 z) a 3 (I b 3)) (cpy2 (cpy2 (cpy2 L (b + 1) 0 (a + 1) 0 z) (b + 2) 0 (a + 2) 0 z) (b + 3) 0 (a + 3) 0 z)
    ((((Eo.cp (p := r3S a) Eo.rf fun _ _ _ => ⟨by omega, by omega⟩).cp fun _ _ _ => ⟨by omega, by omega⟩).cp fun _ _ _ => ⟨by omega, by omega⟩).up ⟨by omega, by omega⟩ _)
    (((Eo.cp (p := r3S a) Eo.rf fun _ _ _ => ⟨by omega, by omega⟩).cp fun _ _ _ => ⟨by omega, by omega⟩).cp fun _ _ _ => ⟨by omega, by omega⟩)
    (fun j hj => by
      refine ⟨?_, ?_, ?_⟩
      · rw [up2_no _ _ _ _ _ _ (by omega), cpy2_ot _ _ _ _ _ _ (by omega), cpy2_ot _ _ _ _ _ _ (by omega), cpy2_at _ _ _ _ _ hj]
      · rw [up2_no _ _ _ _ _ _ (by omega), cpy2_ot _ _ _ _ _ _ (by omega), cpy2_at _ _ _ _ _ hj, cpy2_ot _ _ _ _ _ _ (by omega)]
      · rw [up2_no _ _ _ _ _ _ (by omega), cpy2_at _ _ _ _ _ hj, cpy2_ot _ _ _ _ _ _ (by omega), cpy2_ot _ _ _ _ _ _ (by omega)])
    (up2_eq _ _ _ _)
  (apply WP_runI (lv := lvK) (F := LK) LK_ok 999 80; simp (disch := first | decide | omega) only [t43_0, lift_c, o_aload1, o_getref, o_inl, o_aload0, o_arraylength, o_dadd, o_getfield, o_putfield, o_return, z0, z1, z2, z20, z31, runI_0, runI_c, runI_n, liftI_n, liftI_y, run_0, run_c, run_n, fxn, fxi, fxr, fxl, fxl0, ↓swi_n, ↓swi_c, nck0, nck1, nck2, nck3, List.length_cons, List.length_nil, Nat.reduceAdd, Nat.reduceSub, Nat.reduceLeDiff, Nat.reduceEqDiff, Nat.reduceLT, reduceIte, ite_true, ite_false, Nat.sub_zero, Nat.zero_le, true_and, and_true, and_self, true_or, or_true, if_true, if_false, true_implies, implies_true, not_true_eq_false, not_false_eq_true, false_implies, forall_const, ne_eq, or_self, and_false, false_and, Lt, Le, Eq', Cp, In, nI_add, nI_mul, nI_sub, nI_sub1, Neg0, bI_eq0, bI_eq1, bI_01, bft, up2_eq, up2_no, Bool.true_eq_false, Bool.false_eq_true, eq_self, m1_ne, m1_ne2, m1_lt, m1_le, lt_m1, m1_le2, bI_t, bI_f, LK_st, a1, a2, a3, a4, a5, a6, a7, b1, b2, b3, b4, b5, b6, b7, na0, na1, na2, na3, nb1, nb2, nb3, cpy2_ot, hd0, Nat.zero_add, Nat.le_refl, Nat.not_lt_zero])
  exact hQ
end
section
variable {G : GE} {d n : Nat} {sh : TS} {I : TI} {L : TL} {P : TP} {Q : TQ} {N : TN} {F : TF} {E : Nat → Int32} {k g r : Nat}
def keepWS (a _ : Nat) : Prop := 53 ≤ a ∧ a ≤ 82
theorem keepW_K (hA : FA sh P) (hW : WF N k g r) (hD : YD sh I P 22 N F E k g) (hR : RX I 40 44 48 N) (hS : WS N k) (hd : 5 ≤ d)
    (hQ : ∀ I' L', Eo keepWS I I' → Eo keepWS L L' → YD sh I' (up2 P 53 7 (P 22 7)) 53 N F E k g → RX I' 71 75 79 N → Q none n sh I' L' (up2 P 53 7 (P 22 7))) : Cl G d 50 [.ref 52, .ref 21] n sh I L P Q := by
  apply e50
  have hd0 : 0 < d := by omega
  have hG := hA.1
  have s1 : sh 53 = (8, 9) := (FYu hA.2.2.1).1
  have s2 : sh 71 = (5, 4) := (FRu hA.2.2.2.2.2.2.2.1).1
  have s3 : sh 75 = (5, 4) := (FRu hA.2.2.2.2.2.2.2.2.1).1
  have s4 : sh 79 = (5, 4) := (FRu hA.2.2.2.2.2.2.2.2.2).1
  (apply WP_runI (lv := lvK) (F := LK) LK_ok 999 20; simp (disch := first | decide | omega) only [t50_0, lift_c, o_aload0, o_getref, o_aload1, o_virt2, rpush_n, rpush_s, o_return, z0, z1, z2, z20, z31, runI_0, runI_c, runI_n, liftI_n, liftI_y, run_0, run_c, run_n, fxn, fxi, fxr, fxl, fxl0, ↓swi_n, ↓swi_c, nck0, nck1, nck2, nck3, List.length_cons, List.length_nil, Nat.reduceAdd, Nat.reduceSub, Nat.reduceLeDiff, Nat.reduceEqDiff, Nat.reduceLT, reduceIte, ite_true, ite_false, Nat.sub_zero, Nat.zero_le, true_and, and_true, and_self, true_or, or_true, if_true, if_false, true_implies, implies_true, not_true_eq_false, not_false_eq_true, false_implies, forall_const, ne_eq, or_self, and_false, false_and, Lt, Le, Eq', Cp, In, nI_add, nI_mul, nI_sub, nI_sub1, Neg0, bI_eq0, bI_eq1, bI_01, bft, up2_eq, up2_no, Bool.true_eq_false, Bool.false_eq_true, eq_self, m1_ne, m1_ne2, m1_lt, m1_le, lt_m1, m1_le2, bI_t, bI_f, LK_st, FGu hG, s1, hd0])
  refine copy_Y hD hW hA.2.2.1 (by omega) (by omega) (by omega) (show 2 ≤ d - 1 by omega) fun I1 L1 e1 l1 hD1 => ?_
  have hA1 : FA sh (up2 P 53 7 (P 22 7)) := hA.pb (Eo.rf.up ⟨by omega, rfl⟩ _)
  have hG1 := hA1.1
  have hB := hA1.2.2.2.2
  generalize up2 P 53 7 (P 22 7) = P1 at hD1 hA1 hG1 hB hQ ⊢
  (apply WP_runI (lv := lvK) (F := LK) LK_ok 999 20; simp (disch := first | decide | omega) only [t50_0, lift_c, o_aload0, o_getref, o_aload1, o_virt2, rpush_n, rpush_s, o_return, z0, z1, z2, z20, z31, runI_0, runI_c, runI_n, liftI_n, liftI_y, run_0, run_c, run_n, fxn, fxi, fxr, fxl, fxl0, ↓swi_n, ↓swi_c, nck0, nck1, nck2, nck3, List.length_cons, List.length_nil, Nat.reduceAdd, Nat.reduceSub, Nat.reduceLeDiff, Nat.reduceEqDiff, Nat.reduceLT, reduceIte, ite_true, ite_false, Nat.sub_zero, Nat.zero_le, true_and, and_true, and_self, true_or, or_true, if_true, if_false, true_implies, implies_true, not_true_eq_false, not_false_eq_true, false_implies, forall_const, ne_eq, or_self, and_false, false_and, Lt, Le, Eq', Cp, In, nI_add, nI_mul, nI_sub, nI_sub1, Neg0, bI_eq0, bI_eq1, bI_01, bft, up2_eq, up2_no, Bool.true_eq_false, Bool.false_eq_true, eq_self, m1_ne, m1_ne2, m1_lt, m1_le, lt_m1, m1_le2, bI_t, bI_f, LK_st, FGu hG1, s2, hd0])
  refine rowsCopy_K hB.2.2.2.1 hB.1 (by omega) (by omega) (by omega) (by omega) fun I2 L2 e2 l2 c2 d2 => ?_
  (apply WP_runI (lv := lvK) (F := LK) LK_ok 999 20; simp (disch := first | decide | omega) only [t50_0, lift_c, o_aload0, o_getref, o_aload1, o_virt2, rpush_n, rpush_s, o_return, z0, z1, z2, z20, z31, runI_0, runI_c, runI_n, liftI_n, liftI_y, run_0, run_c, run_n, fxn, fxi, fxr, fxl, fxl0, ↓swi_n, ↓swi_c, nck0, nck1, nck2, nck3, List.length_cons, List.length_nil, Nat.reduceAdd, Nat.reduceSub, Nat.reduceLeDiff, Nat.reduceEqDiff, Nat.reduceLT, reduceIte, ite_true, ite_false, Nat.sub_zero, Nat.zero_le, true_and, and_true, and_self, true_or, or_true, if_true, if_false, true_implies, implies_true, not_true_eq_false, not_false_eq_true, false_implies, forall_const, ne_eq, or_self, and_false, false_and, Lt, Le, Eq', Cp, In, nI_add, nI_mul, nI_sub, nI_sub1, Neg0, bI_eq0, bI_eq1, bI_01, bft, up2_eq, up2_no, Bool.true_eq_false, Bool.false_eq_true, eq_self, m1_ne, m1_ne2, m1_lt, m1_le, lt_m1, m1_le2, bI_t, bI_f, LK_st, FGu hG1, s3, hd0])
  refine rowsCopy_K hB.2.2.2.2.1 hB.2.1 (by omega) (by omega) (by omega) (by omega) fun I3 L3 e3 l3 c3 d3 => ?_
  (apply WP_runI (lv := lvK) (F := LK) LK_ok 999 20; simp (disch := first | decide | omega) only [t50_0, lift_c, o_aload0, o_getref, o_aload1, o_virt2, rpush_n, rpush_s, o_return, z0, z1, z2, z20, z31, runI_0, runI_c, runI_n, liftI_n, liftI_y, run_0, run_c, run_n, fxn, fxi, fxr, fxl, fxl0, ↓swi_n, ↓swi_c, nck0, nck1, nck2, nck3, List.length_cons, List.length_nil, Nat.reduceAdd, Nat.reduceSub, Nat.reduceLeDiff, Nat.reduceEqDiff, Nat.reduceLT, reduceIte, ite_true, ite_false, Nat.sub_zero, Nat.zero_le, true_and, and_true, and_self, true_or, or_true, if_true, if_false, true_implies, implies_true, not_true_eq_false, not_false_eq_true, false_implies, forall_const, ne_eq, or_self, and_false, false_and, Lt, Le, Eq', Cp, In, nI_add, nI_mul, nI_sub, nI_sub1, Neg0, bI_eq0, bI_eq1, bI_01, bft, up2_eq, up2_no, Bool.true_eq_false, Bool.false_eq_true, eq_self, m1_ne, m1_ne2, m1_lt, m1_le, lt_m1, m1_le2, bI_t, bI_f, LK_st, FGu hG1, s4, hd0])
  refine rowsCopy_K hB.2.2.2.2.2 hB.2.2.1 (by omega) (by omega) (by omega) (by omega) fun I4 L4 e4 l4 c4 d4 => ?_
  have q1 : ∀ a j, ¬ (53 ≤ a ∧ a ≤ 53 + 17) → I1 a j = I a j := fun a j q => e1 a j q
  have q2 : ∀ a j, ¬ (71 ≤ a ∧ a ≤ 71 + 3) → I2 a j = I1 a j := fun a j q => e2 a j q
  have q3 : ∀ a j, ¬ (75 ≤ a ∧ a ≤ 75 + 3) → I3 a j = I2 a j := fun a j q => e3 a j q
  have q4 : ∀ a j, ¬ (79 ≤ a ∧ a ≤ 79 + 3) → I4 a j = I3 a j := fun a j q => e4 a j q
  have hE : Eo keepWS I I4 := (((e1.mono fun a j q => ⟨by have := q.1; have := q.2; omega, by have := q.1; have := q.2; omega⟩).tr (e2.mono fun a j q => ⟨by have := q.1; have := q.2; omega, by have := q.1; have := q.2; omega⟩)).tr (e3.mono fun a j q => ⟨by have := q.1; have := q.2; omega, by have := q.1; have := q.2; omega⟩)).tr (e4.mono fun a j q => ⟨by have := q.1; have := q.2; omega, by have := q.1; have := q.2; omega⟩)
  have hEL : Eo keepWS L L4 := (((l1.mono fun a j q => ⟨by have := q.1; have := q.2; omega, by have := q.1; have := q.2; omega⟩).tr (l2.mono fun a j q => ⟨by have := q.1; have := q.2; omega, by have := q.1; have := q.2; omega⟩)).tr (l3.mono fun a j q => ⟨by have := q.1; have := q.2; omega, by have := q.1; have := q.2; omega⟩)).tr (l4.mono fun a j q => ⟨by have := q.1; have := q.2; omega, by have := q.1; have := q.2; omega⟩)
  have hD4 : YD sh I4 P1 53 N F E k g := ((hD1.eo hW.k6 e2 fun a j q => by have := q.1; have := q.2; omega).eo hW.k6 e3 fun a j q => by have := q.1; have := q.2; omega).eo hW.k6 e4 fun a j q => by have := q.1; have := q.2; omega
  have hR4 : RX I4 71 75 79 N := by
    refine hR.cp hS ?_ ?_ ?_ (fun j hj => ?_) (fun j hj => ?_) (fun j hj => ?_)
    · rw [q4 _ _ (by omega), q3 _ _ (by omega), d2, q1 _ _ (by omega)]
    · rw [q4 _ _ (by omega), d3, q2 _ _ (by omega), q1 _ _ (by omega)]
    · rw [d4, q3 _ _ (by omega), q2 _ _ (by omega), q1 _ _ (by omega)]
    · obtain ⟨w1, w2, w3⟩ := c2 j hj
      rw [q4 _ _ (by omega), q3 _ _ (by omega), w1, q4 _ _ (by omega), q3 _ _ (by omega), w2, q4 _ _ (by omega), q3 _ _ (by omega), w3, q1 _ _ (by omega), q1 _ _ (by omega), q1 _ _ (by omega)]
      exact ⟨rfl, rfl, rfl⟩
    · obtain ⟨w1, w2, w3⟩ := c3 j hj
      rw [q4 _ _ (by omega), w1, q4 _ _ (by omega), w2, q4 _ _ (by omega), w3, q2 _ _ (by omega), q1 _ _ (by omega), q2 _ _ (by omega), q1 _ _ (by omega), q2 _ _ (by omega), q1 _ _ (by omega)]
      exact ⟨rfl, rfl, rfl⟩
    · obtain ⟨w1, w2, w3⟩ := c4 j hj
      rw [w1, w2, w3, q3 _ _ (by omega), q2 _ _ (by omega), q1 _ _ (by omega), q3 _ _ (by omega), q2 _ _ (by omega), q1 _ _ (by omega), q3 _ _ (by omega), q2 _ _ (by omega), q1 _ _ (by omega)]
      exact ⟨rfl, rfl, rfl⟩
  have hQ := hQ I4 L4 hE hEL hD4 hR4
  (apply WP_runI (lv := lvK) (F := LK) LK_ok 999 20; simp (disch := first | decide | omega) only [t50_0, lift_c, o_aload0, o_getref, o_aload1, o_virt2, rpush_n, rpush_s, o_return, z0, z1, z2, z20, z31, runI_0, runI_c, runI_n, liftI_n, liftI_y, run_0, run_c, run_n, fxn, fxi, fxr, fxl, fxl0, ↓swi_n, ↓swi_c, nck0, nck1, nck2, nck3, List.length_cons, List.length_nil, Nat.reduceAdd, Nat.reduceSub, Nat.reduceLeDiff, Nat.reduceEqDiff, Nat.reduceLT, reduceIte, ite_true, ite_false, Nat.sub_zero, Nat.zero_le, true_and, and_true, and_self, true_or, or_true, if_true, if_false, true_implies, implies_true, not_true_eq_false, not_false_eq_true, false_implies, forall_const, ne_eq, or_self, and_false, false_and, Lt, Le, Eq', Cp, In, nI_add, nI_mul, nI_sub, nI_sub1, Neg0, bI_eq0, bI_eq1, bI_01, bft, up2_eq, up2_no, Bool.true_eq_false, Bool.false_eq_true, eq_self, m1_ne, m1_ne2, m1_lt, m1_le, lt_m1, m1_le2, bI_t, bI_f, LK_st, hd0])
  exact hQ
end
section
variable {G : GE} {d n : Nat} {sh : TS} {I : TI} {L : TL} {P : TP} {Q : TQ} {N : TN} {F : TF} {E : Nat → Int32} {k g r : Nat}
def backWS (a _ : Nat) : Prop := 22 ≤ a ∧ a ≤ 51
theorem backW_K (hA : FA sh P) (hW : WF N k g r) (hD : YD sh I P 53 N F E k g) (hR : RX I 71 75 79 N) (hS : WS N k) (hd : 5 ≤ d)
    (hQ : ∀ I' L', Eo backWS I I' → Eo backWS L L' → YD sh I' (up2 P 22 7 (P 53 7)) 22 N F E k g → RX I' 40 44 48 N → Q none n sh I' L' (up2 P 22 7 (P 53 7))) : Cl G d 50 [.ref 21, .ref 52] n sh I L P Q := by
  apply e50
  have hd0 : 0 < d := by omega
  have hG := hA.1
  have s1 : sh 22 = (8, 9) := (FYu hA.2.1).1
  have s2 : sh 40 = (5, 4) := (FRu hA.2.2.2.2.1).1
  have s3 : sh 44 = (5, 4) := (FRu hA.2.2.2.2.2.1).1
  have s4 : sh 48 = (5, 4) := (FRu hA.2.2.2.2.2.2.1).1
  (apply WP_runI (lv := lvK) (F := LK) LK_ok 999 20; simp (disch := first | decide | omega) only [t50_0, lift_c, o_aload0, o_getref, o_aload1, o_virt2, rpush_n, rpush_s, o_return, z0, z1, z2, z20, z31, runI_0, runI_c, runI_n, liftI_n, liftI_y, run_0, run_c, run_n, fxn, fxi, fxr, fxl, fxl0, ↓swi_n, ↓swi_c, nck0, nck1, nck2, nck3, List.length_cons, List.length_nil, Nat.reduceAdd, Nat.reduceSub, Nat.reduceLeDiff, Nat.reduceEqDiff, Nat.reduceLT, reduceIte, ite_true, ite_false, Nat.sub_zero, Nat.zero_le, true_and, and_true, and_self, true_or, or_true, if_true, if_false, true_implies, implies_true, not_true_eq_false, not_false_eq_true, false_implies, forall_const, ne_eq, or_self, and_false, false_and, Lt, Le, Eq', Cp, In, nI_add, nI_mul, nI_sub, nI_sub1, Neg0, bI_eq0, bI_eq1, bI_01, bft, up2_eq, up2_no, Bool.true_eq_false, Bool.false_eq_true, eq_self, m1_ne, m1_ne2, m1_lt, m1_le, lt_m1, m1_le2, bI_t, bI_f, LK_st, FGu hG, s1, hd0])
  refine copy_Y hD hW hA.2.1 (by omega) (by omega) (by omega) (show 2 ≤ d - 1 by omega) fun I1 L1 e1 l1 hD1 => ?_
  have hA1 : FA sh (up2 P 22 7 (P 53 7)) := hA.pb (Eo.rf.up ⟨by omega, rfl⟩ _)
  have hG1 := hA1.1
  have hB := hA1.2.2.2.2
  generalize up2 P 22 7 (P 53 7) = P1 at hD1 hA1 hG1 hB hQ ⊢
  (apply WP_runI (lv := lvK) (F := LK) LK_ok 999 20; simp (disch := first | decide | omega) only [t50_0, lift_c, o_aload0, o_getref, o_aload1, o_virt2, rpush_n, rpush_s, o_return, z0, z1, z2, z20, z31, runI_0, runI_c, runI_n, liftI_n, liftI_y, run_0, run_c, run_n, fxn, fxi, fxr, fxl, fxl0, ↓swi_n, ↓swi_c, nck0, nck1, nck2, nck3, List.length_cons, List.length_nil, Nat.reduceAdd, Nat.reduceSub, Nat.reduceLeDiff, Nat.reduceEqDiff, Nat.reduceLT, reduceIte, ite_true, ite_false, Nat.sub_zero, Nat.zero_le, true_and, and_true, and_self, true_or, or_true, if_true, if_false, true_implies, implies_true, not_true_eq_false, not_false_eq_true, false_implies, forall_const, ne_eq, or_self, and_false, false_and, Lt, Le, Eq', Cp, In, nI_add, nI_mul, nI_sub, nI_sub1, Neg0, bI_eq0, bI_eq1, bI_01, bft, up2_eq, up2_no, Bool.true_eq_false, Bool.false_eq_true, eq_self, m1_ne, m1_ne2, m1_lt, m1_le, lt_m1, m1_le2, bI_t, bI_f, LK_st, FGu hG1, s2, hd0])
  refine rowsCopy_K hB.1 hB.2.2.2.1 (by omega) (by omega) (by omega) (by omega) fun I2 L2 e2 l2 c2 d2 => ?_
  (apply WP_runI (lv := lvK) (F := LK) LK_ok 999 20; simp (disch := first | decide | omega) only [t50_0, lift_c, o_aload0, o_getref, o_aload1, o_virt2, rpush_n, rpush_s, o_return, z0, z1, z2, z20, z31, runI_0, runI_c, runI_n, liftI_n, liftI_y, run_0, run_c, run_n, fxn, fxi, fxr, fxl, fxl0, ↓swi_n, ↓swi_c, nck0, nck1, nck2, nck3, List.length_cons, List.length_nil, Nat.reduceAdd, Nat.reduceSub, Nat.reduceLeDiff, Nat.reduceEqDiff, Nat.reduceLT, reduceIte, ite_true, ite_false, Nat.sub_zero, Nat.zero_le, true_and, and_true, and_self, true_or, or_true, if_true, if_false, true_implies, implies_true, not_true_eq_false, not_false_eq_true, false_implies, forall_const, ne_eq, or_self, and_false, false_and, Lt, Le, Eq', Cp, In, nI_add, nI_mul, nI_sub, nI_sub1, Neg0, bI_eq0, bI_eq1, bI_01, bft, up2_eq, up2_no, Bool.true_eq_false, Bool.false_eq_true, eq_self, m1_ne, m1_ne2, m1_lt, m1_le, lt_m1, m1_le2, bI_t, bI_f, LK_st, FGu hG1, s3, hd0])
  refine rowsCopy_K hB.2.1 hB.2.2.2.2.1 (by omega) (by omega) (by omega) (by omega) fun I3 L3 e3 l3 c3 d3 => ?_
  (apply WP_runI (lv := lvK) (F := LK) LK_ok 999 20; simp (disch := first | decide | omega) only [t50_0, lift_c, o_aload0, o_getref, o_aload1, o_virt2, rpush_n, rpush_s, o_return, z0, z1, z2, z20, z31, runI_0, runI_c, runI_n, liftI_n, liftI_y, run_0, run_c, run_n, fxn, fxi, fxr, fxl, fxl0, ↓swi_n, ↓swi_c, nck0, nck1, nck2, nck3, List.length_cons, List.length_nil, Nat.reduceAdd, Nat.reduceSub, Nat.reduceLeDiff, Nat.reduceEqDiff, Nat.reduceLT, reduceIte, ite_true, ite_false, Nat.sub_zero, Nat.zero_le, true_and, and_true, and_self, true_or, or_true, if_true, if_false, true_implies, implies_true, not_true_eq_false, not_false_eq_true, false_implies, forall_const, ne_eq, or_self, and_false, false_and, Lt, Le, Eq', Cp, In, nI_add, nI_mul, nI_sub, nI_sub1, Neg0, bI_eq0, bI_eq1, bI_01, bft, up2_eq, up2_no, Bool.true_eq_false, Bool.false_eq_true, eq_self, m1_ne, m1_ne2, m1_lt, m1_le, lt_m1, m1_le2, bI_t, bI_f, LK_st, FGu hG1, s4, hd0])
  refine rowsCopy_K hB.2.2.1 hB.2.2.2.2.2 (by omega) (by omega) (by omega) (by omega) fun I4 L4 e4 l4 c4 d4 => ?_
  have q1 : ∀ a j, ¬ (22 ≤ a ∧ a ≤ 22 + 17) → I1 a j = I a j := fun a j q => e1 a j q
  have q2 : ∀ a j, ¬ (40 ≤ a ∧ a ≤ 40 + 3) → I2 a j = I1 a j := fun a j q => e2 a j q
  have q3 : ∀ a j, ¬ (44 ≤ a ∧ a ≤ 44 + 3) → I3 a j = I2 a j := fun a j q => e3 a j q
  have q4 : ∀ a j, ¬ (48 ≤ a ∧ a ≤ 48 + 3) → I4 a j = I3 a j := fun a j q => e4 a j q
  have hE : Eo backWS I I4 := (((e1.mono fun a j q => ⟨by have := q.1; have := q.2; omega, by have := q.1; have := q.2; omega⟩).tr (e2.mono fun a j q => ⟨by have := q.1; have := q.2; omega, by have := q.1; have := q.2; omega⟩)).tr (e3.mono fun a j q => ⟨by have := q.1; have := q.2; omega, by have := q.1; have := q.2; omega⟩)).tr (e4.mono fun a j q => ⟨by have := q.1; have := q.2; omega, by have := q.1; have := q.2; omega⟩)
  have hEL : Eo backWS L L4 := (((l1.mono fun a j q => ⟨by have := q.1; have := q.2; omega, by have := q.1; have := q.2; omega⟩).tr (l2.mono fun a j q => ⟨by have := q.1; have := q.2; omega, by have := q.1; have := q.2; omega⟩)).tr (l3.mono fun a j q => ⟨by have := q.1; have := q.2; omega, by have := q.1; have := q.2; omega⟩)).tr (l4.mono fun a j q => ⟨by have := q.1; have := q.2; omega, by have := q.1; have := q.2; omega⟩)
  have hD4 : YD sh I4 P1 22 N F E k g := ((hD1.eo hW.k6 e2 fun a j q => by have := q.1; have := q.2; omega).eo hW.k6 e3 fun a j q => by have := q.1; have := q.2; omega).eo hW.k6 e4 fun a j q => by have := q.1; have := q.2; omega
  have hR4 : RX I4 40 44 48 N := by
    refine hR.cp hS ?_ ?_ ?_ (fun j hj => ?_) (fun j hj => ?_) (fun j hj => ?_)
    · rw [q4 _ _ (by omega), q3 _ _ (by omega), d2, q1 _ _ (by omega)]
    · rw [q4 _ _ (by omega), d3, q2 _ _ (by omega), q1 _ _ (by omega)]
    · rw [d4, q3 _ _ (by omega), q2 _ _ (by omega), q1 _ _ (by omega)]
    · obtain ⟨w1, w2, w3⟩ := c2 j hj
      rw [q4 _ _ (by omega), q3 _ _ (by omega), w1, q4 _ _ (by omega), q3 _ _ (by omega), w2, q4 _ _ (by omega), q3 _ _ (by omega), w3, q1 _ _ (by omega), q1 _ _ (by omega), q1 _ _ (by omega)]
      exact ⟨rfl, rfl, rfl⟩
    · obtain ⟨w1, w2, w3⟩ := c3 j hj
      rw [q4 _ _ (by omega), w1, q4 _ _ (by omega), w2, q4 _ _ (by omega), w3, q2 _ _ (by omega), q1 _ _ (by omega), q2 _ _ (by omega), q1 _ _ (by omega), q2 _ _ (by omega), q1 _ _ (by omega)]
      exact ⟨rfl, rfl, rfl⟩
    · obtain ⟨w1, w2, w3⟩ := c4 j hj
      rw [w1, w2, w3, q3 _ _ (by omega), q2 _ _ (by omega), q1 _ _ (by omega), q3 _ _ (by omega), q2 _ _ (by omega), q1 _ _ (by omega), q3 _ _ (by omega), q2 _ _ (by omega), q1 _ _ (by omega)]
      exact ⟨rfl, rfl, rfl⟩
  have hQ := hQ I4 L4 hE hEL hD4 hR4
  (apply WP_runI (lv := lvK) (F := LK) LK_ok 999 20; simp (disch := first | decide | omega) only [t50_0, lift_c, o_aload0, o_getref, o_aload1, o_virt2, rpush_n, rpush_s, o_return, z0, z1, z2, z20, z31, runI_0, runI_c, runI_n, liftI_n, liftI_y, run_0, run_c, run_n, fxn, fxi, fxr, fxl, fxl0, ↓swi_n, ↓swi_c, nck0, nck1, nck2, nck3, List.length_cons, List.length_nil, Nat.reduceAdd, Nat.reduceSub, Nat.reduceLeDiff, Nat.reduceEqDiff, Nat.reduceLT, reduceIte, ite_true, ite_false, Nat.sub_zero, Nat.zero_le, true_and, and_true, and_self, true_or, or_true, if_true, if_false, true_implies, implies_true, not_true_eq_false, not_false_eq_true, false_implies, forall_const, ne_eq, or_self, and_false, false_and, Lt, Le, Eq', Cp, In, nI_add, nI_mul, nI_sub, nI_sub1, Neg0, bI_eq0, bI_eq1, bI_01, bft, up2_eq, up2_no, Bool.true_eq_false, Bool.false_eq_true, eq_self, m1_ne, m1_ne2, m1_lt, m1_le, lt_m1, m1_le2, bI_t, bI_f, LK_st, hd0])
  exact hQ
end
