/-! ### what holds between calls -/
theorem WP_SF {G : GE} {y d : Nat} {Q : TQ} {pc : Nat} {ls : List (Option Value)} {st : List Value} {c s n : Nat} {sh : TS} {I : TI} {L : TL} {P : TP} (h : SF G sh I P → WP G y d Q pc ls st c s n sh I L P) : WP G y d Q pc ls st c s n sh I L P :=
  fun p e S m args below meth cd R H locs cells slots lsr X M hS hL hlen h1 h2 => h M.2.2.1 p e S m args below meth cd R H locs cells slots lsr X M hS hL hlen h1 h2
def RK (I : TI) (N : TN) : Prop := I 71 3 = N 84 ∧ I 75 3 = N 100 ∧ I 79 3 = N 121 ∧
  (∀ s, s ≤ 10 → N 84 = nI s → ∀ j, j < s → I 72 j = N (85 + 3 * j) ∧ I 73 j = N (86 + 3 * j) ∧ I 74 j = N (87 + 3 * j)) ∧
  (∀ s, s ≤ 10 → N 100 = nI s → ∀ j, j < s → I 76 j = N (101 + 2 * j) ∧ I 77 j = N (102 + 2 * j)) ∧
  (∀ s, s ≤ 10 → N 121 = nI s → ∀ j, j < s → I 80 j = N (122 + 2 * j) ∧ I 81 j = N (123 + 2 * j))
def IVk (sh : TS) (I : TI) (P : TP) (F : TF) (E : Nat → Int32) (r : Nat) : Prop := I 20 2 = I 123 3 ∧ ((I 123 3 = nI 0 ∧ P 53 7 = 0) ∨ (I 123 3 = nI 1 ∧ ∃ k g, WF (I 126) k g r ∧ YD sh I P 53 (I 126) F E k g ∧ RK I (I 126) ∧ WS (I 126) k))
def IVr (I : TI) (r : Nat) : Prop := I 20 5 = nI r ∧ I 123 8 = nI r
def IVt (I : TI) : Prop := ∃ z, z ≤ 100 ∧ I 102 1 = nI z ∧ I 123 5 = nI z ∧ ∀ j, j < z → I 103 j = I 127 j ∧ ∃ u, u ≤ 127 ∧ I 127 j = nI u
def IVx (I : TI) : Prop := ∃ a, a ≤ 1000 ∧ I 108 1 = nI a ∧ I 123 24 = nI a ∧ ∀ j, j < a → j < 20 → I 109 j = I 138 j
def IVp (I : TI) (L : TL) : Prop := ∀ t, t < 6 → I (111 + 2 * t) 0 = I 139 t ∧ ((I (111 + 2 * t) 0 = -nI 1 ∧ I (111 + 2 * t) 1 = nI 0) ∨ ∃ s, s < 5 ∧ I (111 + 2 * t) 0 = nI s) ∧
  (∃ z, z ≤ 60 ∧ I (111 + 2 * t) 1 = nI z ∧ I 140 t = nI z) ∧ ∀ j, j < 60 → L (112 + 2 * t) j = L 141 (60 * t + j)
def bodV (j : Nat) : Int32 := ([nI 10, nI 11, nI 12, nI 0, nI 20, nI 0, nI 30, nI 0, nI 0, nI 0, nI 0, nI 40, nI 50, nI 51, nI 0, nI 0, nI 0, nI 60, nI 71, nI 70, nI 0] : List Int32).getD j 0
def IVm (I : TI) : Prop := (∀ j, j < 7 → I 136 j = aboveV j) ∧ ∀ j, j < 21 → I 137 j = bodV j
def IVz (n : Nat) (sh : TS) (P : TP) : Prop := (P 102 4 = 104 ∨ 143 ≤ P 102 4) ∧ P 102 4 + 4 ≤ n ∧ 143 ≤ n ∧ sh (P 102 4) = (2, 5) ∧ P (P 102 4) 1 = P 102 4 + 1 ∧ P (P 102 4) 2 = P 102 4 + 2 ∧ P (P 102 4) 3 = P 102 4 + 3 ∧ sh (P 102 4 + 1) = (100, 100) ∧ sh (P 102 4 + 2) = (100, 100) ∧ sh (P 102 4 + 3) = (100, 100) ∧
  (P 22 7 + 4 ≤ P 102 4 ∨ P 102 4 + 4 ≤ P 22 7) ∧ (P 53 7 + 4 ≤ P 102 4 ∨ P 102 4 + 4 ≤ P 53 7) ∧ P 22 7 + 4 ≤ n ∧ P 53 7 + 4 ≤ n
/-- all of it -/
def IW (n : Nat) (sh : TS) (I : TI) (L : TL) (P : TP) (F : TF) (E : Nat → Int32) (k g r : Nat) : Prop :=
  FM sh P ∧ FA sh P ∧ BK I F E k g r ∧ YD sh I P 22 (I 124) F E k g ∧ RD I (I 124) ∧ WS (I 124) k ∧ IVk sh I P F E r ∧ IVr I r ∧ IVt I ∧ IVx I ∧ IVp I L ∧ IVm I ∧ IVz n sh P
def IV (n : Nat) (sh : TS) (I : TI) (L : TL) (P : TP) : Prop := ∃ F E k g r, IW n sh I L P F E k g r
def qS (a j : Nat) : Prop := a = 27 ∨ (84 ≤ a ∧ a ≤ 101) ∨ a = 125 ∨ a = 130 ∨ a = 131 ∨ a = 135 ∨ (a = 123 ∧ 10 ≤ j ∧ j ≤ 15)
theorem scA_q {a j : Nat} (h : scA a j) : qS a j := by
  rcases h with (h | h | h) | h | h <;> unfold qS <;> omega
theorem scY_q {a j : Nat} (h : scY 84 a j) : qS a j := Or.inr (Or.inl ⟨h.1, h.2⟩)
section
variable {n : Nat} {sh : TS} {I I' : TI} {L L' : TL} {P P' : TP} {F : TF} {E : Nat → Int32} {k g r : Nat}
theorem RD.eo {N : TN} {S : Nat → Nat → Prop} (h : RD I N) (he : Eo S I I') (hS : ∀ a j, S a j → ¬ (40 ≤ a ∧ a ≤ 51)) : RD I' N := by
  have e : ∀ a j, (40 ≤ a ∧ a ≤ 51) → I' a j = I a j := fun a j ha => he a j fun q => hS a j q ha
  obtain ⟨h1, h2, h3, h4, h5, h6⟩ := h
  refine ⟨(e _ _ (by omega)).trans h1, (e _ _ (by omega)).trans h2, (e _ _ (by omega)).trans h3, fun s h10 hs j hj => ?_, fun s h10 hs j hj => ?_, fun s h10 hs j hj => ?_⟩
  · rw [e _ _ (by omega), e _ _ (by omega), e _ _ (by omega)]
    exact h4 s h10 hs j hj
  · rw [e _ _ (by omega), e _ _ (by omega)]
    exact h5 s h10 hs j hj
  · rw [e _ _ (by omega), e _ _ (by omega)]
    exact h6 s h10 hs j hj
theorem RK.eo {N : TN} {S : Nat → Nat → Prop} (h : RK I N) (he : Eo S I I') (hS : ∀ a j, S a j → ¬ (71 ≤ a ∧ a ≤ 82)) : RK I' N := by
  have e : ∀ a j, (71 ≤ a ∧ a ≤ 82) → I' a j = I a j := fun a j ha => he a j fun q => hS a j q ha
  obtain ⟨h1, h2, h3, h4, h5, h6⟩ := h
  refine ⟨(e _ _ (by omega)).trans h1, (e _ _ (by omega)).trans h2, (e _ _ (by omega)).trans h3, fun s h10 hs j hj => ?_, fun s h10 hs j hj => ?_, fun s h10 hs j hj => ?_⟩
  · rw [e _ _ (by omega), e _ _ (by omega), e _ _ (by omega)]
    exact h4 s h10 hs j hj
  · rw [e _ _ (by omega), e _ _ (by omega)]
    exact h5 s h10 hs j hj
  · rw [e _ _ (by omega), e _ _ (by omega)]
    exact h6 s h10 hs j hj
theorem IVk.eo {S : Nat → Nat → Prop} (h : IVk sh I P F E r) (he : Eo S I I') (hS : ∀ a j, S a j → ¬ (a = 20 ∨ (53 ≤ a ∧ a ≤ 82 ∧ ¬ a = 58) ∨ a = 123 ∧ j = 3 ∨ a = 126 ∨ 104 ≤ a ∧ a ≤ 107 ∨ 143 ≤ a)) : IVk sh I' P F E r := by
  have e : ∀ a j, (a = 20 ∨ (53 ≤ a ∧ a ≤ 82 ∧ ¬ a = 58) ∨ a = 123 ∧ j = 3 ∨ a = 126 ∨ 104 ≤ a ∧ a ≤ 107 ∨ 143 ≤ a) → I' a j = I a j := fun a j ha => he a j fun q => hS a j q ha
  have e126 : I' 126 = I 126 := funext fun j => e 126 j (by omega)
  unfold IVk at h ⊢
  rw [e 20 2 (by omega), e 123 3 (by omega), e126]
  refine ⟨h.1, ?_⟩
  rcases h.2 with h | ⟨h1, k, g, h2, h3, h4, h5⟩
  · exact Or.inl h
  · refine Or.inr ⟨h1, k, g, h2, h3.eo h2.k6 he (fun a j q => ?_), h4.eo he (fun a j q => ?_), h5⟩
    · have := hS a j q
      omega
    · have := hS a j q
      omega
theorem IVr.eo {S : Nat → Nat → Prop} (h : IVr I r) (he : Eo S I I') (hS : ∀ a j, S a j → ¬ (a = 20 ∧ j = 5 ∨ a = 123 ∧ j = 8)) : IVr I' r :=
  ⟨(he _ _ fun q => hS _ _ q (by omega)).trans h.1, (he _ _ fun q => hS _ _ q (by omega)).trans h.2⟩
theorem IVt.eo {S : Nat → Nat → Prop} (h : IVt I) (he : Eo S I I') (hS : ∀ a j, S a j → ¬ (a = 102 ∧ j = 1 ∨ a = 123 ∧ j = 5 ∨ a = 103 ∨ a = 127)) : IVt I' := by
  obtain ⟨z, h1, h2, h3, h4⟩ := h
  refine ⟨z, h1, (he _ _ fun q => hS _ _ q (by omega)).trans h2, (he _ _ fun q => hS _ _ q (by omega)).trans h3, fun j hj => ?_⟩
  rw [he 103 j fun q => hS _ _ q (by omega), he 127 j fun q => hS _ _ q (by omega)]
  exact h4 j hj
theorem IVx.eo {S : Nat → Nat → Prop} (h : IVx I) (he : Eo S I I') (hS : ∀ a j, S a j → ¬ (a = 108 ∧ j = 1 ∨ a = 123 ∧ j = 24 ∨ a = 109 ∨ a = 138)) : IVx I' := by
  obtain ⟨z, h1, h2, h3, h4⟩ := h
  refine ⟨z, h1, (he _ _ fun q => hS _ _ q (by omega)).trans h2, (he _ _ fun q => hS _ _ q (by omega)).trans h3, fun j hj hj2 => ?_⟩
  rw [he 109 j fun q => hS _ _ q (by omega), he 138 j fun q => hS _ _ q (by omega)]
  exact h4 j hj hj2
theorem IVp.eo {S T : Nat → Nat → Prop} (h : IVp I L) (he : Eo S I I') (hl : Eo T L L') (hS : ∀ a j, S a j → ¬ (111 ≤ a ∧ a ≤ 122 ∨ a = 139 ∨ a = 140)) (hT : ∀ a j, T a j → ¬ (111 ≤ a ∧ a ≤ 122 ∨ a = 141)) : IVp I' L' := fun t ht => by
  have e : ∀ a j, (111 ≤ a ∧ a ≤ 122 ∨ a = 139 ∨ a = 140) → I' a j = I a j := fun a j ha => he a j fun q => hS a j q ha
  have el : ∀ a j, (111 ≤ a ∧ a ≤ 122 ∨ a = 141) → L' a j = L a j := fun a j ha => hl a j fun q => hT a j q ha
  have := h t ht
  rw [e _ _ (by omega), e _ _ (by omega), e _ _ (by omega), e _ _ (by omega)]
  refine ⟨this.1, this.2.1, this.2.2.1, fun j hj => ?_⟩
  rw [el _ _ (by omega), el _ _ (by omega)]
  exact this.2.2.2 j hj
theorem IVm.eo {S : Nat → Nat → Prop} (h : IVm I) (he : Eo S I I') (hS : ∀ a j, S a j → ¬ (a = 136 ∨ a = 137)) : IVm I' :=
  ⟨fun j hj => (he _ _ fun q => hS _ _ q (by omega)).trans (h.1 j hj), fun j hj => (he _ _ fun q => hS _ _ q (by omega)).trans (h.2 j hj)⟩
theorem IVz.e7 (h : IVz n sh P) (he : Eo tr7 P P') : IVz n sh P' := by
  have e : ∀ a j, ¬ a = 84 → P' a j = P a j := fun a j ha => he a j fun q => ha q.1
  unfold IVz at h ⊢
  have h0 := h.1
  rw [e 102 4 (by omega), e 22 7 (by omega), e 53 7 (by omega), e (P 102 4) 1 (by omega), e (P 102 4) 2 (by omega), e (P 102 4) 3 (by omega)]
  exact h
theorem IVk.e7 (h : IVk sh I P F E r) (he : Eo tr7 P P') : IVk sh I P' F E r := by
  refine ⟨h.1, ?_⟩
  rcases h.2 with h | ⟨h1, k, g, h2, h3, h4, h5⟩
  · exact Or.inl ⟨h.1, (he 53 7 fun q => by have := q.1; omega).trans h.2⟩
  · exact Or.inr ⟨h1, k, g, h2, h3.e7 he (by omega), h4, h5⟩
theorem IW.quiet (h : IW n sh I L P F E k g r) (hI : Eo qS I I') (hL : Eo (scY 84) L L') (hP : Eo tr7 P P') : IW n sh I' L' P' F E k g r := by
  obtain ⟨h1, h2, h3, h4, h5, h6, h7, h8, h9, h10, h11, h12, h13⟩ := h
  have e124 : I' 124 = I 124 := funext fun j => hI 124 j (by unfold qS; omega)
  refine ⟨h1.e7 hP, h2.e7 hP, h3.2.1.eo hI (fun a j q => by unfold qS at q; omega) |> fun hr => ⟨by rw [e124]; exact h3.1, hr, by rw [show I' 128 = I 128 from funext fun j => hI 128 j (by unfold qS; omega), show I' 129 = I 129 from funext fun j => hI 129 j (by unfold qS; omega)]; exact h3.2.2.1, by rw [show I' 128 = I 128 from funext fun j => hI 128 j (by unfold qS; omega), show I' 129 = I 129 from funext fun j => hI 129 j (by unfold qS; omega)]; exact h3.2.2.2⟩, ?_, ?_, by rw [e124]; exact h6, (h7.eo hI fun a j q => by unfold qS at q; omega).e7 hP, h8.eo hI fun a j q => by unfold qS at q; omega, h9.eo hI fun a j q => by unfold qS at q; omega, h10.eo hI fun a j q => by unfold qS at q; omega, h11.eo hI hL (fun a j q => by unfold qS at q; omega) (fun a j q => by have q1 := q.1; have q2 := q.2; omega), h12.eo hI fun a j q => by unfold qS at q; omega, h13.e7 hP⟩
  · rw [e124]
    exact (h4.eo h3.1.k6 hI fun a j q => by unfold qS at q; omega).e7 hP (by omega)
  · rw [e124]
    exact h5.eo hI fun a j q => by unfold qS at q; omega
theorem IW.cb (h : IW n sh I L P F E k g r) : CB sh I P (I 124) F E k g r := ⟨h.2.1, h.2.2.2.1, h.2.2.1.1, h.2.2.1.eok⟩
theorem IW.cf (h : IW n sh I L P F E k g r) (hc : CF I L P I' L' P') : IW n sh I' L' P' F E k g r := h.quiet (hc.1.mono fun _ _ => scY_q) hc.2.1 hc.2.2
theorem IW.scA (h : IW n sh I L P F E k g r) (he : Eo scA I I') : IW n sh I' L P F E k g r := h.quiet (he.mono fun _ _ => scA_q) Eo.rf Eo.rf
theorem CF.n124 (hc : CF I L P I' L' P') : I' 124 = I 124 := funext fun j => hc.1 124 j fun q => by have q1 := q.1; have q2 := q.2; omega
end
/-- the class answers as the reference does -/
def PAIR (G : GE) (d a1 a2 : Nat) (as1 as2 : List Value) : Prop := ∀ (n : Nat) (sh : TS) (I : TI) (L : TL) (P : TP) (Q : TQ), IV n sh I L P →
  (∀ (v : Int32) n1 sh1 I1 L1 P1, (∀ Q2 : TQ, (∀ n2 sh2 I2 L2 P2, IV n2 sh2 I2 L2 P2 → Q2 (some (.int v)) n2 sh2 I2 L2 P2) → sh1 123 = (10, 29) ∧ Cl G d a2 as2 n1 sh1 I1 L1 P1 Q2) → Q (some (.int v)) n1 sh1 I1 L1 P1) → Cl G d a1 as1 n sh I L P Q
def PAIRL (G : GE) (d a1 a2 : Nat) (as1 as2 : List Value) : Prop := ∀ (n : Nat) (sh : TS) (I : TI) (L : TL) (P : TP) (Q : TQ), IV n sh I L P →
  (∀ (v : Int64) n1 sh1 I1 L1 P1, (∀ Q2 : TQ, (∀ n2 sh2 I2 L2 P2, IV n2 sh2 I2 L2 P2 → Q2 (some (.long v)) n2 sh2 I2 L2 P2) → sh1 123 = (10, 29) ∧ Cl G d a2 as2 n1 sh1 I1 L1 P1 Q2) → Q (some (.long v)) n1 sh1 I1 L1 P1) → Cl G d a1 as1 n sh I L P Q
