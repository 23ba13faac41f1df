/-! ### frames: new cells behind, the old ones as they were -/
section
variable {sh sh' : TS} {I I' : TI} {P P' : TP}
theorem FY.fr {b : Nat} (h : FY sh P b) (hs : ∀ a, b ≤ a → a ≤ b + 17 → sh' a = sh a) (hp : ∀ a j, b ≤ a → a ≤ b + 17 → ¬ j = 7 → P' a j = P a j) : FY sh' P' b := by
  obtain ⟨h1, h2, h3, h4, h5, h6, p0, p1, p2, p4, p8, q1, q2, q3, q4⟩ := h
  exact ⟨(hs _ (by omega) (by omega)).trans h1, (hs _ (by omega) (by omega)).trans h2, (hs _ (by omega) (by omega)).trans h3, (hs _ (by omega) (by omega)).trans h4, (hs _ (by omega) (by omega)).trans h5, (hs _ (by omega) (by omega)).trans h6,
    (hp _ _ (by omega) (by omega) (by omega)).trans p0, (hp _ _ (by omega) (by omega) (by omega)).trans p1, (hp _ _ (by omega) (by omega) (by omega)).trans p2, (hp _ _ (by omega) (by omega) (by omega)).trans p4, (hp _ _ (by omega) (by omega) (by omega)).trans p8,
    fun i hi => (hp _ _ (by omega) (by omega) (by omega)).trans (q1 i hi), fun i hi => (hs _ (by omega) (by omega)).trans (q2 i hi), fun i hi => (hs _ (by omega) (by omega)).trans (q3 i hi), fun i hi => (hp _ _ (by omega) (by omega) (by omega)).trans (q4 i hi)⟩
theorem FR.fr {a z : Nat} (h : FR sh P a z) (hs : ∀ c, a ≤ c → c ≤ a + 3 → sh' c = sh c) (hp : ∀ j, ¬ j = 7 → P' a j = P a j) : FR sh' P' a z := by
  obtain ⟨h1, h2, h3, h4, p0, p1, p2⟩ := h
  exact ⟨(hs _ (by omega) (by omega)).trans h1, (hs _ (by omega) (by omega)).trans h2, (hs _ (by omega) (by omega)).trans h3, (hs _ (by omega) (by omega)).trans h4, (hp _ (by omega)).trans p0, (hp _ (by omega)).trans p1, (hp _ (by omega)).trans p2⟩
theorem FG.fr (h : FG sh P) (hs : ∀ a, a < 143 → sh' a = sh a) (e : ∀ a j, a < 143 → ¬ (a = 102 ∧ j = 4) → ¬ (a = 22 ∧ j = 7) → P' a j = P a j) : FG sh' P' := by
  unfold FG at h ⊢
  rw [e 20 0 (by omega) (by omega) (by omega), e 20 1 (by omega) (by omega) (by omega), e 20 3 (by omega) (by omega) (by omega), e 20 4 (by omega) (by omega) (by omega), e 20 6 (by omega) (by omega) (by omega), e 20 7 (by omega) (by omega) (by omega), e 21 0 (by omega) (by omega) (by omega), e 21 1 (by omega) (by omega) (by omega), e 21 2 (by omega) (by omega) (by omega), e 21 3 (by omega) (by omega) (by omega), e 52 0 (by omega) (by omega) (by omega), e 52 1 (by omega) (by omega) (by omega), e 52 2 (by omega) (by omega) (by omega), e 52 3 (by omega) (by omega) (by omega), e 83 0 (by omega) (by omega) (by omega), e 102 0 (by omega) (by omega) (by omega), e 108 0 (by omega) (by omega) (by omega), hs 20 (by omega), hs 21 (by omega), hs 52 (by omega), hs 83 (by omega), hs 102 (by omega), hs 103 (by omega), hs 108 (by omega), hs 109 (by omega), hs 110 (by omega)]
  refine ⟨h.1, h.2.1, h.2.2.1, h.2.2.2.1, h.2.2.2.2.1, h.2.2.2.2.2.1, h.2.2.2.2.2.2.1, h.2.2.2.2.2.2.2.1, h.2.2.2.2.2.2.2.2.1, h.2.2.2.2.2.2.2.2.2.1, h.2.2.2.2.2.2.2.2.2.2.1, h.2.2.2.2.2.2.2.2.2.2.2.1, h.2.2.2.2.2.2.2.2.2.2.2.2.1, h.2.2.2.2.2.2.2.2.2.2.2.2.2.1, h.2.2.2.2.2.2.2.2.2.2.2.2.2.2.1, h.2.2.2.2.2.2.2.2.2.2.2.2.2.2.2.1, h.2.2.2.2.2.2.2.2.2.2.2.2.2.2.2.2.1, h.2.2.2.2.2.2.2.2.2.2.2.2.2.2.2.2.2.1, h.2.2.2.2.2.2.2.2.2.2.2.2.2.2.2.2.2.2.1, h.2.2.2.2.2.2.2.2.2.2.2.2.2.2.2.2.2.2.2.1, h.2.2.2.2.2.2.2.2.2.2.2.2.2.2.2.2.2.2.2.2.1, h.2.2.2.2.2.2.2.2.2.2.2.2.2.2.2.2.2.2.2.2.2.1, h.2.2.2.2.2.2.2.2.2.2.2.2.2.2.2.2.2.2.2.2.2.2.1, h.2.2.2.2.2.2.2.2.2.2.2.2.2.2.2.2.2.2.2.2.2.2.2.1, h.2.2.2.2.2.2.2.2.2.2.2.2.2.2.2.2.2.2.2.2.2.2.2.2.1, h.2.2.2.2.2.2.2.2.2.2.2.2.2.2.2.2.2.2.2.2.2.2.2.2.2.1, ?_⟩
  obtain ⟨q1, q2, q3, q4⟩ := h.2.2.2.2.2.2.2.2.2.2.2.2.2.2.2.2.2.2.2.2.2.2.2.2.2.2
  exact ⟨fun i hi => (e _ _ (by omega) (by omega) (by omega)).trans (q1 i hi), fun i hi => (hs _ (by omega)).trans (q2 i hi), fun i hi => (hs _ (by omega)).trans (q3 i hi), fun i hi => (e _ _ (by omega) (by omega) (by omega)).trans (q4 i hi)⟩
theorem FA.fr (h : FA sh P) (hs : ∀ a, a < 143 → sh' a = sh a) (e : ∀ a j, a < 143 → ¬ (a = 102 ∧ j = 4) → ¬ (a = 22 ∧ j = 7) → P' a j = P a j) : FA sh' P' := by
  obtain ⟨h1, h2, h3, h4, h5, h6, h7, h8, h9, h10⟩ := h
  have hy : ∀ b, b ≤ 84 → FY sh P b → FY sh' P' b := fun b hb q => q.fr (fun a ha hb => hs a (by omega)) (fun a j ha hb hj => e a j (by omega) (by omega) (by omega))
  have hr : ∀ b z, b ≤ 79 → FR sh P b z → FR sh' P' b z := fun b z hb q => q.fr (fun a ha hb => hs a (by omega)) (fun j hj => e b j (by omega) (by omega) (by omega))
  exact ⟨h1.fr hs e, hy _ (by omega) h2, hy _ (by omega) h3, hy _ (by omega) h4, hr _ _ (by omega) h5, hr _ _ (by omega) h6, hr _ _ (by omega) h7, hr _ _ (by omega) h8, hr _ _ (by omega) h9, hr _ _ (by omega) h10⟩
theorem FM.fr (h : FM sh P) (hs : ∀ a, a < 143 → sh' a = sh a) (e : ∀ j, P' 123 j = P 123 j) : FM sh' P' := by
  unfold FM at h ⊢
  simp only [e]
  rw [hs 123 (by omega), hs 124 (by omega), hs 125 (by omega), hs 126 (by omega), hs 127 (by omega), hs 128 (by omega), hs 129 (by omega), hs 130 (by omega), hs 131 (by omega), hs 132 (by omega), hs 133 (by omega), hs 134 (by omega), hs 135 (by omega), hs 136 (by omega), hs 137 (by omega), hs 138 (by omega), hs 139 (by omega), hs 140 (by omega), hs 141 (by omega), hs 142 (by omega)]
  exact h
theorem FO.fr {q : Nat} {a : List SP} {e : Int32} (h : FO sh I P q a e) (hs : ∀ c, q ≤ c → c ≤ q + 3 → sh' c = sh c) (hi : ∀ c j, q ≤ c → c ≤ q + 3 → I' c j = I c j) (hp : ∀ c j, q ≤ c → c ≤ q + 3 → P' c j = P c j) : FO sh' I' P' q a e := by
  obtain ⟨h1, h2, h3, h4, h5, h6, h7, h8, h9, h10, h11, h12⟩ := h
  refine ⟨h1, (hs _ (by omega) (by omega)).trans h2, (hp _ _ (by omega) (by omega)).trans h3, (hp _ _ (by omega) (by omega)).trans h4, (hp _ _ (by omega) (by omega)).trans h5, (hs _ (by omega) (by omega)).trans h6, (hs _ (by omega) (by omega)).trans h7, (hs _ (by omega) (by omega)).trans h8, h9, (hi _ _ (by omega) (by omega)).trans h10, (hi _ _ (by omega) (by omega)).trans h11, fun j x hx => ?_⟩
  rw [hi _ _ (by omega) (by omega), hi _ _ (by omega) (by omega), hi _ _ (by omega) (by omega)]
  exact h12 j x hx
theorem HO.fr {q u : Nat} {F F' : TF} {E E' : Nat → Int32} (h : HO sh I P q u F E) (hs : ∀ c, 0 < q → q ≤ c → c ≤ q + 3 → sh' c = sh c) (hi : ∀ c j, 0 < q → q ≤ c → c ≤ q + 3 → I' c j = I c j) (hp : ∀ c j, 0 < q → q ≤ c → c ≤ q + 3 → P' c j = P c j) (hF : ∀ nm, F' u nm = F u nm) (hE : E' u = E u) : HO sh' I' P' q u F' E' := by
  refine ⟨fun hu => ?_, fun hu => ?_⟩
  · obtain ⟨h1, h2, h3⟩ := h.1 hu
    subst hu
    exact ⟨h1, hE.trans h2, fun nm => (hF nm).trans (h3 nm)⟩
  · obtain ⟨a, h1, h2, h3, h4⟩ := h.2 hu
    have hq : 0 < q := by have := h1.1; omega
    refine ⟨a, ?_, h2, h3, fun nm => (hF nm).trans (h4 nm)⟩
    rw [hE]
    exact h1.fr (fun c => hs c hq) (fun c j => hi c j hq) (fun c j => hp c j hq)
theorem YD.fr {b : Nat} {N : TN} {F F' : TF} {E E' : Nat → Int32} {k g : Nat} (h : YD sh I P b N F E k g) (hk : k ≤ 6) (h7 : P' b 7 = P b 7) (hs : ∀ c, (b ≤ c ∧ c ≤ b + 17 ∨ 0 < P b 7 ∧ P b 7 ≤ c ∧ c ≤ P b 7 + 3) → sh' c = sh c) (hi : ∀ c j, (b ≤ c ∧ c ≤ b + 17 ∨ 0 < P b 7 ∧ P b 7 ≤ c ∧ c ≤ P b 7 + 3) → I' c j = I c j)
    (hp : ∀ c j, (b ≤ c ∧ c ≤ b + 17 ∧ ¬ j = 7 ∨ 0 < P b 7 ∧ P b 7 ≤ c ∧ c ≤ P b 7 + 3) → P' c j = P c j) (hF : ∀ nm, F' (rl N) nm = F (rl N) nm) (hE : E' (rl N) = E (rl N)) : YD sh' I' P' b N F' E' k g := by
  have e0 : ∀ c j, b ≤ c → c ≤ b + 17 → I' c j = I c j := fun c j h1 h2 => hi c j (Or.inl ⟨h1, h2⟩)
  refine ⟨h.y.fr (fun a h1 h2 => hs a (Or.inl ⟨h1, h2⟩)) (fun a j h1 h2 h3 => hp a j (Or.inl ⟨h1, h2, h3⟩)), (e0 _ _ (by omega) (by omega)).trans h.gates, (e0 _ _ (by omega) (by omega)).trans h.count, (e0 _ _ (by omega) (by omega)).trans h.hour, fun c hc => (e0 _ _ (by omega) (by omega)).trans (h.grain c hc), fun j hj => (e0 _ _ (by omega) (by omega)).trans (h.one j hj), fun j hj => (e0 _ _ (by omega) (by omega)).trans (h.other j hj), fun i w hi' hw => (e0 _ _ (by omega) (by omega)).trans (h.geese i w hi' hw), fun i w hi' hw => (e0 _ _ (by omega) (by omega)).trans (h.rows i w hi' hw), ?_⟩
  rw [h7]
  exact h.holds.fr (fun c h0 h1 h2 => hs c (Or.inr ⟨h0, h1, h2⟩)) (fun c j h0 h1 h2 => hi c j (Or.inr ⟨h0, h1, h2⟩)) (fun c j h0 h1 h2 => hp c j (Or.inr ⟨h0, h1, h2⟩)) hF hE
end
theorem HO.at {sh : TS} {I : TI} {P : TP} {q u : Nat} {F : TF} {E : Nat → Int32} (h : HO sh I P q u F E) : q = 0 ∨ q = 104 ∨ 143 ≤ q := by
  rcases Nat.eq_zero_or_pos u with h0 | h0
  · exact Or.inl (h.1 h0).1
  · obtain ⟨a, h1, -⟩ := h.2 h0
    exact Or.inr h1.1
/-! a rule that comes changes none of those before -/
def rcg (R S R' S' : TN) (u : Nat) : Prop := S' u = S u ∧ ∃ z, z ≤ 100 ∧ S u = nI z ∧ ∀ j, j < 100 → R' (100 * u + j) = R (100 * u + j)
theorem rea_rcg {R S R' S' : TN} {u : Nat} (h : rcg R S R' S' u) : reaS (rtx R' u) (rsz S' u) = reaS (rtx R u) (rsz S u) := by
  obtain ⟨h1, z, hz, h2, h3⟩ := h
  have e : rsz S u = z := by show (S u).toNatClampNeg = z; rw [h2, Cp _ (by omega)]
  have e' : rsz S' u = z := by show (S' u).toNatClampNeg = z; rw [h1, h2, Cp _ (by omega)]
  rw [e, e']
  exact reaS_cg fun j hj => h3 j (by omega)
theorem FF_cg {R S R' S' : TN} {u : Nat} (h : 0 < u → rcg R S R' S' (u - 1)) (nm : TN) : FF R' S' u nm = FF R S u nm := by
  unfold FF
  by_cases h0 : u = 0
  · rw [if_pos h0, if_pos h0]
  · rw [if_neg h0, if_neg h0, rea_rcg (h (by omega))]
theorem EE_cg {R S R' S' : TN} {u : Nat} (h : 0 < u → rcg R S R' S' (u - 1)) : EE R' S' u = EE R S u := by
  unfold EE
  by_cases h0 : u = 0
  · rw [if_pos h0, if_pos h0]
  · rw [if_neg h0, if_neg h0, rea_rcg (h (by omega))]
theorem WF.more {N : TN} {k g r r' : Nat} (h : WF N k g r) (hr : r ≤ r') (h6 : r' ≤ 6) : WF N k g r' := by
  obtain ⟨u, h1, h2⟩ := h.n83
  exact ⟨h.1, h.2.1, h.2.2.1, h.2.2.2.1, h6, ⟨u, by omega, h2⟩, h.2.2.2.2.2.2⟩
/-! the text is no fortress -/
def ffS (q a j : Nat) : Prop := a = 102 ∨ (q ≤ a ∧ a ≤ q + 3) ∨ (a = 123 ∧ (j = 5 ∨ 10 ≤ j ∧ j ≤ 15)) ∨ a = 130
theorem IW.fortF {n : Nat} {sh : TS} {I I' : TI} {L : TL} {P : TP} {F : TF} {E : Nat → Int32} {k g r : Nat} (h : IW n sh I L P F E k g r) (hI : Eo (ffS (P 102 4)) I I') (e1 : I' 102 1 = nI 0) (e2 : I' 123 5 = nI 0) : IW n sh I' L P F E k g r := by
  obtain ⟨h1, h2, h3, h4, h5, h6, h7, h8, h9, h10, h11, h12, h13⟩ := h
  have hz := h13
  obtain ⟨y1, y2, y3, -, -, -, -, -, -, -, y4, y5, -, -⟩ := h13
  have e : ∀ a j, ¬ ffS (P 102 4) a j → I' a j = I a j := hI
  have e124 : I' 124 = I 124 := funext fun j => e 124 j (by unfold ffS; omega)
  have e126 : I' 126 = I 126 := funext fun j => e 126 j (by unfold ffS; omega)
  have e128 : I' 128 = I 128 := funext fun j => e 128 j (by unfold ffS; omega)
  have e129 : I' 129 = I 129 := funext fun j => e 129 j (by unfold ffS; omega)
  refine ⟨h1, h2, ⟨by rw [e124]; exact h3.1, h3.2.1.eo hI (fun a j q => by unfold ffS at q; omega), by rw [e128, e129]; exact h3.2.2.1, by rw [e128, e129]; exact h3.2.2.2⟩, ?_, ?_, by rw [e124]; exact h6, ?_, h8.eo hI fun a j q => by unfold ffS at q; omega, ⟨0, by omega, e1, e2, fun j hj => by omega⟩, h10.eo hI fun a j q => by unfold ffS at q; omega, h11.eo (T := fun _ _ => False) hI Eo.rf (fun a j q => by unfold ffS at q; omega) (fun a j q => q.elim), h12.eo hI fun a j q => by unfold ffS at q; omega, hz⟩
  · rw [e124]
    have a22 := h4.holds.at
    exact h4.fr h3.1.k6 rfl (fun _ _ => rfl) (fun c j w => e c j (by unfold ffS; omega)) (fun _ _ _ => rfl) (fun _ => rfl) rfl
  · rw [e124]
    exact h5.eo hI fun a j q => by unfold ffS at q; omega
  · unfold IVk at h7 ⊢
    rw [e 20 2 (by unfold ffS; omega), e 123 3 (by unfold ffS; omega), e126]
    refine ⟨h7.1, ?_⟩
    rcases h7.2 with h | ⟨h1, k', g', w2, w3, w4, w5⟩
    · exact Or.inl h
    · have a53 := w3.holds.at
      exact Or.inr ⟨h1, k', g', w2, w3.fr w2.k6 rfl (fun _ _ => rfl) (fun c j w => e c j (by unfold ffS; omega)) (fun _ _ _ => rfl) (fun _ => rfl) rfl, w4.eo hI fun a j q => by unfold ffS at q; omega, w5⟩
/-! the text is a fortress -/
def fsS (q r n a j : Nat) : Prop := ffS q a j ∨ (a = 20 ∧ j = 5) ∨ (a = 123 ∧ j = 8) ∨ (a = 128 ∧ 100 * r ≤ j ∧ j < 100 * r + 100) ∨ (a = 129 ∧ j = r) ∨ (a = 124 ∧ j = 83) ∨ n ≤ a
theorem IW.fortS {n : Nat} {sh sh' : TS} {I I' : TI} {L L' : TL} {P P' : TP} {F : TF} {E : Nat → Int32} {k g r z : Nat} {t : TN} (h : IW n sh I L P F E k g r) (hr : r < 6) (hz : z ≤ 100) (hok : okS t z = true)
    (hs : ∀ a, a < n → sh' a = sh a) (hI : Eo (fsS (P 102 4) r n) I I') (hL : Eo (fun a _ => n ≤ a) L L') (hP : ∀ a j, a < n → ¬ (a = 102 ∧ j = 4) → ¬ (a = 22 ∧ j = 7) → P' a j = P a j) (p4 : P' 102 4 = n) (p7 : P' 22 7 = P 102 4)
    (n0 : sh' n = (2, 5)) (n1 : P' n 1 = n + 1) (n2 : P' n 2 = n + 2) (n3 : P' n 3 = n + 3) (n4 : sh' (n + 1) = (100, 100)) (n5 : sh' (n + 2) = (100, 100)) (n6 : sh' (n + 3) = (100, 100))
    (e1 : I' 102 1 = nI 0) (e2 : I' 123 5 = nI 0) (e3 : I' 20 5 = nI (r + 1)) (e4 : I' 123 8 = nI (r + 1)) (e5 : I' 129 r = nI z) (e6 : ∀ j, j < z → I' 128 (100 * r + j) = t j) (e7 : I' 124 83 = nI (r + 1))
    (s1 : SA I' (P 102 4) (reaS t z).2.1) (s2 : I' (P 102 4) 0 = (reaS t z).2.2) : IW (n + 4) sh' I' L' P' (FF (I' 128) (I' 129)) (EE (I' 128) (I' 129)) k g (r + 1) := by
  obtain ⟨h1, h2, h3, h4, h5, h6, h7, h8, h9, h10, h11, h12, h13⟩ := h
  obtain ⟨y1, y2, y3, zz1, zz2, zz3, zz4, zz5, zz6, zz7, y4, y5, y6, y7⟩ := h13
  have hq := y1
  generalize hqq : P 102 4 = q at *
  have e : ∀ a j, ¬ fsS q r n a j → I' a j = I a j := hI
  have hg9 := h3.1.g9
  have hk6 := h3.1.k6
  have rok : (reaS t z).1.2 = true := by
    have h := hok
    unfold okS at h
    rw [Bool.and_eq_true] at h
    exact h.1
  have n124 : ∀ j, ¬ j = 83 → I' 124 j = I 124 j := fun j hj => e 124 j (by unfold fsS ffS; omega)
  have e126 : I' 126 = I 126 := funext fun j => e 126 j (by unfold fsS ffS; omega)
  have hFM : FM sh' P' := h1.fr (fun a ha => hs a (by omega)) (fun j => hP 123 j (by omega) (by omega) (by omega))
  have hFA : FA sh' P' := h2.fr (fun a ha => hs a (by omega)) (fun a j ha x1 x2 => hP a j (by omega) x1 x2)
  -- the rules
  have hrc : ∀ u, u < r → rcg (I 128) (I 129) (I' 128) (I' 129) u := fun u hu => by
    obtain ⟨zu, g1, g2, -⟩ := h3.2.1.2 u hu
    exact ⟨e 129 u (by unfold fsS ffS; omega), zu, g1, g2, fun j hj => e 128 _ (by unfold fsS ffS; omega)⟩
  have hFF : ∀ u, u ≤ r → ∀ nm, FF (I' 128) (I' 129) u nm = F u nm := fun u hu nm => by
    rw [FF_cg (R := I 128) (S := I 129) fun h0 => hrc (u - 1) (by omega), h3.2.2.1]
  have hEE : ∀ u, u ≤ r → EE (I' 128) (I' 129) u = E u := fun u hu => by
    rw [EE_cg (R := I 128) (S := I 129) fun h0 => hrc (u - 1) (by omega), h3.2.2.2]
  have hts : ∀ j, j < z → rtx (I' 128) r j = t j := fun j hj => e6 j hj
  have hrs : rsz (I' 129) r = z := by show (I' 129 r).toNatClampNeg = z; rw [e5, Cp _ (by omega)]
  have hRV : RV I' (r + 1) := fun u hu => by
    by_cases ur : u = r
    · subst ur
      exact ⟨z, hz, e5, by rw [okS_cg hts]; exact hok⟩
    · obtain ⟨zu, g1, g2, g3⟩ := h3.2.1.2 u (by omega)
      refine ⟨zu, g1, (e 129 u (by unfold fsS ffS; omega)).trans g2, ?_⟩
      rw [okS_cg (t := rtx (I' 128) u) (t' := rtx (I 128) u) (z := zu) fun j hj => e 128 _ (by unfold fsS ffS; omega)]
      exact g3
  have hgs : ∀ i w, i < k → w < 9 → gs (I' 124) i w = gs (I 124) i w := fun i w hi hw => n124 _ (by omega)
  have hed : ∀ j w, j < g → w < 2 → ed (I' 124) j w = ed (I 124) j w := fun j w hj hw => n124 _ (by omega)
  have hW' : WF (I' 124) k g (r + 1) := by
    have hW := h3.1
    refine ⟨hk6, (n124 _ (by omega)).trans hW.n80, hg9, (n124 _ (by omega)).trans hW.n81, hr, ⟨r + 1, Nat.le_refl _, e7⟩, fun i hi => ?_, fun j w hj hw => ?_, fun c hc => ?_, fun i hi => ?_, fun i hi => ?_, fun i hi => ?_, fun i hi => ?_⟩
    · rw [hgs i 2 hi (by omega)]; exact hW.court hi
    · rw [hed j w hj hw]; exact hW.ends hj hw
    · rw [n124 c (by omega)]; exact hW.grain hc
    · rw [hgs i 3 hi (by omega)]; exact hW.key hi
    · rw [hgs i 0 hi (by omega)]; exact hW.kind hi
    · rw [hgs i 1 hi (by omega)]; exact hW.v9 hi
    · rw [hgs i 4 hi (by omega)]; exact hW.taken hi
  have hrl : rl (I' 124) = r + 1 := by show (I' 124 83).toNatClampNeg = r + 1; rw [e7, Cp _ (by omega)]
  have hD' : YD sh' I' P' 22 (I' 124) (FF (I' 128) (I' 129)) (EE (I' 128) (I' 129)) k g := by
    have i22 : ∀ c j, 22 ≤ c → c ≤ 39 → I' c j = I c j := fun c j c1 c2 => e c j (by unfold fsS ffS; omega)
    refine ⟨hFA.2.1, (i22 _ _ (by omega) (by omega)).trans h4.gates, (i22 _ _ (by omega) (by omega)).trans h4.count, ?_, fun c hc => ?_, fun j hj => ?_, fun j hj => ?_, fun i w hi hw => ?_, fun i w hi hw => ?_, fun hu => ?_, fun hu => ?_⟩
    · rw [i22 _ _ (by omega) (by omega), n124 82 (by omega)]; exact h4.hour
    · rw [i22 _ _ (by omega) (by omega), n124 c (by omega)]; exact h4.grain c hc
    · rw [i22 _ _ (by omega) (by omega), hed j 0 hj (by omega)]; exact h4.one j hj
    · rw [i22 _ _ (by omega) (by omega), hed j 1 hj (by omega)]; exact h4.other j hj
    · rw [i22 _ _ (by omega) (by omega), hgs i w hi (by omega)]; exact h4.geese i w hi hw
    · rw [i22 _ _ (by omega) (by omega), hgs i (5 + w) hi (by omega)]; exact h4.rows i w hi hw
    · rw [hrl] at hu
      omega
    · have hrr : reaS (rtx (I' 128) r) (rsz (I' 129) r) = reaS t z := by rw [hrs]; exact reaS_cg hts
      refine ⟨(reaS t z).2.1, ?_, (reaS_all rok).2.1, reaS_dok rok, fun nm => ?_⟩
      · rw [p7, hrl]
        refine ⟨hq, (hs _ (by omega)).trans zz1, (hP _ _ (by omega) (by omega) (by omega)).trans zz2, (hP _ _ (by omega) (by omega) (by omega)).trans zz3, (hP _ _ (by omega) (by omega) (by omega)).trans zz4, (hs _ (by omega)).trans zz5, (hs _ (by omega)).trans zz6, (hs _ (by omega)).trans zz7, s1.1, s1.2.1, ?_, s1.2.2⟩
        rw [s2]
        unfold EE
        rw [if_neg (by omega), Nat.add_sub_cancel, hrr]
      · rw [hrl]
        unfold FF
        rw [if_neg (by omega), Nat.add_sub_cancel, hrr]
  have hT : TB I' := h3.2.1.1.eo hI fun a j x => by unfold fsS ffS at x; omega
  refine ⟨hFM, hFA, ⟨hW', ⟨hT, hRV⟩, rfl, rfl⟩, hD', ?_, ?_, ?_, ⟨e3, e4⟩, ⟨0, by omega, e1, e2, fun j hj => by omega⟩, h10.eo hI fun a j x => by unfold fsS ffS at x; omega, h11.eo hI hL (fun a j x => by unfold fsS ffS at x; omega) (fun a j x => by omega), h12.eo hI fun a j x => by unfold fsS ffS at x; omega, ?_⟩
  · have hR : RD I (I' 124) := by
      obtain ⟨r1, r2, r3, r4, r5, r6⟩ := h5
      refine ⟨r1.trans (n124 _ (by omega)).symm, r2.trans (n124 _ (by omega)).symm, r3.trans (n124 _ (by omega)).symm, fun s h10 hs j hj => ?_, fun s h10 hs j hj => ?_, fun s h10 hs j hj => ?_⟩
      · rw [n124 _ (by omega), n124 _ (by omega), n124 _ (by omega)]
        exact r4 s h10 ((n124 _ (by omega)).symm.trans hs) j hj
      · rw [n124 _ (by omega), n124 _ (by omega)]
        exact r5 s h10 ((n124 _ (by omega)).symm.trans hs) j hj
      · rw [n124 _ (by omega), n124 _ (by omega)]
        exact r6 s h10 ((n124 _ (by omega)).symm.trans hs) j hj
    exact hR.eo hI fun a j x => by unfold fsS ffS at x; omega
  · obtain ⟨⟨s, w1, w2, w3⟩, ⟨p, w4, w5, w6⟩, ⟨b, w7, w8, w9⟩⟩ := h6
    refine ⟨⟨s, w1, (n124 _ (by omega)).trans w2, fun j hj => ?_⟩, ⟨p, w4, (n124 _ (by omega)).trans w5, fun j hj => ?_⟩, ⟨b, w7, (n124 _ (by omega)).trans w8, fun j hj => ?_⟩⟩
    · rw [n124 _ (by omega), n124 _ (by omega), n124 _ (by omega)]
      exact w3 j hj
    · rw [n124 _ (by omega), n124 _ (by omega)]
      exact w6 j hj
    · rw [n124 _ (by omega), n124 _ (by omega)]
      exact w9 j hj
  · unfold IVk at h7 ⊢
    rw [e 20 2 (by unfold fsS ffS; omega), e 123 3 (by unfold fsS ffS; omega), e126, hP 53 7 (by omega) (by omega) (by omega)]
    refine ⟨h7.1, ?_⟩
    rcases h7.2 with h | ⟨h1, k', g', w2, w3, w4, w5⟩
    · exact Or.inl h
    · have hrl2 := w2.rule.1
      have a53 := w3.holds.at
      exact Or.inr ⟨h1, k', g', w2.more (by omega) (by omega), w3.fr w2.k6 (hP 53 7 (by omega) (by omega) (by omega)) (fun c w => hs c (by omega)) (fun c j w => e c j (by unfold fsS ffS; omega)) (fun c j w => hP c j (by omega) (by omega) (by omega)) (hFF _ hrl2) (hEE _ hrl2), w4.eo hI fun a j x => by unfold fsS ffS at x; omega, w5⟩
  · unfold IVz
    rw [p4, p7, hP 53 7 (by omega) (by omega) (by omega)]
    exact ⟨Or.inr y3, by omega, by omega, n0, n1, n2, n3, n4, n5, n6, by omega, by omega, by omega, by omega⟩
