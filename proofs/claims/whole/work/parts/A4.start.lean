/-! ### what holds between calls holds at the start -/
section
variable {sh sh' : TS} {P P' : TP}
theorem FG.fr3 (h : FG sh P) (hs : ∀ a, a < 123 → sh' a = sh a) (e : ∀ a j, a < 123 → P' a j = P a j) : FG sh' P' := by
  unfold FG at h ⊢
  rw [e 20 0 (by omega), e 20 1 (by omega), e 20 3 (by omega), e 20 4 (by omega), e 20 6 (by omega), e 20 7 (by omega), e 21 0 (by omega), e 21 1 (by omega), e 21 2 (by omega), e 21 3 (by omega), e 52 0 (by omega), e 52 1 (by omega), e 52 2 (by omega), e 52 3 (by omega), e 83 0 (by omega), e 102 0 (by omega), e 108 0 (by omega), hs 20 (by omega), hs 21 (by omega), hs 52 (by omega), hs 83 (by omega), hs 102 (by omega), hs 103 (by omega), hs 108 (by omega), hs 109 (by omega), hs 110 (by omega)]
  refine ⟨h.1, h.2.1, h.2.2.1, h.2.2.2.1, h.2.2.2.2.1, h.2.2.2.2.2.1, h.2.2.2.2.2.2.1, h.2.2.2.2.2.2.2.1, h.2.2.2.2.2.2.2.2.1, h.2.2.2.2.2.2.2.2.2.1, h.2.2.2.2.2.2.2.2.2.2.1, h.2.2.2.2.2.2.2.2.2.2.2.1, h.2.2.2.2.2.2.2.2.2.2.2.2.1, h.2.2.2.2.2.2.2.2.2.2.2.2.2.1, h.2.2.2.2.2.2.2.2.2.2.2.2.2.2.1, h.2.2.2.2.2.2.2.2.2.2.2.2.2.2.2.1, h.2.2.2.2.2.2.2.2.2.2.2.2.2.2.2.2.1, h.2.2.2.2.2.2.2.2.2.2.2.2.2.2.2.2.2.1, h.2.2.2.2.2.2.2.2.2.2.2.2.2.2.2.2.2.2.1, h.2.2.2.2.2.2.2.2.2.2.2.2.2.2.2.2.2.2.2.1, h.2.2.2.2.2.2.2.2.2.2.2.2.2.2.2.2.2.2.2.2.1, h.2.2.2.2.2.2.2.2.2.2.2.2.2.2.2.2.2.2.2.2.2.1, h.2.2.2.2.2.2.2.2.2.2.2.2.2.2.2.2.2.2.2.2.2.2.1, h.2.2.2.2.2.2.2.2.2.2.2.2.2.2.2.2.2.2.2.2.2.2.2.1, h.2.2.2.2.2.2.2.2.2.2.2.2.2.2.2.2.2.2.2.2.2.2.2.2.1, h.2.2.2.2.2.2.2.2.2.2.2.2.2.2.2.2.2.2.2.2.2.2.2.2.2.1, ?_⟩
  obtain ⟨q1, q2, q3, q4⟩ := h.2.2.2.2.2.2.2.2.2.2.2.2.2.2.2.2.2.2.2.2.2.2.2.2.2.2
  exact ⟨fun i hi => (e _ _ (by omega)).trans (q1 i hi), fun i hi => (hs _ (by omega)).trans (q2 i hi), fun i hi => (hs _ (by omega)).trans (q3 i hi), fun i hi => (e _ _ (by omega)).trans (q4 i hi)⟩
theorem FA.fr3 (h : FA sh P) (hs : ∀ a, a < 123 → sh' a = sh a) (e : ∀ a j, a < 123 → P' a j = P a j) : FA sh' P' := by
  obtain ⟨h1, h2, h3, h4, h5, h6, h7, h8, h9, h10⟩ := h
  have hy : ∀ b, b ≤ 84 → FY sh P b → FY sh' P' b := fun b hb q => q.fr (fun a ha hb => hs a (by omega)) (fun a j ha hb hj => e a j (by omega))
  have hr : ∀ b z, b ≤ 79 → FR sh P b z → FR sh' P' b z := fun b z hb q => q.fr (fun a ha hb => hs a (by omega)) (fun j hj => e b j (by omega))
  exact ⟨h1.fr3 hs e, hy _ (by omega) h2, hy _ (by omega) h3, hy _ (by omega) h4, hr _ _ (by omega) h5, hr _ _ (by omega) h6, hr _ _ (by omega) h7, hr _ _ (by omega) h8, hr _ _ (by omega) h9, hr _ _ (by omega) h10⟩
end
theorem iv_start {sh0 sh : TS} {I0 I : TI} {L0 L : TL} {P0 P : TP} (hg : GKI sh0 I0 L0 P0) (hN : NW 124 123 (upS sh0 123 (10, 29)) (clr I0 123 0) (clr L0 123 0) (clr P0 123 0) sh I L P) (hm : MIN sh I L P) (hi : ∀ j, I 123 j = nI 0) : IV 143 sh I L P := by
  have e1 : ∀ a, a < 123 → sh a = sh0 a := fun a ha => (hN.1 a (by omega)).trans (upS_no _ _ _ _ (by omega))
  have e2 : ∀ a j, a < 123 → I a j = I0 a j := fun a j ha => (hN.2.1 a j (by omega) (by omega)).trans (clr_no _ _ _ _ _ (by omega))
  have e3 : ∀ a j, a < 123 → L a j = L0 a j := fun a j ha => (hN.2.2.1 a j (by omega) (by omega)).trans (clr_no _ _ _ _ _ (by omega))
  have e4 : ∀ a j, a < 123 → P a j = P0 a j := fun a j ha => (hN.2.2.2 a j (by omega) (by omega)).trans (clr_no _ _ _ _ _ (by omega))
  obtain ⟨g1, g2, g3, g4, g5, g6, g7, g8, g9, g10, g11, g12, g13, g14, g15, g16, g17, g18, g19, g20⟩ := hg
  obtain ⟨m1, m2, m3, m4, m5, m6, m7, m8⟩ := hm
  have hA : FA sh P := g1.fr3 e1 e4
  have no : ∀ {p : Prop} {i : Nat}, i < 0 → p := fun h => absurd h (Nat.not_lt_zero _)
  have hW : WF (I 124) 0 0 0 := ⟨by omega, m5 80 (by omega), by omega, m5 81 (by omega), by omega, ⟨0, Nat.le_refl _, m5 83 (by omega)⟩, fun i hi => no hi, fun j w hj _ => no hj, fun c hc => ⟨5, by omega, m4 c hc⟩, fun i hi => no hi, fun i hi => no hi, fun i hi => no hi, fun i hi => no hi⟩
  have hrl : rl (I 124) = 0 := by show (I 124 83).toNatClampNeg = 0; rw [m5 83 (by omega), Cp _ (by omega)]
  have z : ∀ {s : Nat} {v : Int32}, s ≤ 10 → v = nI 0 → v = nI s → s = 0 := fun h e1 e2 => by
    rw [e1, nI_eq (by omega) (by omega)] at e2
    exact e2.symm
  refine ⟨FF (I 128) (I 129), EE (I 128) (I 129), 0, 0, 0, m1, hA, ⟨hW, ⟨m2, fun u hu => no hu⟩, rfl, rfl⟩, ?_, ?_, ?_, ?_, ?_, ?_, ?_, ?_, m3, ?_⟩
  · refine ⟨hA.2.1, (e2 _ _ (by omega)).trans g2.1, (e2 _ _ (by omega)).trans g2.2.1, ?_, fun c hc => ?_, fun j hj => no hj, fun j hj => no hj, fun i w hi _ => no hi, fun i w hi _ => no hi, fun _ => ⟨(e4 _ _ (by omega)).trans g6, rfl, fun nm => rfl⟩, fun h => ?_⟩
    · rw [m5 82 (by omega)]
      exact (e2 _ _ (by omega)).trans g2.2.2.1
    · rw [m4 c hc]
      exact (e2 _ _ (by omega)).trans (g2.2.2.2 c hc)
    · rw [hrl] at h
      exact no h
  · refine ⟨((e2 _ _ (by omega)).trans g3).trans (m5 84 (by omega)).symm, ((e2 _ _ (by omega)).trans g4).trans (m5 100 (by omega)).symm, ((e2 _ _ (by omega)).trans g5).trans (m5 121 (by omega)).symm, fun s h10 hs j hj => ?_, fun s h10 hs j hj => ?_, fun s h10 hs j hj => ?_⟩
    · rw [z h10 (m5 84 (by omega)) hs] at hj
      exact no hj
    · rw [z h10 (m5 100 (by omega)) hs] at hj
      exact no hj
    · rw [z h10 (m5 121 (by omega)) hs] at hj
      exact no hj
  · exact ⟨⟨0, by omega, m5 84 (by omega), fun j hj => no hj⟩, ⟨0, by omega, m5 100 (by omega), fun j hj => no hj⟩, ⟨0, by omega, m5 121 (by omega), fun j hj => no hj⟩⟩
  · exact ⟨((e2 _ _ (by omega)).trans g8).trans (hi 3).symm, Or.inl ⟨hi 3, (e4 _ _ (by omega)).trans g7⟩⟩
  · exact ⟨(e2 _ _ (by omega)).trans g9, hi 8⟩
  · exact ⟨0, by omega, (e2 _ _ (by omega)).trans g10, hi 5, fun j hj => no hj⟩
  · exact ⟨0, by omega, (e2 _ _ (by omega)).trans g11, hi 24, fun j hj _ => no hj⟩
  · intro t ht
    obtain ⟨t1, t2, t3⟩ := g20 t ht
    have a1 : I (111 + 2 * t) 0 = -nI 1 := (e2 _ _ (by omega)).trans t1
    have a2 : I (111 + 2 * t) 1 = nI 0 := (e2 _ _ (by omega)).trans t2
    exact ⟨a1.trans (m6 t ht).symm, Or.inl ⟨a1, a2⟩, ⟨0, by omega, a2, m7 t ht⟩, fun j hj => ((e3 _ _ (by omega)).trans (t3 j)).trans (m8 _).symm⟩
  · have p4 : P 102 4 = 104 := (e4 _ _ (by omega)).trans g12
    have p22 : P 22 7 = 0 := (e4 _ _ (by omega)).trans g6
    have p53 : P 53 7 = 0 := (e4 _ _ (by omega)).trans g7
    unfold IVz
    rw [p4, p22, p53]
    exact ⟨Or.inl rfl, by omega, by omega, (e1 _ (by omega)).trans g13, (e4 _ _ (by omega)).trans g14, (e4 _ _ (by omega)).trans g15, (e4 _ _ (by omega)).trans g16, (e1 _ (by omega)).trans g17, (e1 _ (by omega)).trans g18, (e1 _ (by omega)).trans g19, by omega, by omega, by omega, by omega⟩
