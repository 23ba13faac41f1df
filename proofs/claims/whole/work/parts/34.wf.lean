/-! ### rows stay in order -/
theorem upN_eq (N : TN) (p : Nat) (v : Int32) : upN N p v p = v := if_pos rfl
theorem upN_no (N : TN) (p j : Nat) (v : Int32) (h : ¬ j = p) : upN N p v j = N j := if_neg h
def okG (k : Nat) (p : Nat) (v : Int32) : Prop := ∀ i w, i < k → p = 26 + 9 * i + w → (w = 0 → ∃ u, u < 7 ∧ v = nI u) ∧ (w = 1 → ∃ u, u ≤ 9 ∧ v = nI u) ∧ (w = 2 → ∃ u, u < 8 ∧ v = nI u) ∧ (w = 3 → v = -nI 1 ∨ ∃ u, u < 9 ∧ v = nI u) ∧ (w = 4 → v = nI 0 ∨ v = nI 1)
theorem WF.up {N : TN} {k g r p : Nat} {v : Int32} (h : WF N k g r) (h80 : ¬ p = 80) (h81 : ¬ p = 81) (h83 : ¬ p = 83) (hg : p < 8 → ∃ u, u ≤ 99 ∧ v = nI u) (he : ¬ (8 ≤ p ∧ p < 26)) (hs : okG k p v) : WF (upN N p v) k g r := by
  have hk := h.k6
  have h9 := h.g9
  have hgs : ∀ i w, ¬ p = 26 + 9 * i + w → gs (upN N p v) i w = gs N i w := fun i w q => upN_no N p _ v fun e => q e.symm
  have hgs2 : ∀ i w, p = 26 + 9 * i + w → gs (upN N p v) i w = v := fun i w q => by show upN N p v (26 + 9 * i + w) = v; rw [← q, upN_eq]
  refine ⟨hk, ?_, h9, ?_, h.r6, ?_, fun i hi => ?_, fun j w hj hw => ?_, fun c hc => ?_, fun i hi => ?_, fun i hi => ?_, fun i hi => ?_, fun i hi => ?_⟩
  · rw [upN_no _ _ _ _ (fun e => h80 e.symm)]; exact h.n80
  · rw [upN_no _ _ _ _ (fun e => h81 e.symm)]; exact h.n81
  · rw [upN_no _ _ _ _ (fun e => h83 e.symm)]; exact h.n83
  · by_cases e : p = 26 + 9 * i + 2
    · rw [hgs2 i 2 e]; exact (hs i 2 hi e).2.2.1 rfl
    · rw [hgs i 2 e]; exact h.court hi
  · rw [show ed (upN N p v) j w = ed N j w from upN_no N p _ v (by omega)]
    exact h.ends hj hw
  · by_cases e : p = c
    · subst e
      rw [upN_eq]; exact hg hc
    · rw [upN_no N p _ v (fun q => e q.symm)]; exact h.grain hc
  · by_cases e : p = 26 + 9 * i + 3
    · rw [hgs2 i 3 e]; exact (hs i 3 hi e).2.2.2.1 rfl
    · rw [hgs i 3 e]; exact h.key hi
  · by_cases e : p = 26 + 9 * i + 0
    · rw [hgs2 i 0 e]; exact (hs i 0 hi e).1 rfl
    · rw [hgs i 0 e]; exact h.kind hi
  · by_cases e : p = 26 + 9 * i + 1
    · rw [hgs2 i 1 e]; exact (hs i 1 hi e).2.1 rfl
    · rw [hgs i 1 e]; exact h.v9 hi
  · by_cases e : p = 26 + 9 * i + 4
    · rw [hgs2 i 4 e]; exact (hs i 4 hi e).2.2.2.2 rfl
    · rw [hgs i 4 e]; exact h.taken hi
theorem WF.court_up {N : TN} {k g r i c : Nat} (h : WF N k g r) (hi : i < k) (hc : c < 8) : WF (upN N (26 + 9 * i + 2) (nI c)) k g r := by
  have := h.k6
  exact h.up (by omega) (by omega) (by omega) (by omega) (by omega) fun i' w hi' e => ⟨fun q => by omega, fun q => by omega, fun _ => ⟨c, hc, rfl⟩, fun q => by omega, fun q => by omega⟩
theorem WF.v_up {N : TN} {k g r i c : Nat} (h : WF N k g r) (hi : i < k) (hc : c ≤ 9) : WF (upN N (26 + 9 * i + 1) (nI c)) k g r := by
  have := h.k6
  exact h.up (by omega) (by omega) (by omega) (by omega) (by omega) fun i' w hi' e => ⟨fun q => by omega, fun _ => ⟨c, hc, rfl⟩, fun q => by omega, fun q => by omega, fun q => by omega⟩
theorem WF.key_up {N : TN} {k g r i : Nat} {v : Int32} (h : WF N k g r) (hi : i < k) (hv : v = -nI 1 ∨ ∃ u, u < 9 ∧ v = nI u) : WF (upN N (26 + 9 * i + 3) v) k g r := by
  have := h.k6
  exact h.up (by omega) (by omega) (by omega) (by omega) (by omega) fun i' w hi' e => ⟨fun q => by omega, fun q => by omega, fun q => by omega, fun _ => hv, fun q => by omega⟩
theorem WF.take_up {N : TN} {k g r i : Nat} {v : Int32} (h : WF N k g r) (hi : i < k) (hv : v = nI 0 ∨ v = nI 1) : WF (upN N (26 + 9 * i + 4) v) k g r := by
  have := h.k6
  exact h.up (by omega) (by omega) (by omega) (by omega) (by omega) fun i' w hi' e => ⟨fun q => by omega, fun q => by omega, fun q => by omega, fun q => by omega, fun _ => hv⟩
theorem WF.row_up {N : TN} {k g r i j : Nat} {v : Int32} (h : WF N k g r) (hi : i < k) (hj : 5 ≤ j) (hj2 : j < 9) : WF (upN N (26 + 9 * i + j) v) k g r := by
  have := h.k6
  exact h.up (by omega) (by omega) (by omega) (by omega) (by omega) fun i' w hi' e => ⟨fun q => by omega, fun q => by omega, fun q => by omega, fun q => by omega, fun q => by omega⟩
theorem WF.grain_up {N : TN} {k g r c u : Nat} (h : WF N k g r) (hc : c < 8) (hu : u ≤ 99) : WF (upN N c (nI u)) k g r := by
  have := h.k6
  exact h.up (by omega) (by omega) (by omega) (fun _ => ⟨u, hu, rfl⟩) (by omega) fun i' w hi' e => by omega
theorem WF.hi_up {N : TN} {k g r p : Nat} {v : Int32} (h : WF N k g r) (hp : p = 82 ∨ 84 ≤ p) : WF (upN N p v) k g r := by
  have := h.k6
  exact h.up (by omega) (by omega) (by omega) (by omega) (by omega) fun i' w hi' e => ⟨fun q => by omega, fun q => by omega, fun q => by omega, fun q => by omega, fun q => by omega⟩
/-- what is eaten is a number of one or two digits -/
def eOK (e : Int32) : Prop := ∃ u, u ≤ 99 ∧ e = nI u
theorem mx0_ok {u e : Nat} (hu : u ≤ 99) (he : e ≤ 99) : mx0 (nI u - nI e) = nI (u - e) := by
  unfold mx0
  by_cases h : e ≤ u
  · rw [nI_sub _ _ h]
    by_cases h0 : 0 < u - e
    · rw [if_pos (by rw [Lt _ _ (by omega) (by omega)]; exact h0)]
    · rw [if_neg (by rw [Lt _ _ (by omega) (by omega)]; exact h0), show u - e = 0 by omega]
  · rw [if_neg, show u - e = 0 by omega]
    have e1 : nI u - nI e = -nI (e - u) := by rw [← nI_sub e u (by omega), Int32.neg_sub]
    rw [e1, i_lt, Int32.toInt_neg, nIi _ (by omega), nIi _ (by omega)]
    have : Int.bmod (-((e - u : Nat) : Int)) (2 ^ 32) = -((e - u : Nat) : Int) := by
      apply Int.bmod_eq_of_le <;> omega
    omega
theorem goS_lt {F : TF} {N : TN} {k g r i : Nat} (hW : WF N k g r) (hi : i < k) : goS F N i < 8 := goL_lt (ct_eq hW hi).2 8 (by omega)
theorem WF_hourL {F : TF} {e : Int32} (he : eOK e) {N : TN} {k g r : Nat} (hW : WF N k g r) : ∀ i, i ≤ k → WF (hourL F e N i) k g r
  | 0, _ => hW
  | i + 1, hi => by
    have ih := WF_hourL (F := F) he hW i (by omega)
    unfold hourL
    split
    · exact ih
    · have hg := goS_lt (F := F) ih (show i < k by omega)
      obtain ⟨u, hu, hu2⟩ := ih.grain hg
      obtain ⟨v, hv, rfl⟩ := he
      rw [hu2, mx0_ok hu hv]
      exact (ih.court_up (by omega) hg).grain_up hg (by omega)
theorem WF_hour {F : TF} {E : Nat → Int32} (he : ∀ u, eOK (E u)) {N : TN} {k g r : Nat} (hW : WF N k g r) : WF (hourS F E N) k g r := by
  unfold hourS
  rw [hW.cn]
  exact (WF_hourL (he _) hW k (by omega)).hi_up (Or.inl rfl)
theorem WF_hours {F : TF} {E : Nat → Int32} (he : ∀ u, eOK (E u)) {N : TN} {k g r : Nat} (hW : WF N k g r) : ∀ n, WF (hoursS F E N n) k g r
  | 0 => hW
  | n + 1 => WF_hour he (WF_hours he hW n)
theorem dig_rng {x : Int32} (h1 : nI 48 ≤ x) (h2 : x ≤ nI 57) : ∃ u, u ≤ 9 ∧ x = nI (48 + u) := by
  have h3 : ¬ x < 0 := by
    rw [i_lt]; rw [i_le, nIi _ (by omega)] at h1
    have : (0 : Int32).toInt = 0 := rfl
    omega
  obtain ⟨j, hj, rfl⟩ := nI_of h3
  rw [Le _ _ (by omega) (by omega)] at h1 h2
  exact ⟨j - 48, by omega, by rw [show 48 + (j - 48) = j by omega]⟩
theorem numS_rng (t : TN) (z : Nat) (p : PS) : eOK (numS t z p).2 := by
  unfold numS
  split
  · rename_i h
    simp [digS] at h
    obtain ⟨u, hu, e⟩ := dig_rng h.2.2.1 h.2.2.2
    split
    · rename_i h2
      simp [digS] at h2
      obtain ⟨w, hw, e2⟩ := dig_rng h2.2.2.1 h2.2.2.2
      refine ⟨10 * u + w, by omega, ?_⟩
      show nI 10 * (t p.1 - nI 48) + t (p.1 + 1) - nI 48 = _
      rw [e, e2, nI_sub _ _ (by omega), nI_mul, nI_add, nI_sub _ _ (by omega)]
      congr 1
      omega
    · refine ⟨u, by omega, ?_⟩
      show t p.1 - nI 48 = _
      rw [e, nI_sub _ _ (by omega)]
      congr 1
      omega
  · exact ⟨0, by omega, rfl⟩
theorem oet_rng (t : TN) (z : Nat) (p : PS) {e : Int32} (he : eOK e) : eOK (oet (claS t z p).2.2 e) := by
  unfold claS
  split
  · exact numS_rng t z _
  · split
    · exact he
    · split
      · exact he
      · exact he
theorem reaL_rng (t : TN) (z : Nat) : ∀ (m : Nat) (q : RS), eOK q.2.2 → eOK (reaL t z m q).2.2
  | 0, _, h => h
  | m + 1, q, h => by
    unfold reaL
    split
    · exact reaL_rng t z m _ (oet_rng t z _ h)
    · exact h
theorem EE_rng (R S : TN) (u : Nat) : eOK (EE R S u) := by
  unfold EE
  split
  · exact ⟨1, by omega, rfl⟩
  · exact reaL_rng _ _ 9 _ (oet_rng _ _ _ ⟨1, by omega, rfl⟩)
