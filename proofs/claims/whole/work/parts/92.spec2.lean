/-! ### the text of a fortress: what is read depends on its signs alone; its steps keep their place -/
section
variable {t t' : TN} {z : Nat}
theorem atS_cg (h : ∀ j, j < z → t j = t' j) : atS t z = atS t' z := funext fun p => funext fun c => by
  unfold atS
  by_cases hp : p.1 < z
  · rw [h p.1 hp]
  · rw [decide_eq_false hp, Bool.false_and, Bool.false_and]
theorem digS_cg (h : ∀ j, j < z → t j = t' j) : digS t z = digS t' z := funext fun p => by
  unfold digS
  by_cases hp : p.1 < z
  · rw [h p.1 hp]
  · rw [decide_eq_false hp, Bool.false_and, Bool.false_and]
theorem takS_cg (h : ∀ j, j < z → t j = t' j) : takS t z = takS t' z := funext fun p => funext fun c => by
  unfold takS
  rw [atS_cg h]
theorem numS_cg (h : ∀ j, j < z → t j = t' j) : numS t z = numS t' z := funext fun p => by
  unfold numS
  rw [digS_cg h]
  by_cases d1 : digS t' z p = true
  · have e1 := h p.1 (digS_lt d1)
    rw [if_pos d1, if_pos d1, e1]
    by_cases d2 : digS t' z (p.1 + 1, p.2) = true
    · have e2 := h (p.1 + 1) (digS_lt d2)
      rw [if_pos d2, if_pos d2, e2]
    · rw [if_neg d2, if_neg d2]
  · rw [if_neg d1, if_neg d1]
theorem letL_cg (h : ∀ j, j < z → t j = t' j) (p : PS) : ∀ k, letL t z p k = letL t' z p k
  | 0 => rfl
  | k + 1 => by
    unfold letL
    rw [atS_cg h, letL_cg h p k]
theorem sgn_cg (h : ∀ j, j < z → t j = t' j) (p : PS) : sgn t z p = sgn t' z p := by
  unfold sgn
  rw [atS_cg h]
theorem tstS_cg (h : ∀ j, j < z → t j = t' j) : tstS t z = tstS t' z := funext fun p => by
  unfold tstS
  rw [letL_cg h]
  cases letL t' z p 6 with
  | none => rfl
  | some k => simp only [sgn_cg h, takS_cg h, numS_cg h]
theorem lopS_cg (h : ∀ j, j < z → t j = t' j) (f : PS → PS × List SP) (c : Int32) (o : Nat) : ∀ (m : Nat) (q : PS × List SP), lopS t z f c o m q = lopS t' z f c o m q
  | 0, _ => rfl
  | m + 1, q => by
    unfold lopS
    rw [atS_cg h, lopS_cg h f c o m]
theorem botS_cg (h : ∀ j, j < z → t j = t' j) (f : PS → PS × List SP) : botS t z f = botS t' z f := funext fun p => lopS_cg h f _ _ _ _
theorem anyS_cg (h : ∀ j, j < z → t j = t' j) (f : PS → PS × List SP) : anyS t z f = anyS t' z f := funext fun p => by
  unfold anyS
  rw [botS_cg h, lopS_cg h]
theorem facS_cg (h : ∀ j, j < z → t j = t' j) : ∀ m, facS t z m = facS t' z m
  | 0 => tstS_cg h
  | m + 1 => funext fun p => by
    unfold facS
    rw [atS_cg h, facS_cg h m, anyS_cg h, takS_cg h, tstS_cg h]
theorem takL_cg (h : ∀ j, j < z → t j = t' j) : ∀ (l : List Int32) (p : PS), takL t z l p = takL t' z l p
  | [], _ => rfl
  | c :: r, p => by
    unfold takL
    rw [takS_cg h, takL_cg h r]
theorem claS_cg (h : ∀ j, j < z → t j = t' j) : claS t z = claS t' z := funext fun p => by
  unfold claS
  simp only [atS_cg h, numS_cg h, takL_cg h, takS_cg h, facS_cg h, anyS_cg h]
theorem reaL_cg (h : ∀ j, j < z → t j = t' j) : ∀ (m : Nat) (q : RS), reaL t z m q = reaL t' z m q
  | 0, _ => rfl
  | m + 1, q => by
    unfold reaL
    rw [atS_cg h, claS_cg h, reaL_cg h m]
theorem reaS_cg (h : ∀ j, j < z → t j = t' j) : reaS t z = reaS t' z := by
  unfold reaS
  rw [claS_cg h, reaL_cg h]
theorem okS_cg (h : ∀ j, j < z → t j = t' j) : okS t z = okS t' z := by
  unfold okS
  rw [reaS_cg h]
end
section
variable {t : TN} {z : Nat} {f : PS → PS × List SP}
theorem atS_f {p : PS} {c : Int32} (h : p.2 = false) : atS t z p c = false := by
  unfold atS
  rw [h, Bool.false_and]
theorem lopS_w {c : Int32} {o : Nat} : ∀ (m : Nat) (q : PS × List SP), (lopS t z f c o m q).1.2 = true → q.1.2 = true
  | 0, _, h => h
  | m + 1, q, h => by
    cases hq : q.1.2 with
    | true => rfl
    | false =>
      rw [lopS, atS_f hq, if_neg (by decide), hq] at h
      exact h
theorem takS_w {p : PS} {c : Int32} (h : (takS t z p c).2 = true) : p.2 = true ∧ atS t z p c = true := by
  unfold takS at h
  split at h
  · rename_i h2
    exact ⟨h, h2⟩
  · cases h
theorem numS_w {p : PS} (h : (numS t z p).1.2 = true) : p.2 = true ∧ digS t z p = true := by
  unfold numS at h
  split at h
  · rename_i h2
    split at h
    · exact ⟨h, h2⟩
    · exact ⟨h, h2⟩
  · cases h
/-! how many steps there are -/
def lenF (f : PS → PS × List SP) : Prop := ∀ p, (f p).1.2 = true → p.1 + (f p).2.length ≤ (f p).1.1
theorem tstS_len : lenF (tstS t z) := fun p h => by
  unfold tstS at h ⊢
  cases hl : letL t z p 6 with
  | none => rw [hl] at h; cases h
  | some k =>
    show p.1 + 1 ≤ _
    exact Nat.le_trans (takS_le t z (p.1 + 1, p.2) _) (numS_le t z _)
theorem lopS_len (hf : lenF f) {c : Int32} {o x : Nat} : ∀ (m : Nat) (q : PS × List SP), (lopS t z f c o m q).1.2 = true → x + q.2.length ≤ q.1.1 → x + (lopS t z f c o m q).2.length ≤ (lopS t z f c o m q).1.1
  | 0, _, _, h => h
  | m + 1, q, hw, h => by
    by_cases ha : atS t z q.1 c = true
    · rw [lopS, if_pos ha] at hw ⊢
      have h1 := lopS_w m _ hw
      have h2 := hf _ h1
      have h2 : q.1.1 + 1 + (f (q.1.1 + 1, q.1.2)).2.length ≤ (f (q.1.1 + 1, q.1.2)).1.1 := h2
      refine lopS_len hf m _ hw ?_
      show x + (q.2 ++ ((f (q.1.1 + 1, q.1.2)).2 ++ [(o, 0, nI 0)])).length ≤ (f (q.1.1 + 1, q.1.2)).1.1
      rw [List.length_append, List.length_append]
      show x + (q.2.length + ((f (q.1.1 + 1, q.1.2)).2.length + 1)) ≤ _
      omega
    · rw [lopS, if_neg ha]
      exact h
theorem botS_len (hf : lenF f) : lenF (botS t z f) := fun p h => lopS_len hf z (f p) h (hf p (lopS_w z _ h))
theorem anyS_len (hf : lenF f) : lenF (anyS t z f) := fun p h => lopS_len (botS_len hf) z (botS t z f p) h (botS_len hf p (lopS_w z _ h))
theorem facS_len : ∀ m, lenF (facS t z m)
  | 0 => tstS_len
  | m + 1 => fun p h => by
    unfold facS at h ⊢
    by_cases h1 : atS t z p (nI 33) = true
    · rw [if_pos h1] at h ⊢
      have h2 := facS_len m (p.1 + 1, p.2) h
      have h2 : p.1 + 1 + (facS t z m (p.1 + 1, p.2)).2.length ≤ (facS t z m (p.1 + 1, p.2)).1.1 := h2
      show p.1 + ((facS t z m (p.1 + 1, p.2)).2 ++ [(3, 0, nI 0)]).length ≤ (facS t z m (p.1 + 1, p.2)).1.1
      rw [List.length_append]
      show p.1 + ((facS t z m (p.1 + 1, p.2)).2.length + 1) ≤ _
      omega
    · rw [if_neg h1] at h ⊢
      by_cases h2 : atS t z p (nI 40) = true
      · rw [if_pos h2] at h ⊢
        have h3 := anyS_len (facS_len m) (p.1 + 1, p.2) (takS_w h).1
        have h4 := takS_le t z (anyS t z (facS t z m) (p.1 + 1, p.2)).1 (nI 41)
        have h3 : p.1 + 1 + (anyS t z (facS t z m) (p.1 + 1, p.2)).2.length ≤ (anyS t z (facS t z m) (p.1 + 1, p.2)).1.1 := h3
        show p.1 + (anyS t z (facS t z m) (p.1 + 1, p.2)).2.length ≤ (takS t z (anyS t z (facS t z m) (p.1 + 1, p.2)).1 (nI 41)).1
        omega
      · rw [if_neg h2] at h ⊢
        exact tstS_len p h
/-! their numbers -/
def okF (f : PS → PS × List SP) : Prop := ∀ p, stOK (f p).2
theorem stOK_app {a b : List SP} (ha : stOK a) (hb : stOK b) : stOK (a ++ b) := fun x hx => by
  rcases List.mem_append.mp hx with h | h
  · exact ha x h
  · exact hb x h
theorem stOK_one {o k : Nat} {x : Int32} (ho : o < 8) (hk : k < 6) : stOK [(o, k, x)] := fun y hy => by
  rw [List.mem_singleton.mp hy]
  exact ⟨ho, hk⟩
theorem stOK_nil : stOK [] := fun y hy => absurd hy List.not_mem_nil
theorem tstS_ok : okF (tstS t z) := fun p => by
  unfold tstS
  cases hl : letL t z p 6 with
  | none => exact stOK_nil
  | some k => exact stOK_one (Nat.lt_trans sgn_lt (by decide)) (letL_lt hl).1
theorem lopS_ok (hf : okF f) {c : Int32} {o : Nat} (ho : o < 8) : ∀ (m : Nat) (q : PS × List SP), stOK q.2 → stOK (lopS t z f c o m q).2
  | 0, _, h => h
  | m + 1, q, h => by
    rw [lopS]
    split
    · exact lopS_ok hf ho m _ (stOK_app h (stOK_app (hf _) (stOK_one ho (by decide))))
    · exact h
theorem botS_ok (hf : okF f) : okF (botS t z f) := fun p => lopS_ok hf (by decide) _ _ (hf p)
theorem anyS_ok (hf : okF f) : okF (anyS t z f) := fun p => lopS_ok (botS_ok hf) (by decide) _ _ (botS_ok hf p)
theorem facS_ok : ∀ m, okF (facS t z m)
  | 0 => tstS_ok
  | m + 1 => fun p => by
    unfold facS
    split
    · exact stOK_app (facS_ok m _) (stOK_one (by decide) (by decide))
    · split
      · exact anyS_ok (facS_ok m) _
      · exact tstS_ok p
/-! how deep they go -/
def hgt (l : List SP) (h : Nat) : Prop := ∀ r s, s + h ≤ 32 → dok (l ++ r) s = dok r (s + 1)
def hgtF (f : PS → PS × List SP) (h : Nat) : Prop := ∀ p, (f p).1.2 = true → hgt (f p).2 h
theorem hgt.mono {l : List SP} {h h' : Nat} (hl : hgt l h) (hh : h ≤ h') : hgt l h' := fun r s hs => hl r s (by omega)
theorem hgt_one {o k : Nat} {x : Int32} (ho : o < 3) : hgt [(o, k, x)] 1 := fun r s hs => by
  show (if o < 3 then decide (s < 32) && dok r (s + 1) else _) = _
  rw [if_pos ho, decide_eq_true (by omega), Bool.true_and]
theorem hgt_not {l : List SP} {h : Nat} (hl : hgt l h) (x : Int32) : hgt (l ++ [(3, 0, x)]) h := fun r s hs => by
  rw [List.append_assoc, hl _ s hs]
  show (if 3 < 3 then _ else if 3 = 3 then decide (1 ≤ s + 1) && dok r (s + 1) else _) = _
  rw [if_neg (by decide), if_pos rfl, decide_eq_true (by omega), Bool.true_and]
theorem hgt_two {l l' : List SP} {h o : Nat} (hl : hgt l (h + 1)) (hl' : hgt l' h) (ho : o = 4 ∨ o = 5) (x : Int32) : hgt (l ++ (l' ++ [(o, 0, x)])) (h + 1) := fun r s hs => by
  rw [List.append_assoc, hl _ s hs, List.append_assoc, hl' _ (s + 1) (by omega)]
  show (if o < 3 then _ else if o = 3 then _ else if o < 6 then decide (2 ≤ s + 1 + 1) && dok r (s + 1 + 1 - 1) else _) = _
  rw [if_neg (by omega), if_neg (by omega), if_pos (by omega), decide_eq_true (by omega), Bool.true_and, Nat.add_sub_cancel]
theorem tstS_h : hgtF (tstS t z) 1 := fun p h => by
  unfold tstS at h ⊢
  cases hl : letL t z p 6 with
  | none => rw [hl] at h; cases h
  | some k => exact hgt_one sgn_lt
theorem lopS_h {h : Nat} (hf : hgtF f h) {c : Int32} {o : Nat} (ho : o = 4 ∨ o = 5) : ∀ (m : Nat) (q : PS × List SP), (lopS t z f c o m q).1.2 = true → hgt q.2 (h + 1) → hgt (lopS t z f c o m q).2 (h + 1)
  | 0, _, _, hq => hq
  | m + 1, q, hw, hq => by
    by_cases ha : atS t z q.1 c = true
    · rw [lopS, if_pos ha] at hw ⊢
      have h1 := lopS_w m _ hw
      exact lopS_h hf ho m _ hw (hgt_two hq (hf _ h1) ho _)
    · rw [lopS, if_neg ha]
      exact hq
theorem botS_h {h : Nat} (hf : hgtF f h) : hgtF (botS t z f) (h + 1) := fun p hw => lopS_h hf (Or.inl rfl) z (f p) hw ((hf p (lopS_w z _ hw)).mono (Nat.le_succ h))
theorem anyS_h {h : Nat} (hf : hgtF f h) : hgtF (anyS t z f) (h + 2) := fun p hw => lopS_h (botS_h hf) (Or.inr rfl) z (botS t z f p) hw ((botS_h hf p (lopS_w z _ hw)).mono (Nat.le_succ _))
theorem facS_h : ∀ m, hgtF (facS t z m) (2 * m + 1)
  | 0 => tstS_h
  | m + 1 => fun p h => by
    unfold facS at h ⊢
    by_cases h1 : atS t z p (nI 33) = true
    · rw [if_pos h1] at h ⊢
      exact hgt_not ((facS_h m (p.1 + 1, p.2) h).mono (by omega)) _
    · rw [if_neg h1] at h ⊢
      by_cases h2 : atS t z p (nI 40) = true
      · rw [if_pos h2] at h ⊢
        exact (anyS_h (facS_h m) (p.1 + 1, p.2) (takS_w h).1).mono (by omega)
      · rw [if_neg h2] at h ⊢
        exact (tstS_h p h).mono (by omega)
/-! a clause, all of them -/
def hgt0 (l : List SP) : Prop := ∀ r s, s + 11 ≤ 32 → dok (l ++ r) s = dok r s
theorem hgt0_nil : hgt0 [] := fun _ _ _ => rfl
theorem hgt0_app {a b : List SP} (ha : hgt0 a) (hb : hgt0 b) : hgt0 (a ++ b) := fun r s hs => by
  rw [List.append_assoc, ha _ s hs, hb _ s hs]
theorem hgt0_end {l : List SP} {o : Nat} (hl : hgt l 11) (ho : o = 6 ∨ o = 7) (x : Int32) : hgt0 (l ++ [(o, 0, x)]) := fun r s hs => by
  rw [List.append_assoc, hl _ s hs]
  show (if o < 3 then _ else if o = 3 then _ else if o < 6 then _ else decide (1 ≤ s + 1) && dok r (s + 1 - 1)) = _
  rw [if_neg (by omega), if_neg (by omega), if_neg (by omega), decide_eq_true (by omega), Bool.true_and, Nat.add_sub_cancel]
theorem takL_le (t : TN) (z : Nat) : ∀ (l : List Int32) (p : PS), p.1 ≤ (takL t z l p).1
  | [], _ => Nat.le_refl _
  | c :: r, p => Nat.le_trans (takS_le t z p c) (takL_le t z r _)
/-- of a clause that is one -/
theorem claS_all {p : PS} (h : (claS t z p).1.2 = true) : p.1 + (claS t z p).2.1.length ≤ (claS t z p).1.1 ∧ stOK (claS t z p).2.1 ∧ hgt0 (claS t z p).2.1 := by
  have part : ∀ (u : PS) (o : Nat) (x : Int32), p.1 + 1 ≤ u.1 → (o = 6 ∨ o = 7) → (anyS t z (facS t z 4) u).1.2 = true → p.1 + ((anyS t z (facS t z 4) u).2 ++ [(o, 0, x)]).length ≤ (anyS t z (facS t z 4) u).1.1 ∧ stOK ((anyS t z (facS t z 4) u).2 ++ [(o, 0, x)]) ∧ hgt0 ((anyS t z (facS t z 4) u).2 ++ [(o, 0, x)]) := by
    intro u o x hu ho hw
    have h1 := anyS_len (facS_len 4) u hw
    refine ⟨?_, stOK_app (anyS_ok (facS_ok 4) u) (stOK_one (by omega) (by decide)), hgt0_end (anyS_h (facS_h 4) u hw) ho x⟩
    rw [List.length_append]
    show p.1 + ((anyS t z (facS t z 4) u).2.length + 1) ≤ _
    omega
  unfold claS at h ⊢
  by_cases h1 : atS t z p (nI 101) = true
  · rw [if_pos h1] at h ⊢
    exact ⟨Nat.le_trans (takL_le t z _ p) (numS_le t z _), stOK_nil, hgt0_nil⟩
  · rw [if_neg h1] at h ⊢
    by_cases h2 : atS t z p (nI 115) = true
    · rw [if_pos h2] at h ⊢
      refine part _ 7 _ ?_ (Or.inr rfl) h
      refine Nat.le_trans ?_ (Nat.le_trans (numS_le t z _) (takS_le t z _ _))
      rw [takL, takS, if_pos h2]
      exact takL_le t z _ (p.1 + 1, p.2)
    · rw [if_neg h2] at h ⊢
      by_cases h3 : atS t z p (nI 108) = true
      · rw [if_pos h3] at h ⊢
        refine part _ 6 _ ?_ (Or.inl rfl) h
        refine Nat.le_trans ?_ (Nat.le_trans (numS_le t z _) (takS_le t z _ _))
        rw [takL, takS, if_pos h3]
        exact takL_le t z _ (p.1 + 1, p.2)
      · rw [if_neg h3] at h
        cases h
theorem reaL_w : ∀ (m : Nat) (q : RS), (reaL t z m q).1.2 = true → q.1.2 = true
  | 0, _, h => h
  | m + 1, q, h => by
    cases hq : q.1.2 with
    | true => rfl
    | false =>
      rw [reaL, atS_f hq, if_neg (by decide), hq] at h
      exact h
/-- of clauses so far -/
def rsOK (q : RS) : Prop := q.2.1.length ≤ q.1.1 ∧ stOK q.2.1 ∧ hgt0 q.2.1
theorem addC_all {q : RS} {p : PS} (hq : rsOK q) (hp : q.1.1 ≤ p.1) (h : (claS t z p).1.2 = true) : rsOK (addC q (claS t z p)) := by
  obtain ⟨h1, h2, h3⟩ := claS_all h
  refine ⟨?_, stOK_app hq.2.1 h2, hgt0_app hq.2.2 h3⟩
  show (q.2.1 ++ (claS t z p).2.1).length ≤ (claS t z p).1.1
  rw [List.length_append]
  have := hq.1
  omega
theorem reaL_all : ∀ (m : Nat) (q : RS), rsOK q → (reaL t z m q).1.2 = true → rsOK (reaL t z m q)
  | 0, _, hq, _ => hq
  | m + 1, q, hq, h => by
    by_cases ha : atS t z q.1 (nI 59) = true
    · rw [reaL, if_pos ha] at h ⊢
      exact reaL_all m _ (addC_all hq (Nat.le_succ _) (reaL_w m _ h)) h
    · rw [reaL, if_neg ha]
      exact hq
theorem rsOK_0 : rsOK ((0, true), [], nI 1) := ⟨Nat.le_refl _, stOK_nil, hgt0_nil⟩
theorem reaS_all (h : (reaS t z).1.2 = true) : rsOK (reaS t z) := reaL_all 9 _ (addC_all rsOK_0 (Nat.le_refl _) (reaL_w 9 _ h)) h
theorem reaS_dok (h : (reaS t z).1.2 = true) : dok (reaS t z).2.1 0 = true := by
  have h1 := (reaS_all h).2.2 [] 0 (by decide)
  rw [List.append_nil] at h1
  exact h1
end
