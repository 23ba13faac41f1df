/-! The tables and the heap: reading, writing, making -/
theorem AOK.congr {U : State} {H : Heap} {q : Nat} {t : Nat × Nat} {f g : Nat → Value} (h : AOK U H q t f) (hg : ∀ j, j < t.2 → f j = g j) : AOK U H q t g := by
  obtain ⟨cell, h1, h2, h3, h4, h5, h6⟩ := h
  exact ⟨cell, h1, h2, h3, h4, h5, fun j hj => by rw [← hg j hj]; exact h6 j hj⟩
theorem AOK.ofV {U : State} {H : Heap} {q : Nat} {t : Nat × Nat} {f : Nat → Value} {cA : ClassId} (h : H[q]? = some (arrV cA t.2 f)) (hA : ArrOfT U cA (aty t.1)) : AOK U H q t f :=
  ⟨_, h, hA _ _, (fun z => by cases z), (by rw [arrV_size]; exact Nat.le_refl _), (by rw [arrV_size]), fun j hj => arrV_read _ _ hj⟩
theorem arrV_congr {cA : ClassId} {n : Nat} {f g : Nat → Value} (h : ∀ j, j < n → f j = g j) : arrV cA n f = arrV cA n g := by
  have e : (fun j : Fin n => f j.val) = fun j : Fin n => g j.val := funext fun j => h j.val j.isLt
  unfold arrV
  rw [e]
theorem ARO.moved {u U : State} (hvm : u.vm.Alike U.vm) {cA : ClassId} {tag : Nat} (h : ARO u cA tag) : ARO U cA tag := ⟨arrOfT_moved hvm h.1, h.2.moved hvm⟩
theorem CO.moved {G : GE} {u U : State} (hvm : u.vm.Alike U.vm) {H : Heap} {sh : TS} {I : TI} {L : TL} {P : TP} {a : Nat} (h : CO G u H sh I L P a) : CO G U H sh I L P a := by
  rcases h with h | ⟨h1, h2, cA, h3, h4⟩
  · exact Or.inl h
  · exact Or.inr ⟨h1, h2, cA, h3, h4.moved hvm⟩
theorem Mat.moved {G : GE} {u U : State} (hvm : u.vm.Alike U.vm) {H : Heap} {n : Nat} {sh : TS} {I : TI} {L : TL} {P : TP} (h : Mat G u H n sh I L P) : Mat G U H n sh I L P :=
  ⟨h.1, h.2.1, h.2.2.1, h.2.2.2.1, fun a h1 h2 => (h.2.2.2.2 a h1 h2).moved hvm⟩
theorem ST.kept {G : GE} {U : State} {H H1 : Heap} (h : ST G U H) (hq : ∀ a : Nat, a < H.size → ¬ AA G a → H1[a]? = H[a]?) : ST G U H1 :=
  ⟨fun i hi => (h.1 i hi).kept hq, h.2.1.kept hq, h.2.2.1.kept hq, h.2.2.2.1.kept hq, h.2.2.2.2.1, h.2.2.2.2.2⟩
theorem ST.warm {G : GE} {s U : State} {H : Heap} (hW : s.WarmedH U.vm) (h : ST G s H) : ST G U H :=
  ⟨fun i hi => (h.1 i hi).moved hW.alike, h.2.1.moved hW.alike, h.2.2.1.moved hW.alike, h.2.2.2.1.moved hW.alike, fun e he => (h.2.2.2.2.1 e he).warm hW, h.2.2.2.2.2⟩
theorem ST.same {G : GE} {u U : State} {H : Heap} (hv : U.vm = u.vm) (h : ST G u H) : ST G U H := by
  have ha : u.vm.Alike U.vm := by rw [hv]; exact Vm.Alike.refl u.vm
  exact ⟨fun i hi => (h.1 i hi).moved ha, h.2.1.moved ha, h.2.2.1.moved ha, h.2.2.2.1.moved ha, fun e he => (h.2.2.2.2.1 e he).same hv, h.2.2.2.2.2⟩
theorem WK.warm {G : GE} {s U : State} (hW : s.WarmedH U.vm) (h : WK G s) (hT : ST G s U.heap) : WK G U :=
  ⟨h.1.moved hW.alike, fun e he => va_Nw.warmM hW (h.2.1 e he), h.2.2.1.moved hW.alike, h.2.2.2.1.moved hW.alike, hT.warm hW⟩
theorem WK.same {G : GE} {u U : State} (hv : U.vm = u.vm) (hh : U.heap = u.heap) (h : WK G u) : WK G U := by
  have ha : u.vm.Alike U.vm := by rw [hv]; exact Vm.Alike.refl u.vm
  exact ⟨h.1.moved ha, fun e he => (h.2.1 e he).same rfl hv.symm, h.2.2.1.moved ha, h.2.2.2.1.moved ha, by rw [hh]; exact h.2.2.2.2.same hv⟩
theorem SF.of_low {G : GE} {sh : TS} {I I' : TI} {P P' : TP} (h : SF G sh I P) (hI : ∀ a k, a < 20 → I' a k = I a k) (hP : ∀ a k, a < 20 → P' a k = P a k) : SF G sh I' P' := by
  obtain ⟨a0, a1, a2, a3, a4, a5, a6, b1, b2, b3, b4⟩ := h
  refine ⟨a0, a1, a2, a3, a4, a5, a6, fun j hj => ?_, fun j hj => ?_, fun i hi => ?_, fun i hi j hj => ?_⟩
  · rw [hI _ _ (by omega)]; exact b1 j hj
  · rw [hI _ _ (by omega)]; exact b2 j hj
  · rw [hI _ _ (by omega), hP _ _ (by omega)]; exact b3 i hi
  · rw [hI _ _ (by omega)]; exact b4 i hi j hj
theorem SF.of_sh {G : GE} {sh sh' : TS} {I : TI} {P : TP} (h : SF G sh I P) (hs : ∀ a, a < 20 → sh' a = sh a) : SF G sh' I P := by
  obtain ⟨a0, a1, a2, a3, a4, a5, a6, b⟩ := h
  refine ⟨by rw [hs _ (by omega)]; exact a0, by rw [hs _ (by omega)]; exact a1, by rw [hs _ (by omega)]; exact a2, by rw [hs _ (by omega)]; exact a3, fun i hi => by rw [hs _ (by omega)]; exact a4 i hi, fun i hi => by rw [hs _ (by omega)]; exact a5 i hi, fun i h1 h2 => by rw [hs _ (by omega)]; exact a6 i h1 h2, b⟩
theorem AOK.ofT {U : State} {A : Nat → Prop} {H0 H : Heap} {locs : List Loc} {ty : FieldType} {q N tag : Nat} {f : Nat → Value} (h : va_T ty q N f A U H0) (hS : va_S A H0 H locs) (ht : aty tag = ty) : AOK U H q (tag, N) f := by
  obtain ⟨cell, h1, h2, h3, h4, h5, h6, h7⟩ := h
  refine ⟨cell, ?_, by rw [← ht] at h2; exact h2, h3, h4, h5, h6⟩
  rw [hS.2.1 q (Array.getElem?_eq_some_iff.mp h1).1 h7]
  exact h1
section MAT
variable {G : GE} {S : State} {H : Heap} {n : Nat} {sh : TS} {I : TI} {L : TL} {P : TP} {locs : List Loc}
theorem Mat.arr (hM : Mat G S H n sh I L P) (hT : ST G S S.heap) (hS : va_S (AA G) S.heap H locs) {a : Nat} (h1 : 100 ≤ (sh a).1) (h2 : (sh a).1 ≤ 105) :
    AOK S H (adr G a) (sh a) (fun j => tr G (ev (sh a).1 (I a j) (L a j) (P a j))) ∧ 2 ≤ a ∧ a < n := by
  obtain ⟨-, hn, ⟨a0, a1, a2, a3, a4, a5, a6, b1, b2, b3, b4⟩, hz, hC⟩ := hM
  by_cases ha : a < 20
  · have hadr : adr G a = GA G a := if_pos ha
    rw [hadr]
    rcases (show a = 0 ∨ a = 1 ∨ a = 2 ∨ a = 3 ∨ (4 ≤ a ∧ a < 9) ∨ (9 ≤ a ∧ a < 14) ∨ 14 ≤ a by omega) with rfl | rfl | rfl | rfl | h | h | h
    · rw [a0] at h2; exact absurd h2 (by decide)
    · rw [a1] at h2; exact absurd h2 (by decide)
    · refine ⟨?_, by omega, by omega⟩
      rw [a2]
      exact (AOK.ofT (tag := 100) hT.2.1 hS rfl).congr fun j hj => by rw [b1 j hj]; rfl
    · refine ⟨?_, by omega, by omega⟩
      rw [a3]
      exact (AOK.ofT (tag := 100) hT.2.2.1 hS rfl).congr fun j hj => by rw [b2 j hj]; rfl
    · have e := a4 (a - 4) (by omega)
      rw [show 4 + (a - 4) = a by omega] at e
      rw [e] at h1; exact absurd h1 (by decide)
    · have e := a5 (a - 9) (by omega)
      have f := b4 (a - 9) (by omega)
      have g := (hT.2.2.2.1.1 (a - 9) (by omega)).2.2.2
      have e9 : 9 + (a - 9) = a := by omega
      rw [e9] at e f
      simp only [e9] at g
      refine ⟨?_, by omega, by omega⟩
      rw [e]
      exact (AOK.ofT (tag := 103) g hS rfl).congr fun j hj => by rw [f j hj]; rfl
    · rw [a6 a h ha] at h2; exact absurd h2 (by decide)
  · have hlt : a < n := by
      rcases Nat.lt_or_ge a n with q | q
      · exact q
      · rw [hz a q] at h2; exact absurd h2 (by decide)
    rcases hC a (by omega) hlt with ⟨q, -⟩ | ⟨-, -, cA, q, q2⟩
    · omega
    · exact ⟨AOK.ofV q q2.1, by omega, hlt⟩
theorem Mat.obj (hM : Mat G S H n sh I L P) {a ci : Nat} (h : (sh a).1 = ci) (hci : ci < 11) :
    t_OB (adr G a) ((GD G).1 ci) (fN ci) ((GD G).2 ci) H (fun k => tr G (fv (fY ci k) (I a k) (P a k))) ∧ 20 ≤ a ∧ a < n := by
  obtain ⟨-, hn, ⟨a0, a1, a2, a3, a4, a5, a6, b⟩, hz, hC⟩ := hM
  subst h
  have ha : ¬ a < 20 := by
    intro ha
    rcases (show a = 0 ∨ a = 1 ∨ a = 2 ∨ a = 3 ∨ (4 ≤ a ∧ a < 9) ∨ (9 ≤ a ∧ a < 14) ∨ 14 ≤ a by omega) with rfl | rfl | rfl | rfl | h | h | h
    · rw [a0] at hci; exact absurd hci (by decide)
    · rw [a1] at hci; exact absurd hci (by decide)
    · rw [a2] at hci; exact absurd hci (by decide)
    · rw [a3] at hci; exact absurd hci (Nat.not_lt.mpr (show 11 ≤ 100 by decide))
    · have e := a4 (a - 4) (by omega)
      rw [show 4 + (a - 4) = a by omega] at e
      rw [e] at hci; exact absurd hci (by decide)
    · have e := a5 (a - 9) (by omega)
      rw [show 9 + (a - 9) = a by omega] at e
      rw [e] at hci; exact absurd hci (Nat.not_lt.mpr (show 11 ≤ 103 by decide))
    · rw [a6 a h ha] at hci; exact absurd hci (by decide)
  have hlt : a < n := by
    rcases Nat.lt_or_ge a n with q | q
    · exact q
    · rw [hz a q] at hci; exact absurd hci (by decide)
  rcases hC a (by omega) hlt with ⟨-, -, q⟩ | ⟨q, -⟩
  · exact ⟨q, by omega, hlt⟩
  · omega
theorem Mat.str (hM : Mat G S H n sh I L P) {a : Nat} (h : (sh a).1 = 11) : ∃ i, i < 5 ∧ a = 4 + i := by
  obtain ⟨-, hn, ⟨a0, a1, a2, a3, a4, a5, a6, b⟩, hz, hC⟩ := hM
  have ha : a < 20 := by
    rcases Nat.lt_or_ge a 20 with q | q
    · exact q
    · rcases Nat.lt_or_ge a n with q2 | q2
      · rcases hC a q q2 with ⟨q3, -⟩ | ⟨q3, -⟩ <;> omega
      · rw [hz a q2] at h; exact absurd h (by decide)
  rcases (show a = 0 ∨ a = 1 ∨ a = 2 ∨ a = 3 ∨ (4 ≤ a ∧ a < 9) ∨ (9 ≤ a ∧ a < 14) ∨ 14 ≤ a by omega) with rfl | rfl | rfl | rfl | q | q | q
  · rw [a0] at h; exact absurd h (by decide)
  · rw [a1] at h; exact absurd h (by decide)
  · rw [a2] at h; exact absurd h (by decide)
  · rw [a3] at h; exact absurd h (show ¬ (100 = 11) by decide)
  · exact ⟨a - 4, by omega, by omega⟩
  · have e := a5 (a - 9) (by omega)
    rw [show 9 + (a - 9) = a by omega] at e
    rw [e] at h; exact absurd h (show ¬ (103 = 11) by decide)
  · rw [a6 a q ha] at h; exact absurd h (by decide)
theorem Mat.arrD (hM : Mat G S H n sh I L P) {a : Nat} (ha : 20 ≤ a) (h1 : 100 ≤ (sh a).1) (h2 : (sh a).1 ≤ 105) : (∃ cA : ClassId, H[adr G a]? = some (arrV cA (sh a).2 (fun j => tr G (ev (sh a).1 (I a j) (L a j) (P a j)))) ∧ ARO S cA (sh a).1) ∧ a < n := by
  obtain ⟨-, hn, -, hz, hC⟩ := hM
  have hlt : a < n := by
    rcases Nat.lt_or_ge a n with q | q
    · exact q
    · rw [hz a q] at h2; exact absurd h2 (by decide)
  rcases hC a ha hlt with ⟨q, -⟩ | ⟨-, -, q⟩
  · omega
  · exact ⟨q, hlt⟩
theorem adr_hi {a : Nat} (h : 20 ≤ a) : adr G a = GS G + (a - 20) := if_neg (by omega)
theorem adr_ne {a b : Nat} (ha : 20 ≤ a) (hb : 20 ≤ b) (h : a ≠ b) : adr G a ≠ adr G b := by
  rw [adr_hi ha, adr_hi hb]; omega
theorem AA_adr {a : Nat} (h : 20 ≤ a) : AA G (adr G a) := by
  rw [adr_hi h]; show GS G ≤ _; omega
theorem CO.kept {a : Nat} {H' : Heap} {I' : TI} {L' : TL} {P' : TP} (h : CO G S H sh I L P a) (hq : H'[adr G a]? = H[adr G a]?) (hI : ∀ k, I' a k = I a k) (hL : ∀ k, L' a k = L a k) (hP : ∀ k, P' a k = P a k) : CO G S H' sh I' L' P' a := by
  rcases h with ⟨h1, h2, h3⟩ | ⟨h1, h2, cA, h3, h4⟩
  · exact Or.inl ⟨h1, h2, (h3.kept hq).to fun k _ => by rw [hI, hP]⟩
  · refine Or.inr ⟨h1, h2, cA, ?_, h4⟩
    rw [hq, h3]
    exact congrArg some (arrV_congr fun j _ => by rw [hI, hL, hP])
theorem Mat.put (hM : Mat G S H n sh I L P) {a : Nat} (ha : 20 ≤ a) {H' : Heap} (hz : H'.size = H.size) (ho : ∀ q : Nat, q ≠ adr G a → H'[q]? = H[q]?) {I' : TI} {L' : TL} {P' : TP}
    (hI : ∀ b k, b ≠ a → I' b k = I b k) (hL : ∀ b k, b ≠ a → L' b k = L b k) (hP : ∀ b k, b ≠ a → P' b k = P b k) (hc : CO G S H' sh I' L' P' a) : Mat G S H' n sh I' L' P' := by
  obtain ⟨h1, h2, h3, h4, h5⟩ := hM
  refine ⟨by rw [hz]; exact h1, h2, h3.of_low (fun b k hb => hI b k (by omega)) (fun b k hb => hP b k (by omega)), h4, fun b hb hn => ?_⟩
  by_cases e : b = a
  · subst e; exact hc
  · exact (h5 b hb hn).kept (ho _ (adr_ne hb ha e)) (fun k => hI b k e) (fun k => hL b k e) (fun k => hP b k e)
theorem Mat.new (hM : Mat G S H n sh I L P) {H' : Heap} {x : Nat × Nat} (hz : H'.size = H.size + 1) (ho : ∀ q : Nat, q < H.size → H'[q]? = H[q]?) (hc : CO G S H' (upS sh n x) (clr I n 0) (clr L n 0) (clr P n 0) n) :
    Mat G S H' (n + 1) (upS sh n x) (clr I n 0) (clr L n 0) (clr P n 0) := by
  obtain ⟨h1, h2, h3, h4, h5⟩ := hM
  refine ⟨by omega, by omega, (h3.of_sh (sh' := upS sh n x) fun a ha => if_neg (by omega)).of_low (fun a k ha => if_neg (by omega)) (fun a k ha => if_neg (by omega)), fun a ha => ?_, fun a ha hn => ?_⟩
  · show (if a = n then x else sh a) = _
    rw [if_neg (by omega)]; exact h4 a (by omega)
  · by_cases e : a = n
    · subst e; exact hc
    · have es : upS sh n x a = sh a := if_neg e
      have h := h5 a ha (by omega)
      have hq : H'[adr G a]? = H[adr G a]? := ho _ (by rw [adr_hi ha]; omega)
      have h := h.kept (I' := clr I n 0) (L' := clr L n 0) (P' := clr P n 0) hq (fun k => if_neg e) (fun k => if_neg e) (fun k => if_neg e)
      unfold CO at h ⊢
      rw [es]
      exact h
theorem Mat.top (hM : Mat G S H n sh I L P) : adr G n = H.size := by
  obtain ⟨h1, h2, -⟩ := hM
  rw [adr_hi h2]; omega
end MAT
