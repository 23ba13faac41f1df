/-! calls that are told by a formula go on at once -/
def inv : Value ⊕ Jvm.ClassFile.Instr → Bool
  | .inr (.invokevirtual _) => true
  | .inr (.invokestatic _) => true
  | .inr (.invokespecial _) => true
  | _ => false
def liftI (lv : Nat → Bool) (F C : TC) (d : Nat) (K W : TK) (Q : TQ) (o : Option AI) (ls : List (Option Value)) (st : List Value) (c s n : Nat) (sh : TS) (I : TI) (L : TL) (P : TP) : Prop := match o with
  | none => False
  | some i => if (inv i.2.2.2.2 && lv i.2.1) = true then stp F d K K Q i ls st c s n sh I L P else stp C d K W Q i ls st c s n sh I L P
def runI (lv : Nat → Bool) (F C : TC) (y d : Nat) (Q : TQ) (W : TK) (cut : Nat) : Nat → TK
  | 0 => W
  | k + 1 => fun pc ls st c s n sh I L P => if pc = cut then W pc ls st c s n sh I L P else liftI lv F C d (runI lv F C y d Q W cut k) W Q (cod y pc) ls st c s n sh I L P
theorem stp_leaf {F C : TC} {d : Nat} {K W : TK} {Q : TQ}
    (hF : ∀ a as n sh I L P Q', F a as n sh I L P Q' → C a as n sh I L P Q')
    (hC : ∀ a as n sh I L P Q' Q2, C a as n sh I L P Q' → (∀ r n' sh' I' L' P', Q' r n' sh' I' L' P' → Q2 r n' sh' I' L' P') → C a as n sh I L P Q2)
    (hK : ∀ pc ls st c s n sh I L P, K pc ls st c s n sh I L P → W pc ls st c s n sh I L P) {i : AI} {ls : List (Option Value)} {st : List Value} {c s n : Nat} {sh : TS} {I : TI} {L : TL} {P : TP}
    (hi : inv i.2.2.2.2 = true) (h : stp F d K K Q i ls st c s n sh I L P) : stp C d K W Q i ls st c s n sh I L P := by
  obtain ⟨nx, a, b, sw, op⟩ := i
  cases op with
  | inl v => cases hi
  | inr op =>
    cases op
    case invokevirtual ci =>
      unfold stp at h ⊢
      dsimp only at h ⊢
      split at h
      · split at h
        · exact ⟨h.1, h.2.1, h.2.2.1, h.2.2.2.1, h.2.2.2.2.1, hC _ _ _ _ _ _ _ _ _ (hF _ _ _ _ _ _ _ _ h.2.2.2.2.2) fun _ _ _ _ _ _ q => hK _ _ _ _ _ _ _ _ _ _ q⟩
        · exact h.elim
      · exact h.elim
    case invokestatic ci =>
      unfold stp at h ⊢
      dsimp only at h ⊢
      split at h
      · split at h
        · exact ⟨h.1, h.2.1, h.2.2.1, h.2.2.2.1, hC _ _ _ _ _ _ _ _ _ (hF _ _ _ _ _ _ _ _ h.2.2.2.2) fun _ _ _ _ _ _ q => hK _ _ _ _ _ _ _ _ _ _ q⟩
        · exact h.elim
      · exact h.elim
    case invokespecial ci =>
      unfold stp at h ⊢
      dsimp only at h ⊢
      split at h
      · split at h
        · exact ⟨h.1, h.2.1, h.2.2.1, h.2.2.2.1, h.2.2.2.2.1, hC _ _ _ _ _ _ _ _ _ (hF _ _ _ _ _ _ _ _ h.2.2.2.2.2) fun _ _ _ _ _ _ q => hK _ _ _ _ _ _ _ _ _ _ q⟩
        · exact h.elim
      · exact h.elim
    all_goals cases hi
theorem liftI_mono {lv : Nat → Bool} {F C : TC} {d : Nat} {K W : TK} {Q : TQ}
    (hF : ∀ a as n sh I L P Q', F a as n sh I L P Q' → C a as n sh I L P Q')
    (hC : ∀ a as n sh I L P Q' Q2, C a as n sh I L P Q' → (∀ r n' sh' I' L' P', Q' r n' sh' I' L' P' → Q2 r n' sh' I' L' P') → C a as n sh I L P Q2)
    (hK : ∀ pc ls st c s n sh I L P, K pc ls st c s n sh I L P → W pc ls st c s n sh I L P) {o : Option AI} {ls : List (Option Value)} {st : List Value} {c s n : Nat} {sh : TS} {I : TI} {L : TL} {P : TP}
    (h : liftI lv F C d K W Q o ls st c s n sh I L P) : lift C d K W Q o ls st c s n sh I L P := by
  cases o with
  | none => exact h
  | some i =>
    unfold liftI at h
    dsimp only at h
    split at h
    · rename_i h2
      rw [Bool.and_eq_true] at h2
      exact stp_leaf hF hC hK h2.1 h
    · exact h
section
variable {G : GE} {y d : Nat} {Q : TQ}
theorem runI_ok {lv : Nat → Bool} {F : TC} {cut : Nat} (hF : ∀ a as n sh I L P Q', F a as n sh I L P Q' → Cl G (d - 1) a as n sh I L P Q') : ∀ (k pc : Nat) (ls : List (Option Value)) (st : List Value) (c s n : Nat) (sh : TS) (I : TI) (L : TL) (P : TP), runI lv F (Cl G (d - 1)) y d Q (WP G y d Q) cut k pc ls st c s n sh I L P → WP G y d Q pc ls st c s n sh I L P
  | 0, _, _, _, _, _, _, _, _, _, _, h => h
  | k + 1, pc, ls, st, c, s, n, sh, I, L, P, h => by
    unfold runI at h
    split at h
    · exact h
    · have hK : ∀ pc ls st c s n sh I L P, runI lv F (Cl G (d - 1)) y d Q (WP G y d Q) cut k pc ls st c s n sh I L P → WP G y d Q pc ls st c s n sh I L P := fun _ _ _ _ _ _ _ _ _ _ q => runI_ok hF k _ _ _ _ _ _ _ _ _ _ q
      exact WP_step (lift_mono hK (liftI_mono hF (fun _ _ _ _ _ _ _ _ _ h q => Cl.mono h q) hK h))
/-- from a place on: one instruction, then many, until the place cut; calls that F tells go on -/
theorem WP_runI {lv : Nat → Bool} {F : TC} (hF : ∀ a as n sh I L P Q', F a as n sh I L P Q' → Cl G (d - 1) a as n sh I L P Q') (cut k : Nat) {pc : Nat} {ls : List (Option Value)} {st : List Value} {c s n : Nat} {sh : TS} {I : TI} {L : TL} {P : TP}
    (h : liftI lv F (Cl G (d - 1)) d (runI lv F (Cl G (d - 1)) y d Q (WP G y d Q) cut k) (WP G y d Q) Q (cod y pc) ls st c s n sh I L P) : WP G y d Q pc ls st c s n sh I L P := by
  have hK : ∀ pc ls st c s n sh I L P, runI lv F (Cl G (d - 1)) y d Q (WP G y d Q) cut k pc ls st c s n sh I L P → WP G y d Q pc ls st c s n sh I L P := fun _ _ _ _ _ _ _ _ _ _ q => runI_ok hF k _ _ _ _ _ _ _ _ _ _ q
  exact WP_step (lift_mono hK (liftI_mono hF (fun _ _ _ _ _ _ _ _ _ h q => Cl.mono h q) hK h))
end
theorem liftI_y {lv : Nat → Bool} {F C : TC} {d : Nat} {K W : TK} {Q : TQ} {nx a b : Nat} {sw : List (Int32 × Nat)} {op : Value ⊕ Jvm.ClassFile.Instr} {ls : List (Option Value)} {st : List Value} {c s n : Nat} {sh : TS} {I : TI} {L : TL} {P : TP} (h : (inv op && lv a) = true) :
    liftI lv F C d K W Q (some (nx, a, b, sw, op)) ls st c s n sh I L P = stp F d K K Q (nx, a, b, sw, op) ls st c s n sh I L P := if_pos h
theorem liftI_n {lv : Nat → Bool} {F C : TC} {d : Nat} {K W : TK} {Q : TQ} {nx a b : Nat} {sw : List (Int32 × Nat)} {op : Value ⊕ Jvm.ClassFile.Instr} {ls : List (Option Value)} {st : List Value} {c s n : Nat} {sh : TS} {I : TI} {L : TL} {P : TP} (h : (inv op && lv a) = false) :
    liftI lv F C d K W Q (some (nx, a, b, sw, op)) ls st c s n sh I L P = stp C d K W Q (nx, a, b, sw, op) ls st c s n sh I L P := if_neg (by rw [h]; decide)
theorem runI_0 (lv : Nat → Bool) (F C : TC) (y d : Nat) (Q : TQ) (W : TK) (cut pc : Nat) (ls : List (Option Value)) (st : List Value) (c s n : Nat) (sh : TS) (I : TI) (L : TL) (P : TP) : runI lv F C y d Q W cut 0 pc ls st c s n sh I L P = W pc ls st c s n sh I L P := id rfl
theorem runI_n (lv : Nat → Bool) (F C : TC) (y d : Nat) (Q : TQ) (W : TK) (cut k pc : Nat) (ls : List (Option Value)) (st : List Value) (c s n : Nat) (sh : TS) (I : TI) (L : TL) (P : TP) (h : ¬ pc = cut) : runI lv F C y d Q W cut (k + 1) pc ls st c s n sh I L P = liftI lv F C d (runI lv F C y d Q W cut k) W Q (cod y pc) ls st c s n sh I L P := if_neg h
theorem runI_c (lv : Nat → Bool) (F C : TC) (y d : Nat) (Q : TQ) (W : TK) (cut k : Nat) (ls : List (Option Value)) (st : List Value) (c s n : Nat) (sh : TS) (I : TI) (L : TL) (P : TP) : runI lv F C y d Q W cut (k + 1) cut ls st c s n sh I L P = W cut ls st c s n sh I L P := if_pos rfl
