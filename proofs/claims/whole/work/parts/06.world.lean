/-! The tables of numbers and the machine's heap; what a place in a method is worth (WP), what a call is worth (Cl). -/
/-- launch, where what is made begins, classes, addresses of the numbers below 20, the static that is never looked into, the script and its length -/
abbrev GE : Type := Launch × Nat × va_G × (Nat → Nat) × Value × (Nat → Int32) × Nat
abbrev Gl (G : GE) : Launch := G.1
abbrev GS (G : GE) : Nat := G.2.1
abbrev GD (G : GE) : va_G := G.2.2.1
abbrev GA (G : GE) : Nat → Nat := G.2.2.2.1
abbrev GF (G : GE) : Value := G.2.2.2.2.1
abbrev GX (G : GE) : Nat → Int32 := G.2.2.2.2.2.1
abbrev GL (G : GE) : Nat := G.2.2.2.2.2.2
def AA (G : GE) : Nat → Prop := fun q => GS G ≤ q
def adr (G : GE) (a : Nat) : Nat := if a < 20 then GA G a else GS G + (a - 20)
def tr (G : GE) : Value → Value
  | .ref a => if a = 0 then .null else if a = 1 then GF G else .ref (adr G a)
  | v => v
theorem tr_ref {G : GE} {a : Nat} (h : 2 ≤ a) : tr G (.ref a) = .ref (adr G a) := by
  show (if a = 0 then Value.null else if a = 1 then GF G else .ref (adr G a)) = _
  rw [if_neg (by omega), if_neg (by omega)]
def fv (ty : FieldType) (x : Int32) (q : Nat) : Value := match fKd ty with
  | 1 => .ref q
  | _ => .int x
def ev (tag : Nat) (x : Int32) (l : Int64) (q : Nat) : Value := match tag with
  | 101 => .long l
  | 104 => .ref q
  | 105 => .ref q
  | _ => .int x
def aty (tag : Nat) : FieldType := match tag with
  | 100 => .int
  | 101 => .long
  | 102 => .char
  | 103 => .byte
  | 104 => .object "GeeseKeys$Goose"
  | _ => .object "GeeseKeys$Tape"
def acn (tag : Nat) : Nat := match tag with
  | 104 => 3
  | _ => 6
def aboveV (j : Nat) : Int32 := ([-1, 0, 0, 0, 1, 2, 3] : List Int32).getD j 0
def strN : List Nat := [4, 6, 5, 6, 3]
def strB : List (List Int32) := [[101, 97, 116, 32], [115, 99, 97, 114, 101, 32], [108, 117, 114, 101, 32], [112, 107, 118, 99, 103, 104], [60, 61, 62]]
/-- what is known of an array -/
def AOK (U : State) (H : Heap) (q : Nat) (t : Nat × Nat) (f : Nat → Value) : Prop :=
  ∃ cell : Cell, H[q]? = some cell ∧ U.isArrayOf cell (aty t.1) ∧ cell.vm ≠ .unknown ∧ t.2 ≤ cell.slots.size ∧ cell.slots.size.toInt32 = Int32.ofNat t.2 ∧ ∀ j : Nat, j < t.2 → cell.slots[j]? = some (f j)
def ARO (U : State) (cA : ClassId) (tag : Nat) : Prop := ArrOfT U cA (aty tag) ∧ va_RA U cA (aty tag)
def CO (G : GE) (U : State) (H : Heap) (sh : TS) (I : TI) (L : TL) (P : TP) (a : Nat) : Prop :=
  ((sh a).1 < 11 ∧ (sh a).2 = fN (sh a).1 ∧ t_OB (adr G a) ((GD G).1 (sh a).1) (fN (sh a).1) ((GD G).2 (sh a).1) H (fun k => tr G (fv (fY (sh a).1 k) (I a k) (P a k)))) ∨
  (100 ≤ (sh a).1 ∧ (sh a).1 ≤ 105 ∧ ∃ cA : ClassId, H[adr G a]? = some (arrV cA (sh a).2 (fun j => tr G (ev (sh a).1 (I a j) (L a j) (P a j)))) ∧ ARO U cA (sh a).1)
/-- the numbers below 20 -/
def SF (G : GE) (sh : TS) (I : TI) (P : TP) : Prop :=
  sh 0 = (999, 0) ∧ sh 1 = (999, 0) ∧ sh 2 = (100, 7) ∧ sh 3 = (100, GL G) ∧ (∀ i, i < 5 → sh (4 + i) = (11, 2)) ∧ (∀ i, i < 5 → sh (9 + i) = (103, strN.getD i 0)) ∧ (∀ a, 14 ≤ a → a < 20 → sh a = (999, 0)) ∧
  (∀ j, j < 7 → I 2 j = aboveV j) ∧ (∀ j, j < GL G → I 3 j = GX G j) ∧ (∀ i, i < 5 → P (4 + i) 0 = 9 + i ∧ I (4 + i) 1 = 0) ∧ ∀ i, i < 5 → ∀ j, j < strN.getD i 0 → I (9 + i) j = (strB.getD i []).getD j 0
def ST (G : GE) (U : State) (H : Heap) : Prop :=
  (∀ i, i < 3 → va_Z (gkS i).1 (gkS i).2.1 (gkS i).2.2 (tr G (stV i)) (AA G) U H) ∧ va_T .int (GA G 2) 7 (fun j => .int (aboveV j)) (AA G) U H ∧ va_T .int (GA G 3) (GL G) (fun j => .int (GX G j)) (AA G) U H ∧
  vk_S 5 strN strB (fun i => GA G (4 + i)) (fun i => GA G (9 + i)) (AA G) U H ∧ (∀ e ∈ gkLT, vk_R (cNm e.1) e.2.1 e.2.2.1 (GA G (4 + e.2.2.2)) U) ∧ (GF G = .null ∨ ∃ t, GF G = .ref t)
def WK (G : GE) (U : State) : Prop :=
  va_K (GD G) kCl [] U ∧ (∀ e ∈ gkLN, va_Nw (.methodLinkNest (cNm e.1) e.2.1 (mNm e.2.2) "GeeseKeys") U) ∧ va_AO "GeeseKeys$Goose" U ∧ va_AO "GeeseKeys$Tape" U ∧ ST G U U.heap
def Mat (G : GE) (U : State) (H : Heap) (n : Nat) (sh : TS) (I : TI) (L : TL) (P : TP) : Prop :=
  H.size + 20 = GS G + n ∧ 20 ≤ n ∧ SF G sh I P ∧ (∀ a, n ≤ a → sh a = (999, 0)) ∧ ∀ a, 20 ≤ a → a < n → CO G U H sh I L P a
def LR (G : GE) (lsr : Array Slot) (ls : List (Option Value)) : Prop := lsr.size = ls.length ∧ lv_wf lsr ∧ ∀ i v, gl ls i = some v → lsr[i]? = some (.val (tr G v))
def QC (G : GE) (Q : TQ) : Array Value → State → Outcome → State → Prop := fun _ st o t =>
  (∃ (r : Option Value) (n : Nat) (sh : TS) (I : TI) (L : TL) (P : TP), o = .returned (r.map (tr G)) ∧ Q r n sh I L P ∧ Mat G t t.heap n sh I L P) ∧ va_F (AA G) st t
def Ctx (G : GE) (y d : Nat) (p : Program) (S : State) (m : MethodId) (args : Array Value) (meth : Method) (cd : Code) (R : Room) : Prop :=
  p.tables.exec = Jvm.exec ∧ cd.code = mBy y ∧ meth.sig.returnType = mRt y ∧ cd.maxLocals = mML y ∧ S.vm.findClass (mNm y).cls = some m.cls ∧ (∀ w ∈ tblG, w.before args S = true) ∧ meth.locks = false ∧
  (mKi y = 2 → meth.name = "<init>") ∧ WK G S ∧ d ≤ R.frames ∧ 40 * d ≤ R.locals ∧ R.cells = mMc y ∧ R.slots = mMs y ∧ (mNm y).cls = cNm (mCi y) ∧ GS G ≤ S.heap.size
def WP (G : GE) (y d : Nat) (Q : TQ) : TK := fun pc ls st c s n sh I L P =>
  ∀ (p : Program) (e : Env) (S : State) (m : MethodId) (args : Array Value) (below : List Frame) (meth : Method) (cd : Code) (R : Room) (H : Heap) (locs : List Loc) (cells slots : Nat) (lsr : Array Slot),
    Ctx G y d p S m args meth cd R → Mat G S H n sh I L P → va_S (AA G) S.heap H locs → LR G lsr ls → ls.length = mML y → cells + c ≤ mMc y → slots + s ≤ mMs y →
    W p (Gl G) e R S m args below meth cd H locs cells slots (MQ below (QC G Q) args S (mMc y) (mMs y) (AA G)) (F0 m pc lsr (st.map (tr G)))
def rmOf (d y : Nat) : Room := { frames := d, cells := mMc y, slots := mMs y, locals := 40 * d }
def wsOf (y : Nat) : List Cond := .code (mNm y) (mBy y) (mML y) (mRt y) :: tblG
def Cl0 (G : GE) (d y : Nat) (as : List Value) (n : Nat) (sh : TS) (I : TI) (L : TL) (P : TP) (Q : TQ) : Prop :=
  Met (Gl G) (mNm y) (wsOf y) (rmOf d y) (va_Pc (as.map (tr G)) (fun U => WK G U ∧ Mat G U U.heap n sh I L P ∧ GS G ≤ U.heap.size)) (QC G Q) (mMc y) (mMs y) (AA G)
/-- a call of method y with room for d calls more -/
def Cl (G : GE) (d : Nat) : TC := fun y as n sh I L P Q => ∃ Q0 : TQ, (∀ r n' sh' I' L' P', Q0 r n' sh' I' L' P' → Q r n' sh' I' L' P') ∧ Cl0 G d y as n sh I L P Q0
theorem Cl.mono {G : GE} {d y : Nat} {as : List Value} {n : Nat} {sh : TS} {I : TI} {L : TL} {P : TP} {Q Q' : TQ} (h : Cl G d y as n sh I L P Q) (hq : ∀ r n' sh' I' L' P', Q r n' sh' I' L' P' → Q' r n' sh' I' L' P') : Cl G d y as n sh I L P Q' := by
  obtain ⟨Q0, h1, h2⟩ := h
  exact ⟨Q0, fun r n' sh' I' L' P' q => hq _ _ _ _ _ _ (h1 _ _ _ _ _ _ q), h2⟩
/-! ### the locals -/
theorem gl_lt : ∀ {ls : List (Option Value)} {i : Nat} {v : Value}, gl ls i = some v → i < ls.length
  | [], _, _, h => by simp [gl] at h
  | _ :: _, 0, _, _ => Nat.succ_pos _
  | _ :: r, k + 1, v, h => Nat.succ_lt_succ (gl_lt (ls := r) (i := k) h)
theorem s1_len : ∀ (ls : List (Option Value)) (i : Nat) (v : Value), (s1 ls i v).length = ls.length
  | [], _, _ => rfl
  | _ :: _, 0, _ => rfl
  | _ :: r, k + 1, v => by simp [s1, s1_len r k v]
theorem fx_some {k : Nat} {o : Option Value} {w : Value} (h : fx k o = some w) : o = some w ∧ ¬ (k = 0 ∧ w.category = 2) := by
  unfold fx at h
  split at h
  · cases h
  · cases h
  · subst h
    refine ⟨rfl, fun q => ?_⟩
    obtain ⟨rfl, q⟩ := q
    rename_i h1 h2
    cases w with
    | long x => exact h1 x rfl rfl
    | double x => exact h2 x rfl rfl
    | _ => simp [Value.category] at q
theorem gl_s1 : ∀ {ls : List (Option Value)} {i : Nat} {v : Value} {j : Nat} {w : Value}, gl (s1 ls i v) j = some w → (j = i ∧ w = v) ∨ (j ≠ i ∧ gl ls j = some w ∧ ¬ (j + 1 = i ∧ w.category = 2))
  | [], i, v, j, w, h => by simp [s1, gl] at h
  | o :: r, 0, v, 0, w, h => Or.inl ⟨rfl, by simpa [s1, gl] using h.symm⟩
  | o :: r, 0, v, j + 1, w, h => Or.inr ⟨by omega, by simpa [s1, gl] using h, by omega⟩
  | o :: r, k + 1, v, 0, w, h => by
    have h : fx k o = some w := h
    obtain ⟨h1, h2⟩ := fx_some h
    exact Or.inr ⟨by omega, h1, fun q => h2 ⟨by omega, q.2⟩⟩
  | o :: r, k + 1, v, j + 1, w, h => by
    have h : gl (s1 r k v) j = some w := h
    rcases gl_s1 h with ⟨h1, h2⟩ | ⟨h1, h2, h3⟩
    · exact Or.inl ⟨by omega, h2⟩
    · exact Or.inr ⟨by omega, h2, fun q => h3 ⟨by omega, q.2⟩⟩
theorem s2_len : ∀ (ls : List (Option Value)) (i : Nat) (v : Value), (s2 ls i v).length = ls.length
  | [], _, _ => rfl
  | [_], 0, _ => rfl
  | _ :: _ :: _, 0, _ => rfl
  | _ :: r, k + 1, v => by simp [s2, s2_len r k v]
theorem s2_succ (o : Option Value) (r : List (Option Value)) (k : Nat) (v : Value) : s2 (o :: r) (k + 1) v = fx k o :: s2 r k v := by
  cases r <;> rfl
theorem gl_s2 : ∀ {ls : List (Option Value)} {i : Nat} {v : Value} {j : Nat} {w : Value}, gl (s2 ls i v) j = some w → (j = i ∧ w = v) ∨ (j ≠ i ∧ j ≠ i + 1 ∧ gl ls j = some w ∧ ¬ (j + 1 = i ∧ w.category = 2))
  | [], i, v, j, w, h => by simp [s2, gl] at h
  | [o], 0, v, 0, w, h => by simp [s2, gl] at h
  | [o], 0, v, j + 1, w, h => by simp [s2, gl] at h
  | o :: o2 :: r, 0, v, 0, w, h => Or.inl ⟨rfl, by simpa [s2, gl] using h.symm⟩
  | o :: o2 :: r, 0, v, 1, w, h => by simp [s2, gl] at h
  | o :: o2 :: r, 0, v, j + 2, w, h => Or.inr ⟨by omega, by omega, by simpa [s2, gl] using h, by omega⟩
  | o :: r, k + 1, v, 0, w, h => by
    rw [s2_succ] at h
    have h : fx k o = some w := h
    obtain ⟨h1, h2⟩ := fx_some h
    exact Or.inr ⟨by omega, by omega, h1, fun q => h2 ⟨by omega, q.2⟩⟩
  | o :: r, k + 1, v, j + 1, w, h => by
    rw [s2_succ] at h
    have h : gl (s2 r k v) j = some w := h
    rcases gl_s2 h with ⟨h1, h2⟩ | ⟨h1, h2, h3, h4⟩
    · exact Or.inl ⟨by omega, h2⟩
    · exact Or.inr ⟨by omega, by omega, h3, fun q => h4 ⟨by omega, q.2⟩⟩
theorem tr_cat {G : GE} (hf : GF G = .null ∨ ∃ t, GF G = .ref t) (v : Value) : (tr G v).category = v.category := by
  cases v with
  | ref a =>
    show (if a = 0 then Value.null else if a = 1 then GF G else .ref (adr G a)).category = 1
    split
    · rfl
    · split
      · rcases hf with h | ⟨t, h⟩ <;> rw [h] <;> rfl
      · rfl
  | _ => rfl
theorem tr_ref' {G : GE} (hf : GF G = .null ∨ ∃ t, GF G = .ref t) (a : Nat) : tr G (.ref a) = .null ∨ ∃ q, tr G (.ref a) = .ref q := by
  show (if a = 0 then Value.null else if a = 1 then GF G else .ref (adr G a)) = .null ∨ ∃ q, (if a = 0 then Value.null else if a = 1 then GF G else .ref (adr G a)) = .ref q
  split
  · exact Or.inl rfl
  · split
    · exact hf
    · exact Or.inr ⟨_, rfl⟩
/-- the locals as a list of pairs -/
def pl (G : GE) (ls : List (Option Value)) : List (Nat × Value) := (List.range ls.length).filterMap (fun i => (gl ls i).map (fun v => (i, tr G v)))
theorem pl_mem {G : GE} {ls : List (Option Value)} {q : Nat × Value} : q ∈ pl G ls ↔ ∃ v, gl ls q.1 = some v ∧ q.2 = tr G v := by
  constructor
  · intro h
    obtain ⟨i, -, hi⟩ := List.mem_filterMap.mp h
    cases hv : gl ls i with
    | none => rw [hv] at hi; cases hi
    | some v => rw [hv] at hi; cases hi; exact ⟨v, hv, rfl⟩
  · obtain ⟨i, x⟩ := q
    rintro ⟨v, h1, h2⟩
    have h1 : gl ls i = some v := h1
    have h2 : x = tr G v := h2
    refine List.mem_filterMap.mpr ⟨i, List.mem_range.mpr (gl_lt h1), ?_⟩
    rw [h1, h2]
    rfl
theorem LR.has {G : GE} {lsr : Array Slot} {ls : List (Option Value)} (h : LR G lsr ls) : lv_has lsr ls.length (pl G ls) := ⟨h.1, h.2.1, fun q hq => by
  obtain ⟨v, h1, h2⟩ := pl_mem.mp hq
  rw [h2]
  exact h.2.2 _ _ h1⟩
theorem LR.st1 {G : GE} (hf : GF G = .null ∨ ∃ t, GF G = .ref t) {lsr : Array Slot} {ls : List (Option Value)} {i : Nat} {v : Value} (h : lv_has lsr ls.length ((i, tr G v) :: (pl G ls).filter (fun q => !(q.1 == i) && !(q.1 + 1 == i && q.2.category == 2)))) : LR G lsr (s1 ls i v) := by
  refine ⟨by rw [s1_len]; exact h.1, h.2.1, fun j w hj => ?_⟩
  rcases gl_s1 hj with ⟨rfl, rfl⟩ | ⟨h1, h2, h3⟩
  · exact h.2.2 _ List.mem_cons_self
  · refine h.2.2 (j, tr G w) (List.mem_cons_of_mem _ (List.mem_filter.mpr ⟨pl_mem.mpr ⟨w, h2, rfl⟩, ?_⟩))
    have e : (tr G w).category = w.category := tr_cat hf w
    simp only [e, Bool.and_eq_true, Bool.not_eq_true', beq_eq_false_iff_ne, ne_eq, Bool.and_eq_false_iff]
    refine ⟨h1, ?_⟩
    by_cases hq : j + 1 = i
    · exact Or.inr fun q => h3 ⟨hq, q⟩
    · exact Or.inl hq
theorem LR.st2 {G : GE} (hf : GF G = .null ∨ ∃ t, GF G = .ref t) {lsr : Array Slot} {ls : List (Option Value)} {i : Nat} {v : Value} (h : lv_has lsr ls.length ((i, tr G v) :: (pl G ls).filter (fun q => !(q.1 == i) && (!(q.1 == i + 1) && !(q.1 + 1 == i && q.2.category == 2))))) : LR G lsr (s2 ls i v) := by
  refine ⟨by rw [s2_len]; exact h.1, h.2.1, fun j w hj => ?_⟩
  rcases gl_s2 hj with ⟨rfl, rfl⟩ | ⟨h1, h0, h2, h3⟩
  · exact h.2.2 _ List.mem_cons_self
  · refine h.2.2 (j, tr G w) (List.mem_cons_of_mem _ (List.mem_filter.mpr ⟨pl_mem.mpr ⟨w, h2, rfl⟩, ?_⟩))
    have e : (tr G w).category = w.category := tr_cat hf w
    simp only [e, Bool.and_eq_true, Bool.not_eq_true', beq_eq_false_iff_ne, ne_eq, Bool.and_eq_false_iff]
    refine ⟨h1, h0, ?_⟩
    by_cases hq : j + 1 = i
    · exact Or.inr fun q => h3 ⟨hq, q⟩
    · exact Or.inl hq
theorem ini_args {G : GE} (hf : GF G = .null ∨ ∃ t, GF G = .ref t) : ∀ (as : List Value) (k : Nat) (i : Nat) (v : Value), (∀ a ∈ as, ∀ b, a ≠ .double b) → gl (ini as) i = some v → (k + i, tr G v) ∈ lv_args k (as.map (tr G))
  | [], k, i, v, hd, h => by simp [ini, gl] at h
  | a :: r, k, i, v, hd, h => by
    have hd' : ∀ a ∈ r, ∀ b, a ≠ .double b := fun a ha => hd a (List.mem_cons_of_mem _ ha)
    have hc := tr_cat hf a
    show _ ∈ (k, tr G a) :: lv_args (if (tr G a).category = 2 then k + 2 else k + 1) (r.map (tr G))
    rw [hc]
    cases a with
    | long x =>
      rw [if_pos (show (Value.long x).category = 2 from rfl)]
      match i, h with
      | 0, h => cases h; exact List.mem_cons_self
      | 1, h => simp [ini, gl] at h
      | i + 2, h =>
        have := ini_args hf r (k + 2) i v hd' h
        rw [show k + (i + 2) = k + 2 + i by omega]
        exact List.mem_cons_of_mem _ this
    | double b => exact absurd rfl (hd _ List.mem_cons_self b)
    | _ =>
      rw [if_neg (by simp [Value.category])]
      match i, h with
      | 0, h => cases h; exact List.mem_cons_self
      | i + 1, h =>
        have := ini_args hf r (k + 1) i v hd' h
        rw [show k + (i + 1) = k + 1 + i by omega]
        exact List.mem_cons_of_mem _ this
theorem gl_app_rep : ∀ (l : List (Option Value)) (n i : Nat) (v : Value), gl (l ++ List.replicate n none) i = some v → gl l i = some v
  | [], 0, i, v, h => by simp [gl] at h
  | [], n + 1, 0, v, h => by simp [gl, List.replicate_succ] at h
  | [], n + 1, i + 1, v, h => gl_app_rep [] n i v (by simpa [gl, List.replicate_succ] using h)
  | o :: r, n, 0, v, h => h
  | o :: r, n, i + 1, v, h => gl_app_rep r n i v h
theorem lg_len {G : GE} (hf : GF G = .null ∨ ∃ t, GF G = .ref t) : ∀ (as : List Value), (∀ a ∈ as, ∀ b, a ≠ .double b) → (lg_sl (as.map (tr G))).length = (ini as).length
  | [], _ => rfl
  | a :: r, hd => by
    have ih := lg_len hf r (fun a ha => hd a (List.mem_cons_of_mem _ ha))
    have hc := tr_cat hf a
    have e : lg_sl ((a :: r).map (tr G)) = (if (tr G a).category = 2 then [Slot.val (tr G a), .second] else [.val (tr G a)]) ++ lg_sl (r.map (tr G)) := by simp [lg_sl]
    rw [e, List.length_append, ih, hc]
    cases a with
    | long x => simp [Value.category, ini]; omega
    | double b => exact absurd rfl (hd _ List.mem_cons_self b)
    | _ => simp [Value.category, ini]; omega
/-- the locals at a method's entry -/
theorem LR.entry {G : GE} (hf : GF G = .null ∨ ∃ t, GF G = .ref t) {as : List Value} {n : Nat} (hd : ∀ a ∈ as, ∀ b, a ≠ .double b) (hn : (ini as).length ≤ n) :
    LR G ((lg_sl (as.map (tr G)) ++ List.replicate (n - (lg_sl (as.map (tr G))).length) Slot.unset).toArray) (padTo n (ini as)) := by
  have h := lv_entry (as.map (tr G)) (n := n) (by rw [lg_len hf as hd]; exact hn)
  refine ⟨?_, h.2.1, fun i v hi => ?_⟩
  · rw [h.1]
    simp [padTo]
    omega
  · have h1 := gl_app_rep _ _ _ _ hi
    have h2 := ini_args hf as 0 i v hd h1
    rw [Nat.zero_add] at h2
    exact h.2.2 _ h2
section CTX
variable {G : GE} {y d : Nat} {p : Program} {S : State} {m : MethodId} {args : Array Value} {meth : Method} {cd : Code} {R : Room}
theorem Ctx.ret (X : Ctx G y d p S m args meth cd R) : meth.sig.returnType = mRt y := X.2.2.1
theorem Ctx.ml (X : Ctx G y d p S m args meth cd R) : cd.maxLocals = mML y := X.2.2.2.1
theorem Ctx.word (X : Ctx G y d p S m args meth cd R) : ∀ w ∈ tblG, w.before args S = true := X.2.2.2.2.2.1
theorem Ctx.locks (X : Ctx G y d p S m args meth cd R) : meth.locks = false := X.2.2.2.2.2.2.1
theorem Ctx.inm (X : Ctx G y d p S m args meth cd R) : mKi y = 2 → meth.name = "<init>" := X.2.2.2.2.2.2.2.1
theorem Ctx.wk (X : Ctx G y d p S m args meth cd R) : WK G S := X.2.2.2.2.2.2.2.2.1
theorem Ctx.fr (X : Ctx G y d p S m args meth cd R) : d ≤ R.frames := X.2.2.2.2.2.2.2.2.2.1
theorem Ctx.lo (X : Ctx G y d p S m args meth cd R) : 40 * d ≤ R.locals := X.2.2.2.2.2.2.2.2.2.2.1
theorem Ctx.cells (X : Ctx G y d p S m args meth cd R) : R.cells = mMc y := X.2.2.2.2.2.2.2.2.2.2.2.1
theorem Ctx.slots (X : Ctx G y d p S m args meth cd R) : R.slots = mMs y := X.2.2.2.2.2.2.2.2.2.2.2.2.1
theorem Ctx.cls (X : Ctx G y d p S m args meth cd R) : (mNm y).cls = cNm (mCi y) := X.2.2.2.2.2.2.2.2.2.2.2.2.2.1
theorem Ctx.base (X : Ctx G y d p S m args meth cd R) : GS G ≤ S.heap.size := X.2.2.2.2.2.2.2.2.2.2.2.2.2.2
theorem Ctx.own (X : Ctx G y d p S m args meth cd R) : S.vm.findClass (cNm (mCi y)) = some m.cls := by rw [← X.cls]; exact X.2.2.2.2.1
theorem Ctx.gf (X : Ctx G y d p S m args meth cd R) : GF G = .null ∨ ∃ t, GF G = .ref t := X.wk.2.2.2.2.2.2.2.2.2
end CTX
