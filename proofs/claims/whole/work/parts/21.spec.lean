/-! ### the row of numbers: what a yard does -/
abbrev TN : Type := Nat → Int32
def gs (N : TN) (i w : Nat) : Int32 := N (26 + 9 * i + w)
def ed (N : TN) (g w : Nat) : Int32 := N (8 + 2 * g + w)
def cn (N : TN) : Nat := (N 80).toNatClampNeg
def gn (N : TN) : Nat := (N 81).toNatClampNeg
def tkn (N : TN) (i : Nat) : Bool := decide (gs N i 4 = nI 1)
/-- rows that are in order, for so many geese and gates and rules -/
def WF (N : TN) (k g r : Nat) : Prop :=
  k ≤ 6 ∧ N 80 = nI k ∧ g ≤ 9 ∧ N 81 = nI g ∧ r ≤ 6 ∧ (∃ u, u ≤ r ∧ N 83 = nI u) ∧
  (∀ i, i < k → ∃ c, c < 8 ∧ gs N i 2 = nI c) ∧ (∀ j w, j < g → w < 2 → ∃ c, c < 8 ∧ ed N j w = nI c) ∧
  (∀ c, c < 8 → ∃ u, u ≤ 99 ∧ N c = nI u) ∧ (∀ i, i < k → gs N i 3 = -nI 1 ∨ ∃ u, u < 9 ∧ gs N i 3 = nI u) ∧
  (∀ i, i < k → ∃ u, u < 7 ∧ gs N i 0 = nI u) ∧ (∀ i, i < k → ∃ u, u ≤ 9 ∧ gs N i 1 = nI u) ∧ (∀ i, i < k → gs N i 4 = nI 0 ∨ gs N i 4 = nI 1)
def anoth (N : TN) (i c : Nat) : Nat → Bool := anyB (fun k => !decide (k = i) && (!tkn N k && decide (gs N k 2 = nI c)))
theorem anoth_s (N : TN) (i c j : Nat) : anoth N i c (j + 1) = (anoth N i c j || (!decide (j = i) && (!tkn N j && decide (gs N j 2 = nI c)))) := rfl
def endB (N : TN) (g : Int32) (c : Nat) : Bool := decide (nI 0 ≤ g ∧ g < N 81) && (decide (ed N g.toNatClampNeg 0 = nI c) || decide (ed N g.toNatClampNeg 1 = nI c))
/-- the rule and its names -/
def nmS (N : TN) (i c : Nat) : TN := fun k => match k with
  | 0 => nI i
  | 1 => gs N i 0
  | 2 => gs N i 1
  | 3 => nI c
  | 4 => N c
  | _ => N 82 - N 82 / nI 10 * nI 10
abbrev TF : Type := Nat → TN → Int32
def rl (N : TN) : Nat := (N 83).toNatClampNeg
def sumS (F : TF) (N : TN) (i c : Nat) : Int32 := F (rl N) (nmS N i c)
def pullS (F : TF) (N : TN) (i c : Nat) : Int32 :=
  let s := sumS F N i c
  let gd := s - (if anoth N i c (cn N) = true then gs N i 1 else nI 0)
  let od := if gs N i 2 = nI c then s else nI 0
  if gs N i 0 = nI 1 then gd else if gs N i 0 = nI 2 then s / nI 2 else if gs N i 0 = nI 3 then od else
  if gs N i 0 = nI 4 then gd + (if endB N (gs N i 3) c = true then nI 10 else nI 0) else
  if gs N i 0 = nI 5 then s / nI 2 + (if c = 0 then nI 5 else nI 0) else if gs N i 0 = nI 6 then od + gs N i (5 + c % 4) else s
/-- a gate leads from a court to another -/
def byd (N : TN) (h c g : Nat) : Bool := if ed N g 0 = nI h then decide (ed N g 1 = nI c) else if ed N g 1 = nI h then decide (ed N g 0 = nI c) else false
def may (N : TN) (h c : Nat) : Bool := anyB (byd N h c) (gn N)
def ct (N : TN) (i : Nat) : Nat := (gs N i 2).toNatClampNeg
def goL (F : TF) (N : TN) (i : Nat) : Nat → Nat × Int32
  | 0 => (ct N i, pullS F N i (ct N i))
  | c + 1 => if may N (ct N i) c = true ∧ (goL F N i c).2 < pullS F N i c then (c, pullS F N i c) else goL F N i c
def goS (F : TF) (N : TN) (i : Nat) : Nat := (goL F N i 8).1
def mx0 (x : Int32) : Int32 := if nI 0 < x then x else nI 0
def hourL (F : TF) (e : Int32) (N : TN) : Nat → TN
  | 0 => N
  | i + 1 => if tkn (hourL F e N i) i = true then hourL F e N i else
      upN (upN (hourL F e N i) (26 + 9 * i + 2) (nI (goS F (hourL F e N i) i))) (goS F (hourL F e N i) i) (mx0 (hourL F e N i (goS F (hourL F e N i) i) - e))
def hourS (F : TF) (E : Nat → Int32) (N : TN) : TN := upN (hourL F (E (rl N)) N (cn N)) 82 (hourL F (E (rl N)) N (cn N) 82 + nI 1)
def hoursS (F : TF) (E : Nat → Int32) (N : TN) : Nat → TN
  | 0 => N
  | n + 1 => hourS F E (hoursS F E N n)
def p2 (x : Int32) : Int32 := nI 1 <<< (x &&& nI 31)
def openS (N : TN) : Int32 := orI (fun i => if tkn N i = false ∧ endB N (gs N i 3) (ct N i) = true then p2 (gs N i 3) else nI 0) (cn N)
def bt (x : Int32) (y : Int32) : Bool := decide ((x >>> (y &&& nI 31)) &&& nI 1 = nI 1)
def grnS (N : TN) : Int32 := sumI N 8
def isC (x : Int32) : Bool := decide (nI 0 ≤ x ∧ x ≤ nI 7)
def isG (N : TN) (x : Int32) : Bool := decide (nI 0 ≤ x ∧ x < N 81)
def isY (N : TN) (x : Int32) : Bool := decide (nI 0 ≤ x ∧ x < N 80)
section
variable {N : TN} {k g r : Nat}
theorem WF.k6 (h : WF N k g r) : k ≤ 6 := h.1
theorem WF.n80 (h : WF N k g r) : N 80 = nI k := h.2.1
theorem WF.g9 (h : WF N k g r) : g ≤ 9 := h.2.2.1
theorem WF.n81 (h : WF N k g r) : N 81 = nI g := h.2.2.2.1
theorem WF.r6 (h : WF N k g r) : r ≤ 6 := h.2.2.2.2.1
theorem WF.n83 (h : WF N k g r) : ∃ u, u ≤ r ∧ N 83 = nI u := h.2.2.2.2.2.1
theorem WF.court (h : WF N k g r) {i : Nat} (hi : i < k) : ∃ c, c < 8 ∧ gs N i 2 = nI c := h.2.2.2.2.2.2.1 i hi
theorem WF.ends (h : WF N k g r) {j w : Nat} (hj : j < g) (hw : w < 2) : ∃ c, c < 8 ∧ ed N j w = nI c := h.2.2.2.2.2.2.2.1 j w hj hw
theorem WF.grain (h : WF N k g r) {c : Nat} (hc : c < 8) : ∃ u, u ≤ 99 ∧ N c = nI u := h.2.2.2.2.2.2.2.2.1 c hc
theorem WF.key (h : WF N k g r) {i : Nat} (hi : i < k) : gs N i 3 = -nI 1 ∨ ∃ u, u < 9 ∧ gs N i 3 = nI u := h.2.2.2.2.2.2.2.2.2.1 i hi
theorem WF.kind (h : WF N k g r) {i : Nat} (hi : i < k) : ∃ u, u < 7 ∧ gs N i 0 = nI u := h.2.2.2.2.2.2.2.2.2.2.1 i hi
theorem WF.v9 (h : WF N k g r) {i : Nat} (hi : i < k) : ∃ u, u ≤ 9 ∧ gs N i 1 = nI u := h.2.2.2.2.2.2.2.2.2.2.2.1 i hi
theorem WF.taken (h : WF N k g r) {i : Nat} (hi : i < k) : gs N i 4 = nI 0 ∨ gs N i 4 = nI 1 := h.2.2.2.2.2.2.2.2.2.2.2.2 i hi
theorem WF.cn (h : WF N k g r) : cn N = k := by
  have := h.k6
  show (N 80).toNatClampNeg = k
  rw [h.n80, Cp _ (by omega)]
theorem WF.gn (h : WF N k g r) : gn N = g := by
  have := h.g9
  show (N 81).toNatClampNeg = g
  rw [h.n81, Cp _ (by omega)]
end
theorem neg1 : (-nI 1 : Int32).toInt = -1 := by decide
theorem nIi (n : Nat) (h : n < 2 ^ 31) : (nI n).toInt = n := nI_toInt h
theorem i_lt {x y : Int32} : x < y ↔ x.toInt < y.toInt := Int32.lt_iff_toInt_lt
theorem i_le {x y : Int32} : x ≤ y ↔ x.toInt ≤ y.toInt := Int32.le_iff_toInt_le
theorem sub1_i (g : Nat) (h : g < 2 ^ 31) : (nI g - nI 1).toInt = (g : Int) - 1 := by
  rcases Nat.eq_zero_or_pos g with rfl | h0
  · decide
  · rw [nI_sub g 1 h0, nIi _ (by omega)]
    omega
theorem isG_eq {N : TN} {k g r : Nat} (h : WF N k g r) (x : Int32) : decide (nI 0 ≤ x ∧ x ≤ N 81 - nI 1) = isG N x := by
  have h9 := h.g9
  unfold isG
  rw [h.n81]
  apply decide_eq_decide.mpr
  rw [i_le, i_le, i_lt, sub1_i _ (by omega), nIi _ (by omega), nIi _ (by omega)]
  omega
theorem isY_eq {N : TN} {k g r : Nat} (h : WF N k g r) (x : Int32) : decide (nI 0 ≤ x ∧ x ≤ N 80 - nI 1) = isY N x := by
  have h9 := h.k6
  unfold isY
  rw [h.n80]
  apply decide_eq_decide.mpr
  rw [i_le, i_le, i_lt, sub1_i _ (by omega), nIi _ (by omega), nIi _ (by omega)]
  omega
