/-! ### the row of numbers: what a yard does -/
abbrev TN : Type := Nat → Int32
def gs (N : TN) (i w : Nat) : Int32 := N (26 + 9 * i + w)
def ed (N : TN) (g w : Nat) : Int32 := N (8 + 2 * g + w)
def cn (N : TN) : Nat := (N 80).toNatClampNeg
def gn (N : TN) : Nat := (N 81).toNatClampNeg
def tkn (N : TN) (i : Nat) : Bool := decide (gs N i 4 = nI 1)
/-- rows that are in order, for so many geese and gates and rules -/
def WF (N : TN) (k g r : Nat) : Prop :=
  k ≤ 6 ∧ N 80 = nI k ∧ g ≤ 9 ∧ N 81 = nI g ∧ r ≤ 6 ∧ (∃ u, u ≤ r ∧ N 83 = nI u) ∧
  (∀ i, i < k → ∃ c, c < 8 ∧ gs N i 2 = nI c) ∧ (∀ j w, j < g → w < 2 → ∃ c, c < 8 ∧ ed N j w = nI c) ∧
  (∀ c, c < 8 → ∃ u, u ≤ 99 ∧ N c = nI u) ∧ (∀ i, i < k → gs N i 3 = -nI 1 ∨ ∃ u, u < 9 ∧ gs N i 3 = nI u) ∧
  (∀ i, i < k → ∃ u, u < 7 ∧ gs N i 0 = nI u) ∧ (∀ i, i < k → ∃ u, u ≤ 9 ∧ gs N i 1 = nI u) ∧ (∀ i, i < k → gs N i 4 = nI 0 ∨ gs N i 4 = nI 1)
def anoth (N : TN) (i c : Nat) : Nat → Bool := anyB (fun k => !decide (k = i) && (!tkn N k && decide (gs N k 2 = nI c)))
def endB (N : TN) (g : Int32) (c : Nat) : Bool := decide (0 ≤ g ∧ g < N 81) && (decide (ed N g.toNatClampNeg 0 = nI c) || decide (ed N g.toNatClampNeg 1 = nI c))
/-- the rule and its names -/
def nmS (N : TN) (i c : Nat) : TN := fun k => match k with
  | 0 => nI i
  | 1 => gs N i 0
  | 2 => gs N i 1
  | 3 => nI c
  | 4 => N c
  | _ => N 82 - N 82 / nI 10 * nI 10
abbrev TF : Type := Nat → TN → Int32
def rl (N : TN) : Nat := (N 83).toNatClampNeg
def sumS (F : TF) (N : TN) (i c : Nat) : Int32 := F (rl N) (nmS N i c)
def pullS (F : TF) (N : TN) (i c : Nat) : Int32 :=
  let s := sumS F N i c
  let gd := s - (if anoth N i c (cn N) = true then gs N i 1 else nI 0)
  let od := if gs N i 2 = nI c then s else nI 0
  if gs N i 0 = nI 1 then gd else if gs N i 0 = nI 2 then s / nI 2 else if gs N i 0 = nI 3 then od else
  if gs N i 0 = nI 4 then gd + (if endB N (gs N i 3) c = true then nI 10 else nI 0) else
  if gs N i 0 = nI 5 then s / nI 2 + (if c = 0 then nI 5 else nI 0) else if gs N i 0 = nI 6 then od + gs N i (5 + c % 4) else s
/-- a gate leads from a court to another -/
def byd (N : TN) (h c g : Nat) : Bool := if ed N g 0 = nI h then decide (ed N g 1 = nI c) else if ed N g 1 = nI h then decide (ed N g 0 = nI c) else false
def may (N : TN) (h c : Nat) : Bool := anyB (byd N h c) (gn N)
def ct (N : TN) (i : Nat) : Nat := (gs N i 2).toNatClampNeg
def goL (F : TF) (N : TN) (i : Nat) : Nat → Nat × Int32
  | 0 => (ct N i, pullS F N i (ct N i))
  | c + 1 => if may N (ct N i) c = true ∧ (goL F N i c).2 < pullS F N i c then (c, pullS F N i c) else goL F N i c
def goS (F : TF) (N : TN) (i : Nat) : Nat := (goL F N i 8).1
def mx0 (x : Int32) : Int32 := if nI 0 < x then x else nI 0
def hourL (F : TF) (e : Int32) (N : TN) : Nat → TN
  | 0 => N
  | i + 1 => if tkn (hourL F e N i) i = true then hourL F e N i else
      upN (upN (hourL F e N i) (26 + 9 * i + 2) (nI (goS F (hourL F e N i) i))) (goS F (hourL F e N i) i) (mx0 (hourL F e N i (goS F (hourL F e N i) i) - e))
def hourS (F : TF) (E : Nat → Int32) (N : TN) : TN := upN (hourL F (E (rl N)) N (cn N)) 82 (hourL F (E (rl N)) N (cn N) 82 + nI 1)
def hoursS (F : TF) (E : Nat → Int32) (N : TN) : Nat → TN
  | 0 => N
  | n + 1 => hourS F E (hoursS F E N n)
def p2 (x : Int32) : Int32 := nI 1 <<< (x &&& nI 31)
def openS (N : TN) : Int32 := orI (fun i => if tkn N i = false ∧ endB N (gs N i 3) (ct N i) = true then p2 (gs N i 3) else nI 0) (cn N)
def bt (x : Int32) (y : Int32) : Bool := decide ((x >>> (y &&& nI 31)) &&& nI 1 = nI 1)
def grnS (N : TN) : Int32 := sumI N 8
