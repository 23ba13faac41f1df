/-! ### counting numbers among the ints -/
theorem z0 : (0 : Int32) = nI 0 := id rfl
theorem z1 : (1 : Int32) = nI 1 := id rfl
theorem z2 : (2 : Int32) = nI 2 := id rfl
theorem z3 : (3 : Int32) = nI 3 := id rfl
theorem z4 : (4 : Int32) = nI 4 := id rfl
theorem z5 : (5 : Int32) = nI 5 := id rfl
theorem z6 : (6 : Int32) = nI 6 := id rfl
theorem z7 : (7 : Int32) = nI 7 := id rfl
theorem z8 : (8 : Int32) = nI 8 := id rfl
theorem z9 : (9 : Int32) = nI 9 := id rfl
theorem z10 : (10 : Int32) = nI 10 := id rfl
theorem z11 : (11 : Int32) = nI 11 := id rfl
theorem z12 : (12 : Int32) = nI 12 := id rfl
theorem z13 : (13 : Int32) = nI 13 := id rfl
theorem z14 : (14 : Int32) = nI 14 := id rfl
theorem z15 : (15 : Int32) = nI 15 := id rfl
theorem z16 : (16 : Int32) = nI 16 := id rfl
theorem z17 : (17 : Int32) = nI 17 := id rfl
theorem z18 : (18 : Int32) = nI 18 := id rfl
theorem z19 : (19 : Int32) = nI 19 := id rfl
theorem z20 : (20 : Int32) = nI 20 := id rfl
theorem z21 : (21 : Int32) = nI 21 := id rfl
theorem z22 : (22 : Int32) = nI 22 := id rfl
theorem z23 : (23 : Int32) = nI 23 := id rfl
theorem z24 : (24 : Int32) = nI 24 := id rfl
theorem z25 : (25 : Int32) = nI 25 := id rfl
theorem z26 : (26 : Int32) = nI 26 := id rfl
theorem z27 : (27 : Int32) = nI 27 := id rfl
theorem z28 : (28 : Int32) = nI 28 := id rfl
theorem z29 : (29 : Int32) = nI 29 := id rfl
theorem z30 : (30 : Int32) = nI 30 := id rfl
theorem z31 : (31 : Int32) = nI 31 := id rfl
theorem z32 : (32 : Int32) = nI 32 := id rfl
theorem z33 : (33 : Int32) = nI 33 := id rfl
theorem z34 : (34 : Int32) = nI 34 := id rfl
theorem z35 : (35 : Int32) = nI 35 := id rfl
theorem z38 : (38 : Int32) = nI 38 := id rfl
theorem z40 : (40 : Int32) = nI 40 := id rfl
theorem z41 : (41 : Int32) = nI 41 := id rfl
theorem z48 : (48 : Int32) = nI 48 := id rfl
theorem z50 : (50 : Int32) = nI 50 := id rfl
theorem z51 : (51 : Int32) = nI 51 := id rfl
theorem z57 : (57 : Int32) = nI 57 := id rfl
theorem z59 : (59 : Int32) = nI 59 := id rfl
theorem z60 : (60 : Int32) = nI 60 := id rfl
theorem z61 : (61 : Int32) = nI 61 := id rfl
theorem z62 : (62 : Int32) = nI 62 := id rfl
theorem z63 : (63 : Int32) = nI 63 := id rfl
theorem z70 : (70 : Int32) = nI 70 := id rfl
theorem z71 : (71 : Int32) = nI 71 := id rfl
theorem z80 : (80 : Int32) = nI 80 := id rfl
theorem z81 : (81 : Int32) = nI 81 := id rfl
theorem z82 : (82 : Int32) = nI 82 := id rfl
theorem z83 : (83 : Int32) = nI 83 := id rfl
theorem z84 : (84 : Int32) = nI 84 := id rfl
theorem z85 : (85 : Int32) = nI 85 := id rfl
theorem z97 : (97 : Int32) = nI 97 := id rfl
theorem z99 : (99 : Int32) = nI 99 := id rfl
theorem z100 : (100 : Int32) = nI 100 := id rfl
theorem z101 : (101 : Int32) = nI 101 := id rfl
theorem z102 : (102 : Int32) = nI 102 := id rfl
theorem z103 : (103 : Int32) = nI 103 := id rfl
theorem z104 : (104 : Int32) = nI 104 := id rfl
theorem z107 : (107 : Int32) = nI 107 := id rfl
theorem z108 : (108 : Int32) = nI 108 := id rfl
theorem z112 : (112 : Int32) = nI 112 := id rfl
theorem z114 : (114 : Int32) = nI 114 := id rfl
theorem z115 : (115 : Int32) = nI 115 := id rfl
theorem z116 : (116 : Int32) = nI 116 := id rfl
theorem z117 : (117 : Int32) = nI 117 := id rfl
theorem z118 : (118 : Int32) = nI 118 := id rfl
theorem z121 : (121 : Int32) = nI 121 := id rfl
theorem z122 : (122 : Int32) = nI 122 := id rfl
theorem z123 : (123 : Int32) = nI 123 := id rfl
theorem z124 : (124 : Int32) = nI 124 := id rfl
theorem z127 : (127 : Int32) = nI 127 := id rfl
theorem z138 : (138 : Int32) = nI 138 := id rfl
theorem z255 : (255 : Int32) = nI 255 := id rfl
theorem z360 : (360 : Int32) = nI 360 := id rfl
theorem z552 : (552 : Int32) = nI 552 := id rfl
theorem z600 : (600 : Int32) = nI 600 := id rfl
theorem z1000 : (1000 : Int32) = nI 1000 := id rfl
theorem z9999 : (9999 : Int32) = nI 9999 := id rfl
theorem Lt (a b : Nat) (ha : a < 2 ^ 31) (hb : b < 2 ^ 31) : (nI a < nI b) = (a < b) := propext (nI_ltI ha hb)
theorem Le (a b : Nat) (ha : a < 2 ^ 31) (hb : b < 2 ^ 31) : (nI a ≤ nI b) = (a ≤ b) := propext (nI_leI ha hb)
theorem Eq' (a b : Nat) (ha : a < 2 ^ 31) (hb : b < 2 ^ 31) : (nI a = nI b) = (a = b) := propext (nI_eq ha hb)
theorem Cp (a : Nat) (ha : a < 2 ^ 31) : (nI a).toNatClampNeg = a := nI_clamp ha
theorem In (a b : Nat) (h : a < b) (hb : b < 2 ^ 31) : vp_in (nI a) b = True := eq_true (vp_in_nI h hb)
theorem nI_mul (a b : Nat) : nI a * nI b = nI (a * b) := (Int32.ofNat_mul a b).symm
theorem nI_sub (a b : Nat) (h : b ≤ a) : nI a - nI b = nI (a - b) := by
  have e : nI a = nI (a - b) + nI b := by rw [nI_add, Nat.sub_add_cancel h]
  rw [e, Int32.add_sub_cancel]
theorem nI_sub1 (a : Nat) (h : 1 ≤ a) : nI a + -nI 1 = nI (a - 1) := by rw [← Int32.sub_eq_add_neg, nI_sub a 1 h]
theorem Neg0 (a : Nat) (h : a < 2 ^ 31) : (nI a < nI 0) = False := eq_false (by rw [Lt _ _ h (by decide)]; omega)
def bI (b : Bool) : Int32 := nI (if b then 1 else 0)
theorem bI_t : bI true = nI 1 := rfl
theorem bI_f : bI false = nI 0 := rfl
theorem bI_eq0 (b : Bool) : (bI b = nI 0) = (b = false) := by cases b <;> simp [bI, nI_eq]
theorem bI_eq1 (b : Bool) : (bI b = nI 1) = (b = true) := by cases b <;> simp [bI, nI_eq]
theorem bI_01 (b : Bool) : (bI b = nI 0 ∨ bI b = nI 1) = True := eq_true (by cases b; exact Or.inl rfl; exact Or.inr rfl)
theorem pos_of {d k : Nat} (h : k < d) : 0 < d := by omega
/-! ### prefixes of loops -/
def anyB (f : Nat → Bool) : Nat → Bool
  | 0 => false
  | k + 1 => anyB f k || f k
def orI (f : Nat → Int32) : Nat → Int32
  | 0 => nI 0
  | k + 1 => orI f k ||| f k
def sumI (f : Nat → Int32) : Nat → Int32
  | 0 => nI 0
  | k + 1 => sumI f k + f k
/-- equal but for some places -/
def Eo {α : Type} (p : Nat → Nat → Prop) (I I' : Nat → Nat → α) : Prop := ∀ a j, ¬ p a j → I' a j = I a j
theorem Eo.rf {α : Type} {p : Nat → Nat → Prop} {I : Nat → Nat → α} : Eo p I I := fun _ _ _ => rfl
theorem Eo.tr {α : Type} {p : Nat → Nat → Prop} {I J K : Nat → Nat → α} (h : Eo p I J) (h2 : Eo p J K) : Eo p I K := fun a j q => (h2 a j q).trans (h a j q)
theorem Eo.mono {α : Type} {p q : Nat → Nat → Prop} {I J : Nat → Nat → α} (h : Eo p I J) (hq : ∀ a j, p a j → q a j) : Eo q I J := fun a j n => h a j fun x => n (hq a j x)
theorem Eo.up {α : Type} {p : Nat → Nat → Prop} {I J : Nat → Nat → α} (h : Eo p I J) {a j : Nat} (hp : p a j) (v : α) : Eo p I (up2 J a j v) := fun b k q => by
  show (if b = a ∧ k = j then v else J b k) = I b k
  rw [if_neg (by rintro ⟨rfl, rfl⟩; exact q hp)]
  exact h b k q
theorem Eo.cp {α : Type} {p : Nat → Nat → Prop} {I J : Nat → Nat → α} (h : Eo p I J) {sq sp dq dp n : Nat} (hp : ∀ j, dp ≤ j → j < dp + n → p dq j) : Eo p I (cpy2 J sq sp dq dp n) := fun b k q => by
  show (if b = dq ∧ dp ≤ k ∧ k < dp + n then J sq (sp + (k - dp)) else J b k) = I b k
  rw [if_neg (by rintro ⟨rfl, h1, h2⟩; exact q (hp k h1 h2))]
  exact h b k q
theorem up2_eq {α : Type} (f : Nat → Nat → α) (q k : Nat) (v : α) : up2 f q k v q k = v := if_pos ⟨rfl, rfl⟩
theorem up2_no {α : Type} (f : Nat → Nat → α) (q k a b : Nat) (v : α) (h : ¬ (a = q ∧ b = k)) : up2 f q k v a b = f a b := if_neg h
theorem up2_row {α : Type} (f : Nat → Nat → α) (q k a : Nat) (v : α) (h : ¬ a = q) : up2 f q k v a = f a := funext fun b => if_neg fun e => h e.1
/-- a row with one number changed -/
def upN (N : Nat → Int32) (k : Nat) (v : Int32) : Nat → Int32 := fun j => if j = k then v else N j
theorem up2_upN (f : Nat → Nat → Int32) (q k : Nat) (v : Int32) : up2 f q k v q = upN (f q) k v := funext fun j => by
  show (if q = q ∧ j = k then v else f q j) = if j = k then v else f q j
  simp

theorem nck0 (x : Int32) : nck 0 x = True := id rfl
theorem nck1 (x : Int32) : nck 1 x = (x = nI 0 ∨ x = nI 1) := id rfl
theorem nck2 (x : Int32) : nck 2 x = (narrow .byte (.int x) = .int x) := id rfl
theorem nck3 (x : Int32) : nck 3 x = (narrow .char (.int x) = .int x) := id rfl
theorem fxn (k : Nat) : fx k none = none := by cases k <;> rfl
theorem fxi (k : Nat) (x : Int32) : fx k (some (.int x)) = some (.int x) := by cases k <;> rfl
theorem fxr (k : Nat) (x : Nat) : fx k (some (.ref x)) = some (.ref x) := by cases k <;> rfl
theorem fxl (k : Nat) (x : Int64) : fx (k + 1) (some (.long x)) = some (.long x) := id rfl
theorem fxl0 (x : Int64) : fx 0 (some (.long x)) = none := id rfl
theorem run_0 (C : TC) (y d : Nat) (Q : TQ) (W : TK) (cut pc : Nat) (ls : List (Option Value)) (st : List Value) (c s n : Nat) (sh : TS) (I : TI) (L : TL) (P : TP) : run C y d Q W cut 0 pc ls st c s n sh I L P = W pc ls st c s n sh I L P := id rfl
theorem run_n (C : TC) (y d : Nat) (Q : TQ) (W : TK) (cut k pc : Nat) (ls : List (Option Value)) (st : List Value) (c s n : Nat) (sh : TS) (I : TI) (L : TL) (P : TP) (h : ¬ pc = cut) : run C y d Q W cut (k + 1) pc ls st c s n sh I L P = lift C d (run C y d Q W cut k) W Q (cod y pc) ls st c s n sh I L P := if_neg h
theorem run_c (C : TC) (y d : Nat) (Q : TQ) (W : TK) (cut k : Nat) (ls : List (Option Value)) (st : List Value) (c s n : Nat) (sh : TS) (I : TI) (L : TL) (P : TP) : run C y d Q W cut (k + 1) cut ls st c s n sh I L P = W cut ls st c s n sh I L P := if_pos rfl
theorem swi_n (x : Int32) (d : Nat) (k : Nat → Prop) : swi x [] d k = k d := id rfl
theorem swi_c (x v : Int32) (t d : Nat) (r : List (Int32 × Nat)) (k : Nat → Prop) : swi x ((v, t) :: r) d k = ((x = v → k t) ∧ (¬ x = v → swi x r d k)) := id rfl
theorem bft (b : Bool) : (b = false ∨ b = true) = True := eq_true (by cases b; exact Or.inl rfl; exact Or.inr rfl)
theorem m1i : (-nI 1 : Int32).toInt = -1 := by decide
theorem m1_ne (k : Nat) (h : k < 2 ^ 31) : (nI k = -nI 1) = False := eq_false fun e => by
  have := congrArg Int32.toInt e
  rw [nI_toInt h, m1i] at this; omega
theorem m1_ne2 (k : Nat) (h : k < 2 ^ 31) : (-nI 1 = nI k) = False := eq_false fun e => by
  have := congrArg Int32.toInt e
  rw [nI_toInt h, m1i] at this; omega
theorem m1_lt (k : Nat) (h : k < 2 ^ 31) : (-nI 1 < nI k) = True := eq_true (by rw [Int32.lt_iff_toInt_lt, nI_toInt h, m1i]; omega)
theorem m1_le (k : Nat) (h : k < 2 ^ 31) : (nI k ≤ -nI 1) = False := eq_false (by rw [Int32.le_iff_toInt_le, nI_toInt h, m1i]; omega)
theorem lt_m1 (k : Nat) (h : k < 2 ^ 31) : (nI k < -nI 1) = False := eq_false (by rw [Int32.lt_iff_toInt_lt, nI_toInt h, m1i]; omega)
theorem m1_le2 (k : Nat) (h : k < 2 ^ 31) : (-nI 1 ≤ nI k) = True := eq_true (by rw [Int32.le_iff_toInt_le, nI_toInt h, m1i]; omega)
