/-! A machine of numbers: the heap by three tables (ints, longs, references) and its shapes; an instruction as a transformer of what is to be shown. Numbers of cells: 0 null, 1 a static that is never looked into, 2 the kinds' row, 3 the script, 4 .. 8 the String constants, 9 .. 13 their bytes; from 20 on what is made, in its order. -/
abbrev TS : Type := Nat → Nat × Nat
abbrev TI : Type := Nat → Nat → Int32
abbrev TL : Type := Nat → Nat → Int64
abbrev TP : Type := Nat → Nat → Nat
abbrev TQ : Type := Option Value → Nat → TS → TI → TL → TP → Prop
abbrev TK : Type := Nat → List (Option Value) → List Value → Nat → Nat → Nat → TS → TI → TL → TP → Prop
abbrev TC : Type := Nat → List Value → Nat → TS → TI → TL → TP → TQ → Prop
def up2 {α : Type} (f : Nat → Nat → α) (q k : Nat) (v : α) : Nat → Nat → α := fun a b => if a = q ∧ b = k then v else f a b
def upS (f : TS) (q : Nat) (v : Nat × Nat) : TS := fun a => if a = q then v else f a
def clr {α : Type} (f : Nat → Nat → α) (q : Nat) (z : α) : Nat → Nat → α := fun a b => if a = q then z else f a b
def cpy2 {α : Type} (f : Nat → Nat → α) (sq sp dq dp n : Nat) : Nat → Nat → α := fun a b => if a = dq ∧ dp ≤ b ∧ b < dp + n then f sq (sp + (b - dp)) else f a b
/-- the locals -/
def gl : List (Option Value) → Nat → Option Value
  | [], _ => none
  | o :: _, 0 => o
  | _ :: r, k + 1 => gl r k
def fx : Nat → Option Value → Option Value
  | 0, some (.long _) => none
  | 0, some (.double _) => none
  | _, o => o
def s1 : List (Option Value) → Nat → Value → List (Option Value)
  | [], _, _ => []
  | _ :: r, 0, v => some v :: r
  | o :: r, k + 1, v => fx k o :: s1 r k v
def s2 : List (Option Value) → Nat → Value → List (Option Value)
  | [], _, _ => []
  | _ :: [], 0, _ => [none]
  | _ :: _ :: r, 0, v => some v :: none :: r
  | o :: r, k + 1, v => fx k o :: s2 r k v
def ini : List Value → List (Option Value)
  | [] => []
  | .long x :: r => some (.long x) :: none :: ini r
  | v :: r => some v :: ini r
def padTo (n : Nat) (l : List (Option Value)) : List (Option Value) := l ++ List.replicate (n - l.length) none
def popN : Nat → List Value → List Value → Option (List Value × List Value)
  | 0, acc, st => some (acc, st)
  | _ + 1, _, [] => none
  | k + 1, acc, v :: st => popN k (v :: acc) st
def rpush : Option Value → List Value → List Value
  | none, st => st
  | some v, st => v :: st
def nle (a b : Nat) : Prop := a ≤ b
def neq (a b : Nat) : Prop := a = b
def bin (f : Int32 → Int32 → Int32) (st : List Value) (k : List Value → Prop) : Prop := match st with
  | .int y :: .int x :: r => k (.int (f x y) :: r)
  | _ => False
def bil (f : Int64 → Int64 → Int64) (st : List Value) (k : List Value → Prop) : Prop := match st with
  | .long y :: .long x :: r => k (.long (f x y) :: r)
  | _ => False
def una (f : Int32 → Value) (st : List Value) (k : List Value → Prop) : Prop := match st with
  | .int x :: r => k (f x :: r)
  | _ => False
def cnd (o : Jvm.ClassFile.Cond) (x y : Int32) (A B : Prop) : Prop := match o with
  | .eq => (x = y → A) ∧ (¬ x = y → B)
  | .ne => (x = y → B) ∧ (¬ x = y → A)
  | .lt => (x < y → A) ∧ (¬ x < y → B)
  | .ge => (y ≤ x → A) ∧ (¬ y ≤ x → B)
  | .gt => (y < x → A) ∧ (¬ y < x → B)
  | .le => (x ≤ y → A) ∧ (¬ x ≤ y → B)
def swi (x : Int32) (l : List (Int32 × Nat)) (d : Nat) (k : Nat → Prop) : Prop := match l with
  | [] => k d
  | (v, t) :: r => (x = v → k t) ∧ (¬ x = v → swi x r d k)
def nck (b : Nat) (x : Int32) : Prop := match b with
  | 0 => True
  | 1 => x = 0 ∨ x = 1
  | 2 => narrow .byte (.int x) = .int x
  | _ => narrow .char (.int x) = .int x
/-- one instruction -/
def stp (C : TC) (d : Nat) (K W : TK) (Q : TQ) (i : AI) (ls : List (Option Value)) (st : List Value) (c s n : Nat) (sh : TS) (I : TI) (L : TL) (P : TP) : Prop :=
  match i with
  | (nx, a, b, sw, op) => match op with
    | .inl v => K nx ls (v :: st) c s n sh I L P
    | .inr op => match op with
      | .iload _ => (match gl ls a with | some (.int x) => K nx ls (.int x :: st) c s n sh I L P | _ => False)
      | .lload _ => (match gl ls a with | some (.long x) => K nx ls (.long x :: st) c s n sh I L P | _ => False)
      | .aload _ => (match gl ls a with | some (.ref x) => K nx ls (.ref x :: st) c s n sh I L P | _ => False)
      | .istore _ => (match st with | .int x :: r => K nx (s1 ls a (.int x)) r c s n sh I L P | _ => False)
      | .lstore _ => (match st with | .long x :: r => K nx (s2 ls a (.long x)) r c s n sh I L P | _ => False)
      | .astore _ => (match st with | .ref x :: r => K nx (s1 ls a (.ref x)) r c s n sh I L P | _ => False)
      | .iinc _ _ => (match gl ls a, sw with | some (.int x), [(k, _)] => K nx (s1 ls a (.int (x + k))) st c s n sh I L P | _, _ => False)
      | .iadd => bin (fun x y => x + y) st (fun st => K nx ls st c s n sh I L P)
      | .isub => bin (fun x y => x - y) st (fun st => K nx ls st c s n sh I L P)
      | .imul => bin (fun x y => x * y) st (fun st => K nx ls st c s n sh I L P)
      | .idiv => (match st with | .int y :: .int x :: r => ¬ y = 0 ∧ K nx ls (.int (x / y) :: r) c s n sh I L P | _ => False)
      | .irem => (match st with | .int y :: .int x :: r => ¬ y = 0 ∧ K nx ls (.int (x - x / y * y) :: r) c s n sh I L P | _ => False)
      | .iand => bin (fun x y => x &&& y) st (fun st => K nx ls st c s n sh I L P)
      | .ior => bin (fun x y => x ||| y) st (fun st => K nx ls st c s n sh I L P)
      | .ixor => bin (fun x y => x ^^^ y) st (fun st => K nx ls st c s n sh I L P)
      | .ishl => bin (fun x y => x <<< (y &&& 31)) st (fun st => K nx ls st c s n sh I L P)
      | .ishr => bin (fun x y => x >>> (y &&& 31)) st (fun st => K nx ls st c s n sh I L P)
      | .iushr => bin (fun x y => (x.toUInt32 >>> (y.toUInt32 &&& Int32.toUInt32 31)).toInt32) st (fun st => K nx ls st c s n sh I L P)
      | .ineg => una (fun x => .int (-x)) st (fun st => K nx ls st c s n sh I L P)
      | .i2l => una (fun x => .long x.toInt64) st (fun st => K nx ls st c s n sh I L P)
      | .i2b => una (fun x => .int x.toInt8.toInt32) st (fun st => K nx ls st c s n sh I L P)
      | .i2s => una (fun x => .int x.toInt16.toInt32) st (fun st => K nx ls st c s n sh I L P)
      | .i2c => una (fun x => .int (x.toUInt32 % 65536).toInt32) st (fun st => K nx ls st c s n sh I L P)
      | .l2i => (match st with | .long x :: r => K nx ls (.int x.toInt32 :: r) c s n sh I L P | _ => False)
      | .ladd => bil (fun x y => x + y) st (fun st => K nx ls st c s n sh I L P)
      | .land => bil (fun x y => x &&& y) st (fun st => K nx ls st c s n sh I L P)
      | .lor => bil (fun x y => x ||| y) st (fun st => K nx ls st c s n sh I L P)
      | .ldiv => (match st with | .long y :: .long x :: r => ¬ y = 0 ∧ K nx ls (.long (x / y) :: r) c s n sh I L P | _ => False)
      | .lrem => (match st with | .long y :: .long x :: r => ¬ y = 0 ∧ K nx ls (.long (x - x / y * y) :: r) c s n sh I L P | _ => False)
      | .lshl => (match st with | .int y :: .long x :: r => K nx ls (.long (x <<< (y.toInt64 &&& 63)) :: r) c s n sh I L P | _ => False)
      | .lcmp => (match st with | .long y :: .long x :: r => K nx ls (.int (lg_cmp x y) :: r) c s n sh I L P | _ => False)
      | .dup => (match st with
        | .int x :: r => K nx ls (.int x :: .int x :: r) c s n sh I L P
        | .ref x :: r => K nx ls (.ref x :: .ref x :: r) c s n sh I L P
        | _ => False)
      | .dup2 => (match st with | .int x :: .ref y :: r => K nx ls (.int x :: .ref y :: .int x :: .ref y :: r) c s n sh I L P | _ => False)
      | .pop => (match st with
        | .int _ :: r => K nx ls r c s n sh I L P
        | .ref _ :: r => K nx ls r c s n sh I L P
        | _ => False)
      | .ifCond o _ => (match st with | .int x :: r => cnd o x 0 (K a ls r c s n sh I L P) (K nx ls r c s n sh I L P) | _ => False)
      | .if_icmp o _ => (match st with | .int y :: .int x :: r => cnd o x y (K a ls r c s n sh I L P) (K nx ls r c s n sh I L P) | _ => False)
      | .ifnull _ => (match st with | .ref x :: r => ¬ neq x 1 ∧ (neq x 0 → K a ls r c s n sh I L P) ∧ (¬ neq x 0 → K nx ls r c s n sh I L P) | _ => False)
      | .ifnonnull _ => (match st with | .ref x :: r => ¬ neq x 1 ∧ (neq x 0 → K nx ls r c s n sh I L P) ∧ (¬ neq x 0 → K a ls r c s n sh I L P) | _ => False)
      | .goto _ => K a ls st c s n sh I L P
      | .lookupswitch _ _ => (match st with | .int x :: r => swi x sw a (fun t => K t ls r c s n sh I L P) | _ => False)
      | .getfield _ => (match st with | .ref q :: r => (sh q).1 = a ∧ K nx ls (.int (I q b) :: r) c s n sh I L P | _ => False)
      | .d2l => (match st with | .ref q :: r => (sh q).1 = a ∧ K nx ls (.ref (P q b) :: r) c s n sh I L P | _ => False)
      | .putfield _ => (match st with | .int x :: .ref q :: r => (sh q).1 = a ∧ K nx ls r c s n sh (up2 I q b x) L P | _ => False)
      | .d2f => (match st with | .ref x :: .ref q :: r => (sh q).1 = a ∧ ¬ neq x 1 ∧ K nx ls r c s n sh I L (up2 P q b x) | _ => False)
      | .d2i => (match st with | .int x :: .ref q :: r => (sh q).1 = a ∧ (x = 0 ∨ x = 1) ∧ K nx ls r c s n sh (up2 I q b x) L P | _ => False)
      | .iaload => (match st with | .int j :: .ref q :: r => (sh q).1 = 100 ∧ vp_in j (sh q).2 ∧ K nx ls (.int (I q j.toNatClampNeg) :: r) c s n sh I L P | _ => False)
      | .laload => (match st with | .int j :: .ref q :: r => (sh q).1 = 101 ∧ vp_in j (sh q).2 ∧ K nx ls (.long (L q j.toNatClampNeg) :: r) c s n sh I L P | _ => False)
      | .caload => (match st with | .int j :: .ref q :: r => (sh q).1 = 102 ∧ vp_in j (sh q).2 ∧ K nx ls (.int (I q j.toNatClampNeg) :: r) c s n sh I L P | _ => False)
      | .baload => (match st with | .int j :: .ref q :: r => (sh q).1 = 103 ∧ vp_in j (sh q).2 ∧ K nx ls (.int (I q j.toNatClampNeg) :: r) c s n sh I L P | _ => False)
      | .aaload => (match st with | .int j :: .ref q :: r => ((sh q).1 = 104 ∨ (sh q).1 = 105) ∧ vp_in j (sh q).2 ∧ K nx ls (.ref (P q j.toNatClampNeg) :: r) c s n sh I L P | _ => False)
      | .iastore => (match st with | .int x :: .int j :: .ref q :: r => nle 20 q ∧ (sh q).1 = 100 ∧ vp_in j (sh q).2 ∧ K nx ls r c s n sh (up2 I q j.toNatClampNeg x) L P | _ => False)
      | .lastore => (match st with | .long x :: .int j :: .ref q :: r => nle 20 q ∧ (sh q).1 = 101 ∧ vp_in j (sh q).2 ∧ K nx ls r c s n sh I (up2 L q j.toNatClampNeg x) P | _ => False)
      | .castore => (match st with | .int x :: .int j :: .ref q :: r => nle 20 q ∧ (sh q).1 = 102 ∧ vp_in j (sh q).2 ∧ narrow .char (.int x) = .int x ∧ K nx ls r c s n sh (up2 I q j.toNatClampNeg x) L P | _ => False)
      | .aastore => (match st with | .ref x :: .int j :: .ref q :: r => nle 20 q ∧ (((sh q).1 = 104 ∧ (sh x).1 = 3) ∨ ((sh q).1 = 105 ∧ (sh x).1 = 6)) ∧ vp_in j (sh q).2 ∧ K nx ls r c s n sh I L (up2 P q j.toNatClampNeg x) | _ => False)
      | .arraylength => (match st with | .ref q :: r => 100 ≤ (sh q).1 ∧ (sh q).1 ≤ 105 ∧ K nx ls (.int (nI (sh q).2) :: r) c s n sh I L P | _ => False)
      | .anewarray _ => (match st with | .int j :: r => ¬ j < 0 ∧ j.toNatClampNeg ≤ 1000 ∧ 1 ≤ c ∧ j.toNatClampNeg ≤ s ∧ K nx ls (.ref n :: r) (c - 1) (s - j.toNatClampNeg) (n + 1) (upS sh n (a, j.toNatClampNeg)) (clr I n 0) (clr L n 0) (clr P n 0) | _ => False)
      | .new _ => 1 ≤ c ∧ b ≤ s ∧ K nx ls (.ref n :: st) (c - 1) (s - b) (n + 1) (upS sh n (a, b)) (clr I n 0) (clr L n 0) (clr P n 0)
      | .invokevirtual ci => (match sw with
        | [(_, mc), (_, ms)] => (match popN b [] st with
          | some (.ref q :: as, r) => 0 < d ∧ r.length ≤ 4 ∧ (sh q).1 = ci ∧ mc ≤ c ∧ ms ≤ s ∧ C a (.ref q :: as) n sh I L P (fun v n' sh' I' L' P' => W nx ls (rpush v r) (c - mc) (s - ms) n' sh' I' L' P')
          | _ => False)
        | _ => False)
      | .invokestatic _ => (match sw with
        | [(_, mc), (_, ms)] => (match popN b [] st with
          | some (as, r) => 0 < d ∧ r.length ≤ 4 ∧ mc ≤ c ∧ ms ≤ s ∧ C a as n sh I L P (fun v n' sh' I' L' P' => W nx ls (rpush v r) (c - mc) (s - ms) n' sh' I' L' P')
          | _ => False)
        | _ => False)
      | .dadd => (match st with
        | .int z :: .int dp :: .ref dq :: .int sp :: .ref sq :: r => 0 < d ∧ r.length ≤ 4 ∧ nle 20 dq ∧ nle 20 sq ∧ ¬ sp < 0 ∧ ¬ dp < 0 ∧ ¬ z < 0 ∧ sp.toNatClampNeg + z.toNatClampNeg ≤ (sh sq).2 ∧ dp.toNatClampNeg + z.toNatClampNeg ≤ (sh dq).2 ∧
          (((sh sq).1 = 100 ∧ (sh dq).1 = 100) ∨ ((sh sq).1 = 101 ∧ (sh dq).1 = 101)) ∧
          K nx ls r c s n sh (cpy2 I sq sp.toNatClampNeg dq dp.toNatClampNeg z.toNatClampNeg) (cpy2 L sq sp.toNatClampNeg dq dp.toNatClampNeg z.toNatClampNeg) P
        | _ => False)
      | .fadd => (match st with
        | .int y :: .int x :: r => 0 < d ∧ r.length ≤ 4 ∧ K nx ls (.int (if x < y then y else x) :: r) c s n sh I L P
        | _ => False)
      | .fsub => (match st with
        | .int y :: .int x :: r => 0 < d ∧ r.length ≤ 4 ∧ K nx ls (.int (if y < x then y else x) :: r) c s n sh I L P
        | _ => False)
      | .invokespecial _ => (match sw with
        | [(_, mc), (_, ms)] => (match popN b [] st with
          | some (.ref q :: as, r) => 0 < d ∧ r.length ≤ 4 ∧ mc ≤ c ∧ ms ≤ s ∧ nle 2 q ∧ C a (.ref q :: as) n sh I L P (fun v n' sh' I' L' P' => W nx ls (rpush v r) (c - mc) (s - ms) n' sh' I' L' P')
          | _ => False)
        | _ => False)
      | .dsub => (match st with | .ref q :: r => 0 < d ∧ r.length ≤ 4 ∧ nle 2 q ∧ K nx ls r c s n sh I L P | _ => False)
      | .ireturn => (match st with | .int x :: [] => nck b x ∧ Q (some (.int x)) n sh I L P | _ => False)
      | .lreturn => (match st with | .long x :: [] => Q (some (.long x)) n sh I L P | _ => False)
      | .areturn => (match st with | .ref x :: [] => ¬ neq x 1 ∧ Q (some (.ref x)) n sh I L P | _ => False)
      | .return_ => (match st with | [] => Q none n sh I L P | _ => False)
      | _ => False
def lift (C : TC) (d : Nat) (K W : TK) (Q : TQ) (o : Option AI) (ls : List (Option Value)) (st : List Value) (c s n : Nat) (sh : TS) (I : TI) (L : TL) (P : TP) : Prop := match o with
  | none => False
  | some i => stp C d K W Q i ls st c s n sh I L P
/-- from a place on, until the place cut, or so many instructions -/
def run (C : TC) (y d : Nat) (Q : TQ) (W : TK) (cut : Nat) : Nat → TK
  | 0 => W
  | k + 1 => fun pc ls st c s n sh I L P => if pc = cut then W pc ls st c s n sh I L P else lift C d (run C y d Q W cut k) W Q (cod y pc) ls st c s n sh I L P
