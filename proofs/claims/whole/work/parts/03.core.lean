/-! A machine of numbers: the heap by three tables (ints, longs, references) and its shapes; an instruction as a transformer of what is to be shown. Numbers of cells: 0 null, 1 a static that is never looked into, 2 the kinds' row, 3 the script, 4 .. 8 the String constants, 9 .. 13 their bytes; from 20 on what is made, in its order. -/
abbrev TS : Type := Nat → Nat × Nat
abbrev TI : Type := Nat → Nat → Int32
abbrev TL : Type := Nat → Nat → Int64
abbrev TP : Type := Nat → Nat → Nat
abbrev AI : Type := Nat × Nat × Nat × List (Int32 × Nat) × (Value ⊕ Jvm.ClassFile.Instr)
abbrev TQ : Type := Option Value → Nat → TS → TI → TL → TP → Prop
abbrev TK : Type := Nat → List (Option Value) → List Value → Nat → Nat → Nat → TS → TI → TL → TP → Prop
abbrev TC : Type := Nat → List Value → Nat → TS → TI → TL → TP → TQ → Prop
def up2 {α : Type} (f : Nat → Nat → α) (q k : Nat) (v : α) : Nat → Nat → α := fun a b => if a = q ∧ b = k then v else f a b
def upS (f : TS) (q : Nat) (v : Nat × Nat) : TS := fun a => if a = q then v else f a
def clr {α : Type} (f : Nat → Nat → α) (q : Nat) (z : α) : Nat → Nat → α := fun a b => if a = q then z else f a b
def cpy2 {α : Type} (f : Nat → Nat → α) (sq sp dq dp n : Nat) : Nat → Nat → α := fun a b => if a = dq ∧ dp ≤ b ∧ b < dp + n then f sq (sp + (b - dp)) else f a b
/-- the locals -/
def gl : List (Option Value) → Nat → Option Value
  | [], _ => none
  | o :: _, 0 => o
  | _ :: r, k + 1 => gl r k
def fx : Nat → Option Value → Option Value
  | 0, some (.long _) => none
  | 0, some (.double _) => none
  | _, o => o
def s1 : List (Option Value) → Nat → Value → List (Option Value)
  | [], _, _ => []
  | _ :: r, 0, v => some v :: r
  | o :: r, k + 1, v => fx k o :: s1 r k v
def s2 : List (Option Value) → Nat → Value → List (Option Value)
  | [], _, _ => []
  | _ :: [], 0, _ => [none]
  | _ :: _ :: r, 0, v => some v :: none :: r
  | o :: r, k + 1, v => fx k o :: s2 r k v
def ini : List Value → List (Option Value)
  | [] => []
  | .long x :: r => some (.long x) :: none :: ini r
  | v :: r => some v :: ini r
def padTo (n : Nat) (l : List (Option Value)) : List (Option Value) := l ++ List.replicate (n - l.length) none
def popN : Nat → List Value → List Value → Option (List Value × List Value)
  | 0, acc, st => some (acc, st)
  | _ + 1, _, [] => none
  | k + 1, acc, v :: st => popN k (v :: acc) st
def rpush : Option Value → List Value → List Value
  | none, st => st
  | some v, st => v :: st
def nle (a b : Nat) : Prop := a ≤ b
def neq (a b : Nat) : Prop := a = b
def bin (f : Int32 → Int32 → Int32) (st : List Value) (k : List Value → Prop) : Prop := match st with
  | .int y :: .int x :: r => k (.int (f x y) :: r)
  | _ => False
def bil (f : Int64 → Int64 → Int64) (st : List Value) (k : List Value → Prop) : Prop := match st with
  | .long y :: .long x :: r => k (.long (f x y) :: r)
  | _ => False
def una (f : Int32 → Value) (st : List Value) (k : List Value → Prop) : Prop := match st with
  | .int x :: r => k (f x :: r)
  | _ => False
def cnd (o : Jvm.ClassFile.Cond) (x y : Int32) (A B : Prop) : Prop := match o with
  | .eq => (x = y → A) ∧ (¬ x = y → B)
  | .ne => (x = y → B) ∧ (¬ x = y → A)
  | .lt => (x < y → A) ∧ (¬ x < y → B)
  | .ge => (y ≤ x → A) ∧ (¬ y ≤ x → B)
  | .gt => (y < x → A) ∧ (¬ y < x → B)
  | .le => (x ≤ y → A) ∧ (¬ x ≤ y → B)
def swi (x : Int32) (l : List (Int32 × Nat)) (d : Nat) (k : Nat → Prop) : Prop := match l with
  | [] => k d
  | (v, t) :: r => (x = v → k t) ∧ (¬ x = v → swi x r d k)
def nck (b : Nat) (x : Int32) : Prop := match b with
  | 0 => True
  | 1 => x = 0 ∨ x = 1
  | 2 => narrow .byte (.int x) = .int x
  | _ => narrow .char (.int x) = .int x
/-- one instruction -/
def stp (C : TC) (d : Nat) (K : TK) (Q : TQ) (i : AI) (ls : List (Option Value)) (st : List Value) (c s n : Nat) (sh : TS) (I : TI) (L : TL) (P : TP) : Prop :=
  match i with
  | (nx, a, b, sw, op) => match op with
    | .inl v => K nx ls (v :: st) c s n sh I L P
    | .inr op => match op with
      | .iload _ => (match gl ls a with | some (.int x) => K nx ls (.int x :: st) c s n sh I L P | _ => False)
      | .lload _ => (match gl ls a with | some (.long x) => K nx ls (.long x :: st) c s n sh I L P | _ => False)
      | .aload _ => (match gl ls a with | some (.ref x) => K nx ls (.ref x :: st) c s n sh I L P | _ => False)
      | .istore _ => (match st with | .int x :: r => K nx (s1 ls a (.int x)) r c s n sh I L P | _ => False)
      | .lstore _ => (match st with | .long x :: r => K nx (s2 ls a (.long x)) r c s n sh I L P | _ => False)
      | .astore _ => (match st with | .ref x :: r => K nx (s1 ls a (.ref x)) r c s n sh I L P | _ => False)
      | .iinc _ _ => (match gl ls a, sw with | some (.int x), [(k, _)] => K nx (s1 ls a (.int (x + k))) st c s n sh I L P | _, _ => False)
      | .iadd => bin (fun x y => x + y) st (fun st => K nx ls st c s n sh I L P)
      | .isub => bin (fun x y => x - y) st (fun st => K nx ls st c s n sh I L P)
      | .imul => bin (fun x y => x * y) st (fun st => K nx ls st c s n sh I L P)
      | .idiv => (match st with | .int y :: .int x :: r => ¬ y = 0 ∧ K nx ls (.int (x / y) :: r) c s n sh I L P | _ => False)
      | .irem => (match st with | .int y :: .int x :: r => ¬ y = 0 ∧ K nx ls (.int (x - x / y * y) :: r) c s n sh I L P | _ => False)
      | .iand => bin (fun x y => x &&& y) st (fun st => K nx ls st c s n sh I L P)
      | .ior => bin (fun x y => x ||| y) st (fun st => K nx ls st c s n sh I L P)
      | .ixor => bin (fun x y => x ^^^ y) st (fun st => K nx ls st c s n sh I L P)
      | .ishl => bin (fun x y => x <<< (y &&& 31)) st (fun st => K nx ls st c s n sh I L P)
      | .ishr => bin (fun x y => x >>> (y &&& 31)) st (fun st => K nx ls st c s n sh I L P)
      | .iushr => bin (fun x y => (x.toUInt32 >>> (y.toUInt32 &&& Int32.toUInt32 31)).toInt32) st (fun st => K nx ls st c s n sh I L P)
      | .ineg => una (fun x => .int (-x)) st (fun st => K nx ls st c s n sh I L P)
      | .i2l => una (fun x => .long x.toInt64) st (fun st => K nx ls st c s n sh I L P)
      | .i2b => una (fun x => .int x.toInt8.toInt32) st (fun st => K nx ls st c s n sh I L P)
      | .i2s => una (fun x => .int x.toInt16.toInt32) st (fun st => K nx ls st c s n sh I L P)
      | .i2c => una (fun x => .int (x.toUInt32 % 65536).toInt32) st (fun st => K nx ls st c s n sh I L P)
      | .l2i => (match st with | .long x :: r => K nx ls (.int x.toInt32 :: r) c s n sh I L P | _ => False)
      | .ladd => bil (fun x y => x + y) st (fun st => K nx ls st c s n sh I L P)
      | .land => bil (fun x y => x &&& y) st (fun st => K nx ls st c s n sh I L P)
      | .lor => bil (fun x y => x ||| y) st (fun st => K nx ls st c s n sh I L P)
      | .ldiv => (match st with | .long y :: .long x :: r => ¬ y = 0 ∧ K nx ls (.long (x / y) :: r) c s n sh I L P | _ => False)
      | .lrem => (match st with | .long y :: .long x :: r => ¬ y = 0 ∧ K nx ls (.long (x - x / y * y) :: r) c s n sh I L P | _ => False)
      | .lshl => (match st with | .int y :: .long x :: r => K nx ls (.long (x <<< (y.toInt64 &&& 63)) :: r) c s n sh I L P | _ => False)
      | .lcmp => (match st with | .long y :: .long x :: r => K nx ls (.int (lg_cmp x y) :: r) c s n sh I L P | _ => False)
      | .dup => (match st with
        | .int x :: r => K nx ls (.int x :: .int x :: r) c s n sh I L P
        | .ref x :: r => K nx ls (.ref x :: .ref x :: r) c s n sh I L P
        | _ => False)
      | .dup2 => (match st with | .int x :: .ref y :: r => K nx ls (.int x :: .ref y :: .int x :: .ref y :: r) c s n sh I L P | _ => False)
      | .pop => (match st with
        | .int _ :: r => K nx ls r c s n sh I L P
        | .ref _ :: r => K nx ls r c s n sh I L P
        | _ => False)
      | .ifCond o _ => (match st with | .int x :: r => cnd o x 0 (K a ls r c s n sh I L P) (K nx ls r c s n sh I L P) | _ => False)
      | .if_icmp o _ => (match st with | .int y :: .int x :: r => cnd o x y (K a ls r c s n sh I L P) (K nx ls r c s n sh I L P) | _ => False)
      | .ifnull _ => (match st with | .ref x :: r => ¬ neq x 1 ∧ (neq x 0 → K a ls r c s n sh I L P) ∧ (¬ neq x 0 → K nx ls r c s n sh I L P) | _ => False)
      | .ifnonnull _ => (match st with | .ref x :: r => ¬ neq x 1 ∧ (neq x 0 → K nx ls r c s n sh I L P) ∧ (¬ neq x 0 → K a ls r c s n sh I L P) | _ => False)
      | .goto _ => K a ls st c s n sh I L P
      | .lookupswitch _ _ => (match st with | .int x :: r => swi x sw a (fun t => K t ls r c s n sh I L P) | _ => False)
      | .getfield _ => (match st with | .ref q :: r => (sh q).1 = a ∧ K nx ls (.int (I q b) :: r) c s n sh I L P | _ => False)
      | .d2l => (match st with | .ref q :: r => (sh q).1 = a ∧ K nx ls (.ref (P q b) :: r) c s n sh I L P | _ => False)
      | .putfield _ => (match st with | .int x :: .ref q :: r => (sh q).1 = a ∧ K nx ls r c s n sh (up2 I q b x) L P | _ => False)
      | .d2f => (match st with | .ref x :: .ref q :: r => (sh q).1 = a ∧ ¬ neq x 1 ∧ K nx ls r c s n sh I L (up2 P q b x) | _ => False)
      | .d2i => (match st with | .int x :: .ref q :: r => (sh q).1 = a ∧ (x = 0 ∨ x = 1) ∧ K nx ls r c s n sh (up2 I q b x) L P | _ => False)
      | .iaload => (match st with | .int j :: .ref q :: r => (sh q).1 = 100 ∧ vp_in j (sh q).2 ∧ K nx ls (.int (I q j.toNatClampNeg) :: r) c s n sh I L P | _ => False)
      | .laload => (match st with | .int j :: .ref q :: r => (sh q).1 = 101 ∧ vp_in j (sh q).2 ∧ K nx ls (.long (L q j.toNatClampNeg) :: r) c s n sh I L P | _ => False)
      | .caload => (match st with | .int j :: .ref q :: r => (sh q).1 = 102 ∧ vp_in j (sh q).2 ∧ K nx ls (.int (I q j.toNatClampNeg) :: r) c s n sh I L P | _ => False)
      | .baload => (match st with | .int j :: .ref q :: r => (sh q).1 = 103 ∧ vp_in j (sh q).2 ∧ K nx ls (.int (I q j.toNatClampNeg) :: r) c s n sh I L P | _ => False)
      | .aaload => (match st with | .int j :: .ref q :: r => ((sh q).1 = 104 ∨ (sh q).1 = 105) ∧ vp_in j (sh q).2 ∧ K nx ls (.ref (P q j.toNatClampNeg) :: r) c s n sh I L P | _ => False)
      | .iastore => (match st with | .int x :: .int j :: .ref q :: r => nle 20 q ∧ (sh q).1 = 100 ∧ vp_in j (sh q).2 ∧ K nx ls r c s n sh (up2 I q j.toNatClampNeg x) L P | _ => False)
      | .lastore => (match st with | .long x :: .int j :: .ref q :: r => nle 20 q ∧ (sh q).1 = 101 ∧ vp_in j (sh q).2 ∧ K nx ls r c s n sh I (up2 L q j.toNatClampNeg x) P | _ => False)
      | .castore => (match st with | .int x :: .int j :: .ref q :: r => nle 20 q ∧ (sh q).1 = 102 ∧ vp_in j (sh q).2 ∧ narrow .char (.int x) = .int x ∧ K nx ls r c s n sh (up2 I q j.toNatClampNeg x) L P | _ => False)
      | .aastore => (match st with | .ref x :: .int j :: .ref q :: r => nle 20 q ∧ (((sh q).1 = 104 ∧ (sh x).1 = 3) ∨ ((sh q).1 = 105 ∧ (sh x).1 = 6)) ∧ vp_in j (sh q).2 ∧ K nx ls r c s n sh I L (up2 P q j.toNatClampNeg x) | _ => False)
      | .arraylength => (match st with | .ref q :: r => 100 ≤ (sh q).1 ∧ (sh q).1 ≤ 105 ∧ K nx ls (.int (nI (sh q).2) :: r) c s n sh I L P | _ => False)
      | .anewarray _ => (match st with | .int j :: r => ¬ j < 0 ∧ j.toNatClampNeg ≤ 1000 ∧ 1 ≤ c ∧ j.toNatClampNeg ≤ s ∧ K nx ls (.ref n :: r) (c - 1) (s - j.toNatClampNeg) (n + 1) (upS sh n (a, j.toNatClampNeg)) (clr I n 0) (clr L n 0) (clr P n 0) | _ => False)
      | .new _ => 1 ≤ c ∧ b ≤ s ∧ K nx ls (.ref n :: st) (c - 1) (s - b) (n + 1) (upS sh n (a, b)) (clr I n 0) (clr L n 0) (clr P n 0)
      | .invokevirtual ci => (match sw with
        | [(_, mc), (_, ms)] => (match popN b [] st with
          | some (.ref q :: as, r) => 0 < d ∧ r.length ≤ 4 ∧ (sh q).1 = ci ∧ mc ≤ c ∧ ms ≤ s ∧ C a (.ref q :: as) n sh I L P (fun v n' sh' I' L' P' => K nx ls (rpush v r) (c - mc) (s - ms) n' sh' I' L' P')
          | _ => False)
        | _ => False)
      | .invokestatic _ => (match sw with
        | [(_, mc), (_, ms)] => (match popN b [] st with
          | some (as, r) => 0 < d ∧ r.length ≤ 4 ∧ mc ≤ c ∧ ms ≤ s ∧ C a as n sh I L P (fun v n' sh' I' L' P' => K nx ls (rpush v r) (c - mc) (s - ms) n' sh' I' L' P')
          | _ => False)
        | _ => False)
      | .dadd => (match st with
        | .int z :: .int dp :: .ref dq :: .int sp :: .ref sq :: r => 0 < d ∧ r.length ≤ 4 ∧ nle 20 dq ∧ nle 20 sq ∧ ¬ sp < 0 ∧ ¬ dp < 0 ∧ ¬ z < 0 ∧ sp.toNatClampNeg + z.toNatClampNeg ≤ (sh sq).2 ∧ dp.toNatClampNeg + z.toNatClampNeg ≤ (sh dq).2 ∧
          (((sh sq).1 = 100 ∧ (sh dq).1 = 100) ∨ ((sh sq).1 = 101 ∧ (sh dq).1 = 101)) ∧
          K nx ls r c s n sh (cpy2 I sq sp.toNatClampNeg dq dp.toNatClampNeg z.toNatClampNeg) (cpy2 L sq sp.toNatClampNeg dq dp.toNatClampNeg z.toNatClampNeg) P
        | _ => False)
      | .fadd => (match st with
        | .int y :: .int x :: r => 0 < d ∧ r.length ≤ 4 ∧ K nx ls (.int (if x < y then y else x) :: r) c s n sh I L P
        | _ => False)
      | .fsub => (match st with
        | .int y :: .int x :: r => 0 < d ∧ r.length ≤ 4 ∧ K nx ls (.int (if y < x then y else x) :: r) c s n sh I L P
        | _ => False)
      | .invokespecial _ => (match sw with
        | [(_, mc), (_, ms)] => (match popN b [] st with
          | some (.ref q :: as, r) => 0 < d ∧ r.length ≤ 4 ∧ mc ≤ c ∧ ms ≤ s ∧ nle 2 q ∧ C a (.ref q :: as) n sh I L P (fun v n' sh' I' L' P' => K nx ls (rpush v r) (c - mc) (s - ms) n' sh' I' L' P')
          | _ => False)
        | _ => False)
      | .dsub => (match st with | .ref q :: r => 0 < d ∧ r.length ≤ 4 ∧ nle 2 q ∧ K nx ls r c s n sh I L P | _ => False)
      | .ireturn => (match st with | .int x :: [] => nck b x ∧ Q (some (.int x)) n sh I L P | _ => False)
      | .lreturn => (match st with | .long x :: [] => Q (some (.long x)) n sh I L P | _ => False)
      | .areturn => (match st with | .ref x :: [] => ¬ neq x 1 ∧ Q (some (.ref x)) n sh I L P | _ => False)
      | .return_ => (match st with | [] => Q none n sh I L P | _ => False)
      | _ => False
/-- the links of a class, by program -/
def lk3 (l : List (Nat × Nat × Nat)) (own idx : Nat) : Option Nat := (l.find? (fun e => e.1 == own && e.2.1 == idx)).map (fun e => e.2.2)
def lkF (own idx : Nat) : Option (Nat × Nat) := (gkLF.find? (fun e => e.1 == own && e.2.1 == idx)).map (fun e => e.2.2)
def lkI (own idx : Nat) : Option Int32 := (gkLI.find? (fun e => e.1 == own && e.2.1 == idx)).map (fun e => e.2.2)
def lkL (own idx : Nat) : Option Int64 := (gkLL.find? (fun e => e.1 == own && e.2.1 == idx)).map (fun e => e.2.2)
def lkT (own idx : Nat) : Option Nat := (gkLT.find? (fun e => e.1 == own && e.2.1 == idx)).map (fun e => e.2.2.2)
def tgt (pc : Nat) (off : Int) : Nat := ((pc : Int) + off).toNat
def stV (i : Nat) : Value := match i with | 0 => .ref 2 | 1 => .int 1 | _ => .ref 1
def fKd (t : FieldType) : Nat := match t with | .int => 0 | .boolean => 2 | .long => 9 | .char => 9 | .byte => 9 | .short => 9 | .float => 9 | .double => 9 | _ => 1
def rKd (t : Option FieldType) : Nat := match t with | some .boolean => 1 | some .byte => 2 | some .char => 3 | _ => 0
def rIn (t : Option FieldType) : Bool := match t with | some .int => true | some .boolean => true | some .byte => true | some .char => true | _ => false
def rRf (t : Option FieldType) : Bool := match t with | some (.object _) => true | some (.array _) => true | _ => false
def aTg (t : ArrayType) : Option Nat := match t with | .int => some 100 | .long => some 101 | .char => some 102 | _ => none
/-- an instruction of the class file, its links resolved -/
def trI (own : Nat) (rt : Option FieldType) (ml ki : Nat) (pc : Nat) (i : Jvm.ClassFile.Instr) (len : Nat) : Option AI :=
  let z (a : Nat) (op : Jvm.ClassFile.Instr) : Option AI := some (pc + len, a, 0, [], .inr op)
  let k (v : Value) : Option AI := some (pc + len, 0, 0, [], .inl v)
  match i with
  | .iconst v => if len = 1 then k (.int (Int32.ofInt v)) else none
  | .bipush v => if len = 2 then k (.int (Int8.ofInt v).toInt32) else none
  | .sipush v => if len = 3 then k (.int (Int16.ofInt v).toInt32) else none
  | .lconst v => if len = 1 then k (.long (Int64.ofNat v.val)) else none
  | .aconst_null => if len = 1 then k (.ref 0) else none
  | .ldc idx => if len = 2 then (match lkI own idx with | some v => k (.int v) | none => match lkT own idx with | some t => k (.ref (4 + t)) | none => none) else none
  | .ldc_w idx => if len = 3 then (match lkI own idx with | some v => k (.int v) | none => none) else none
  | .ldc2_w idx => if len = 3 then (match lkL own idx with | some v => k (.long v) | none => none) else none
  | .getstatic idx => if len = 3 then (match lk3 gkLS own idx with | some t => k (stV t) | none => none) else none
  | .iload_n v => if len = 1 then z v.val (.iload 0) else none
  | .iload v => if len = 2 then z v (.iload 0) else none
  | .lload_n v => if len = 1 then z v.val (.lload 0) else none
  | .lload v => if len = 2 then z v (.lload 0) else none
  | .aload_n v => if len = 1 then z v.val (.aload 0) else none
  | .aload v => if len = 2 then z v (.aload 0) else none
  | .istore_n v => if len = 1 ∧ v.val < ml then z v.val (.istore 0) else none
  | .istore v => if len = 2 ∧ v < ml then z v (.istore 0) else none
  | .lstore_n v => if len = 1 ∧ v.val + 1 < ml then z v.val (.lstore 0) else none
  | .lstore v => if len = 2 ∧ v + 1 < ml then z v (.lstore 0) else none
  | .astore_n v => if len = 1 ∧ v.val < ml then z v.val (.astore 0) else none
  | .astore v => if len = 2 ∧ v < ml then z v (.astore 0) else none
  | .iinc v m => if len = 3 ∧ v < ml then some (pc + len, v, 0, [(Int32.ofInt m, 0)], .inr (.iinc 0 0)) else none
  | .iadd => if len = 1 then z 0 .iadd else none
  | .isub => if len = 1 then z 0 .isub else none
  | .imul => if len = 1 then z 0 .imul else none
  | .idiv => if len = 1 then z 0 .idiv else none
  | .irem => if len = 1 then z 0 .irem else none
  | .iand => if len = 1 then z 0 .iand else none
  | .ior => if len = 1 then z 0 .ior else none
  | .ixor => if len = 1 then z 0 .ixor else none
  | .ishl => if len = 1 then z 0 .ishl else none
  | .ishr => if len = 1 then z 0 .ishr else none
  | .iushr => if len = 1 then z 0 .iushr else none
  | .ineg => if len = 1 then z 0 .ineg else none
  | .i2l => if len = 1 then z 0 .i2l else none
  | .i2b => if len = 1 then z 0 .i2b else none
  | .i2s => if len = 1 then z 0 .i2s else none
  | .i2c => if len = 1 then z 0 .i2c else none
  | .l2i => if len = 1 then z 0 .l2i else none
  | .ladd => if len = 1 then z 0 .ladd else none
  | .land => if len = 1 then z 0 .land else none
  | .lor => if len = 1 then z 0 .lor else none
  | .ldiv => if len = 1 then z 0 .ldiv else none
  | .lrem => if len = 1 then z 0 .lrem else none
  | .lshl => if len = 1 then z 0 .lshl else none
  | .lcmp => if len = 1 then z 0 .lcmp else none
  | .dup => if len = 1 then z 0 .dup else none
  | .dup2 => if len = 1 then z 0 .dup2 else none
  | .pop => if len = 1 then z 0 .pop else none
  | .ifCond o off => if len = 3 ∧ 0 ≤ (pc : Int) + off then z (tgt pc off) (.ifCond o 0) else none
  | .if_icmp o off => if len = 3 ∧ 0 ≤ (pc : Int) + off then z (tgt pc off) (.if_icmp o 0) else none
  | .ifnull off => if len = 3 ∧ 0 ≤ (pc : Int) + off then z (tgt pc off) (.ifnull 0) else none
  | .ifnonnull off => if len = 3 ∧ 0 ≤ (pc : Int) + off then z (tgt pc off) (.ifnonnull 0) else none
  | .goto off => if len = 3 ∧ 0 ≤ (pc : Int) + off then z (tgt pc off) (.goto 0) else none
  | .tableswitch df lo hi offs => if 0 ≤ (pc : Int) + df ∧ offs.toList.all (fun o => decide (0 ≤ (pc : Int) + o)) = true ∧ -2147483648 ≤ lo ∧ hi < 2147483648 ∧ hi = lo + (offs.size : Int) - 1 then
      some (pc + len, tgt pc df, 0, (List.range offs.size).map (fun (j : Nat) => (Int32.ofInt (lo + (j : Int)), tgt pc (offs.getD j 0))), .inr (.lookupswitch 0 #[])) else none
  | .lookupswitch df ps => if 0 ≤ (pc : Int) + df ∧ ps.toList.all (fun o => decide (0 ≤ (pc : Int) + o.2) && decide (-2147483648 ≤ o.1) && decide (o.1 < 2147483648)) = true ∧ (ps.toList.zip (ps.toList.drop 1)).all (fun (a, next) => a.1 < next.1) = true then
      some (pc + len, tgt pc df, 0, ps.toList.map (fun o => (Int32.ofInt o.1, tgt pc o.2)), .inr (.lookupswitch 0 #[])) else none
  | .getfield idx => if len = 3 then (match lkF own idx with
      | some (ci, f) => (match fKd (fY ci f) with | 0 => some (pc + len, ci, f, [], .inr (.getfield 0)) | 2 => some (pc + len, ci, f, [], .inr (.getfield 0)) | 1 => some (pc + len, ci, f, [], .inr .d2l) | _ => none)
      | none => match lk3 gkLU own idx with | some 0 => some (pc + len, 11, 0, [], .inr .d2l) | some 1 => some (pc + len, 11, 1, [], .inr (.getfield 0)) | _ => none) else none
  | .putfield idx => if len = 3 then (match lkF own idx with
      | some (ci, f) => if (fT ci f).2.2.2 = false ∨ (ki = 2 ∧ ci = own) then (match fKd (fY ci f) with | 0 => some (pc + len, ci, f, [], .inr (.putfield 0)) | 2 => some (pc + len, ci, f, [], .inr .d2i) | 1 => some (pc + len, ci, f, [], .inr .d2f) | _ => none) else none
      | none => none) else none
  | .iaload => if len = 1 then z 0 .iaload else none
  | .laload => if len = 1 then z 0 .laload else none
  | .caload => if len = 1 then z 0 .caload else none
  | .baload => if len = 1 then z 0 .baload else none
  | .aaload => if len = 1 then z 0 .aaload else none
  | .iastore => if len = 1 then z 0 .iastore else none
  | .lastore => if len = 1 then z 0 .lastore else none
  | .castore => if len = 1 then z 0 .castore else none
  | .aastore => if len = 1 then z 0 .aastore else none
  | .arraylength => if len = 1 then z 0 .arraylength else none
  | .newarray t => if len = 2 then (match aTg t with | some g => z g (.anewarray 0) | none => none) else none
  | .anewarray idx => if len = 3 then (match lk3 gkLC own idx with | some 3 => z 104 (.anewarray 0) | some 6 => z 105 (.anewarray 0) | _ => none) else none
  | .new idx => if len = 3 then (match lk3 gkLC own idx with | some ci => some (pc + len, ci, fN ci, [], .inr (.new 0)) | none => none) else none
  | .invokevirtual idx => if len = 3 then (match lk3 gkLM own idx with
      | some y => if y < lawY ∧ mKi y = 0 then some (pc + len, y, mAr y, [(0, mMc y), (0, mMs y)], .inr (.invokevirtual (mCi y))) else none
      | none => none) else none
  | .invokestatic idx => if len = 3 then (match lk3 gkLM own idx with
      | some y => if y < lawY ∧ mKi y = 1 then some (pc + len, y, mAr y, [(0, mMc y), (0, mMs y)], .inr (.invokestatic 0)) else if y = 1001 then z 0 .dadd else if y = 1002 then z 0 .fadd else if y = 1003 then z 0 .fsub else none
      | none => match lk3 gkLN own idx with | some y => if y < lawY ∧ mKi y = 1 then some (pc + len, y, mAr y, [(0, mMc y), (0, mMs y)], .inr (.invokestatic 0)) else none | none => none) else none
  | .invokespecial idx => if len = 3 then (match lk3 gkLM own idx with
      | some y => if y < lawY ∧ mKi y = 2 then some (pc + len, y, mAr y, [(0, mMc y), (0, mMs y)], .inr (.invokespecial 0)) else if y = 1000 then z 0 .dsub else none
      | none => match lk3 gkLN own idx with | some y => if y < lawY ∧ mKi y = 2 then some (pc + len, y, mAr y, [(0, mMc y), (0, mMs y)], .inr (.invokespecial 0)) else none | none => none) else none
  | .ireturn => if len = 1 ∧ rIn rt = true then some (pc + len, 0, rKd rt, [], .inr .ireturn) else none
  | .lreturn => if len = 1 ∧ rt = some .long then z 0 .lreturn else none
  | .areturn => if len = 1 ∧ rRf rt = true then z 0 .areturn else none
  | .return_ => if len = 1 ∧ rt = none then z 0 .return_ else none
  | _ => none
def cod (y pc : Nat) : Option AI := match decode (mBy y) pc with
  | .ok (i, len) => trI (mCi y) (mRt y) (mML y) (mKi y) pc i len
  | _ => none
def lift (C : TC) (d : Nat) (K : TK) (Q : TQ) (o : Option AI) (ls : List (Option Value)) (st : List Value) (c s n : Nat) (sh : TS) (I : TI) (L : TL) (P : TP) : Prop := match o with
  | none => False
  | some i => stp C d K Q i ls st c s n sh I L P
/-- from a place on, until the place cut, or so many instructions -/
def run (C : TC) (y d : Nat) (Q : TQ) (W : TK) (cut : Nat) : Nat → TK
  | 0 => W
  | k + 1 => fun pc ls st c s n sh I L P => if pc = cut then W pc ls st c s n sh I L P else lift C d (run C y d Q W cut k) Q (cod y pc) ls st c s n sh I L P
