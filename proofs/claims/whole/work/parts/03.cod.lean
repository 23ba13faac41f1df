/-! An instruction of the class file as one of the number machine's, its links resolved -/
abbrev AI : Type := Nat × Nat × Nat × List (Int32 × Nat) × (Value ⊕ Jvm.ClassFile.Instr)
/-- the links of a class, by program -/
def lk3 (l : List (Nat × Nat × Nat)) (own idx : Nat) : Option Nat := (l.find? (fun e => e.1 == own && e.2.1 == idx)).map (fun e => e.2.2)
def lkF (own idx : Nat) : Option (Nat × Nat) := (gkLF.find? (fun e => e.1 == own && e.2.1 == idx)).map (fun e => e.2.2)
def lkI (own idx : Nat) : Option Int32 := (gkLI.find? (fun e => e.1 == own && e.2.1 == idx)).map (fun e => e.2.2)
def lkL (own idx : Nat) : Option Int64 := (gkLL.find? (fun e => e.1 == own && e.2.1 == idx)).map (fun e => e.2.2)
def lkT (own idx : Nat) : Option Nat := (gkLT.find? (fun e => e.1 == own && e.2.1 == idx)).map (fun e => e.2.2.2)
def tgt (pc : Nat) (off : Int) : Nat := ((pc : Int) + off).toNat
def stV (i : Nat) : Value := match i with | 0 => .ref 2 | 1 => .int 1 | _ => .ref 1
def fKd (t : FieldType) : Nat := match t with | .int => 0 | .boolean => 2 | .long => 9 | .char => 9 | .byte => 9 | .short => 9 | .float => 9 | .double => 9 | _ => 1
def rKd (t : Option FieldType) : Nat := match t with | some .boolean => 1 | some .byte => 2 | some .char => 3 | _ => 0
def rIn (t : Option FieldType) : Bool := match t with | some .int => true | some .boolean => true | some .byte => true | some .char => true | _ => false
def rRf (t : Option FieldType) : Bool := match t with | some (.object _) => true | some (.array _) => true | _ => false
def aTg (t : ArrayType) : Option Nat := match t with | .int => some 100 | .long => some 101 | .char => some 102 | _ => none
/-- an instruction of the class file, its links resolved -/
def trI (own : Nat) (rt : Option FieldType) (ml ki : Nat) (pc : Nat) (i : Jvm.ClassFile.Instr) (len : Nat) : Option AI :=
  let z (a : Nat) (op : Jvm.ClassFile.Instr) : Option AI := some (pc + len, a, 0, [], .inr op)
  let k (v : Value) : Option AI := some (pc + len, 0, 0, [], .inl v)
  match i with
  | .iconst v => if len = 1 then k (.int (Int32.ofInt v)) else none
  | .bipush v => if len = 2 then k (.int (Int8.ofInt v).toInt32) else none
  | .sipush v => if len = 3 then k (.int (Int16.ofInt v).toInt32) else none
  | .lconst v => if len = 1 then k (.long (Int64.ofNat v.val)) else none
  | .aconst_null => if len = 1 then k (.ref 0) else none
  | .ldc idx => if len = 2 then (match lkI own idx with | some v => k (.int v) | none => match lkT own idx with | some t => k (.ref (4 + t)) | none => none) else none
  | .ldc_w idx => if len = 3 then (match lkI own idx with | some v => k (.int v) | none => none) else none
  | .ldc2_w idx => if len = 3 then (match lkL own idx with | some v => k (.long v) | none => none) else none
  | .getstatic idx => if len = 3 then (match lk3 gkLS own idx with | some t => k (stV t) | none => none) else none
  | .iload_n v => if len = 1 then z v.val (.iload 0) else none
  | .iload v => if len = 2 then z v (.iload 0) else none
  | .lload_n v => if len = 1 then z v.val (.lload 0) else none
  | .lload v => if len = 2 then z v (.lload 0) else none
  | .aload_n v => if len = 1 then z v.val (.aload 0) else none
  | .aload v => if len = 2 then z v (.aload 0) else none
  | .istore_n v => if len = 1 ∧ v.val < ml then z v.val (.istore 0) else none
  | .istore v => if len = 2 ∧ v < ml then z v (.istore 0) else none
  | .lstore_n v => if len = 1 ∧ v.val + 1 < ml then z v.val (.lstore 0) else none
  | .lstore v => if len = 2 ∧ v + 1 < ml then z v (.lstore 0) else none
  | .astore_n v => if len = 1 ∧ v.val < ml then z v.val (.astore 0) else none
  | .astore v => if len = 2 ∧ v < ml then z v (.astore 0) else none
  | .iinc v m => if len = 3 ∧ v < ml then some (pc + len, v, 0, [(Int32.ofInt m, 0)], .inr (.iinc 0 0)) else none
  | .iadd => if len = 1 then z 0 .iadd else none
  | .isub => if len = 1 then z 0 .isub else none
  | .imul => if len = 1 then z 0 .imul else none
  | .idiv => if len = 1 then z 0 .idiv else none
  | .irem => if len = 1 then z 0 .irem else none
  | .iand => if len = 1 then z 0 .iand else none
  | .ior => if len = 1 then z 0 .ior else none
  | .ixor => if len = 1 then z 0 .ixor else none
  | .ishl => if len = 1 then z 0 .ishl else none
  | .ishr => if len = 1 then z 0 .ishr else none
  | .iushr => if len = 1 then z 0 .iushr else none
  | .ineg => if len = 1 then z 0 .ineg else none
  | .i2l => if len = 1 then z 0 .i2l else none
  | .i2b => if len = 1 then z 0 .i2b else none
  | .i2s => if len = 1 then z 0 .i2s else none
  | .i2c => if len = 1 then z 0 .i2c else none
  | .l2i => if len = 1 then z 0 .l2i else none
  | .ladd => if len = 1 then z 0 .ladd else none
  | .land => if len = 1 then z 0 .land else none
  | .lor => if len = 1 then z 0 .lor else none
  | .ldiv => if len = 1 then z 0 .ldiv else none
  | .lrem => if len = 1 then z 0 .lrem else none
  | .lshl => if len = 1 then z 0 .lshl else none
  | .lcmp => if len = 1 then z 0 .lcmp else none
  | .dup => if len = 1 then z 0 .dup else none
  | .dup2 => if len = 1 then z 0 .dup2 else none
  | .pop => if len = 1 then z 0 .pop else none
  | .ifCond o off => if len = 3 ∧ 0 ≤ (pc : Int) + off then z (tgt pc off) (.ifCond o 0) else none
  | .if_icmp o off => if len = 3 ∧ 0 ≤ (pc : Int) + off then z (tgt pc off) (.if_icmp o 0) else none
  | .ifnull off => if len = 3 ∧ 0 ≤ (pc : Int) + off then z (tgt pc off) (.ifnull 0) else none
  | .ifnonnull off => if len = 3 ∧ 0 ≤ (pc : Int) + off then z (tgt pc off) (.ifnonnull 0) else none
  | .goto off => if len = 3 ∧ 0 ≤ (pc : Int) + off then z (tgt pc off) (.goto 0) else none
  | .tableswitch df lo hi offs => if 0 ≤ (pc : Int) + df ∧ offs.toList.all (fun o => decide (0 ≤ (pc : Int) + o)) = true ∧ -2147483648 ≤ lo ∧ hi < 2147483648 ∧ hi = lo + (offs.size : Int) - 1 then
      some (pc + len, tgt pc df, 0, (List.range offs.size).map (fun (j : Nat) => (Int32.ofInt (lo + (j : Int)), tgt pc (offs.getD j 0))), .inr (.lookupswitch 0 #[])) else none
  | .lookupswitch df ps => if 0 ≤ (pc : Int) + df ∧ ps.toList.all (fun o => decide (0 ≤ (pc : Int) + o.2) && decide (-2147483648 ≤ o.1) && decide (o.1 < 2147483648)) = true ∧ (ps.toList.zip (ps.toList.drop 1)).all (fun (a, next) => a.1 < next.1) = true then
      some (pc + len, tgt pc df, 0, ps.toList.map (fun o => (Int32.ofInt o.1, tgt pc o.2)), .inr (.lookupswitch 0 #[])) else none
  | .getfield idx => if len = 3 then (match lkF own idx with
      | some (ci, f) => (match fKd (fY ci f) with | 0 => some (pc + len, ci, f, [], .inr (.getfield 0)) | 2 => some (pc + len, ci, f, [], .inr (.getfield 0)) | 1 => some (pc + len, ci, f, [], .inr .d2l) | _ => none)
      | none => match lk3 gkLU own idx with | some 0 => some (pc + len, 11, 0, [], .inr .d2l) | some 1 => some (pc + len, 11, 1, [], .inr (.getfield 0)) | _ => none) else none
  | .putfield idx => if len = 3 then (match lkF own idx with
      | some (ci, f) => if (fT ci f).2.2.2 = false ∨ (ki = 2 ∧ ci = own) then (match fKd (fY ci f) with | 0 => some (pc + len, ci, f, [], .inr (.putfield 0)) | 2 => some (pc + len, ci, f, [], .inr .d2i) | 1 => some (pc + len, ci, f, [], .inr .d2f) | _ => none) else none
      | none => none) else none
  | .iaload => if len = 1 then z 0 .iaload else none
  | .laload => if len = 1 then z 0 .laload else none
  | .caload => if len = 1 then z 0 .caload else none
  | .baload => if len = 1 then z 0 .baload else none
  | .aaload => if len = 1 then z 0 .aaload else none
  | .iastore => if len = 1 then z 0 .iastore else none
  | .lastore => if len = 1 then z 0 .lastore else none
  | .castore => if len = 1 then z 0 .castore else none
  | .aastore => if len = 1 then z 0 .aastore else none
  | .arraylength => if len = 1 then z 0 .arraylength else none
  | .newarray t => if len = 2 then (match aTg t with | some g => z g (.anewarray 0) | none => none) else none
  | .anewarray idx => if len = 3 then (match lk3 gkLC own idx with | some 3 => z 104 (.anewarray 0) | some 6 => z 105 (.anewarray 0) | _ => none) else none
  | .new idx => if len = 3 then (match lk3 gkLC own idx with | some ci => some (pc + len, ci, fN ci, [], .inr (.new 0)) | none => none) else none
  | .invokevirtual idx => if len = 3 then (match lk3 gkLM own idx with
      | some y => if y < lawY ∧ mKi y = 0 then some (pc + len, y, mAr y, [(0, mMc y), (0, mMs y)], .inr (.invokevirtual (mCi y))) else none
      | none => none) else none
  | .invokestatic idx => if len = 3 then (match lk3 gkLM own idx with
      | some y => if y < lawY ∧ mKi y = 1 then some (pc + len, y, mAr y, [(0, mMc y), (0, mMs y)], .inr (.invokestatic 0)) else if y = 1001 then z 0 .dadd else if y = 1002 then z 0 .fadd else if y = 1003 then z 0 .fsub else none
      | none => match lk3 gkLN own idx with | some y => if y < lawY ∧ mKi y = 1 then some (pc + len, y, mAr y, [(0, mMc y), (0, mMs y)], .inr (.invokestatic 0)) else none | none => none) else none
  | .invokespecial idx => if len = 3 then (match lk3 gkLM own idx with
      | some y => if y < lawY ∧ mKi y = 2 then some (pc + len, y, mAr y, [(0, mMc y), (0, mMs y)], .inr (.invokespecial 0)) else if y = 1000 then z 0 .dsub else none
      | none => match lk3 gkLN own idx with | some y => if y < lawY ∧ mKi y = 2 then some (pc + len, y, mAr y, [(0, mMc y), (0, mMs y)], .inr (.invokespecial 0)) else none | none => none) else none
  | .ireturn => if len = 1 ∧ rIn rt = true then some (pc + len, 0, rKd rt, [], .inr .ireturn) else none
  | .lreturn => if len = 1 ∧ rt = some .long then z 0 .lreturn else none
  | .areturn => if len = 1 ∧ rRf rt = true then z 0 .areturn else none
  | .return_ => if len = 1 ∧ rt = none then z 0 .return_ else none
  | _ => none
def cod (y pc : Nat) : Option AI := match decode (mBy y) pc with
  | .ok (i, len) => trI (mCi y) (mRt y) (mML y) (mKi y) pc i len
  | _ => none
